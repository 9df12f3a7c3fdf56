/-! clauses: the draft -/
def Dr : Type := Int32 × (Nat × Nat × Nat) × ((Nat → Int32) × (Nat → Int32) × (Nat → Int32) × (Nat → Int32)) × ((Nat → List Int32) × (Nat → List Int32))
def mkD (H : Int32) (P R A : Nat) (hm ch hi wk : Nat → Int32) (rs as : Nat → List Int32) : Dr := (H, (P, R, A), (hm, ch, hi, wk), (rs, as))
def Dr.H (d : Dr) : Int32 := d.1
def Dr.P (d : Dr) : Nat := d.2.1.1
def Dr.R (d : Dr) : Nat := d.2.1.2.1
def Dr.A (d : Dr) : Nat := d.2.1.2.2
def Dr.hm (d : Dr) : Nat → Int32 := d.2.2.1.1
def Dr.ch (d : Dr) : Nat → Int32 := d.2.2.1.2.1
def Dr.hi (d : Dr) : Nat → Int32 := d.2.2.1.2.2.1
def Dr.wk (d : Dr) : Nat → Int32 := d.2.2.1.2.2.2
def Dr.rs (d : Dr) : Nat → List Int32 := d.2.2.2.1
def Dr.as (d : Dr) : Nat → List Int32 := d.2.2.2.2
def Dr.sH (d : Dr) (x : Int32) : Dr := mkD x d.P d.R d.A d.hm d.ch d.hi d.wk d.rs d.as
def Dr.sP (d : Dr) (P : Nat) (hm ch hi : Nat → Int32) : Dr := mkD d.H P d.R d.A hm ch hi d.wk d.rs d.as
def Dr.sW (d : Dr) (wk : Nat → Int32) : Dr := mkD d.H d.P d.R d.A d.hm d.ch d.hi wk d.rs d.as
def Dr.sR (d : Dr) (R : Nat) (rs : Nat → List Int32) : Dr := mkD d.H d.P R d.A d.hm d.ch d.hi d.wk rs d.as
def Dr.sA (d : Dr) (A : Nat) (as : Nat → List Int32) : Dr := mkD d.H d.P d.R A d.hm d.ch d.hi d.wk d.rs as
def PC : Type := Sum (Int32 × Nat) (Nat × Dr)
def PC.er (c : Int32) (i : Nat) : PC := Sum.inl (c, i)
def PC.ok (j : Nat) (d : Dr) : PC := Sum.inr (j, d)
def PC.fine : PC → Bool
  | Sum.inl _ => false
  | Sum.inr _ => true
theorem PC.el {motive : PC → Prop} (r : PC) (er : ∀ c i, motive (.er c i)) (ok : ∀ j d, motive (.ok j d)) : motive r := match r with
  | Sum.inl (c, i) => er c i
  | Sum.inr (j, d) => ok j d
theorem PC.of_ok {r : PC} (h : r.fine = true) : ∃ j d, r = .ok j d := by
  induction r using PC.el with
  | er c i => cases h
  | ok j d => exact ⟨j, d, rfl⟩
theorem PC.of_er {r : PC} (h : r.fine = false) : ∃ c i, r = .er c i := by
  induction r using PC.el with
  | er c i => exact ⟨c, i, rfl⟩
  | ok j d => cases h
def upL {α : Type} (f : Nat → α) (k : Nat) (x : α) : Nat → α := fun j => if j = k then x else f j
def pHouses (K N : Nat → Int32) (d : Dr) (i : Nat) : PC :=
  if tnC (K (i + 1)) (N (i + 1)) 1 10 = 0 then .ok (i + 2) (d.sH (N (i + 1))) else .er (tnC (K (i + 1)) (N (i + 1)) 1 10) (i + 1)
def addP (d : Dr) (h c b : Int32) : Dr := d.sP (d.P + 1) (upd d.hm d.P h) (upd d.ch d.P c) (upd d.hi d.P b)
def pHired (K : Nat → Int32) (d : Dr) (h c : Int32) (j : Nat) : PC := if K j = -4 then .ok (j + 1) (addP d h c 1) else .ok j (addP d h c 0)
def pPerson (K N : Nat → Int32) (d : Dr) (i : Nat) : PC :=
  if 16 ≤ d.P then .er 2 i
  else if ¬ thC (K (i + 1)) (N (i + 1)) d.H (-1) = 0 then .er (thC (K (i + 1)) (N (i + 1)) d.H (-1)) (i + 1)
  else if K (i + 2) = 10 then (if tnC (K (i + 3)) (N (i + 3)) 0 1000 = 0 then pHired K d (N (i + 1)) (N (i + 3)) (i + 4) else .er (tnC (K (i + 3)) (N (i + 3)) 0 1000) (i + 3))
  else pHired K d (N (i + 1)) 100 (i + 2)
def pWalk (K N : Nat → Int32) (d : Dr) (i : Nat) : PC :=
  if ¬ thC (K (i + 1)) (N (i + 1)) d.H (-1) = 0 then .er (thC (K (i + 1)) (N (i + 1)) d.H (-1)) (i + 1)
  else if ¬ thC (K (i + 2)) (N (i + 2)) d.H (N (i + 1)) = 0 then .er (thC (K (i + 2)) (N (i + 2)) d.H (N (i + 1))) (i + 2)
  else if ¬ tnC (K (i + 3)) (N (i + 3)) 1 99 = 0 then .er (tnC (K (i + 3)) (N (i + 3)) 1 99) (i + 3)
  else .ok (i + 4) (d.sW (upd (upd d.wk (10 * (N (i + 1)).toNatClampNeg + (N (i + 2)).toNatClampNeg) (N (i + 3))) (10 * (N (i + 2)).toNatClampNeg + (N (i + 1)).toNatClampNeg) (N (i + 3))))
def pRule (K N : Nat → Int32) (d : Dr) (i : Nat) : PC :=
  if 4 ≤ d.R then .er 2 i else match pP K N 35 (i + 1) with
    | Sum.inl (c, q) => .er (nI c) q
    | Sum.inr (j, l) => .ok j (d.sR (d.R + 1) (upL d.rs d.R l))
def pAsk (K N : Nat → Int32) (d : Dr) (i : Nat) : PC :=
  if 6 ≤ d.A then .er 2 i else match pP K N 35 (i + 1) with
    | Sum.inl (c, q) => .er (nI c) q
    | Sum.inr (j, l) => .ok j (d.sA (d.A + 1) (upL d.as d.A l))
def pClause (K N : Nat → Int32) (first : Bool) (d : Dr) (i : Nat) : PC :=
  if K i = 6 then (if first = true then pHouses K N d i else .er 5 i)
  else if K i = -2 then pPerson K N d i
  else if K i = 7 then pWalk K N d i
  else if K i = 8 then pRule K N d i
  else if K i = 9 then pAsk K N d i
  else .er 1 i
/-- all clauses; each ends with ';' -/
def pCity (K N : Nat → Int32) : Nat → Bool → Dr → Nat → PC
  | 0, _, d, i => .ok i d
  | f + 1, first, d, i => if K i = 0 then .ok i d else match pClause K N first d i with
    | Sum.inl (c, q) => .er c q
    | Sum.inr (j, d') => if K j = 3 then pCity K N f false d' (j + 1) else .er 1 j
/-- a piece of the codes, with its end -/
def Seg (LL : List Int32) (b : Nat) (l : List Int32) : Prop := ∃ L1 L2, LL = L1 ++ (l ++ -17 :: L2) ∧ L1.length = b
theorem Seg.app {LL l X : List Int32} {b : Nat} (h : Seg LL b l) : Seg (LL ++ X) b l := by
  obtain ⟨L1, L2, rfl, rfl⟩ := h
  exact ⟨L1, L2 ++ X, by simp only [List.append_assoc, List.cons_append], rfl⟩
theorem Seg.new {L l : List Int32} : Seg (L ++ l ++ [-17]) L.length l := ⟨L, [], by rw [List.append_assoc], rfl⟩
def DrA (d : Dr) (LL : List Int32) (v : ZV) (g : ZG) : Prop := v 20 = d.H ∧ v 21 = nI d.P ∧ v 22 = nI d.R ∧ v 23 = nI d.A ∧ (∀ p, p < d.P → g 25 p = d.hm p ∧ g 26 p = d.ch p ∧ g 27 p = d.hi p) ∧ (∀ k, k < 100 → g 28 k = d.wk k) ∧ (∀ e, e < d.R → ∃ b, g 29 e = nI b ∧ Seg LL b (d.rs e)) ∧ (∀ e, e < d.A → ∃ b, g 30 e = nI b ∧ Seg LL b (d.as e))
theorem DrA.mv {d : Dr} {LL X : List Int32} {v v2 : ZV} {g g2 : ZG} (h : DrA d LL v g) (hv : ∀ k, 20 ≤ k → k ≤ 23 → v2 k = v k) (hg : ∀ k, 25 ≤ k → k ≤ 30 → g2 k = g k) : DrA d (LL ++ X) v2 g2 := by
  obtain ⟨h1, h2, h3, h4, h5, h6, h7, h8⟩ := h
  exact ⟨by rw [hv 20 (by decide) (by decide)]; exact h1, by rw [hv 21 (by decide) (by decide)]; exact h2, by rw [hv 22 (by decide) (by decide)]; exact h3, by rw [hv 23 (by decide) (by decide)]; exact h4,
    by rw [hg 25 (by decide) (by decide), hg 26 (by decide) (by decide), hg 27 (by decide) (by decide)]; exact h5, by rw [hg 28 (by decide) (by decide)]; exact h6,
    fun e he => by rw [hg 29 (by decide) (by decide)]; obtain ⟨b, b1, b2⟩ := h7 e he; exact ⟨b, b1, b2.app⟩, fun e he => by rw [hg 30 (by decide) (by decide)]; obtain ⟨b, b1, b2⟩ := h8 e he; exact ⟨b, b1, b2.app⟩⟩
/-- what a draft keeps to -/
def DrK (d : Dr) : Prop := 1 ≤ d.H ∧ d.H ≤ 10 ∧ d.P ≤ 16 ∧ d.R ≤ 4 ∧ d.A ≤ 6
def FrV2 (v v2 : ZV) : Prop := ∀ k, (k < 2 ∨ (6 < k ∧ k < 20) ∨ 24 < k) → v2 k = v k
def FrG2 (g g2 : ZG) : Prop := ∀ k, (k < 25 ∨ 31 < k) → g2 k = g k
theorem FrV2.trans {v v2 v3 : ZV} (h : FrV2 v v2) (h2 : FrV2 v2 v3) : FrV2 v v3 := fun k a => (h2 k a).trans (h k a)
theorem FrG2.trans {g g2 g3 : ZG} (h : FrG2 g g2) (h2 : FrG2 g2 g3) : FrG2 g g3 := fun k a => (h2 k a).trans (h k a)
theorem FrV2.rf {v : ZV} : FrV2 v v := fun _ _ => rfl
theorem FrG2.rf {g : ZG} : FrG2 g g := fun _ _ => rfl
theorem FrV.two {v v2 : ZV} (h : FrV v v2) : FrV2 v v2 := fun k a => h k (by omega) (by omega)
theorem FrG.two {g g2 : ZG} (h : FrG g g2) : FrG2 g g2 := fun k a => h k (by omega)
theorem FrV2.up {v : ZV} {k : Nat} {x : Int32} (h : (2 ≤ k ∧ k ≤ 6) ∨ (20 ≤ k ∧ k ≤ 24)) : FrV2 v (va_up v k x) := fun j a => up_off (by omega)
theorem FrG2.up {g : ZG} {k : Nat} {f : Nat → Int32} (h : 25 ≤ k ∧ k ≤ 31) : FrG2 g (va_up g k f) := fun j a => up_off (by omega)
def CR (v : ZV) (m : Nat) (L : List Int32) (v2 : ZV) (g2 : ZG) : PC → Prop
  | Sum.inl (c, q) => v2 6 = c ∧ v2 2 = nI q
  | Sum.inr (j, d') => v2 6 = v 6 ∧ ∃ l, RdI v2 g2 j m (L ++ l) ∧ DrA d' (L ++ l ++ [-17]) v2 g2
def CP (v : ZV) (g : ZG) (m : Nat) (L : List Int32) (res : PC) : ZV → ZG → Option Value → Prop := fun v2 g2 r => FrV2 v v2 ∧ FrG2 g g2 ∧ r = some (.int (bI res.fine)) ∧ CR v m L v2 g2 res
theorem CP_er {v v2 : ZV} {g g2 : ZG} {m q : Nat} {L : List Int32} {res : PC} {c x : Int32} (he : res = .er c q) (h1 : FrV2 v v2) (h2 : FrG2 g g2) (hx : x = c) (h4 : v2 2 = nI q) : CP v g m L res (va_up v2 6 x) g2 (some (.int 0)) := by
  subst he
  exact ⟨h1.trans (FrV2.up (by omega)), h2, rfl, by rw [up_at]; exact hx, by rw [up_off (by decide)]; exact h4⟩
theorem CP_ok {v v2 : ZV} {g g2 : ZG} {m j : Nat} {L : List Int32} {res : PC} {d' : Dr} (he : res = .ok j d') (h1 : FrV2 v v2) (h2 : FrG2 g g2) (h3 : v2 6 = v 6) (h4 : RdI v2 g2 j m L) (h5 : DrA d' (L ++ [] ++ [-17]) v2 g2) : CP v g m L res v2 g2 (some (.int 1)) := by
  subst he
  exact ⟨h1, h2, rfl, h3, [], by rw [List.append_nil]; exact h4, h5⟩
theorem CP_ok2 {v v2 : ZV} {g g2 : ZG} {m j : Nat} {L l : List Int32} {res : PC} {d' : Dr} (he : res = .ok j d') (h1 : FrV2 v v2) (h2 : FrG2 g g2) (h3 : v2 6 = v 6) (h4 : RdI v2 g2 j m (L ++ l)) (h5 : DrA d' (L ++ l ++ [-17]) v2 g2) : CP v g m L res v2 g2 (some (.int 1)) := by
  subst he
  exact ⟨h1, h2, rfl, h3, l, h4, h5⟩
theorem tnC_of {k n a b : Int32} (h : tnC k n a b = 0) : k = 1 ∧ a ≤ n ∧ n ≤ b := by
  unfold tnC at h
  split at h
  · next h1 =>
    split at h
    · exact absurd h (by decide)
    · next h2 =>
      split at h
      · exact absurd h (by decide)
      · next h3 => exact ⟨h1, Int32.not_lt.mp h2, Int32.not_lt.mp h3⟩
  · exact absurd h (by decide)
theorem thC_of {k n a b : Int32} (h : thC k n a b = 0) : k = 1 ∧ n < a ∧ ¬ n = b := by
  unfold thC at h
  split at h
  · next h1 =>
    split at h
    · next h2 =>
      split at h
      · exact absurd h (by decide)
      · next h3 => exact ⟨h1, h2, h3⟩
    · split at h <;> exact absurd h (by decide)
  · exact absurd h (by decide)
theorem RdI.fr {v v2 : ZV} {g g2 : ZG} {i m : Nat} {L : List Int32} (h : RdI v g i m L) (h2 : v2 2 = v 2) (h3 : v2 3 = v 3) (h4 : v2 4 = v 4) (h5 : v2 24 = v 24) (e2 : g2 2 = g 2) (e4 : g2 4 = g 4) (e31 : g2 31 = g 31) : RdI v2 g2 i m L := by
  obtain ⟨a1, a2, a3, a4, a5, a6, a7, a8⟩ := h
  exact ⟨a1, a2, by rw [e2]; exact a3, by rw [h2]; exact a4, by rw [h3, e2]; exact a5, by rw [h4, e4]; exact a6, Cd_same a7 h5 e31, a8⟩
theorem DrA.person {d : Dr} {LL : List Int32} {v v2 : ZV} {g g2 : ZG} {h c b : Int32} {X : List Int32} (hD : DrA d LL v g) (h20 : v2 20 = v 20) (h21 : v2 21 = nI (d.P + 1)) (h22 : v2 22 = v 22) (h23 : v2 23 = v 23) (g25 : g2 25 = upd (g 25) d.P h) (g26 : ∀ p, p < d.P → g2 26 p = g 26 p) (g26' : g2 26 d.P = c) (g27 : g2 27 = upd (g 27) d.P b) (g28 : g2 28 = g 28) (g29 : g2 29 = g 29) (g30 : g2 30 = g 30) : DrA (addP d h c b) (LL ++ X) v2 g2 := by
  obtain ⟨h1, h2, h3, h4, h5, h6, h7, h8⟩ := hD
  refine ⟨by rw [h20]; exact h1, h21, by rw [h22]; exact h3, by rw [h23]; exact h4, fun p hp => ?_, by rw [g28]; exact h6, fun e he => by rw [g29]; obtain ⟨b, b1, b2⟩ := h7 e he; exact ⟨b, b1, b2.app⟩, fun e he => by rw [g30]; obtain ⟨b, b1, b2⟩ := h8 e he; exact ⟨b, b1, b2.app⟩⟩
  show g2 25 p = upd d.hm d.P h p ∧ g2 26 p = upd d.ch d.P c p ∧ g2 27 p = upd d.hi d.P b p
  rw [g25, g27]
  rcases Nat.lt_or_ge p d.P with q | q
  · rw [upd_off (by omega), upd_off (by omega), upd_off (by omega), upd_off (by omega), upd_off (by omega), g26 p q]
    exact h5 p q
  · have e : p = d.P := by have : p < d.P + 1 := hp; omega
    subst e
    rw [upd_at, upd_at, upd_at, upd_at, upd_at]
    exact ⟨rfl, g26', rfl⟩
theorem num_lt {x H : Int32} (h0 : 0 ≤ x) (h1 : x < H) (h2 : H ≤ 10) : ∃ n, n < 10 ∧ x = nI n := by
  obtain ⟨n, hn, rfl⟩ := nI_of (Int32.not_lt.mpr h0)
  refine ⟨n, ?_, rfl⟩
  rcases Nat.lt_or_ge n 10 with q | q
  · exact q
  · exact (Int32.lt_irrefl (Int32.lt_of_lt_of_le h1 (Int32.le_trans h2 (nI_le (a := 10) (b := n) q hn)))).elim
theorem DrA.walk {d : Dr} {LL X : List Int32} {v v2 : ZV} {g g2 : ZG} {x y : Nat} {z : Int32} (hD : DrA d LL v g) (hx : x < 10) (hy : y < 10) (hv : ∀ k, 20 ≤ k → k ≤ 23 → v2 k = v k) (h28 : g2 28 = upd (upd (g 28) (10 * x + y) z) (10 * y + x) z) (hg : ∀ k, 25 ≤ k → k ≤ 30 → k ≠ 28 → g2 k = g k) : DrA (d.sW (upd (upd d.wk (10 * x + y) z) (10 * y + x) z)) (LL ++ X) v2 g2 := by
  obtain ⟨h1, h2, h3, h4, h5, h6, h7, h8⟩ := hD
  refine ⟨by rw [hv 20 (by decide) (by decide)]; exact h1, by rw [hv 21 (by decide) (by decide)]; exact h2, by rw [hv 22 (by decide) (by decide)]; exact h3, by rw [hv 23 (by decide) (by decide)]; exact h4,
    by rw [hg 25 (by decide) (by decide) (by decide), hg 26 (by decide) (by decide) (by decide), hg 27 (by decide) (by decide) (by decide)]; exact h5, fun k hk => ?_,
    fun e he => by rw [hg 29 (by decide) (by decide) (by decide)]; obtain ⟨b, b1, b2⟩ := h7 e he; exact ⟨b, b1, b2.app⟩, fun e he => by rw [hg 30 (by decide) (by decide) (by decide)]; obtain ⟨b, b1, b2⟩ := h8 e he; exact ⟨b, b1, b2.app⟩⟩
  rw [h28]
  show upd (upd (g 28) (10 * x + y) z) (10 * y + x) z k = upd (upd d.wk (10 * x + y) z) (10 * y + x) z k
  unfold upd
  rw [h6 k hk]
theorem c_X5_readHouses {l : Launch} {D : va_G} {cA : Nat → ClassId} {o a : Nat → Nat} {v : ZV} {g : ZG} {i m : Nat} {d : Dr} {L : List Int32} {K : Nat} (hI : RdI v g i m L) (hD : DrA d L v g) (hK : DrK d) (hk : g 2 i = 6) (hKl : 3 ≤ K) : MG l D cA (WC o a cA) yX5_readHouses cX5_readHouses 1 (some .boolean) K [(.ref (o 1))] v g ((CP v g m L (pHouses (g 2) (g 4) d i))) := by
  refine MG.of (by decide) rfl (Nat.le_of_ble_eq_true rfl) (by simp [Value.category]) (fun Z hZ => ?_)
  have e2 : v 2 = nI i := hI.2.2.2.1
  have e3 : v 3 = g 2 i := hI.2.2.2.2.1
  have h7 : m ≤ 700 := hI.2.1
  have e20 : v 20 = d.H := hD.1
  have hlt : i < m := hI.lt (by rw [hk]; decide)
  have hstep : ∀ j, i ≤ j → j ≤ m → ¬ g 2 j = 0 → j < m := fun j h1 h2 h3 => (hI.go h1 h2).lt h3
  refine z_aload_n hZ (pc := 0) dX5_readHouses_0 rfl ?_
  refine z_aload_n hZ (pc := 1) dX5_readHouses_1 rfl ?_
  refine gC_1_2 hZ (pc := 2) fl_X5_25 dX5_readHouses_2 ?_
  refine z_iconst hZ (pc := 5) (v := 1) dX5_readHouses_5 (by decide) ?_
  refine z_iadd hZ (pc := 6) dX5_readHouses_6 ?_
  refine z_top (y := nI (i + 1)) (by rw [e2]; exact nI_1 i) ?_
  refine cV_v hZ (pc := 7) dX5_readHouses_7 lk_X5_48 mn_X5_goTo mv_X5_goTo (c_X5_goTo (j := i + 1) (by omega)) rc_1 rfl rfl (Nat.le_of_ble_eq_true rfl) (by omega) (by decide) (Nat.zero_le _) (Nat.zero_le _) ?_
  refine z_aload_n hZ (pc := 10) dX5_readHouses_10 rfl ?_
  refine z_iconst hZ (pc := 11) (v := 1) dX5_readHouses_11 (by decide) ?_
  refine z_bipush hZ (pc := 12) (v := 10) dX5_readHouses_12 (by decide) ?_
  refine cV_i hZ (pc := 14) dX5_readHouses_14 lk_X5_99 mn_X5_takeNumber mv_X5_takeNumber (c_X5_takeNumber (p := 1) (q := 10) (i := i + 1) rfl (fun h => by have := hstep (i + 1) (by omega) (by omega) (by rw [show g 2 (i + 1) = 1 from h]; decide); omega)) rc_1 rfl rfl (Nat.le_of_ble_eq_true rfl) (by omega) (by decide) (Nat.zero_le _) (Nat.zero_le _) ?_
  refine z_if_ne hZ (pc := 17) (tgt := 22) dX5_readHouses_17 rfl (fun c17 => ?_) (fun c17 => ?_)
  · skip
    have hn : tnC (g 2 (i + 1)) (g 4 (i + 1)) 1 10 = 0 := bD1 c17
    have h2 := hstep (i + 1) (by omega) hlt (by rw [(tnC_of hn).1]; decide)
    rw [tnV_0 (bD1 c17)]
    refine z_aload_n hZ (pc := 22) dX5_readHouses_22 rfl ?_
    refine gC_1_1 hZ (pc := 23) fl_X5_21 dX5_readHouses_23 ?_
    refine z_aload_n hZ (pc := 26) dX5_readHouses_26 rfl ?_
    refine gC_1_5 hZ (pc := 27) fl_X5_35 dX5_readHouses_27 ?_
    refine pC_6_0 hZ (pc := 30) fl_X5_102 dX5_readHouses_30 ?_
    refine z_iconst hZ (pc := 33) (v := 1) dX5_readHouses_33 (by decide) ?_
    refine zr_i hZ (pc := 34) dX5_readHouses_34 FitR.b1 ?_
    exact CP_ok (j := i + 2) (d' := d.sH (g 4 (i + 1))) (by rw [pHouses, if_pos hn]) (fun k hk => by simp only [goV, va_up, show ¬ k = 2 by omega, show ¬ k = 3 by omega, show ¬ k = 4 by omega, show ¬ k = 5 by omega, show ¬ k = 20 by omega, show ¬ k = 21 by omega, show ¬ k = 22 by omega, show ¬ k = 23 by omega, if_false]) FrG2.rf rfl (RdI.fr (v := goV v g (i + 2)) (g := g) (hI.go (by omega) h2) rfl rfl rfl rfl rfl rfl rfl) ⟨rfl, hD.2.1, hD.2.2.1, hD.2.2.2.1, hD.2.2.2.2.1, hD.2.2.2.2.2.1, fun e he => by obtain ⟨b, b1, b2⟩ := hD.2.2.2.2.2.2.1 e he; exact ⟨b, b1, by rw [List.append_nil]; exact b2.app⟩, fun e he => by obtain ⟨b, b1, b2⟩ := hD.2.2.2.2.2.2.2 e he; exact ⟨b, b1, by rw [List.append_nil]; exact b2.app⟩⟩
  · skip
    refine z_iconst hZ (pc := 20) (v := 0) dX5_readHouses_20 (by decide) ?_
    refine zr_i hZ (pc := 21) dX5_readHouses_21 FitR.b0 ?_
    have hn : ¬ tnC (g 2 (i + 1)) (g 4 (i + 1)) 1 10 = 0 := bD0 c17
    rw [tnV_n (bD0 c17)]
    exact CP_er (c := tnC (g 2 (i + 1)) (g 4 (i + 1)) 1 10) (v2 := goV v g (i + 1)) (by rw [pHouses, if_neg hn]) FrV.go.two FrG2.rf rfl goV_2
theorem c_X5_readPerson {l : Launch} {D : va_G} {cA : Nat → ClassId} {o a : Nat → Nat} {v : ZV} {g : ZG} {i m : Nat} {d : Dr} {L : List Int32} {K : Nat} (hI : RdI v g i m L) (hD : DrA d L v g) (hK : DrK d) (hk : g 2 i = (-2)) (hKl : 3 ≤ K) : MG l D cA (WC o a cA) yX5_readPerson cX5_readPerson 3 (some .boolean) K [(.ref (o 1))] v g ((CP v g m L (pPerson (g 2) (g 4) d i))) := by
  refine MG.of (by decide) rfl (Nat.le_of_ble_eq_true rfl) (by simp [Value.category]) (fun Z hZ => ?_)
  have e2 : v 2 = nI i := hI.2.2.2.1
  have e3 : v 3 = g 2 i := hI.2.2.2.2.1
  have h7 : m ≤ 700 := hI.2.1
  have e20 : v 20 = d.H := hD.1
  have hlt : i < m := hI.lt (by rw [hk]; decide)
  have hstep : ∀ j, i ≤ j → j ≤ m → ¬ g 2 j = 0 → j < m := fun j h1 h2 h3 => (hI.go h1 h2).lt h3
  have hP16 : d.P ≤ 16 := hK.2.2.1
  refine z_aload_n hZ (pc := 0) dX5_readPerson_0 rfl ?_
  refine gC_1_1 hZ (pc := 1) fl_X5_21 dX5_readPerson_1 ?_
  refine gC_6_1 hZ (pc := 4) fl_X5_105 dX5_readPerson_4 ?_
  refine z_top hD.2.1 ?_
  refine q_istore_n_3_1 hZ (pc := 7) dX5_readPerson_7 rfl ?_
  refine z_iload_n hZ (pc := 8) dX5_readPerson_8 rfl ?_
  refine z_bipush hZ (pc := 9) (v := 16) dX5_readPerson_9 (by decide) ?_
  refine z_icmp_lt hZ (pc := 11) (tgt := 20) dX5_readPerson_11 rfl (fun c11 => ?_) (fun c11 => ?_)
  · skip
    have hP6 : ¬ 16 ≤ d.P := fun q => absurd c11 (Int32.not_lt.mpr (nI_le (a := 16) (b := d.P) q (by omega)))
    refine z_aload_n hZ (pc := 20) dX5_readPerson_20 rfl ?_
    refine z_aload_n hZ (pc := 21) dX5_readPerson_21 rfl ?_
    refine gC_1_2 hZ (pc := 22) fl_X5_25 dX5_readPerson_22 ?_
    refine z_iconst hZ (pc := 25) (v := 1) dX5_readPerson_25 (by decide) ?_
    refine z_iadd hZ (pc := 26) dX5_readPerson_26 ?_
    refine z_top (y := nI (i + 1)) (by rw [e2]; exact nI_1 i) ?_
    refine cV_v hZ (pc := 27) dX5_readPerson_27 lk_X5_48 mn_X5_goTo mv_X5_goTo (c_X5_goTo (j := i + 1) (by omega)) rc_1 rfl rfl (Nat.le_of_ble_eq_true rfl) (by omega) (by decide) (Nat.zero_le _) (Nat.zero_le _) ?_
    refine z_aload_n hZ (pc := 30) dX5_readPerson_30 rfl ?_
    refine z_iconst hZ (pc := 31) (v := (-1)) dX5_readPerson_31 (by decide) ?_
    refine cV_i hZ (pc := 32) dX5_readPerson_32 lk_X5_108 mn_X5_takeHouse mv_X5_takeHouse (c_X5_takeHouse (p := -1) (i := i + 1) rfl (fun h => by have := hstep (i + 1) (by omega) (by omega) (by rw [show g 2 (i + 1) = 1 from h]; decide); omega)) rc_1 rfl rfl (Nat.le_of_ble_eq_true rfl) (by omega) (by decide) (Nat.zero_le _) (Nat.zero_le _) ?_
    refine z_if_ne hZ (pc := 35) (tgt := 40) dX5_readPerson_35 rfl (fun c35 => ?_) (fun c35 => ?_)
    · skip
      have hn : thC (g 2 (i + 1)) (g 4 (i + 1)) d.H (-1) = 0 := by rw [← e20]; exact bD1 c35
      have h2 := hstep (i + 1) (by omega) hlt (by rw [(thC_of hn).1]; decide)
      rw [tnV_0 (bD1 c35)]
      refine z_aload_n hZ (pc := 40) dX5_readPerson_40 rfl ?_
      refine gC_1_1 hZ (pc := 41) fl_X5_21 dX5_readPerson_41 ?_
      refine gC_6_5 hZ (pc := 44) fl_X5_111 dX5_readPerson_44 ?_
      refine z_iload_n hZ (pc := 47) dX5_readPerson_47 rfl ?_
      refine z_aload_n hZ (pc := 48) dX5_readPerson_48 rfl ?_
      refine gC_1_5 hZ (pc := 49) fl_X5_35 dX5_readPerson_49 ?_
      refine cS_v hZ (pc := 52) dX5_readPerson_52 lk_X5_114 mn_X10_put ms_X10_put (c_X10_putn (j := 25) (n := d.P) (by decide) (by show d.P < 16; omega)) rfl rfl (Nat.le_of_ble_eq_true rfl) (by omega) (by decide) (Nat.zero_le _) (Nat.zero_le _) ?_
      refine z_aload_n hZ (pc := 55) dX5_readPerson_55 rfl ?_
      refine gC_1_1 hZ (pc := 56) fl_X5_21 dX5_readPerson_56 ?_
      refine gC_6_6 hZ (pc := 59) fl_X5_118 dX5_readPerson_59 ?_
      refine z_iload_n hZ (pc := 62) dX5_readPerson_62 rfl ?_
      refine z_bipush hZ (pc := 63) (v := 100) dX5_readPerson_63 (by decide) ?_
      refine cS_v hZ (pc := 65) dX5_readPerson_65 lk_X5_114 mn_X10_put ms_X10_put (c_X10_putn (j := 26) (n := d.P) (by decide) (by show d.P < 16; omega)) rfl rfl (Nat.le_of_ble_eq_true rfl) (by omega) (by decide) (Nat.zero_le _) (Nat.zero_le _) ?_
      refine z_aload_n hZ (pc := 68) dX5_readPerson_68 rfl ?_
      refine gC_1_3 hZ (pc := 69) fl_X5_29 dX5_readPerson_69 ?_
      refine z_bipush hZ (pc := 72) (v := 10) dX5_readPerson_72 (by decide) ?_
      refine z_icmp_ne hZ (pc := 74) (tgt := 115) dX5_readPerson_74 rfl (fun c74 => ?_) (fun c74 => ?_)
      · skip
        refine z_aload_n hZ (pc := 115) dX5_readPerson_115 rfl ?_
        refine gC_1_3 hZ (pc := 116) fl_X5_29 dX5_readPerson_116 ?_
        refine z_bipush hZ (pc := 119) (v := (-4)) dX5_readPerson_119 (by decide) ?_
        refine z_icmp_ne hZ (pc := 121) (tgt := 128) dX5_readPerson_121 rfl (fun c121 => ?_) (fun c121 => ?_)
        · skip
          refine z_iconst hZ (pc := 128) (v := 0) dX5_readPerson_128 (by decide) ?_
          refine q_istore_n_3_2 hZ (pc := 129) dX5_readPerson_129 rfl ?_
          refine z_iload_n hZ (pc := 130) dX5_readPerson_130 rfl ?_
          refine z_if_eq hZ (pc := 131) (tgt := 144) dX5_readPerson_131 rfl (fun _ => ?_) (fun c131 => absurd c131 (by decide))
          refine z_aload_n hZ (pc := 144) dX5_readPerson_144 rfl ?_
          refine gC_1_1 hZ (pc := 145) fl_X5_21 dX5_readPerson_145 ?_
          refine gC_6_7 hZ (pc := 148) fl_X5_121 dX5_readPerson_148 ?_
          refine z_iload_n hZ (pc := 151) dX5_readPerson_151 rfl ?_
          refine z_iload_n hZ (pc := 152) dX5_readPerson_152 rfl ?_
          refine z_if_eq hZ (pc := 153) (tgt := 160) dX5_readPerson_153 rfl (fun _ => ?_) (fun c153 => absurd c153 (by decide))
          refine z_iconst hZ (pc := 160) (v := 0) dX5_readPerson_160 (by decide) ?_
          refine cS_v hZ (pc := 161) dX5_readPerson_161 lk_X5_114 mn_X10_put ms_X10_put (c_X10_putn (j := 27) (n := d.P) (by decide) (by show d.P < 16; omega)) rfl rfl (Nat.le_of_ble_eq_true rfl) (by omega) (by decide) (Nat.zero_le _) (Nat.zero_le _) ?_
          refine z_aload_n hZ (pc := 164) dX5_readPerson_164 rfl ?_
          refine gC_1_1 hZ (pc := 165) fl_X5_21 dX5_readPerson_165 ?_
          refine z_dup hZ (pc := 168) dX5_readPerson_168 rfl ?_
          refine gC_6_1 hZ (pc := 169) fl_X5_105 dX5_readPerson_169 ?_
          refine z_iconst hZ (pc := 172) (v := 1) dX5_readPerson_172 (by decide) ?_
          refine z_iadd hZ (pc := 173) dX5_readPerson_173 ?_
          refine z_top (y := nI (d.P + 1)) (by show v 21 + 1 = _; rw [hD.2.1]; exact nI_1 _) ?_
          refine pC_6_1 hZ (pc := 174) fl_X5_105 dX5_readPerson_174 ?_
          refine z_iconst hZ (pc := 177) (v := 1) dX5_readPerson_177 (by decide) ?_
          refine zr_i hZ (pc := 178) dX5_readPerson_178 FitR.b1 ?_
          exact CP_ok (j := i + 2) (by rw [pPerson, if_neg hP6, if_neg (fun z => z hn), if_neg (show ¬ g 2 (i + 2) = 10 from c74), pHired, if_neg (show ¬ g 2 (i + 2) = -4 from c121)]) (fun k hk => by simp only [goV, va_up, show ¬ k = 2 by omega, show ¬ k = 3 by omega, show ¬ k = 4 by omega, show ¬ k = 5 by omega, show ¬ k = 20 by omega, show ¬ k = 21 by omega, show ¬ k = 22 by omega, show ¬ k = 23 by omega, if_false]) (fun k hk => by simp only [va_up, show ¬ k = 25 by omega, show ¬ k = 26 by omega, show ¬ k = 27 by omega, show ¬ k = 28 by omega, show ¬ k = 29 by omega, show ¬ k = 30 by omega, if_false]) rfl (RdI.fr (v := goV v g (i + 2)) (g := g) (hI.go (by omega) h2) rfl rfl rfl rfl rfl rfl rfl) (by rw [List.append_nil]; exact (DrA.person (X := [-17]) hD rfl rfl rfl rfl rfl (fun p hp => by show upd (g 26) d.P _ p = g 26 p; rw [upd_off (by omega)]) (by show upd (g 26) d.P _ d.P = _; rw [upd_at]) rfl rfl rfl rfl))
        · skip
          refine z_iconst hZ (pc := 124) (v := 1) dX5_readPerson_124 (by decide) ?_
          refine z_goto hZ (pc := 125) (tgt := 129) dX5_readPerson_125 rfl ?_
          refine q_istore_n_3_2 hZ (pc := 129) dX5_readPerson_129 rfl ?_
          refine z_iload_n hZ (pc := 130) dX5_readPerson_130 rfl ?_
          refine z_if_eq hZ (pc := 131) (tgt := 144) dX5_readPerson_131 rfl (fun c131 => absurd c131 (by decide)) (fun _ => ?_)
          have h5 := hstep (i + 2) (by omega) h2 (by rw [show g 2 (i + 2) = -4 from c121]; decide)
          refine z_aload_n hZ (pc := 134) dX5_readPerson_134 rfl ?_
          refine z_aload_n hZ (pc := 135) dX5_readPerson_135 rfl ?_
          refine gC_1_2 hZ (pc := 136) fl_X5_25 dX5_readPerson_136 ?_
          refine z_iconst hZ (pc := 139) (v := 1) dX5_readPerson_139 (by decide) ?_
          refine z_iadd hZ (pc := 140) dX5_readPerson_140 ?_
          refine z_top (y := nI (i + 3)) (nI_1 (i + 2)) ?_
          refine cV_v hZ (pc := 141) dX5_readPerson_141 lk_X5_48 mn_X5_goTo mv_X5_goTo (c_X5_goTo (j := i + 3) (by omega)) rc_1 rfl rfl (Nat.le_of_ble_eq_true rfl) (by omega) (by decide) (Nat.zero_le _) (Nat.zero_le _) ?_
          refine z_aload_n hZ (pc := 144) dX5_readPerson_144 rfl ?_
          refine gC_1_1 hZ (pc := 145) fl_X5_21 dX5_readPerson_145 ?_
          refine gC_6_7 hZ (pc := 148) fl_X5_121 dX5_readPerson_148 ?_
          refine z_iload_n hZ (pc := 151) dX5_readPerson_151 rfl ?_
          refine z_iload_n hZ (pc := 152) dX5_readPerson_152 rfl ?_
          refine z_if_eq hZ (pc := 153) (tgt := 160) dX5_readPerson_153 rfl (fun c153 => absurd c153 (by decide)) (fun _ => ?_)
          refine z_iconst hZ (pc := 156) (v := 1) dX5_readPerson_156 (by decide) ?_
          refine z_goto hZ (pc := 157) (tgt := 161) dX5_readPerson_157 rfl ?_
          refine cS_v hZ (pc := 161) dX5_readPerson_161 lk_X5_114 mn_X10_put ms_X10_put (c_X10_putn (j := 27) (n := d.P) (by decide) (by show d.P < 16; omega)) rfl rfl (Nat.le_of_ble_eq_true rfl) (by omega) (by decide) (Nat.zero_le _) (Nat.zero_le _) ?_
          refine z_aload_n hZ (pc := 164) dX5_readPerson_164 rfl ?_
          refine gC_1_1 hZ (pc := 165) fl_X5_21 dX5_readPerson_165 ?_
          refine z_dup hZ (pc := 168) dX5_readPerson_168 rfl ?_
          refine gC_6_1 hZ (pc := 169) fl_X5_105 dX5_readPerson_169 ?_
          refine z_iconst hZ (pc := 172) (v := 1) dX5_readPerson_172 (by decide) ?_
          refine z_iadd hZ (pc := 173) dX5_readPerson_173 ?_
          refine z_top (y := nI (d.P + 1)) (by show v 21 + 1 = _; rw [hD.2.1]; exact nI_1 _) ?_
          refine pC_6_1 hZ (pc := 174) fl_X5_105 dX5_readPerson_174 ?_
          refine z_iconst hZ (pc := 177) (v := 1) dX5_readPerson_177 (by decide) ?_
          refine zr_i hZ (pc := 178) dX5_readPerson_178 FitR.b1 ?_
          exact CP_ok (j := i + 3) (by rw [pPerson, if_neg hP6, if_neg (fun z => z hn), if_neg (show ¬ g 2 (i + 2) = 10 from c74), pHired, if_pos (show g 2 (i + 2) = -4 from c121)]) (fun k hk => by simp only [goV, va_up, show ¬ k = 2 by omega, show ¬ k = 3 by omega, show ¬ k = 4 by omega, show ¬ k = 5 by omega, show ¬ k = 20 by omega, show ¬ k = 21 by omega, show ¬ k = 22 by omega, show ¬ k = 23 by omega, if_false]) (fun k hk => by simp only [va_up, show ¬ k = 25 by omega, show ¬ k = 26 by omega, show ¬ k = 27 by omega, show ¬ k = 28 by omega, show ¬ k = 29 by omega, show ¬ k = 30 by omega, if_false]) rfl (RdI.fr (v := goV v g (i + 3)) (g := g) (hI.go (by omega) h5) rfl rfl rfl rfl rfl rfl rfl) (by rw [List.append_nil]; exact (DrA.person (X := [-17]) hD rfl rfl rfl rfl rfl (fun p hp => by show upd (g 26) d.P _ p = g 26 p; rw [upd_off (by omega)]) (by show upd (g 26) d.P _ d.P = _; rw [upd_at]) rfl rfl rfl rfl))
      · skip
        have h3 := hstep (i + 2) (by omega) h2 (by rw [show g 2 (i + 2) = 10 from c74]; decide)
        refine z_aload_n hZ (pc := 77) dX5_readPerson_77 rfl ?_
        refine z_aload_n hZ (pc := 78) dX5_readPerson_78 rfl ?_
        refine gC_1_2 hZ (pc := 79) fl_X5_25 dX5_readPerson_79 ?_
        refine z_iconst hZ (pc := 82) (v := 1) dX5_readPerson_82 (by decide) ?_
        refine z_iadd hZ (pc := 83) dX5_readPerson_83 ?_
        refine z_top (y := nI (i + 3)) (nI_1 (i + 2)) ?_
        refine cV_v hZ (pc := 84) dX5_readPerson_84 lk_X5_48 mn_X5_goTo mv_X5_goTo (c_X5_goTo (j := i + 3) (by omega)) rc_1 rfl rfl (Nat.le_of_ble_eq_true rfl) (by omega) (by decide) (Nat.zero_le _) (Nat.zero_le _) ?_
        refine z_aload_n hZ (pc := 87) dX5_readPerson_87 rfl ?_
        refine z_iconst hZ (pc := 88) (v := 0) dX5_readPerson_88 (by decide) ?_
        refine z_sipush hZ (pc := 89) (v := 1000) dX5_readPerson_89 (by decide) ?_
        refine cV_i hZ (pc := 92) dX5_readPerson_92 lk_X5_99 mn_X5_takeNumber mv_X5_takeNumber (c_X5_takeNumber (p := 0) (q := 1000) (i := i + 3) rfl (fun h => by have := hstep (i + 3) (by omega) (by omega) (by rw [show g 2 (i + 3) = 1 from h]; decide); omega)) rc_1 rfl rfl (Nat.le_of_ble_eq_true rfl) (by omega) (by decide) (Nat.zero_le _) (Nat.zero_le _) ?_
        refine z_if_ne hZ (pc := 95) (tgt := 100) dX5_readPerson_95 rfl (fun c95 => ?_) (fun c95 => ?_)
        · skip
          have hn2 : tnC (g 2 (i + 3)) (g 4 (i + 3)) 0 1000 = 0 := bD1 c95
          have h4 := hstep (i + 3) (by omega) h3 (by rw [(tnC_of hn2).1]; decide)
          rw [tnV_0 (bD1 c95)]
          refine z_aload_n hZ (pc := 100) dX5_readPerson_100 rfl ?_
          refine gC_1_1 hZ (pc := 101) fl_X5_21 dX5_readPerson_101 ?_
          refine gC_6_6 hZ (pc := 104) fl_X5_118 dX5_readPerson_104 ?_
          refine z_iload_n hZ (pc := 107) dX5_readPerson_107 rfl ?_
          refine z_aload_n hZ (pc := 108) dX5_readPerson_108 rfl ?_
          refine gC_1_5 hZ (pc := 109) fl_X5_35 dX5_readPerson_109 ?_
          refine cS_v hZ (pc := 112) dX5_readPerson_112 lk_X5_114 mn_X10_put ms_X10_put (c_X10_putn (j := 26) (n := d.P) (by decide) (by show d.P < 16; omega)) rfl rfl (Nat.le_of_ble_eq_true rfl) (by omega) (by decide) (Nat.zero_le _) (Nat.zero_le _) ?_
          refine z_aload_n hZ (pc := 115) dX5_readPerson_115 rfl ?_
          refine gC_1_3 hZ (pc := 116) fl_X5_29 dX5_readPerson_116 ?_
          refine z_bipush hZ (pc := 119) (v := (-4)) dX5_readPerson_119 (by decide) ?_
          refine z_icmp_ne hZ (pc := 121) (tgt := 128) dX5_readPerson_121 rfl (fun c121 => ?_) (fun c121 => ?_)
          · skip
            refine z_iconst hZ (pc := 128) (v := 0) dX5_readPerson_128 (by decide) ?_
            refine q_istore_n_3_2 hZ (pc := 129) dX5_readPerson_129 rfl ?_
            refine z_iload_n hZ (pc := 130) dX5_readPerson_130 rfl ?_
            refine z_if_eq hZ (pc := 131) (tgt := 144) dX5_readPerson_131 rfl (fun _ => ?_) (fun c131 => absurd c131 (by decide))
            refine z_aload_n hZ (pc := 144) dX5_readPerson_144 rfl ?_
            refine gC_1_1 hZ (pc := 145) fl_X5_21 dX5_readPerson_145 ?_
            refine gC_6_7 hZ (pc := 148) fl_X5_121 dX5_readPerson_148 ?_
            refine z_iload_n hZ (pc := 151) dX5_readPerson_151 rfl ?_
            refine z_iload_n hZ (pc := 152) dX5_readPerson_152 rfl ?_
            refine z_if_eq hZ (pc := 153) (tgt := 160) dX5_readPerson_153 rfl (fun _ => ?_) (fun c153 => absurd c153 (by decide))
            refine z_iconst hZ (pc := 160) (v := 0) dX5_readPerson_160 (by decide) ?_
            refine cS_v hZ (pc := 161) dX5_readPerson_161 lk_X5_114 mn_X10_put ms_X10_put (c_X10_putn (j := 27) (n := d.P) (by decide) (by show d.P < 16; omega)) rfl rfl (Nat.le_of_ble_eq_true rfl) (by omega) (by decide) (Nat.zero_le _) (Nat.zero_le _) ?_
            refine z_aload_n hZ (pc := 164) dX5_readPerson_164 rfl ?_
            refine gC_1_1 hZ (pc := 165) fl_X5_21 dX5_readPerson_165 ?_
            refine z_dup hZ (pc := 168) dX5_readPerson_168 rfl ?_
            refine gC_6_1 hZ (pc := 169) fl_X5_105 dX5_readPerson_169 ?_
            refine z_iconst hZ (pc := 172) (v := 1) dX5_readPerson_172 (by decide) ?_
            refine z_iadd hZ (pc := 173) dX5_readPerson_173 ?_
            refine z_top (y := nI (d.P + 1)) (by show v 21 + 1 = _; rw [hD.2.1]; exact nI_1 _) ?_
            refine pC_6_1 hZ (pc := 174) fl_X5_105 dX5_readPerson_174 ?_
            refine z_iconst hZ (pc := 177) (v := 1) dX5_readPerson_177 (by decide) ?_
            refine zr_i hZ (pc := 178) dX5_readPerson_178 FitR.b1 ?_
            exact CP_ok (j := i + 4) (by rw [pPerson, if_neg hP6, if_neg (fun z => z hn), if_pos (show g 2 (i + 2) = 10 from c74), if_pos hn2, pHired, if_neg (show ¬ g 2 (i + 4) = -4 from c121)]) (fun k hk => by simp only [goV, va_up, show ¬ k = 2 by omega, show ¬ k = 3 by omega, show ¬ k = 4 by omega, show ¬ k = 5 by omega, show ¬ k = 20 by omega, show ¬ k = 21 by omega, show ¬ k = 22 by omega, show ¬ k = 23 by omega, if_false]) (fun k hk => by simp only [va_up, show ¬ k = 25 by omega, show ¬ k = 26 by omega, show ¬ k = 27 by omega, show ¬ k = 28 by omega, show ¬ k = 29 by omega, show ¬ k = 30 by omega, if_false]) rfl (RdI.fr (v := goV v g (i + 4)) (g := g) (hI.go (by omega) h4) rfl rfl rfl rfl rfl rfl rfl) (by rw [List.append_nil]; exact (DrA.person (X := [-17]) hD rfl rfl rfl rfl rfl (fun p hp => by show upd (upd (g 26) d.P _) d.P _ p = g 26 p; rw [upd_off (by omega), upd_off (by omega)]) (by show upd (upd (g 26) d.P _) d.P _ d.P = _; rw [upd_at]; rfl) rfl rfl rfl rfl))
          · skip
            refine z_iconst hZ (pc := 124) (v := 1) dX5_readPerson_124 (by decide) ?_
            refine z_goto hZ (pc := 125) (tgt := 129) dX5_readPerson_125 rfl ?_
            refine q_istore_n_3_2 hZ (pc := 129) dX5_readPerson_129 rfl ?_
            refine z_iload_n hZ (pc := 130) dX5_readPerson_130 rfl ?_
            refine z_if_eq hZ (pc := 131) (tgt := 144) dX5_readPerson_131 rfl (fun c131 => absurd c131 (by decide)) (fun _ => ?_)
            have h5 := hstep (i + 4) (by omega) h4 (by rw [show g 2 (i + 4) = -4 from c121]; decide)
            refine z_aload_n hZ (pc := 134) dX5_readPerson_134 rfl ?_
            refine z_aload_n hZ (pc := 135) dX5_readPerson_135 rfl ?_
            refine gC_1_2 hZ (pc := 136) fl_X5_25 dX5_readPerson_136 ?_
            refine z_iconst hZ (pc := 139) (v := 1) dX5_readPerson_139 (by decide) ?_
            refine z_iadd hZ (pc := 140) dX5_readPerson_140 ?_
            refine z_top (y := nI (i + 5)) (nI_1 (i + 4)) ?_
            refine cV_v hZ (pc := 141) dX5_readPerson_141 lk_X5_48 mn_X5_goTo mv_X5_goTo (c_X5_goTo (j := i + 5) (by omega)) rc_1 rfl rfl (Nat.le_of_ble_eq_true rfl) (by omega) (by decide) (Nat.zero_le _) (Nat.zero_le _) ?_
            refine z_aload_n hZ (pc := 144) dX5_readPerson_144 rfl ?_
            refine gC_1_1 hZ (pc := 145) fl_X5_21 dX5_readPerson_145 ?_
            refine gC_6_7 hZ (pc := 148) fl_X5_121 dX5_readPerson_148 ?_
            refine z_iload_n hZ (pc := 151) dX5_readPerson_151 rfl ?_
            refine z_iload_n hZ (pc := 152) dX5_readPerson_152 rfl ?_
            refine z_if_eq hZ (pc := 153) (tgt := 160) dX5_readPerson_153 rfl (fun c153 => absurd c153 (by decide)) (fun _ => ?_)
            refine z_iconst hZ (pc := 156) (v := 1) dX5_readPerson_156 (by decide) ?_
            refine z_goto hZ (pc := 157) (tgt := 161) dX5_readPerson_157 rfl ?_
            refine cS_v hZ (pc := 161) dX5_readPerson_161 lk_X5_114 mn_X10_put ms_X10_put (c_X10_putn (j := 27) (n := d.P) (by decide) (by show d.P < 16; omega)) rfl rfl (Nat.le_of_ble_eq_true rfl) (by omega) (by decide) (Nat.zero_le _) (Nat.zero_le _) ?_
            refine z_aload_n hZ (pc := 164) dX5_readPerson_164 rfl ?_
            refine gC_1_1 hZ (pc := 165) fl_X5_21 dX5_readPerson_165 ?_
            refine z_dup hZ (pc := 168) dX5_readPerson_168 rfl ?_
            refine gC_6_1 hZ (pc := 169) fl_X5_105 dX5_readPerson_169 ?_
            refine z_iconst hZ (pc := 172) (v := 1) dX5_readPerson_172 (by decide) ?_
            refine z_iadd hZ (pc := 173) dX5_readPerson_173 ?_
            refine z_top (y := nI (d.P + 1)) (by show v 21 + 1 = _; rw [hD.2.1]; exact nI_1 _) ?_
            refine pC_6_1 hZ (pc := 174) fl_X5_105 dX5_readPerson_174 ?_
            refine z_iconst hZ (pc := 177) (v := 1) dX5_readPerson_177 (by decide) ?_
            refine zr_i hZ (pc := 178) dX5_readPerson_178 FitR.b1 ?_
            exact CP_ok (j := i + 5) (by rw [pPerson, if_neg hP6, if_neg (fun z => z hn), if_pos (show g 2 (i + 2) = 10 from c74), if_pos hn2, pHired, if_pos (show g 2 (i + 4) = -4 from c121)]) (fun k hk => by simp only [goV, va_up, show ¬ k = 2 by omega, show ¬ k = 3 by omega, show ¬ k = 4 by omega, show ¬ k = 5 by omega, show ¬ k = 20 by omega, show ¬ k = 21 by omega, show ¬ k = 22 by omega, show ¬ k = 23 by omega, if_false]) (fun k hk => by simp only [va_up, show ¬ k = 25 by omega, show ¬ k = 26 by omega, show ¬ k = 27 by omega, show ¬ k = 28 by omega, show ¬ k = 29 by omega, show ¬ k = 30 by omega, if_false]) rfl (RdI.fr (v := goV v g (i + 5)) (g := g) (hI.go (by omega) h5) rfl rfl rfl rfl rfl rfl rfl) (by rw [List.append_nil]; exact (DrA.person (X := [-17]) hD rfl rfl rfl rfl rfl (fun p hp => by show upd (upd (g 26) d.P _) d.P _ p = g 26 p; rw [upd_off (by omega), upd_off (by omega)]) (by show upd (upd (g 26) d.P _) d.P _ d.P = _; rw [upd_at]; rfl) rfl rfl rfl rfl))
        · skip
          refine z_iconst hZ (pc := 98) (v := 0) dX5_readPerson_98 (by decide) ?_
          refine zr_i hZ (pc := 99) dX5_readPerson_99 FitR.b0 ?_
          have hn2 : ¬ tnC (g 2 (i + 3)) (g 4 (i + 3)) 0 1000 = 0 := bD0 c95
          rw [tnV_n (bD0 c95)]
          exact CP_er (c := tnC (g 2 (i + 3)) (g 4 (i + 3)) 0 1000) (q := i + 3) (by rw [pPerson, if_neg hP6, if_neg (fun z => z hn), if_pos (show g 2 (i + 2) = 10 from c74), if_neg hn2]) (fun k hk => by simp only [goV, va_up, show ¬ k = 2 by omega, show ¬ k = 3 by omega, show ¬ k = 4 by omega, show ¬ k = 5 by omega, show ¬ k = 20 by omega, show ¬ k = 21 by omega, show ¬ k = 22 by omega, show ¬ k = 23 by omega, if_false]) (fun k hk => by simp only [va_up, show ¬ k = 25 by omega, show ¬ k = 26 by omega, show ¬ k = 27 by omega, show ¬ k = 28 by omega, show ¬ k = 29 by omega, show ¬ k = 30 by omega, if_false]) rfl rfl
    · skip
      refine z_iconst hZ (pc := 38) (v := 0) dX5_readPerson_38 (by decide) ?_
      refine zr_i hZ (pc := 39) dX5_readPerson_39 FitR.b0 ?_
      have hn : ¬ thC (g 2 (i + 1)) (g 4 (i + 1)) d.H (-1) = 0 := by rw [← e20]; exact bD0 c35
      rw [tnV_n (bD0 c35)]
      exact CP_er (v2 := goV v g (i + 1)) (q := i + 1) (by rw [pPerson, if_neg hP6, if_pos hn]) FrV.go.two FrG2.rf (by rw [← e20]; rfl) goV_2
  · skip
    have hP6 : 16 ≤ d.P := by
      rcases Nat.lt_or_ge d.P 16 with q | q
      · exact absurd (nI_lt (a := d.P) (b := 16) q (by decide)) c11
      · exact q
    refine z_aload_n hZ (pc := 14) dX5_readPerson_14 rfl ?_
    refine z_iconst hZ (pc := 15) (v := 2) dX5_readPerson_15 (by decide) ?_
    refine cV_i hZ (pc := 16) dX5_readPerson_16 lk_X5_80 mn_X5_refuse mv_X5_refuse (c_X5_refuse) rc_1 rfl rfl (Nat.le_of_ble_eq_true rfl) (by omega) (by decide) (Nat.zero_le _) (Nat.zero_le _) ?_
    refine zr_i hZ (pc := 19) dX5_readPerson_19 FitR.b0 ?_
    exact CP_er (q := i) (by rw [pPerson, if_pos hP6]) FrV2.rf FrG2.rf rfl e2
theorem c_X5_readWalk {l : Launch} {D : va_G} {cA : Nat → ClassId} {o a : Nat → Nat} {v : ZV} {g : ZG} {i m : Nat} {d : Dr} {L : List Int32} {K : Nat} (hI : RdI v g i m L) (hD : DrA d L v g) (hK : DrK d) (hk : g 2 i = 7) (hKl : 3 ≤ K) (hN : ∀ j, j ≤ m → g 2 j = 1 → 0 ≤ g 4 j) : MG l D cA (WC o a cA) yX5_readWalk cX5_readWalk 3 (some .boolean) K [(.ref (o 1))] v g ((CP v g m L (pWalk (g 2) (g 4) d i))) := by
  refine MG.of (by decide) rfl (Nat.le_of_ble_eq_true rfl) (by simp [Value.category]) (fun Z hZ => ?_)
  have e2 : v 2 = nI i := hI.2.2.2.1
  have e3 : v 3 = g 2 i := hI.2.2.2.2.1
  have h7 : m ≤ 700 := hI.2.1
  have e20 : v 20 = d.H := hD.1
  have hlt : i < m := hI.lt (by rw [hk]; decide)
  have hstep : ∀ j, i ≤ j → j ≤ m → ¬ g 2 j = 0 → j < m := fun j h1 h2 h3 => (hI.go h1 h2).lt h3
  refine z_aload_n hZ (pc := 0) dX5_readWalk_0 rfl ?_
  refine z_aload_n hZ (pc := 1) dX5_readWalk_1 rfl ?_
  refine gC_1_2 hZ (pc := 2) fl_X5_25 dX5_readWalk_2 ?_
  refine z_iconst hZ (pc := 5) (v := 1) dX5_readWalk_5 (by decide) ?_
  refine z_iadd hZ (pc := 6) dX5_readWalk_6 ?_
  refine z_top (y := nI (i + 1)) (by rw [e2]; exact nI_1 i) ?_
  refine cV_v hZ (pc := 7) dX5_readWalk_7 lk_X5_48 mn_X5_goTo mv_X5_goTo (c_X5_goTo (j := i + 1) (by omega)) rc_1 rfl rfl (Nat.le_of_ble_eq_true rfl) (by omega) (by decide) (Nat.zero_le _) (Nat.zero_le _) ?_
  refine z_aload_n hZ (pc := 10) dX5_readWalk_10 rfl ?_
  refine z_iconst hZ (pc := 11) (v := (-1)) dX5_readWalk_11 (by decide) ?_
  refine cV_i hZ (pc := 12) dX5_readWalk_12 lk_X5_108 mn_X5_takeHouse mv_X5_takeHouse (c_X5_takeHouse (p := -1) (i := i + 1) rfl (fun h => by have := hstep (i + 1) (by omega) (by omega) (by rw [show g 2 (i + 1) = 1 from h]; decide); omega)) rc_1 rfl rfl (Nat.le_of_ble_eq_true rfl) (by omega) (by decide) (Nat.zero_le _) (Nat.zero_le _) ?_
  refine z_if_ne hZ (pc := 15) (tgt := 20) dX5_readWalk_15 rfl (fun c15 => ?_) (fun c15 => ?_)
  · skip
    have hn : thC (g 2 (i + 1)) (g 4 (i + 1)) d.H (-1) = 0 := by rw [← e20]; exact bD1 c15
    have h2 := hstep (i + 1) (by omega) hlt (by rw [(thC_of hn).1]; decide)
    rw [tnV_0 (bD1 c15)]
    obtain ⟨x, hx, hxe⟩ := num_lt (hN (i + 1) hlt (thC_of hn).1) (thC_of hn).2.1 hK.2.1
    refine z_aload_n hZ (pc := 20) dX5_readWalk_20 rfl ?_
    refine gC_1_5 hZ (pc := 21) fl_X5_35 dX5_readWalk_21 ?_
    refine z_top (y := nI x) hxe ?_
    refine q_istore_n_3_1 hZ (pc := 24) dX5_readWalk_24 rfl ?_
    refine z_aload_n hZ (pc := 25) dX5_readWalk_25 rfl ?_
    refine z_iload_n hZ (pc := 26) dX5_readWalk_26 rfl ?_
    refine cV_i hZ (pc := 27) dX5_readWalk_27 lk_X5_108 mn_X5_takeHouse mv_X5_takeHouse (c_X5_takeHouse (i := i + 2) rfl (fun h => by have := hstep (i + 2) (by omega) (by omega) (by rw [show g 2 (i + 2) = 1 from h]; decide); omega)) rc_1 rfl rfl (Nat.le_of_ble_eq_true rfl) (by omega) (by decide) (Nat.zero_le _) (Nat.zero_le _) ?_
    refine z_if_ne hZ (pc := 30) (tgt := 35) dX5_readWalk_30 rfl (fun c30 => ?_) (fun c30 => ?_)
    · skip
      have hn2 : thC (g 2 (i + 2)) (g 4 (i + 2)) d.H (nI x) = 0 := by rw [← e20]; exact bD1 c30
      have h3 := hstep (i + 2) (by omega) h2 (by rw [(thC_of hn2).1]; decide)
      rw [tnV_0 (bD1 c30)]
      obtain ⟨y, hy, hye⟩ := num_lt (hN (i + 2) h2 (thC_of hn2).1) (thC_of hn2).2.1 hK.2.1
      refine z_aload_n hZ (pc := 35) dX5_readWalk_35 rfl ?_
      refine gC_1_5 hZ (pc := 36) fl_X5_35 dX5_readWalk_36 ?_
      refine z_top (y := nI y) hye ?_
      refine q_istore_n_3_2 hZ (pc := 39) dX5_readWalk_39 rfl ?_
      refine z_aload_n hZ (pc := 40) dX5_readWalk_40 rfl ?_
      refine z_iconst hZ (pc := 41) (v := 1) dX5_readWalk_41 (by decide) ?_
      refine z_bipush hZ (pc := 42) (v := 99) dX5_readWalk_42 (by decide) ?_
      refine cV_i hZ (pc := 44) dX5_readWalk_44 lk_X5_99 mn_X5_takeNumber mv_X5_takeNumber (c_X5_takeNumber (p := 1) (q := 99) (i := i + 3) rfl (fun h => by have := hstep (i + 3) (by omega) (by omega) (by rw [show g 2 (i + 3) = 1 from h]; decide); omega)) rc_1 rfl rfl (Nat.le_of_ble_eq_true rfl) (by omega) (by decide) (Nat.zero_le _) (Nat.zero_le _) ?_
      refine z_if_ne hZ (pc := 47) (tgt := 52) dX5_readWalk_47 rfl (fun c47 => ?_) (fun c47 => ?_)
      · skip
        have hn3 : tnC (g 2 (i + 3)) (g 4 (i + 3)) 1 99 = 0 := bD1 c47
        have h4 := hstep (i + 3) (by omega) h3 (by rw [(tnC_of hn3).1]; decide)
        rw [tnV_0 (bD1 c47)]
        refine z_aload_n hZ (pc := 52) dX5_readWalk_52 rfl ?_
        refine gC_1_1 hZ (pc := 53) fl_X5_21 dX5_readWalk_53 ?_
        refine z_iload_n hZ (pc := 56) dX5_readWalk_56 rfl ?_
        refine z_iload_n hZ (pc := 57) dX5_readWalk_57 rfl ?_
        refine z_aload_n hZ (pc := 58) dX5_readWalk_58 rfl ?_
        refine gC_1_5 hZ (pc := 59) fl_X5_35 dX5_readWalk_59 ?_
        refine cV_v hZ (pc := 62) dX5_readWalk_62 lk_X5_124 mn_X0_setWalk mv_X0_setWalk (c_X0_setWalk hx hy) rc_6 rfl rfl (Nat.le_of_ble_eq_true rfl) (by omega) (by decide) (Nat.zero_le _) (Nat.zero_le _) ?_
        refine z_iconst hZ (pc := 65) (v := 1) dX5_readWalk_65 (by decide) ?_
        refine zr_i hZ (pc := 66) dX5_readWalk_66 FitR.b1 ?_
        exact CP_ok (j := i + 4) (by rw [pWalk, if_neg (fun z => z hn), hxe, if_neg (fun z => z hn2), if_neg (fun z => z hn3), hye, nI_clamp (by omega), nI_clamp (by omega)]) (fun k hk => by simp only [goV, va_up, show ¬ k = 2 by omega, show ¬ k = 3 by omega, show ¬ k = 4 by omega, show ¬ k = 5 by omega, show ¬ k = 20 by omega, show ¬ k = 21 by omega, show ¬ k = 22 by omega, show ¬ k = 23 by omega, if_false]) (fun k hk => by simp only [va_up, show ¬ k = 25 by omega, show ¬ k = 26 by omega, show ¬ k = 27 by omega, show ¬ k = 28 by omega, show ¬ k = 29 by omega, show ¬ k = 30 by omega, if_false]) rfl (RdI.fr (v := goV v g (i + 4)) (g := g) (hI.go (by omega) h4) rfl rfl rfl rfl rfl rfl rfl) (by rw [List.append_nil]; exact DrA.walk hD hx hy (fun k h1 h2 => by simp only [goV, va_up, show ¬ k = 2 by omega, show ¬ k = 3 by omega, show ¬ k = 4 by omega, show ¬ k = 5 by omega, if_false]) rfl (fun k h1 h2 h3 => up_off h3))
      · skip
        refine z_iconst hZ (pc := 50) (v := 0) dX5_readWalk_50 (by decide) ?_
        refine zr_i hZ (pc := 51) dX5_readWalk_51 FitR.b0 ?_
        have hn3 : ¬ tnC (g 2 (i + 3)) (g 4 (i + 3)) 1 99 = 0 := bD0 c47
        rw [tnV_n (bD0 c47)]
        exact CP_er (c := tnC (g 2 (i + 3)) (g 4 (i + 3)) 1 99) (q := i + 3) (by rw [pWalk, if_neg (fun z => z hn), hxe, if_neg (fun z => z hn2), if_pos hn3]) (fun k hk => by simp only [goV, va_up, show ¬ k = 2 by omega, show ¬ k = 3 by omega, show ¬ k = 4 by omega, show ¬ k = 5 by omega, show ¬ k = 20 by omega, show ¬ k = 21 by omega, show ¬ k = 22 by omega, show ¬ k = 23 by omega, if_false]) FrG2.rf rfl rfl
    · skip
      refine z_iconst hZ (pc := 33) (v := 0) dX5_readWalk_33 (by decide) ?_
      refine zr_i hZ (pc := 34) dX5_readWalk_34 FitR.b0 ?_
      have hn2 : ¬ thC (g 2 (i + 2)) (g 4 (i + 2)) d.H (nI x) = 0 := by rw [← e20]; exact bD0 c30
      rw [tnV_n (bD0 c30)]
      exact CP_er (q := i + 2) (by rw [pWalk, if_neg (fun z => z hn), hxe, if_pos hn2]) (fun k hk => by simp only [goV, va_up, show ¬ k = 2 by omega, show ¬ k = 3 by omega, show ¬ k = 4 by omega, show ¬ k = 5 by omega, show ¬ k = 20 by omega, show ¬ k = 21 by omega, show ¬ k = 22 by omega, show ¬ k = 23 by omega, if_false]) FrG2.rf (by rw [← e20]; rfl) rfl
  · skip
    refine z_iconst hZ (pc := 18) (v := 0) dX5_readWalk_18 (by decide) ?_
    refine zr_i hZ (pc := 19) dX5_readWalk_19 FitR.b0 ?_
    have hn : ¬ thC (g 2 (i + 1)) (g 4 (i + 1)) d.H (-1) = 0 := by rw [← e20]; exact bD0 c15
    rw [tnV_n (bD0 c15)]
    exact CP_er (v2 := goV v g (i + 1)) (q := i + 1) (by rw [pWalk, if_pos hn]) FrV.go.two FrG2.rf (by rw [← e20]; rfl) goV_2
theorem c_X5_beginRule {l : Launch} {D : va_G} {cA : Nat → ClassId} {o a : Nat → Nat} {v : ZV} {g : ZG} {i n K : Nat} (e2 : v 2 = nI i) (hn : v 22 = nI n) (hi : i < 700) (hn2 : n < 100) (hKl : 3 ≤ K) : MG l D cA (WC o a cA) yX5_beginRule cX5_beginRule 1 (some .boolean) K [(.ref (o 1))] v g (fun v2 g2 r => r = some (.int (bI (decide (n < 4)))) ∧ (n < 4 → v2 = va_up (goV v g (i + 1)) 22 (nI (n + 1)) ∧ g2 = va_up g 29 (upd (g 29) n (v 24))) ∧ (¬ n < 4 → v2 = va_up v 6 2 ∧ g2 = g)) := by
  refine MG.of (by decide) rfl (Nat.le_of_ble_eq_true rfl) (by simp [Value.category]) (fun Z hZ => ?_)
  refine z_aload_n hZ (pc := 0) dX5_beginRule_0 rfl ?_
  refine gC_1_1 hZ (pc := 1) fl_X5_21 dX5_beginRule_1 ?_
  refine gC_6_2 hZ (pc := 4) fl_X5_128 dX5_beginRule_4 ?_
  refine z_top hn ?_
  refine z_iconst hZ (pc := 7) (v := 4) dX5_beginRule_7 (by decide) ?_
  refine z_icmp_lt hZ (pc := 8) (tgt := 17) dX5_beginRule_8 rfl (fun c8 => ?_) (fun c8 => ?_)
  · skip
    have hc : n < 4 := by
      rcases Nat.lt_or_ge n 4 with q | q
      · exact q
      · exact absurd c8 (Int32.not_lt.mpr (nI_le (a := 4) (b := n) q (by omega)))
    refine z_aload_n hZ (pc := 17) dX5_beginRule_17 rfl ?_
    refine z_aload_n hZ (pc := 18) dX5_beginRule_18 rfl ?_
    refine gC_1_2 hZ (pc := 19) fl_X5_25 dX5_beginRule_19 ?_
    refine z_iconst hZ (pc := 22) (v := 1) dX5_beginRule_22 (by decide) ?_
    refine z_iadd hZ (pc := 23) dX5_beginRule_23 ?_
    refine z_top (y := nI (i + 1)) (by rw [e2]; exact nI_1 i) ?_
    refine cV_v hZ (pc := 24) dX5_beginRule_24 lk_X5_48 mn_X5_goTo mv_X5_goTo (c_X5_goTo (j := i + 1) (by omega)) rc_1 rfl rfl (Nat.le_of_ble_eq_true rfl) (by omega) (by decide) (Nat.zero_le _) (Nat.zero_le _) ?_
    refine z_aload_n hZ (pc := 27) dX5_beginRule_27 rfl ?_
    refine gC_1_1 hZ (pc := 28) fl_X5_21 dX5_beginRule_28 ?_
    refine gC_6_9 hZ (pc := 31) fl_X5_131 dX5_beginRule_31 ?_
    refine z_aload_n hZ (pc := 34) dX5_beginRule_34 rfl ?_
    refine gC_1_1 hZ (pc := 35) fl_X5_21 dX5_beginRule_35 ?_
    refine gC_6_2 hZ (pc := 38) fl_X5_128 dX5_beginRule_38 ?_
    refine z_top hn ?_
    refine z_aload_n hZ (pc := 41) dX5_beginRule_41 rfl ?_
    refine gC_1_1 hZ (pc := 42) fl_X5_21 dX5_beginRule_42 ?_
    refine gC_6_4 hZ (pc := 45) fl_X5_134 dX5_beginRule_45 ?_
    refine cS_v hZ (pc := 48) dX5_beginRule_48 lk_X5_114 mn_X10_put ms_X10_put (c_X10_putn (j := 29) (n := n) (by decide) (by show n < 4; omega)) rfl rfl (Nat.le_of_ble_eq_true rfl) (by omega) (by decide) (Nat.zero_le _) (Nat.zero_le _) ?_
    refine z_aload_n hZ (pc := 51) dX5_beginRule_51 rfl ?_
    refine gC_1_1 hZ (pc := 52) fl_X5_21 dX5_beginRule_52 ?_
    refine z_dup hZ (pc := 55) dX5_beginRule_55 rfl ?_
    refine gC_6_2 hZ (pc := 56) fl_X5_128 dX5_beginRule_56 ?_
    refine z_iconst hZ (pc := 59) (v := 1) dX5_beginRule_59 (by decide) ?_
    refine z_iadd hZ (pc := 60) dX5_beginRule_60 ?_
    refine z_top (y := nI (n + 1)) (by show v 22 + 1 = _; rw [hn]; exact nI_1 n) ?_
    refine pC_6_2 hZ (pc := 61) fl_X5_128 dX5_beginRule_61 ?_
    refine z_iconst hZ (pc := 64) (v := 1) dX5_beginRule_64 (by decide) ?_
    refine zr_i hZ (pc := 65) dX5_beginRule_65 FitR.b1 ?_
    exact ⟨by rw [decide_eq_true hc]; rfl, fun _ => ⟨rfl, rfl⟩, fun h => absurd hc h⟩
  · skip
    have hc : ¬ n < 4 := fun q => c8 (nI_lt (a := n) (b := 4) q (by decide))
    refine z_aload_n hZ (pc := 11) dX5_beginRule_11 rfl ?_
    refine z_iconst hZ (pc := 12) (v := 2) dX5_beginRule_12 (by decide) ?_
    refine cV_i hZ (pc := 13) dX5_beginRule_13 lk_X5_80 mn_X5_refuse mv_X5_refuse (c_X5_refuse) rc_1 rfl rfl (Nat.le_of_ble_eq_true rfl) (by omega) (by decide) (Nat.zero_le _) (Nat.zero_le _) ?_
    refine zr_i hZ (pc := 16) dX5_beginRule_16 FitR.b0 ?_
    exact ⟨by rw [decide_eq_false hc]; rfl, fun h => absurd h hc, fun _ => ⟨rfl, rfl⟩⟩
theorem c_X5_beginAsk {l : Launch} {D : va_G} {cA : Nat → ClassId} {o a : Nat → Nat} {v : ZV} {g : ZG} {i n K : Nat} (e2 : v 2 = nI i) (hn : v 23 = nI n) (hi : i < 700) (hn2 : n < 100) (hKl : 3 ≤ K) : MG l D cA (WC o a cA) yX5_beginAsk cX5_beginAsk 1 (some .boolean) K [(.ref (o 1))] v g (fun v2 g2 r => r = some (.int (bI (decide (n < 6)))) ∧ (n < 6 → v2 = va_up (goV v g (i + 1)) 23 (nI (n + 1)) ∧ g2 = va_up g 30 (upd (g 30) n (v 24))) ∧ (¬ n < 6 → v2 = va_up v 6 2 ∧ g2 = g)) := by
  refine MG.of (by decide) rfl (Nat.le_of_ble_eq_true rfl) (by simp [Value.category]) (fun Z hZ => ?_)
  refine z_aload_n hZ (pc := 0) dX5_beginAsk_0 rfl ?_
  refine gC_1_1 hZ (pc := 1) fl_X5_21 dX5_beginAsk_1 ?_
  refine gC_6_3 hZ (pc := 4) fl_X5_137 dX5_beginAsk_4 ?_
  refine z_top hn ?_
  refine z_bipush hZ (pc := 7) (v := 6) dX5_beginAsk_7 (by decide) ?_
  refine z_icmp_lt hZ (pc := 9) (tgt := 18) dX5_beginAsk_9 rfl (fun c9 => ?_) (fun c9 => ?_)
  · skip
    have hc : n < 6 := by
      rcases Nat.lt_or_ge n 6 with q | q
      · exact q
      · exact absurd c9 (Int32.not_lt.mpr (nI_le (a := 6) (b := n) q (by omega)))
    refine z_aload_n hZ (pc := 18) dX5_beginAsk_18 rfl ?_
    refine z_aload_n hZ (pc := 19) dX5_beginAsk_19 rfl ?_
    refine gC_1_2 hZ (pc := 20) fl_X5_25 dX5_beginAsk_20 ?_
    refine z_iconst hZ (pc := 23) (v := 1) dX5_beginAsk_23 (by decide) ?_
    refine z_iadd hZ (pc := 24) dX5_beginAsk_24 ?_
    refine z_top (y := nI (i + 1)) (by rw [e2]; exact nI_1 i) ?_
    refine cV_v hZ (pc := 25) dX5_beginAsk_25 lk_X5_48 mn_X5_goTo mv_X5_goTo (c_X5_goTo (j := i + 1) (by omega)) rc_1 rfl rfl (Nat.le_of_ble_eq_true rfl) (by omega) (by decide) (Nat.zero_le _) (Nat.zero_le _) ?_
    refine z_aload_n hZ (pc := 28) dX5_beginAsk_28 rfl ?_
    refine gC_1_1 hZ (pc := 29) fl_X5_21 dX5_beginAsk_29 ?_
    refine gC_6_10 hZ (pc := 32) fl_X5_140 dX5_beginAsk_32 ?_
    refine z_aload_n hZ (pc := 35) dX5_beginAsk_35 rfl ?_
    refine gC_1_1 hZ (pc := 36) fl_X5_21 dX5_beginAsk_36 ?_
    refine gC_6_3 hZ (pc := 39) fl_X5_137 dX5_beginAsk_39 ?_
    refine z_top hn ?_
    refine z_aload_n hZ (pc := 42) dX5_beginAsk_42 rfl ?_
    refine gC_1_1 hZ (pc := 43) fl_X5_21 dX5_beginAsk_43 ?_
    refine gC_6_4 hZ (pc := 46) fl_X5_134 dX5_beginAsk_46 ?_
    refine cS_v hZ (pc := 49) dX5_beginAsk_49 lk_X5_114 mn_X10_put ms_X10_put (c_X10_putn (j := 30) (n := n) (by decide) (by show n < 6; omega)) rfl rfl (Nat.le_of_ble_eq_true rfl) (by omega) (by decide) (Nat.zero_le _) (Nat.zero_le _) ?_
    refine z_aload_n hZ (pc := 52) dX5_beginAsk_52 rfl ?_
    refine gC_1_1 hZ (pc := 53) fl_X5_21 dX5_beginAsk_53 ?_
    refine z_dup hZ (pc := 56) dX5_beginAsk_56 rfl ?_
    refine gC_6_3 hZ (pc := 57) fl_X5_137 dX5_beginAsk_57 ?_
    refine z_iconst hZ (pc := 60) (v := 1) dX5_beginAsk_60 (by decide) ?_
    refine z_iadd hZ (pc := 61) dX5_beginAsk_61 ?_
    refine z_top (y := nI (n + 1)) (by show v 23 + 1 = _; rw [hn]; exact nI_1 n) ?_
    refine pC_6_3 hZ (pc := 62) fl_X5_137 dX5_beginAsk_62 ?_
    refine z_iconst hZ (pc := 65) (v := 1) dX5_beginAsk_65 (by decide) ?_
    refine zr_i hZ (pc := 66) dX5_beginAsk_66 FitR.b1 ?_
    exact ⟨by rw [decide_eq_true hc]; rfl, fun _ => ⟨rfl, rfl⟩, fun h => absurd hc h⟩
  · skip
    have hc : ¬ n < 6 := fun q => c9 (nI_lt (a := n) (b := 6) q (by decide))
    refine z_aload_n hZ (pc := 12) dX5_beginAsk_12 rfl ?_
    refine z_iconst hZ (pc := 13) (v := 2) dX5_beginAsk_13 (by decide) ?_
    refine cV_i hZ (pc := 14) dX5_beginAsk_14 lk_X5_80 mn_X5_refuse mv_X5_refuse (c_X5_refuse) rc_1 rfl rfl (Nat.le_of_ble_eq_true rfl) (by omega) (by decide) (Nat.zero_le _) (Nat.zero_le _) ?_
    refine zr_i hZ (pc := 17) dX5_beginAsk_17 FitR.b0 ?_
    exact ⟨by rw [decide_eq_false hc]; rfl, fun h => absurd h hc, fun _ => ⟨rfl, rfl⟩⟩
