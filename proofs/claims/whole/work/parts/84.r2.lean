/-! the pure parser -/
def PR : Type := Sum (Nat × Nat) (Nat × List Int32)
def PR.er (c i : Nat) : PR := Sum.inl (c, i)
def PR.ok (j : Nat) (l : List Int32) : PR := Sum.inr (j, l)
def PR.fine : PR → Bool
  | Sum.inl _ => false
  | Sum.inr _ => true
def PR.bind (r : PR) (f : Nat → List Int32 → PR) : PR := match r with
  | Sum.inl (c, i) => PR.er c i
  | Sum.inr (j, l) => f j l
theorem PR.el {motive : PR → Prop} (r : PR) (er : ∀ c i, motive (.er c i)) (ok : ∀ j l, motive (.ok j l)) : motive r := match r with
  | Sum.inl (c, i) => er c i
  | Sum.inr (j, l) => ok j l
theorem PR.of_ok {r : PR} (h : r.fine = true) : ∃ j l, r = .ok j l := by
  induction r using PR.el with
  | er c i => cases h
  | ok j l => exact ⟨j, l, rfl⟩
theorem PR.of_er {r : PR} (h : r.fine = false) : ∃ c i, r = .er c i := by
  induction r using PR.el with
  | er c i => exact ⟨c, i, rfl⟩
  | ok j l => cases h
def pLoop (K : Nat → Int32) (lv : Nat) (rec : Nat → PR) : Nat → Nat → List Int32 → PR
  | 0, j, l => .ok j l
  | f + 1, j, l => if jnK lv (K j) = true then (rec (j + 1)).bind (fun j2 l2 => pLoop K lv rec f j2 (l ++ l2 ++ [K j])) else .ok j l
def pLev (K : Nat → Int32) (lv : Nat) (rec : Nat → PR) (i : Nat) : PR := (rec i).bind (fun j l => pLoop K lv rec 700 j l)
def notsN (K : Nat → Int32) (i : Nat) : Nat := fa_first (fun k => decide (¬ K (i + k) = -8)) 6
def pTest (K : Nat → Int32) (rec : Nat → PR) (i : Nat) : PR :=
  if K (i + notsN K i) = -8 then .er 2 (i + notsN K i)
  else (rec (i + notsN K i)).bind (fun j l => if jnK 2 (K j) = true then (rec (j + 1)).bind (fun j2 l2 => .ok j2 (l ++ l2 ++ [K j] ++ List.replicate (notsN K i) (-8))) else .ok j (l ++ List.replicate (notsN K i) (-8)))
def canK (k : Int32) : Bool := decide (k = 1) || (decide (k = 4) || isWdK k)
def pPart (K N : Nat → Int32) (d : Nat) (rec : Nat → PR) (i : Nat) : PR :=
  if K i = 1 then (if tnC 1 (N i) 0 9999 = 0 then .ok (i + 1) [N i] else .er 2 i)
  else if K i ≤ -1 ∧ ¬ K i ≤ -8 then .ok (i + 1) [K i]
  else if isWdK (K i) = true then .er 3 i
  else if ¬ K i = 4 then .er 1 i
  else if 5 ≤ d then (if canK (K (i + 1)) = true then .er 2 (i + 1) else .er 1 (i + 1))
  else (rec (i + 1)).bind (fun j l => if K j = 5 then .ok (j + 1) l else .er 1 j)
def pP (K N : Nat → Int32) : Nat → Nat → PR
  | 0, i => pPart K N 5 (fun i => .er 0 i) i
  | n + 1, i => if (n + 1) % 6 = 0 then pPart K N (5 - (n + 1) / 6) (pP K N n) i else if (n + 1) % 6 = 3 then pTest K (pP K N n) i else pLev K (5 - (n + 1) % 6) (pP K N n) i
/-- it goes on, and stays in the text -/
def Prg (m i : Nat) : PR → Prop
  | Sum.inl (c, q) => q ≤ m ∧ (c = 1 ∨ c = 2 ∨ c = 3)
  | Sum.inr (j, l) => i < j ∧ j ≤ m ∧ l.length + i ≤ j
theorem k_lt {K : Nat → Int32} {m i : Nat} (hm : K m = 0) (hi : i ≤ m) (h : ¬ K i = 0) : i < m := by
  rcases Nat.lt_or_ge i m with q | q
  · exact q
  · rw [show i = m by omega] at h; exact absurd hm h
theorem jnK_no0 : ∀ lv k, jnK lv k = true → ¬ k = 0 := by
  intro lv k h e
  subst e
  unfold jnK at h
  split at h
  · cases h
  · split at h
    · cases h
    · split at h
      · cases h
      · split at h <;> cases h
theorem pLoop_prg {K : Nat → Int32} {lv m : Nat} {rec : Nat → PR} (hm : K m = 0) (hr : ∀ i, i ≤ m → Prg m i (rec i)) {i0 : Nat} : ∀ (f j : Nat) (l : List Int32), i0 < j → j ≤ m → l.length + i0 ≤ j → Prg m i0 (pLoop K lv rec f j l)
  | 0, j, l, h1, h2, h3 => ⟨h1, h2, h3⟩
  | f + 1, j, l, h1, h2, h3 => by
    unfold pLoop
    split
    · next h =>
      have hj := k_lt hm h2 (jnK_no0 _ _ h)
      have h4 := hr (j + 1) hj
      cases e : rec (j + 1) using PR.el with
      | er c q => rw [e] at h4; exact h4
      | ok j2 l2 =>
        rw [e] at h4
        obtain ⟨g1, g2, g3⟩ := h4
        exact pLoop_prg hm hr f j2 _ (by omega) g2 (by simp only [List.length_append, List.length_cons, List.length_nil]; omega)
    · exact ⟨h1, h2, h3⟩
theorem pLev_prg {K : Nat → Int32} {lv m i : Nat} {rec : Nat → PR} (hm : K m = 0) (hr : ∀ i, i ≤ m → Prg m i (rec i)) (hi : i ≤ m) : Prg m i (pLev K lv rec i) := by
  unfold pLev
  have h := hr i hi
  cases e : rec i using PR.el with
  | er c q => rw [e] at h; exact h
  | ok j l =>
    rw [e] at h
    exact pLoop_prg hm hr 700 j l h.1 h.2.1 h.2.2
theorem nots_yes {K : Nat → Int32} {i k : Nat} (h : k < notsN K i) : K (i + k) = -8 := by
  have := fa_first_no (fun k => decide (¬ K (i + k) = -8)) 6 k h
  simpa using this
theorem nots_le {K : Nat → Int32} {i : Nat} : notsN K i ≤ 6 := fa_first_le _ _
theorem nots_in {K : Nat → Int32} {m i : Nat} (hm : K m = 0) (hi : i ≤ m) : i + notsN K i ≤ m := by
  rcases Nat.lt_or_ge m (i + notsN K i) with q | q
  · have h := nots_yes (K := K) (i := i) (k := m - i) (by omega)
    rw [show i + (m - i) = m by omega, hm] at h
    exact absurd h (by decide)
  · exact q
theorem pTest_prg {K : Nat → Int32} {m i : Nat} {rec : Nat → PR} (hm : K m = 0) (hr : ∀ i, i ≤ m → Prg m i (rec i)) (hi : i ≤ m) : Prg m i (pTest K rec i) := by
  have hin := nots_in hm hi
  unfold pTest
  split
  · exact ⟨hin, Or.inr (Or.inl rfl)⟩
  · have h := hr _ hin
    cases e : rec (i + notsN K i) using PR.el with
    | er c q => rw [e] at h; exact h
    | ok j l =>
      rw [e] at h
      obtain ⟨g1, g2, g3⟩ := h
      show Prg m i (if jnK 2 (K j) = true then _ else _)
      split
      · next h5 =>
        have hj := k_lt hm g2 (jnK_no0 _ _ h5)
        have h4 := hr (j + 1) hj
        cases e2 : rec (j + 1) using PR.el with
        | er c q => rw [e2] at h4; exact h4
        | ok j2 l2 =>
          rw [e2] at h4
          obtain ⟨f1, f2, f3⟩ := h4
          exact ⟨by omega, f2, by simp only [List.length_append, List.length_cons, List.length_nil, List.length_replicate]; omega⟩
      · exact ⟨by omega, g2, by simp only [List.length_append, List.length_replicate]; omega⟩
theorem pPart_prg {K N : Nat → Int32} {d m i : Nat} {rec : Nat → PR} (hm : K m = 0) (hr : d < 5 → ∀ i, i ≤ m → Prg m i (rec i)) (hi : i ≤ m) : Prg m i (pPart K N d rec i) := by
  unfold pPart
  have hlt : ¬ K i = 0 → i < m := k_lt hm hi
  split
  · next h =>
    have := hlt (by rw [h]; decide)
    split
    · exact ⟨by omega, this, by simp only [List.length_cons, List.length_nil]; omega⟩
    · exact ⟨hi, Or.inr (Or.inl rfl)⟩
  · split
    · next h =>
      have := hlt (fun e => by rw [e] at h; exact absurd h.1 (by decide))
      exact ⟨by omega, this, by simp only [List.length_cons, List.length_nil]; omega⟩
    · split
      · exact ⟨hi, Or.inr (Or.inr rfl)⟩
      · split
        · exact ⟨hi, Or.inl rfl⟩
        · next h =>
          have h1 := hlt (fun e => h (by rw [e]; decide))
          split
          · split
            · exact ⟨h1, Or.inr (Or.inl rfl)⟩
            · exact ⟨h1, Or.inl rfl⟩
          · next hd =>
            have h2 := hr (by omega) (i + 1) h1
            cases e : rec (i + 1) using PR.el with
            | er c q => rw [e] at h2; exact h2
            | ok j l =>
              rw [e] at h2
              obtain ⟨f1, f2, f3⟩ := h2
              show Prg m i (if K j = 5 then _ else _)
              split
              · next h5 =>
                have := k_lt hm f2 (by rw [h5]; decide)
                exact ⟨by omega, this, by omega⟩
              · exact ⟨f2, Or.inl rfl⟩
theorem pP_prg {K N : Nat → Int32} {m : Nat} (hm : K m = 0) : ∀ (n i : Nat), i ≤ m → Prg m i (pP K N n i)
  | 0, i, hi => by unfold pP; exact pPart_prg hm (fun h => absurd h (by decide)) hi
  | n + 1, i, hi => by
    unfold pP
    have ih := pP_prg (N := N) hm n
    split
    · exact pPart_prg hm (fun _ => ih) hi
    · split
      · exact pTest_prg hm ih hi
      · exact pLev_prg hm ih hi
/-! what the Reader's methods leave -/
def RdI (v : ZV) (g : ZG) (i m : Nat) (L : List Int32) : Prop := i ≤ m ∧ m ≤ 700 ∧ g 2 m = 0 ∧ v 2 = nI i ∧ v 3 = g 2 i ∧ v 4 = g 4 i ∧ Cd L v g ∧ L.length ≤ i
def FrV (v v2 : ZV) : Prop := ∀ k, (k < 2 ∨ 6 < k) → k ≠ 24 → v2 k = v k
def FrG (g g2 : ZG) : Prop := ∀ k, k ≠ 31 → g2 k = g k
def RdR (v : ZV) (g : ZG) (m : Nat) (L : List Int32) (v2 : ZV) (g2 : ZG) : PR → Prop
  | Sum.inl (c, q) => v2 6 = nI c ∧ v2 2 = nI q
  | Sum.inr (j, l) => v2 6 = v 6 ∧ RdI v2 g2 j m (L ++ l)
def RdP (v : ZV) (g : ZG) (m : Nat) (L : List Int32) (res : PR) : ZV → ZG → Option Value → Prop := fun v2 g2 r => FrV v v2 ∧ FrG g g2 ∧ r = some (.int (bI res.fine)) ∧ RdR v g m L v2 g2 res
theorem FrV.rf {v : ZV} : FrV v v := fun _ _ _ => rfl
theorem FrV.trans {v v2 v3 : ZV} (h : FrV v v2) (h2 : FrV v2 v3) : FrV v v3 := fun k a b => (h2 k a b).trans (h k a b)
theorem FrG.rf {g : ZG} : FrG g g := fun _ _ => rfl
theorem FrG.trans {g g2 g3 : ZG} (h : FrG g g2) (h2 : FrG g2 g3) : FrG g g3 := fun k a => (h2 k a).trans (h k a)
theorem FrV.go {v : ZV} {g : ZG} {j : Nat} : FrV v (goV v g j) := fun k a _ => goV_o (by omega) (by omega) (by omega)
theorem FrV.up {v : ZV} {k : Nat} {x : Int32} (h : (2 ≤ k ∧ k ≤ 6) ∨ k = 24) : FrV v (va_up v k x) := fun j a b => up_off (by omega)
theorem FrG.up {g : ZG} {f : Nat → Int32} : FrG g (va_up g 31 f) := fun j a => up_off a
theorem RdI.go {v : ZV} {g : ZG} {i j m : Nat} {L : List Int32} (h : RdI v g i m L) (h1 : i ≤ j) (h2 : j ≤ m) : RdI (goV v g j) g j m L := by
  obtain ⟨a1, a2, a3, a4, a5, a6, a7, a8⟩ := h
  exact ⟨h2, a2, a3, goV_2, goV_3, goV_4, Cd_same a7 (goV_o (by decide) (by decide) (by decide)) rfl, Nat.le_trans a8 h1⟩
theorem RdI.code {v : ZV} {g : ZG} {i m : Nat} {L : List Int32} {x : Int32} (h : RdI v g i m L) (h1 : L.length < i) : RdI (va_up v 24 (nI (L.length + 1))) (va_up g 31 (upd (g 31) L.length x)) i m (L ++ [x]) := by
  obtain ⟨a1, a2, a3, a4, a5, a6, a7, a8⟩ := h
  exact ⟨a1, a2, by rw [up_off (by decide)]; exact a3, by rw [up_off (by decide)]; exact a4, by rw [up_off (by decide), up_off (by decide)]; exact a5, by rw [up_off (by decide), up_off (by decide)]; exact a6, Cd_add a7, by rw [List.length_append]; exact h1⟩
theorem RdI.five {v : ZV} {g : ZG} {i m : Nat} {L : List Int32} {x : Int32} (h : RdI v g i m L) : RdI (va_up v 5 x) g i m L := by
  obtain ⟨a1, a2, a3, a4, a5, a6, a7, a8⟩ := h
  exact ⟨a1, a2, a3, by rw [up_off (by decide)]; exact a4, by rw [up_off (by decide)]; exact a5, by rw [up_off (by decide)]; exact a6, Cd_same a7 (up_off (by decide)) rfl, a8⟩
/-- an error found here -/
theorem RdP_er {v v2 : ZV} {g g2 : ZG} {m : Nat} {L : List Int32} {res : PR} {c q : Nat} {x : Int32} (he : res = .er c q) (h1 : FrV v v2) (h2 : FrG g g2) (hx : x = nI c) (h4 : v2 2 = nI q) : RdP v g m L res (va_up v2 6 x) g2 (some (.int 0)) := by
  subst he
  exact ⟨h1.trans (FrV.up (by omega)), h2, rfl, by rw [up_at]; exact hx, by rw [up_off (by decide)]; exact h4⟩
theorem RdP_er' {v v2 v3 : ZV} {g g2 g3 : ZG} {m m' : Nat} {L L' : List Int32} {res : PR} {c q : Nat} (he : res = .er c q) (h1 : FrV v v3) (h2 : FrG g g3) (h : RdR v2 g2 m' L' v3 g3 (.er c q)) : RdP v g m L res v3 g3 (some (.int 0)) := by
  subst he
  exact ⟨h1, h2, rfl, h⟩
theorem RdP_ok {v v2 : ZV} {g g2 : ZG} {m : Nat} {L L2 : List Int32} {res : PR} {j : Nat} {l : List Int32} (he : res = .ok j l) (h1 : FrV v v2) (h2 : FrG g g2) (h3 : v2 6 = v 6) (h4 : RdI v2 g2 j m L2) (h5 : L2 = L ++ l) : RdP v g m L res v2 g2 (some (.int 1)) := by
  subst he h5
  exact ⟨h1, h2, rfl, h3, h4⟩
/-- the contract of readLevel, readTest, readPart for one place of the parser -/
abbrev LvC (l : Launch) (D : va_G) (cA : Nat → ClassId) (o a : Nat → Nat) (k lv d : Nat) (rs : (Nat → Int32) → (Nat → Int32) → Nat → PR) : Prop := ∀ (v : ZV) (g : ZG) (i m : Nat) (L : List Int32), RdI v g i m L → MG l D cA (WC o a cA) yX5_readLevel cX5_readLevel 5 (some .boolean) k [.ref (o 1), .int (nI lv), .int (nI d)] v g (RdP v g m L (rs (g 2) (g 4) i))
abbrev TsC (l : Launch) (D : va_G) (cA : Nat → ClassId) (o a : Nat → Nat) (k d : Nat) (rs : (Nat → Int32) → (Nat → Int32) → Nat → PR) : Prop := ∀ (v : ZV) (g : ZG) (i m : Nat) (L : List Int32), RdI v g i m L → MG l D cA (WC o a cA) yX5_readTest cX5_readTest 4 (some .boolean) k [.ref (o 1), .int (nI d)] v g (RdP v g m L (rs (g 2) (g 4) i))
abbrev PtC (l : Launch) (D : va_G) (cA : Nat → ClassId) (o a : Nat → Nat) (k d : Nat) (rs : (Nat → Int32) → (Nat → Int32) → Nat → PR) : Prop := ∀ (v : ZV) (g : ZG) (i m : Nat) (L : List Int32), RdI v g i m L → MG l D cA (WC o a cA) yX5_readPart cX5_readPart 3 (some .boolean) k [.ref (o 1), .int (nI d)] v g (RdP v g m L (rs (g 2) (g 4) i))
