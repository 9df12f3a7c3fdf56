section EX
variable {K N : Nat → Int32}
theorem pP_1 {e i : Nat} : pP K N (6 * e + 1) i = pLev K 4 (pP K N (6 * e)) i := by rw [pP, if_neg (by omega), if_neg (by omega), show 5 - (6 * e + 1) % 6 = 4 by omega]
theorem pP_2 {e i : Nat} : pP K N (6 * e + 2) i = pLev K 3 (pP K N (6 * e + 1)) i := by rw [pP, if_neg (by omega), if_neg (by omega), show 5 - (6 * e + 1 + 1) % 6 = 3 by omega]
theorem pP_3 {e i : Nat} : pP K N (6 * e + 3) i = pTest K (pP K N (6 * e + 2)) i := by rw [pP, if_neg (by omega), if_pos (by omega)]
theorem pP_4 {e i : Nat} : pP K N (6 * e + 4) i = pLev K 1 (pP K N (6 * e + 3)) i := by rw [pP, if_neg (by omega), if_neg (by omega), show 5 - (6 * e + 3 + 1) % 6 = 1 by omega]
theorem pP_5 {e i : Nat} : pP K N (6 * e + 5) i = pLev K 0 (pP K N (6 * e + 4)) i := by rw [pP, if_neg (by omega), if_neg (by omega), show 5 - (6 * e + 4 + 1) % 6 = 0 by omega]
theorem pP_00 {i : Nat} : pP K N 0 i = pPartM K N (deepM K) i := by rw [pP, pPartM_5 (Nat.le_refl 5)]
theorem pP_6 {e i : Nat} (he : e < 5) : pP K N (6 * (e + 1)) i = pPartM K N (pP K N (6 * e + 5)) i := by
  rw [show 6 * (e + 1) = 6 * e + 5 + 1 by omega, pP, if_pos (by omega), pPartM_lt (d := 5 - (6 * e + 5 + 1) / 6) (by omega)]
end EX
theorem deep_prg {K : Nat → Int32} {m q : Nat} (hq : q ≤ m) : Prg m q (deepM K q) := by
  unfold deepM
  split
  · exact ⟨hq, Or.inr (Or.inl rfl)⟩
  · exact ⟨hq, Or.inl rfl⟩
section EXM
variable {l : Launch} {D : va_G} {cA : Nat → ClassId} {aK aV : Nat → Nat} {r : Nat} {a : Nat → Nat} {s0 s1 : Nat → Option Nat} {t : Nat → Int32} {n m : Nat} {K N : Nat → Int32}
theorem readEx_up (hG : GM t n m K N) {e d k : Nat} (hd : d ≤ 5) (hk : 20 ≤ k) (hp : NC l D cA aK aV r a s0 s1 yX11_readPart cX11_readPart 3 k d t n m (pP K N (6 * e))) : NC l D cA aK aV r a s0 s1 yX11_readExpression cX11_readExpression 3 (k + 5) d t n m (pP K N (6 * e + 5)) := by
  have pr : ∀ x, ∀ q, q ≤ m → Prg m q (pP K N x q) := fun x q hq => pP_prg (N := N) (TK_0 hG.1) x q hq
  have h1 : NC l D cA aK aV r a s0 s1 yX11_readProduct cX11_readProduct 3 (k + 1) d t n m (pP K N (6 * e + 1)) := fun v g i L hM => by
    rw [pP_1]; exact c_X11_readProduct hG hM (by omega) (Nat.le_refl _) hp (pr _)
  have h2 : NC l D cA aK aV r a s0 s1 yX11_readSum cX11_readSum 3 (k + 2) d t n m (pP K N (6 * e + 2)) := fun v g i L hM => by
    rw [pP_2]; exact c_X11_readSum hG hM (by omega) (Nat.le_refl _) h1 (pr _)
  have h3 : NC l D cA aK aV r a s0 s1 yX11_readNot cX11_readNot 4 (k + 3) d t n m (pP K N (6 * e + 3)) := fun v g i L hM => by
    rw [pP_3]; exact c_X11_readNot hG hM (by omega) (Nat.le_refl _) h2 (pr _)
  have h4 : NC l D cA aK aV r a s0 s1 yX11_readAnd cX11_readAnd 2 (k + 4) d t n m (pP K N (6 * e + 4)) := fun v g i L hM => by
    rw [pP_4]; exact c_X11_readAnd hG hM (by omega) (Nat.le_refl _) h3 (pr _)
  exact fun v g i L hM => by
    rw [pP_5]; exact c_X11_readExpression hG hM (by omega) (Nat.le_refl _) h4 (pr _) hd (fun hc => can_er (m := m) _ i hc)
theorem readEx_all (hG : GM t n m K N) (hs1 : ∀ k, k < 7 → s1 k = some (aK k)) : ∀ (e d : Nat), d ≤ 5 → e = 5 - d → NC l D cA aK aV r a s0 s1 yX11_readExpression cX11_readExpression 3 (26 + 6 * e) d t n m (pP K N (6 * e + 5))
  | 0, d, hd, he => by
    obtain rfl : d = 5 := by omega
    refine readEx_up (k := 21) hG hd (by decide) (fun v g i L hM => ?_)
    show MGY l D cA aK aV (WM r a cA s0 s1) yX11_readPart cX11_readPart 3 none 21 _ v g (MRp t n m v g L (pP K N 0 i))
    rw [pP_00]
    exact c_X11_readPart (kk := 20) hG hM hs1 (by decide) (by decide) (fun v g i L hM => c_X11_readExpression_6 hG hM (by decide)) (fun q hq => deep_prg hq)
  | e + 1, d, hd, he => by
    have ih := readEx_all hG hs1 e (d + 1) (by omega) (by omega)
    have h := readEx_up (e := e + 1) (k := 27 + 6 * e) (d := d) hG hd (by omega) (fun v g i L hM => by
      rw [pP_6 (by omega)]
      exact c_X11_readPart hG hM hs1 (by omega) (by omega) ih (fun q hq => pP_prg (N := N) (TK_0 hG.1) _ q hq))
    rw [show 26 + 6 * (e + 1) = 27 + 6 * e + 5 by omega]
    exact h
end EXM
/-! clauses of the reference -/
def SegM (LL : List Int32) (b : Nat) (l : List Int32) : Prop := ∃ L1 L2, LL = L1 ++ (l.map trE ++ L2) ∧ L1.length = b
theorem SegM.app {LL l X : List Int32} {b : Nat} (h : SegM LL b l) : SegM (LL ++ X) b l := by
  obtain ⟨L1, L2, rfl, rfl⟩ := h
  exact ⟨L1, L2 ++ X, by simp only [List.append_assoc], rfl⟩
theorem SegM.new {L l : List Int32} : SegM (L ++ l.map trE) L.length l := ⟨L, [], by rw [List.append_nil], rfl⟩
def DrM (d : Dr) (LL : List Int32) (g : ZG) : Prop := g 3 4 = d.H ∧ g 3 5 = nI d.P ∧ g 3 6 = nI d.R ∧ g 3 7 = nI d.A ∧ (∀ p, p < d.P → g 4 (16 + p) = d.hm p ∧ g 5 (16 + p) = d.ch p ∧ g 7 (16 + p) = d.hi p) ∧ (∀ x y, x < 10 → y < 10 → g 6 (100 + (10 * x + y)) = if x = y then 0 else d.wk (10 * x + y)) ∧ (∀ e, e < d.R → ∃ b, g 8 (10 + e) = nI b ∧ g 9 (10 + e) = nI (b + (d.rs e).length) ∧ SegM LL b (d.rs e)) ∧ (∀ e, e < d.A → ∃ b, g 8 (14 + e) = nI b ∧ g 9 (14 + e) = nI (b + (d.as e).length) ∧ SegM LL b (d.as e))
/-- what the city in force keeps while a text is read -/
def FH (g g2 : ZG) : Prop := (∀ k, (k < 3 ∨ 10 < k) → g2 k = g k) ∧ (∀ k, k < 4 → g2 3 k = g 3 k) ∧ (∀ k, k < 16 → g2 4 k = g 4 k ∧ g2 5 k = g 5 k ∧ g2 7 k = g 7 k) ∧ (∀ k, k < 100 → g2 6 k = g 6 k) ∧ (∀ k, k < 10 → g2 8 k = g 8 k ∧ g2 9 k = g 9 k) ∧ (∀ k, k < 700 → g2 10 k = g 10 k) ∧ ((∀ q, g 7 q = 0 ∨ g 7 q = 1) → ∀ q, g2 7 q = 0 ∨ g2 7 q = 1)
theorem FH.rf {g : ZG} : FH g g := ⟨fun _ _ => rfl, fun _ _ => rfl, fun _ _ => ⟨rfl, rfl, rfl⟩, fun _ _ => rfl, fun _ _ => ⟨rfl, rfl⟩, fun _ _ => rfl, fun h => h⟩
theorem FH.trans {g g2 g3 : ZG} (h : FH g g2) (h2 : FH g2 g3) : FH g g3 :=
  ⟨fun k a => (h2.1 k a).trans (h.1 k a), fun k a => (h2.2.1 k a).trans (h.2.1 k a), fun k a => ⟨(h2.2.2.1 k a).1.trans (h.2.2.1 k a).1, (h2.2.2.1 k a).2.1.trans (h.2.2.1 k a).2.1, (h2.2.2.1 k a).2.2.trans (h.2.2.1 k a).2.2⟩, fun k a => (h2.2.2.2.1 k a).trans (h.2.2.2.1 k a), fun k a => ⟨(h2.2.2.2.2.1 k a).1.trans (h.2.2.2.2.1 k a).1, (h2.2.2.2.2.1 k a).2.trans (h.2.2.2.2.1 k a).2⟩, fun k a => (h2.2.2.2.2.2.1 k a).trans (h.2.2.2.2.2.1 k a), fun a => h2.2.2.2.2.2.2 (h.2.2.2.2.2.2 a)⟩
theorem FMg.fh {g g2 : ZG} (h : FMg g g2) : FH g g2 := ⟨fun k a => h.1 k (by omega), fun k _ => by rw [h.1 3 (by decide)], fun k _ => ⟨by rw [h.1 4 (by decide)], by rw [h.1 5 (by decide)], by rw [h.1 7 (by decide)]⟩, fun k _ => by rw [h.1 6 (by decide)], fun k _ => ⟨by rw [h.1 8 (by decide)], by rw [h.1 9 (by decide)]⟩, h.2, fun a => by rw [h.1 7 (by decide)]; exact a⟩
theorem FH.u3 {g : ZG} {j : Nat} {x : Int32} (h : 4 ≤ j) : FH g (va_up g 3 (upd (g 3) j x)) := ⟨fun k a => up_off (by omega), fun k a => by rw [up_at, upd_off (by omega)], fun k a => ⟨by rw [up_off (by decide)], by rw [up_off (by decide)], by rw [up_off (by decide)]⟩, fun k a => by rw [up_off (by decide)], fun k a => ⟨by rw [up_off (by decide)], by rw [up_off (by decide)]⟩, fun k a => by rw [up_off (by decide)], fun a => by rw [up_off (by decide)]; exact a⟩
theorem FH.u4 {g : ZG} {j : Nat} {x : Int32} (h : 16 ≤ j) : FH g (va_up g 4 (upd (g 4) j x)) := ⟨fun k a => up_off (by omega), fun k a => by rw [up_off (by decide)], fun k a => ⟨by rw [up_at, upd_off (by omega)], by rw [up_off (by decide)], by rw [up_off (by decide)]⟩, fun k a => by rw [up_off (by decide)], fun k a => ⟨by rw [up_off (by decide)], by rw [up_off (by decide)]⟩, fun k a => by rw [up_off (by decide)], fun a => by rw [up_off (by decide)]; exact a⟩
theorem FH.u5 {g : ZG} {j : Nat} {x : Int32} (h : 16 ≤ j) : FH g (va_up g 5 (upd (g 5) j x)) := ⟨fun k a => up_off (by omega), fun k a => by rw [up_off (by decide)], fun k a => ⟨by rw [up_off (by decide)], by rw [up_at, upd_off (by omega)], by rw [up_off (by decide)]⟩, fun k a => by rw [up_off (by decide)], fun k a => ⟨by rw [up_off (by decide)], by rw [up_off (by decide)]⟩, fun k a => by rw [up_off (by decide)], fun a => by rw [up_off (by decide)]; exact a⟩
theorem FH.u7 {g : ZG} {j : Nat} {x : Int32} (h : 16 ≤ j) (hx : x = 0 ∨ x = 1 := by first | exact Or.inl rfl | exact Or.inr rfl) : FH g (va_up g 7 (upd (g 7) j x)) := ⟨fun k a => up_off (by omega), fun k a => by rw [up_off (by decide)], fun k a => ⟨by rw [up_off (by decide)], by rw [up_off (by decide)], by rw [up_at, upd_off (by omega)]⟩, fun k a => by rw [up_off (by decide)], fun k a => ⟨by rw [up_off (by decide)], by rw [up_off (by decide)]⟩, fun k a => by rw [up_off (by decide)], fun a q => by
    rw [up_at]
    by_cases e : q = j
    · rw [e, upd_at]; exact hx
    · rw [upd_off e]; exact a q⟩
theorem FH.u6 {g : ZG} {j : Nat} {x : Int32} (h : 100 ≤ j) : FH g (va_up g 6 (upd (g 6) j x)) := ⟨fun k a => up_off (by omega), fun k a => by rw [up_off (by decide)], fun k a => ⟨by rw [up_off (by decide)], by rw [up_off (by decide)], by rw [up_off (by decide)]⟩, fun k a => by rw [up_at, upd_off (by omega)], fun k a => ⟨by rw [up_off (by decide)], by rw [up_off (by decide)]⟩, fun k a => by rw [up_off (by decide)], fun a => by rw [up_off (by decide)]; exact a⟩
theorem FH.u8 {g : ZG} {j : Nat} {x : Int32} (h : 10 ≤ j) : FH g (va_up g 8 (upd (g 8) j x)) := ⟨fun k a => up_off (by omega), fun k a => by rw [up_off (by decide)], fun k a => ⟨by rw [up_off (by decide)], by rw [up_off (by decide)], by rw [up_off (by decide)]⟩, fun k a => by rw [up_off (by decide)], fun k a => ⟨by rw [up_at, upd_off (by omega)], by rw [up_off (by decide)]⟩, fun k a => by rw [up_off (by decide)], fun a => by rw [up_off (by decide)]; exact a⟩
theorem FH.u9 {g : ZG} {j : Nat} {x : Int32} (h : 10 ≤ j) : FH g (va_up g 9 (upd (g 9) j x)) := ⟨fun k a => up_off (by omega), fun k a => by rw [up_off (by decide)], fun k a => ⟨by rw [up_off (by decide)], by rw [up_off (by decide)], by rw [up_off (by decide)]⟩, fun k a => by rw [up_off (by decide)], fun k a => ⟨by rw [up_off (by decide)], by rw [up_at, upd_off (by omega)]⟩, fun k a => by rw [up_off (by decide)], fun a => by rw [up_off (by decide)]; exact a⟩
theorem MI.fr {t : Nat → Int32} {n m i : Nat} {v : ZV} {g g2 : ZG} {L : List Int32} (h : MI t n m v g i L) (h1 : g2 24 = g 24) (h2 : g2 10 = g 10) : MI t n m v g2 i L := by
  obtain ⟨a1, a2, a3, a4, a5, a6, a7⟩ := h
  exact ⟨by rw [h1]; exact a1, a2, a3, a4, a5, CdM_same a6 rfl h2, a7⟩
def CMR (t : Nat → Int32) (n m : Nat) (L : List Int32) (v2 : ZV) (g2 : ZG) : PC → Prop
  | Sum.inl (c, q) => v2 32 = c ∧ v2 33 = nI (tokS t n q)
  | Sum.inr (j, d') => ∃ l, MI t n m v2 g2 j (L ++ l) ∧ DrM d' (L ++ l) g2
def CMp (t : Nat → Int32) (n m : Nat) (v : ZV) (g : ZG) (L : List Int32) (res : PC) : ZV → ZG → Option Value → Prop := fun v2 g2 r => r = none ∧ FM v v2 ∧ FH g g2 ∧ CMR t n m L v2 g2 res
theorem CMp_er {t : Nat → Int32} {n m q : Nat} {v v2 : ZV} {g g2 : ZG} {L : List Int32} {res : PC} {c : Int32} (he : res = .er c q) (h1 : FM v v2) (h2 : FH g g2) (h3 : v2 32 = c) (h4 : v2 33 = nI (tokS t n q)) : CMp t n m v g L res v2 g2 none := by
  subst he
  exact ⟨rfl, h1, h2, h3, h4⟩
theorem CMp_ok {t : Nat → Int32} {n m j : Nat} {v v2 : ZV} {g g2 : ZG} {L l : List Int32} {res : PC} {d' : Dr} (he : res = .ok j d') (h1 : FM v v2) (h2 : FH g g2) (h3 : MI t n m v2 g2 j (L ++ l)) (h4 : DrM d' (L ++ l) g2) : CMp t n m v g L res v2 g2 none := by
  subst he
  exact ⟨rfl, h1, h2, l, h3, h4⟩
theorem DrM.person {d : Dr} {LL : List Int32} {g g2 : ZG} {h c b : Int32} (hD : DrM d LL g) (h3 : g2 3 = upd (g 3) 5 (nI (d.P + 1))) (g4 : g2 4 = upd (g 4) (16 + d.P) h) (g5 : ∀ p, p < d.P → g2 5 (16 + p) = g 5 (16 + p)) (g5' : g2 5 (16 + d.P) = c) (g7 : g2 7 = upd (g 7) (16 + d.P) b) (g6 : g2 6 = g 6) (g8 : g2 8 = g 8) (g9 : g2 9 = g 9) : DrM (addP d h c b) LL g2 := by
  obtain ⟨a1, a2, a3, a4, a5, a6, a7, a8⟩ := hD
  refine ⟨by rw [h3, upd_off (by decide)]; exact a1, by rw [h3, upd_at]; rfl, by rw [h3, upd_off (by decide)]; exact a3, by rw [h3, upd_off (by decide)]; exact a4, fun p hp => ?_, by rw [g6]; exact a6, by rw [g8, g9]; exact a7, by rw [g8, g9]; exact a8⟩
  show g2 4 (16 + p) = upd d.hm d.P h p ∧ g2 5 (16 + p) = upd d.ch d.P c p ∧ g2 7 (16 + p) = upd d.hi d.P b p
  rw [g4, g7]
  rcases Nat.lt_or_ge p d.P with q | q
  · rw [upd_off (by omega), upd_off (by omega), upd_off (by omega), upd_off (by omega), upd_off (by omega), g5 p q]
    exact a5 p q
  · have e : p = d.P := by have : p < d.P + 1 := hp; omega
    subst e
    rw [upd_at, upd_at, upd_at, upd_at, upd_at]
    exact ⟨rfl, g5', rfl⟩
theorem DrM.walk {d : Dr} {LL : List Int32} {g g2 : ZG} {x y : Nat} {z : Int32} (hD : DrM d LL g) (hx : x < 10) (hy : y < 10) (hxy : x ≠ y) (h6 : g2 6 = upd (upd (g 6) (100 + (10 * x + y)) z) (100 + (10 * y + x)) z) (hg : ∀ k, k ≠ 6 → g2 k = g k) : DrM (d.sW (upd (upd d.wk (10 * x + y) z) (10 * y + x) z)) LL g2 := by
  obtain ⟨a1, a2, a3, a4, a5, a6, a7, a8⟩ := hD
  refine ⟨by rw [hg 3 (by decide)]; exact a1, by rw [hg 3 (by decide)]; exact a2, by rw [hg 3 (by decide)]; exact a3, by rw [hg 3 (by decide)]; exact a4, by rw [hg 4 (by decide), hg 5 (by decide), hg 7 (by decide)]; exact a5, fun x' y' hx' hy' => ?_, by rw [hg 8 (by decide), hg 9 (by decide)]; exact a7, by rw [hg 8 (by decide), hg 9 (by decide)]; exact a8⟩
  rw [h6]
  show upd (upd (g 6) (100 + (10 * x + y)) z) (100 + (10 * y + x)) z (100 + (10 * x' + y')) = if x' = y' then 0 else upd (upd d.wk (10 * x + y) z) (10 * y + x) z (10 * x' + y')
  unfold upd
  by_cases e1 : x' = y ∧ y' = x
  · obtain ⟨rfl, rfl⟩ := e1
    rw [if_pos rfl, if_neg (Ne.symm hxy), if_pos rfl]
  · rw [if_neg (show ¬ 100 + (10 * x' + y') = 100 + (10 * y + x) by omega), if_neg (show ¬ 10 * x' + y' = 10 * y + x by omega)]
    by_cases e2 : x' = x ∧ y' = y
    · obtain ⟨rfl, rfl⟩ := e2
      rw [if_pos rfl, if_neg hxy, if_pos rfl]
    · rw [if_neg (show ¬ 100 + (10 * x' + y') = 100 + (10 * x + y) by omega), if_neg (show ¬ 10 * x' + y' = 10 * x + y by omega)]
      exact a6 x' y' hx' hy'
