/-! the whole text -/
def dr0 : Dr := mkD 1 0 0 0 (fun _ => 0) (fun _ => 0) (fun _ => 0) (fun _ => 10) (fun _ => []) (fun _ => [])
def PrgC (m i : Nat) : PC → Prop
  | Sum.inl (c, q) => q ≤ m ∧ ¬ c = 0
  | Sum.inr (j, d) => i < j ∧ j ≤ m ∧ DrK d
theorem k_lt2 {K : Nat → Int32} {m i : Nat} (hm : K m = 0) (hi : i ≤ m) (h : K i = 1) : i < m := k_lt hm hi (by rw [h]; decide)
theorem i32_le_tr {a b c : Int32} (h : a ≤ b) (h2 : b ≤ c) : a ≤ c := Int32.le_trans h h2
theorem pHouses_prg {K N : Nat → Int32} {m i : Nat} {d : Dr} (hm : K m = 0) (hi : i < m) (hd : DrK d) : PrgC m i (pHouses K N d i) := by
  unfold pHouses
  split
  · next h =>
    obtain ⟨h1, h2, h3⟩ := tnC_of h
    have := k_lt2 hm hi h1
    exact ⟨by omega, this, h2, h3, hd.2.2⟩
  · next h => exact ⟨hi, h⟩
theorem pHired_prg {K : Nat → Int32} {m i j : Nat} {d : Dr} {h c : Int32} (hm : K m = 0) (hij : i < j) (hj : j ≤ m) (hd : DrK d) (hP : ¬ 16 ≤ d.P) : PrgC m i (pHired K d h c j) := by
  have hk : ∀ b, DrK (addP d h c b) := fun b => ⟨hd.1, hd.2.1, by show d.P + 1 ≤ 16; omega, hd.2.2.2⟩
  unfold pHired
  split
  · next h4 =>
    have := k_lt hm hj (by rw [h4]; decide)
    exact ⟨by omega, this, hk 1⟩
  · exact ⟨hij, hj, hk 0⟩
theorem pPerson_prg {K N : Nat → Int32} {m i : Nat} {d : Dr} (hm : K m = 0) (hi : i < m) (hd : DrK d) : PrgC m i (pPerson K N d i) := by
  unfold pPerson
  split
  · exact ⟨Nat.le_of_lt hi, by decide⟩
  · next hP =>
    split
    · next h => exact ⟨hi, h⟩
    · next h =>
      have h2 := k_lt2 hm hi (thC_of (Decidable.not_not.mp h)).1
      split
      · next h10 =>
        have h3 := k_lt (i := i + 2) hm h2 (by rw [h10]; decide)
        split
        · next h4 =>
          have h5 := k_lt2 (i := i + 3) hm h3 (tnC_of h4).1
          exact pHired_prg hm (by omega) h5 hd hP
        · next h4 => exact ⟨h3, h4⟩
      · exact pHired_prg hm (by omega) h2 hd hP
theorem pWalk_prg {K N : Nat → Int32} {m i : Nat} {d : Dr} (hm : K m = 0) (hi : i < m) (hd : DrK d) : PrgC m i (pWalk K N d i) := by
  unfold pWalk
  split
  · next h => exact ⟨hi, h⟩
  · next h =>
    have h2 := k_lt2 hm hi (thC_of (Decidable.not_not.mp h)).1
    split
    · next h3 => exact ⟨h2, h3⟩
    · next h3 =>
      have h4 := k_lt2 (i := i + 2) hm h2 (thC_of (Decidable.not_not.mp h3)).1
      split
      · next h5 => exact ⟨h4, h5⟩
      · next h5 =>
        have h6 := k_lt2 (i := i + 3) hm h4 (tnC_of (Decidable.not_not.mp h5)).1
        exact ⟨by omega, h6, hd⟩
theorem cN0 {c : Nat} (h : c = 1 ∨ c = 2 ∨ c = 3) : ¬ nI c = 0 := by rcases h with rfl | rfl | rfl <;> decide
theorem pRule_prg {K N : Nat → Int32} {m i : Nat} {d : Dr} (hm : K m = 0) (hi : i < m) (hd : DrK d) : PrgC m i (pRule K N d i) := by
  unfold pRule
  split
  · exact ⟨Nat.le_of_lt hi, by decide⟩
  · next hR =>
    have h := pP_prg (N := N) hm 35 (i + 1) hi
    cases e : pP K N 35 (i + 1) using PR.el with
    | er c q => rw [e] at h; exact ⟨h.1, cN0 h.2⟩
    | ok j l =>
      rw [e] at h
      obtain ⟨h1, h2, -⟩ := h
      exact ⟨by omega, h2, hd.1, hd.2.1, hd.2.2.1, by show d.R + 1 ≤ 4; omega, hd.2.2.2.2⟩
theorem pAsk_prg {K N : Nat → Int32} {m i : Nat} {d : Dr} (hm : K m = 0) (hi : i < m) (hd : DrK d) : PrgC m i (pAsk K N d i) := by
  unfold pAsk
  split
  · exact ⟨Nat.le_of_lt hi, by decide⟩
  · next hR =>
    have h := pP_prg (N := N) hm 35 (i + 1) hi
    cases e : pP K N 35 (i + 1) using PR.el with
    | er c q => rw [e] at h; exact ⟨h.1, cN0 h.2⟩
    | ok j l =>
      rw [e] at h
      obtain ⟨h1, h2, -⟩ := h
      exact ⟨by omega, h2, hd.1, hd.2.1, hd.2.2.1, hd.2.2.2.1, by show d.A + 1 ≤ 6; omega⟩
theorem pClause_prg {K N : Nat → Int32} {m i : Nat} {b : Bool} {d : Dr} (hm : K m = 0) (hi : i < m) (hd : DrK d) : PrgC m i (pClause K N b d i) := by
  unfold pClause
  split
  · split
    · exact pHouses_prg hm hi hd
    · exact ⟨Nat.le_of_lt hi, by decide⟩
  · split
    · exact pPerson_prg hm hi hd
    · split
      · exact pWalk_prg hm hi hd
      · split
        · exact pRule_prg hm hi hd
        · split
          · exact pAsk_prg hm hi hd
          · exact ⟨Nat.le_of_lt hi, by decide⟩
def PrgD (m : Nat) : PC → Prop
  | Sum.inl (c, q) => q ≤ m ∧ ¬ c = 0
  | Sum.inr (j, d) => j ≤ m ∧ DrK d
theorem pCity_prg {K N : Nat → Int32} {m : Nat} (hm : K m = 0) : ∀ (f i : Nat) (b : Bool) (d : Dr), i ≤ m → DrK d → PrgD m (pCity K N f b d i)
  | 0, i, b, d, hi, hd => ⟨hi, hd⟩
  | f + 1, i, b, d, hi, hd => by
    rw [pCity]
    split
    · exact ⟨hi, hd⟩
    · next h0 =>
      have h := pClause_prg (N := N) (b := b) hm (k_lt hm hi h0) hd
      cases e : pClause K N b d i using PC.el with
      | er c q => rw [e] at h; exact h
      | ok j d' =>
        rw [e] at h
        obtain ⟨h1, h2, h3⟩ := h
        show PrgD m (if K j = 3 then pCity K N f false d' (j + 1) else .er 1 j)
        split
        · next h5 => exact pCity_prg hm f (j + 1) false d' (k_lt hm h2 (by rw [h5]; decide)) h3
        · exact ⟨h2, by decide⟩
def CI (m : Nat) (vs : ZV) (gs : ZG) (k : Nat) (b : Bool) (v' : ZV) (g' : ZG) : Prop := FrV2 vs v' ∧ FrG2 gs g' ∧ ((b = true ∧ ∃ (i : Nat) (d : Dr) (L : List Int32), RdI v' g' i m L ∧ DrA d L v' g' ∧ DrK d ∧ pCity (gs 2) (gs 4) 700 true dr0 0 = pCity (gs 2) (gs 4) (700 - k) (decide (k = 0)) d i ∧ v' 6 = 0) ∨ (b = false ∧ ∃ (c : Int32) (q : Nat), pCity (gs 2) (gs 4) 700 true dr0 0 = .er c q ∧ v' 6 = c ∧ v' 2 = nI q))
theorem pCity_step {K N : Nat → Int32} {k i : Nat} {b : Bool} {d : Dr} (hk : k < 700) (h0 : ¬ K i = 0) : pCity K N (700 - k) b d i = match pClause K N b d i with | Sum.inl (c, q) => .er c q | Sum.inr (j, d') => if K j = 3 then pCity K N (700 - (k + 1)) false d' (j + 1) else .er 1 j := by
  rw [show 700 - k = (700 - (k + 1)) + 1 by omega, pCity, if_neg h0]
  rfl
theorem CI_end {m : Nat} {vs v' : ZV} {gs g' : ZG} {k : Nat} {b : Bool} (h : CI m vs gs k b v' g') (hx : k = 700 ∨ b = false ∨ v' 3 = 0) : (match pCity (gs 2) (gs 4) 700 true dr0 0 with | Sum.inl (c, q) => v' 6 = c ∧ v' 2 = nI q | Sum.inr (j, d') => v' 6 = 0 ∧ DrK d' ∧ ∃ L, L.length ≤ 700 ∧ Cd L v' g' ∧ DrA d' L v' g') := by
  obtain ⟨f1, f2, h⟩ := h
  rcases h with ⟨hb, i, d, L, hI, hD, hK, e, h6⟩ | ⟨hb, c, q, e, h6, h2⟩
  · have g2 : g' 2 = gs 2 := f2 2 (by decide)
    have e2 : pCity (gs 2) (gs 4) (700 - k) (decide (k = 0)) d i = .ok i d := by
      rcases hx with hx | hx | hx
      · rw [hx]; rfl
      · rw [hb] at hx; cases hx
      · have h0 : gs 2 i = 0 := by rw [← g2, ← hI.2.2.2.2.1]; exact hx
        rcases Nat.eq_zero_or_pos (700 - k) with q | q
        · rw [q]; rfl
        · rw [show 700 - k = (699 - k) + 1 by omega, pCity, if_pos h0]
    rw [e, e2]
    exact ⟨h6, hK, L, by have a1 := hI.1; have a2 := hI.2.1; have a3 := hI.2.2.2.2.2.2.2; omega, hI.2.2.2.2.2.2.1, hD⟩
  · rw [e]
    exact ⟨h6, h2⟩
/-- which tokens -/
def TK (t : Nat → Int32) (n m : Nat) (K N : Nat → Int32) : Prop := m ≤ n ∧ tokS t n m = n ∧ (∀ i, i < m → tokS t n i < n) ∧ ∀ i, i < m + 1 → K i = tKd t n i ∧ N i = tNm t n i
theorem TK_0 {t : Nat → Int32} {n m : Nat} {K N : Nat → Int32} (h : TK t n m K N) : K m = 0 := by
  rw [(h.2.2.2 m (Nat.lt_succ_self m)).1, tKd, h.2.1, if_neg (Nat.lt_irrefl _)]
/-! the reference's tokens -/
def kcN (j : Nat) : Int32 := [-1, -2, -3, -4, -5, -6, -7, -8, -9, -10, 6, 7, 8, 9, 10].getD j 0
def mkN (j : Nat) : Int32 := [59, 40, 41, 43, 45, 42, 47, 60, 61].getD j 0
def mcN (j : Nat) : Int32 := [3, 4, 5, -13, -14, -15, -16, -11, -12].getD j 0
theorem wk_or (l : List Int32) : (∃ j, j < 15 ∧ l = wr j ∧ wkL l = kcN j) ∨ (wkL l = 11 ∧ ∀ j, j < 15 → ¬ l = wr j) := by
  by_cases h0 : l = wr 0
  · exact Or.inl ⟨0, by decide, h0, by rw [h0]; decide +kernel⟩
  by_cases h1 : l = wr 1
  · exact Or.inl ⟨1, by decide, h1, by rw [h1]; decide +kernel⟩
  by_cases h2 : l = wr 2
  · exact Or.inl ⟨2, by decide, h2, by rw [h2]; decide +kernel⟩
  by_cases h3 : l = wr 3
  · exact Or.inl ⟨3, by decide, h3, by rw [h3]; decide +kernel⟩
  by_cases h4 : l = wr 4
  · exact Or.inl ⟨4, by decide, h4, by rw [h4]; decide +kernel⟩
  by_cases h5 : l = wr 5
  · exact Or.inl ⟨5, by decide, h5, by rw [h5]; decide +kernel⟩
  by_cases h6 : l = wr 6
  · exact Or.inl ⟨6, by decide, h6, by rw [h6]; decide +kernel⟩
  by_cases h7 : l = wr 7
  · exact Or.inl ⟨7, by decide, h7, by rw [h7]; decide +kernel⟩
  by_cases h8 : l = wr 8
  · exact Or.inl ⟨8, by decide, h8, by rw [h8]; decide +kernel⟩
  by_cases h9 : l = wr 9
  · exact Or.inl ⟨9, by decide, h9, by rw [h9]; decide +kernel⟩
  by_cases h10 : l = wr 10
  · exact Or.inl ⟨10, by decide, h10, by rw [h10]; decide +kernel⟩
  by_cases h11 : l = wr 11
  · exact Or.inl ⟨11, by decide, h11, by rw [h11]; decide +kernel⟩
  by_cases h12 : l = wr 12
  · exact Or.inl ⟨12, by decide, h12, by rw [h12]; decide +kernel⟩
  by_cases h13 : l = wr 13
  · exact Or.inl ⟨13, by decide, h13, by rw [h13]; decide +kernel⟩
  by_cases h14 : l = wr 14
  · exact Or.inl ⟨14, by decide, h14, by rw [h14]; decide +kernel⟩
  refine Or.inr ⟨?_, fun j hj => ?_⟩
  · rw [wkL, show kvL l = 11 from by rw [kvL, if_neg h0, if_neg h1, if_neg h2, if_neg h3, if_neg h4, if_neg h5, if_neg h6], if_pos rfl, kwL, if_neg h7, if_neg h8, if_neg h9, if_neg h10, if_neg h11, if_neg h12, if_neg h13, if_neg h14]
  · have : j = 0 ∨ j = 1 ∨ j = 2 ∨ j = 3 ∨ j = 4 ∨ j = 5 ∨ j = 6 ∨ j = 7 ∨ j = 8 ∨ j = 9 ∨ j = 10 ∨ j = 11 ∨ j = 12 ∨ j = 13 ∨ j = 14 := by omega
    rcases this with rfl | rfl | rfl | rfl | rfl | rfl | rfl | rfl | rfl | rfl | rfl | rfl | rfl | rfl | rfl
    · exact h0
    · exact h1
    · exact h2
    · exact h3
    · exact h4
    · exact h5
    · exact h6
    · exact h7
    · exact h8
    · exact h9
    · exact h10
    · exact h11
    · exact h12
    · exact h13
    · exact h14
theorem sg_or (c : Int32) : (∃ j, j < 9 ∧ c = mkN j ∧ sgK c = mcN j) ∨ (sgK c = 2 ∧ ∀ j, j < 9 → ¬ c = mkN j) := by
  by_cases h0 : c = 59
  · exact Or.inl ⟨0, by decide, h0, by rw [h0]; decide +kernel⟩
  by_cases h1 : c = 40
  · exact Or.inl ⟨1, by decide, h1, by rw [h1]; decide +kernel⟩
  by_cases h2 : c = 41
  · exact Or.inl ⟨2, by decide, h2, by rw [h2]; decide +kernel⟩
  by_cases h3 : c = 43
  · exact Or.inl ⟨3, by decide, h3, by rw [h3]; decide +kernel⟩
  by_cases h4 : c = 45
  · exact Or.inl ⟨4, by decide, h4, by rw [h4]; decide +kernel⟩
  by_cases h5 : c = 42
  · exact Or.inl ⟨5, by decide, h5, by rw [h5]; decide +kernel⟩
  by_cases h6 : c = 47
  · exact Or.inl ⟨6, by decide, h6, by rw [h6]; decide +kernel⟩
  by_cases h7 : c = 60
  · exact Or.inl ⟨7, by decide, h7, by rw [h7]; decide +kernel⟩
  by_cases h8 : c = 61
  · exact Or.inl ⟨8, by decide, h8, by rw [h8]; decide +kernel⟩
  refine Or.inr ⟨?_, fun j hj => ?_⟩
  · rw [sgK, if_neg h0, if_neg h1, if_neg h2, if_neg h3, if_neg h4, if_neg h5, if_neg h6, if_neg h7, if_neg h8]
  · have : j = 0 ∨ j = 1 ∨ j = 2 ∨ j = 3 ∨ j = 4 ∨ j = 5 ∨ j = 6 ∨ j = 7 ∨ j = 8 := by omega
    rcases this with rfl | rfl | rfl | rfl | rfl | rfl | rfl | rfl | rfl
    · exact h0
    · exact h1
    · exact h2
    · exact h3
    · exact h4
    · exact h5
    · exact h6
    · exact h7
    · exact h8
theorem kc_wd : ∀ j, j < 15 → isWdK (kcN j) = true := by decide +kernel
theorem kc_inj : ∀ j, j < 15 → ∀ i, i < 15 → kcN i = kcN j → i = j := by decide +kernel
theorem mc_inj : ∀ j, j < 9 → ∀ i, i < 9 → mcN i = mcN j → i = j := by decide +kernel
theorem mc_nw : ∀ j, j < 9 → isWdK (mcN j) = false ∧ ¬ mcN j = 1 ∧ ¬ mcN j = 0 ∧ ¬ mcN j = 2 := by decide +kernel
theorem kc_n : ∀ j, j < 15 → ¬ kcN j = 1 ∧ ¬ kcN j = 0 ∧ ¬ kcN j = 11 ∧ ∀ i, i < 9 → ¬ kcN j = mcN i := by decide +kernel
theorem kc_n2 : ∀ j, j < 15 → ¬ kcN j = 2 := by decide +kernel
theorem mk_inj : ∀ j, j < 9 → ∀ i, i < 9 → mkN i = mkN j → i = j := by decide +kernel
theorem wr_inj : ∀ j, j < 15 → ∀ i, i < 15 → wr i = wr j → i = j := by decide +kernel
theorem mc_n11 : ∀ j, j < 9 → ¬ mcN j = 11 := by decide +kernel
def eNd (t : Nat → Int32) (n s : Nat) : Nat := if s < n then endN t n s else n
def tcM (t : Nat → Int32) (n s : Nat) : Int32 := if s < n then (if inB (t s) 97 122 = true then 1 else if inB (t s) 48 57 = true then 2 else if sgK (t s) = 2 then 4 else 3) else 0
def mkT (t : Nat → Int32) (n s : Nat) (c : Int32) : Bool := decide (tcM t n s = 3) && decide (t s = c)
def isT (t : Nat → Int32) (n s j : Nat) : Bool := decide (tcM t n s = 1) && decide (wdL t s (eNd t n s - s) = wr j)
theorem inB_two {x : Int32} (h : inB x 48 57 = true) : inB x 97 122 = false := by
  obtain ⟨-, h2⟩ := Bool.and_eq_true_iff.mp h
  exact inB_n1 (Int32.lt_of_le_of_lt (of_decide_eq_true h2) (by decide))
/-- what a token may be -/
theorem tc_cases {t : Nat → Int32} {n m i : Nat} {K N : Nat → Int32} (hT : TK t n m K N) (hi : i ≤ m) :
    (K i = 0 ∧ tcM t n (tokS t n i) = 0 ∧ ¬ tokS t n i < n) ∨
    (tokS t n i < n ∧ tcM t n (tokS t n i) = 1 ∧ K i = wkL (wdL t (tokS t n i) (eNd t n (tokS t n i) - tokS t n i))) ∨
    (tokS t n i < n ∧ tcM t n (tokS t n i) = 2 ∧ K i = 1 ∧ N i = numV t (tokS t n i) (eNd t n (tokS t n i)) ∧ inB (t (tokS t n i)) 48 57 = true) ∨
    (tokS t n i < n ∧ tcM t n (tokS t n i) = 3 ∧ ∃ j, j < 9 ∧ t (tokS t n i) = mkN j ∧ K i = mcN j) ∨
    (tokS t n i < n ∧ tcM t n (tokS t n i) = 4 ∧ K i = 2 ∧ ∀ j, j < 9 → ¬ t (tokS t n i) = mkN j) := by
  obtain ⟨hK, hN⟩ := hT.2.2.2 i (Nat.lt_succ_of_le hi)
  rw [tKd] at hK
  rw [tNm] at hN
  by_cases hs : tokS t n i < n
  · rw [if_pos hs, kndK] at hK
    rw [if_pos hs] at hN
    have he : eNd t n (tokS t n i) = endN t n (tokS t n i) := if_pos hs
    rw [he]
    unfold tcM
    rw [if_pos hs]
    by_cases hd : inB (t (tokS t n i)) 48 57 = true
    · rw [if_pos hd] at hK
      exact Or.inr (Or.inr (Or.inl ⟨hs, by rw [if_neg (by rw [inB_two hd]; decide), if_pos hd], hK, hN, hd⟩))
    · rw [if_neg hd] at hK
      by_cases hl : inB (t (tokS t n i)) 97 122 = true
      · rw [if_pos hl] at hK
        exact Or.inr (Or.inl ⟨hs, if_pos hl, hK⟩)
      · rw [if_neg hl] at hK
        rw [if_neg hl, if_neg hd]
        rcases sg_or (t (tokS t n i)) with ⟨j, h1, h2, h3⟩ | ⟨h1, h2⟩
        · exact Or.inr (Or.inr (Or.inr (Or.inl ⟨hs, if_neg (by rw [h3]; exact (mc_nw j h1).2.2.2), j, h1, h2, by rw [hK, h3]⟩)))
        · exact Or.inr (Or.inr (Or.inr (Or.inr ⟨hs, if_pos h1, by rw [hK, h1], h2⟩)))
  · rw [if_neg hs] at hK
    exact Or.inl ⟨hK, by rw [tcM, if_neg hs], hs⟩
theorem wk_not (l : List Int32) : isWdK (wkL l) = true ∧ ¬ wkL l = 1 ∧ ¬ wkL l = 0 ∧ ∀ i, i < 9 → ¬ wkL l = mcN i := by
  rcases wk_or l with ⟨j, h1, -, h3⟩ | ⟨h, -⟩
  · rw [h3]
    exact ⟨kc_wd j h1, (kc_n j h1).1, (kc_n j h1).2.1, (kc_n j h1).2.2.2⟩
  · rw [h]
    exact ⟨by decide, by decide, by decide, fun i hi q => mc_n11 i hi q.symm⟩
section TC
variable {t : Nat → Int32} {n m i : Nat} {K N : Nat → Int32}
theorem tc_0 (hT : TK t n m K N) (hi : i ≤ m) : tcM t n (tokS t n i) = 0 ↔ K i = 0 := by
  rcases tc_cases hT hi with ⟨h1, h2, -⟩ | ⟨-, h2, h3⟩ | ⟨-, h2, h3, -⟩ | ⟨-, h2, j, hj, -, h3⟩ | ⟨-, h2, h3, -⟩
  · rw [h1, h2]
  · rw [h2, h3]; exact ⟨fun q => absurd q (by decide), fun q => absurd q (wk_not _).2.2.1⟩
  · rw [h2, h3]; decide
  · rw [h2, h3]; exact ⟨fun q => absurd q (by decide), fun q => absurd q (mc_nw j hj).2.2.1⟩
  · rw [h2, h3]; decide
theorem tc_2 (hT : TK t n m K N) (hi : i ≤ m) : tcM t n (tokS t n i) = 2 ↔ K i = 1 := by
  rcases tc_cases hT hi with ⟨h1, h2, -⟩ | ⟨-, h2, h3⟩ | ⟨-, h2, h3, -⟩ | ⟨-, h2, j, hj, -, h3⟩ | ⟨-, h2, h3, -⟩
  · rw [h1, h2]; decide
  · rw [h2, h3]; exact ⟨fun q => absurd q (by decide), fun q => absurd q (wk_not _).2.1⟩
  · rw [h2, h3]; decide
  · rw [h2, h3]; exact ⟨fun q => absurd q (by decide), fun q => absurd q (mc_nw j hj).2.1⟩
  · rw [h2, h3]; decide
theorem tc_1 (hT : TK t n m K N) (hi : i ≤ m) : tcM t n (tokS t n i) = 1 ↔ isWdK (K i) = true := by
  rcases tc_cases hT hi with ⟨h1, h2, -⟩ | ⟨-, h2, h3⟩ | ⟨-, h2, h3, -⟩ | ⟨-, h2, j, hj, -, h3⟩ | ⟨-, h2, h3, -⟩
  · rw [h1, h2]; decide
  · rw [h2, h3, (wk_not _).1]; decide
  · rw [h2, h3]; decide
  · rw [h2, h3, (mc_nw j hj).1]; decide
  · rw [h2, h3]; decide
theorem mkT_K (hT : TK t n m K N) (hi : i ≤ m) {j : Nat} (hj : j < 9) : mkT t n (tokS t n i) (mkN j) = decide (K i = mcN j) := by
  unfold mkT
  rcases tc_cases hT hi with ⟨h1, h2, -⟩ | ⟨-, h2, h3⟩ | ⟨-, h2, h3, -⟩ | ⟨-, h2, j2, hj2, h3, h4⟩ | ⟨-, h2, h3, -⟩
  · rw [h1, h2, show decide ((0 : Int32) = mcN j) = false from decide_eq_false (fun q => (mc_nw j hj).2.2.1 q.symm)]; rfl
  · rw [h2, h3, decide_eq_false ((wk_not _).2.2.2 j hj)]; rfl
  · rw [h2, h3, show decide ((1 : Int32) = mcN j) = false from decide_eq_false (fun q => (mc_nw j hj).2.1 q.symm)]; rfl
  · rw [h2, h3, h4]
    by_cases q : j2 = j
    · rw [q, decide_eq_true rfl, decide_eq_true rfl, decide_eq_true rfl]; rfl
    · rw [decide_eq_false (fun z => q (mc_inj j hj j2 hj2 z)), decide_eq_false (fun z => q (mk_inj j hj j2 hj2 z)), Bool.and_false]
  · rw [h2, h3, show decide ((2 : Int32) = mcN j) = false from decide_eq_false (fun q => (mc_nw j hj).2.2.2 q.symm)]; rfl
theorem isT_K (hT : TK t n m K N) (hi : i ≤ m) {j : Nat} (hj : j < 15) : isT t n (tokS t n i) j = decide (K i = kcN j) := by
  unfold isT
  rcases tc_cases hT hi with ⟨h1, h2, -⟩ | ⟨-, h2, h3⟩ | ⟨-, h2, h3, -⟩ | ⟨-, h2, j2, hj2, -, h4⟩ | ⟨-, h2, h3, -⟩
  · rw [h1, h2, show decide ((0 : Int32) = kcN j) = false from decide_eq_false (fun q => (kc_n j hj).2.1 q.symm)]; rfl
  · rw [h2, h3]
    rcases wk_or (wdL t (tokS t n i) (eNd t n (tokS t n i) - tokS t n i)) with ⟨j2, g1, g2, g3⟩ | ⟨g1, g2⟩
    · rw [g3, g2]
      by_cases q : j2 = j
      · rw [q, decide_eq_true rfl, decide_eq_true rfl, decide_eq_true rfl]; rfl
      · rw [decide_eq_false (fun z => q (kc_inj j hj j2 g1 z)), decide_eq_false (fun z => q (wr_inj j hj j2 g1 z)), Bool.and_false]
    · rw [g1, show decide ((11 : Int32) = kcN j) = false from decide_eq_false (fun z => (kc_n j hj).2.2.1 z.symm), show decide (wdL t (tokS t n i) (eNd t n (tokS t n i) - tokS t n i) = wr j) = false from decide_eq_false (g2 j hj), Bool.and_false]
  · rw [h2, h3, show decide ((1 : Int32) = kcN j) = false from decide_eq_false (fun q => (kc_n j hj).1 q.symm)]; rfl
  · rw [h2, h4, show decide (mcN j2 = kcN j) = false from decide_eq_false (fun q => (kc_n j hj).2.2.2 j2 hj2 q.symm)]; rfl
  · rw [h2, h3, show decide ((2 : Int32) = kcN j) = false from decide_eq_false (fun q => kc_n2 j hj q.symm)]; rfl
end TC
/-! digits -/
theorem dig_nI {x : Int32} (h : inB x 48 57 = true) : ∃ y, y ≤ 9 ∧ x = nI (48 + y) := by
  obtain ⟨h1, h2⟩ := Bool.and_eq_true_iff.mp h
  have h1 := of_decide_eq_true h1
  have h2 := of_decide_eq_true h2
  obtain ⟨a, ha, rfl⟩ := nI_of (Int32.not_lt.mpr (Int32.le_trans (by decide : (0 : Int32) ≤ 48) h1))
  have g1 := (nI_leI (a := 48) (b := a) (by decide) ha).mp h1
  have g2 := (nI_leI (a := a) (b := 57) ha (by decide)).mp h2
  exact ⟨a - 48, by omega, by rw [show 48 + (a - 48) = a by omega]⟩
theorem num_step {X y : Nat} : 10 * nI X + nI (48 + y) - 48 = nI (10 * X + y) := by
  rw [show (10 : Int32) = nI 10 from rfl, show nI 10 * nI X = nI (10 * X) from (Int32.ofNat_mul 10 X).symm, nI_add, show (48 : Int32) = nI 48 from rfl, pk_sub (by omega), show 10 * X + (48 + y) - 48 = 10 * X + y by omega]
theorem numD_nI {t : Nat → Int32} {s : Nat} : ∀ k, (∀ j, j < k → inB (t (s + j)) 48 57 = true) → ∃ X, X < 10 ^ k ∧ numD t s k = nI X
  | 0, _ => ⟨0, by decide, rfl⟩
  | k + 1, h => by
    obtain ⟨X, hX, e⟩ := numD_nI k (fun j hj => h j (Nat.lt_succ_of_lt hj))
    obtain ⟨y, hy, ey⟩ := dig_nI (h k (Nat.lt_succ_self k))
    refine ⟨10 * X + y, ?_, ?_⟩
    · rw [Nat.pow_succ]; omega
    · rw [numD, e, ey, num_step]
theorem end_like {t : Nat → Int32} {n s q : Nat} (h1 : s < q) (h2 : q < endN t n s) : likB t s q = true := by
  unfold endN at h2
  have h := fa_first_no (fun i => !likB t s (s + 1 + i)) (n - (s + 1)) (q - (s + 1)) (by omega)
  simp only [show s + 1 + (q - (s + 1)) = q by omega] at h
  simpa using h
theorem end_dig {t : Nat → Int32} {n s j : Nat} (hd : inB (t s) 48 57 = true) (hj : s + j < endN t n s) : inB (t (s + j)) 48 57 = true := by
  rcases Nat.eq_zero_or_pos j with q | q
  · rw [q, Nat.add_zero]; exact hd
  · have h := end_like (t := t) (n := n) (s := s) (q := s + j) (by omega) hj
    rw [likB, inB_two hd, hd] at h
    simpa using h
theorem numV_nn {t : Nat → Int32} {n s : Nat} (hd : inB (t s) 48 57 = true) : 0 ≤ numV t s (endN t n s) := by
  have hgt := endN_gt t n s
  unfold numV
  split
  · decide
  · next h =>
    obtain ⟨X, hX, e⟩ := numD_nI (t := t) (s := s) (endN t n s - s) (fun j hj => end_dig (n := n) hd (by omega))
    rw [e]
    have : 10 ^ (endN t n s - s) ≤ 10 ^ 4 := Nat.pow_le_pow_right (by decide) (by omega)
    exact nI_pos' (by omega)
theorem tN_nn {t : Nat → Int32} {n i : Nat} (h : tKd t n i = 1) : 0 ≤ tNm t n i := by
  unfold tKd at h
  unfold tNm
  by_cases hs : tokS t n i < n
  · rw [if_pos hs] at h ⊢
    rw [kndK] at h
    by_cases hd : inB (t (tokS t n i)) 48 57 = true
    · exact numV_nn hd
    · rw [if_neg hd] at h
      by_cases hl : inB (t (tokS t n i)) 97 122 = true
      · rw [if_pos hl] at h; exact absurd h (wk_not _).2.1
      · rw [if_neg hl] at h
        rcases sg_or (t (tokS t n i)) with ⟨j, h1, -, h3⟩ | ⟨h1, -⟩
        · rw [h3] at h; exact absurd h (mc_nw j h1).2.1
        · rw [h1] at h; exact absurd h (by decide)
  · rw [if_neg hs] at h; exact absurd h (by decide)
theorem CI_fail {m k : Nat} {vs v' : ZV} {gs g' : ZG} {c : Int32} {q : Nat} (h1 : FrV2 vs v') (h2 : FrG2 gs g') (e : pCity (gs 2) (gs 4) 700 true dr0 0 = .er c q) (h6 : v' 6 = c) (h3 : v' 2 = nI q) : CI m vs gs k false v' g' := ⟨h1, h2, Or.inr ⟨rfl, c, q, e, h6, h3⟩⟩
theorem CI_more {m k i : Nat} {vs v' : ZV} {gs g' : ZG} {d : Dr} {L : List Int32} (h1 : FrV2 vs v') (h2 : FrG2 gs g') (hI : RdI v' g' i m L) (hD : DrA d L v' g') (hK : DrK d) (e : pCity (gs 2) (gs 4) 700 true dr0 0 = pCity (gs 2) (gs 4) (700 - (k + 1)) false d i) (h6 : v' 6 = 0) : CI m vs gs (k + 1) true v' g' := ⟨h1, h2, Or.inl ⟨rfl, i, d, L, hI, hD, hK, e.trans (by rw [decide_eq_false (Nat.succ_ne_zero k)]), h6⟩⟩
theorem FrV2.c24 {v v2 : ZV} (h : ∀ k, k ≠ 24 → v2 k = v k) : FrV2 v v2 := fun k hk => h k (by omega)
theorem FrG2.c31 {g g2 : ZG} (h : ∀ k, k ≠ 31 → g2 k = g k) : FrG2 g g2 := fun k hk => h k (by omega)
theorem FrV2.tk {c : Int32} {v : ZV} {g : ZG} {i : Nat} : FrV2 v (tkV c v g i) := by
  unfold tkV
  split
  · exact FrV.go.two
  · exact FrV2.up (by omega)
/-- what readCity leaves -/
def CityP (n : Nat) (v : ZV) (g : ZG) : ZV → ZG → Option Value → Prop := fun v2 g2 r => ∃ (m : Nat) (K N : Nat → Int32), TK (g 1) n m K N ∧ (∀ k, (k < 2 ∨ (8 < k ∧ k < 20) ∨ 24 < k) → v2 k = v k) ∧ v2 7 = 0 ∧ (∀ k, (k < 2 ∨ (4 < k ∧ k < 25) ∨ 31 < k) → g2 k = g k) ∧
  match pCity K N 700 true dr0 0 with
  | Sum.inl (c, q) => r = some (.int c) ∧ v2 2 = nI q ∧ q ≤ m ∧ ¬ c = 0 ∧ g2 3 q = nI (tokS (g 1) n q)
  | Sum.inr (j, d) => r = some (.int 0) ∧ DrK d ∧ ∃ L, L.length ≤ 700 ∧ Cd L v2 g2 ∧ DrA d L v2 g2
theorem CityP_of {n m k : Nat} {v vs v' : ZV} {g gs g' : ZG} {b : Bool} (hS : SPE n v g m vs gs) {vq : ZV} {gq : ZG} (hq1 : FrV2 vs vq) (hq2 : FrG2 gs gq) (h : CI m vq gq k b v' g') (hx : k = 700 ∨ b = false ∨ v' 3 = 0) (hn : n ≤ 700) : CityP n v g v' g' (some (.int (v' 6))) := by
  have e := CI_end h hx
  obtain ⟨f1, f2, -⟩ := h
  obtain ⟨s1, s2, s3, s4, s5, s6, s7⟩ := hS
  have hK : gq 2 = gs 2 := hq2 2 (by decide)
  have hN : gq 4 = gs 4 := hq2 4 (by decide)
  have hT : TK (g 1) n m (gq 2) (gq 4) := ⟨s1, s2, s3, fun i hi => by rw [hK, hN]; exact ⟨(s5 i hi).1, (s5 i hi).2.2⟩⟩
  refine ⟨m, gq 2, gq 4, hT, fun k hk => ?_, ?_, fun k hk => ?_, ?_⟩
  · rw [f1 k (by omega), hq1 k (by omega)]; exact s6 k (by omega) (by omega)
  · rw [f1 7 (by decide), hq1 7 (by decide)]; exact s4
  · rw [f2 k (by omega), hq2 k (by omega)]; exact s7 k (by omega) (by omega) (by omega)
  · have hp := pCity_prg (N := gq 4) (TK_0 hT) 700 0 true dr0 (Nat.zero_le _) ⟨by decide, by decide, by decide, by decide, by decide⟩
    cases e1 : pCity (gq 2) (gq 4) 700 true dr0 0 using PC.el with
    | er c q =>
      rw [e1] at e hp
      exact ⟨by rw [e.1], e.2, hp.1, hp.2, by rw [f2 3 (by decide), hq2 3 (by decide)]; exact (s5 q (Nat.lt_succ_of_le hp.1)).2.1⟩
    | ok j d =>
      rw [e1] at e
      exact ⟨by rw [e.1], e.2⟩

theorem c_X5_readCity {l : Launch} {D : va_G} {cA : Nat → ClassId} {o a : Nat → Nat} {v : ZV} {g : ZG} {aK aV : Nat → Nat} {n : Nat} (hn : n ≤ 700) : MGY l D cA aK aV (WC o a cA) yX5_readCity cX5_readCity 4 (some .int) 100 [(.ref (o 1)), .int (nI n)] v g (CityP n v g) := by
  refine MGY.of (by decide) rfl (Nat.le_of_ble_eq_true rfl) (by simp [Value.category]) (fun Z hY => ?_)
  have hZ := hY.toZR
  refine z_aload_n hZ (pc := 0) dX5_readCity_0 rfl ?_
  refine gC_1_0 hZ (pc := 1) fl_X5_12 dX5_readCity_1 ?_
  refine z_iload_n hZ (pc := 4) dX5_readCity_4 rfl ?_
  refine cVY hY (pc := 5) dX5_readCity_5 lk_X5_41 mn_X7_split mv_X7_split (c_X7_split hn) rc_2 rfl rfl (Nat.le_of_ble_eq_true rfl) (by decide) (by decide) (Nat.zero_le _) (Nat.zero_le _) (fun v2 g2 r h => ?_)
  obtain ⟨rfl, m, hS⟩ := h
  refine z_aload_n hZ (pc := 8) dX5_readCity_8 rfl ?_
  refine gC_1_1 hZ (pc := 9) fl_X5_21 dX5_readCity_9 ?_
  refine cV_v hZ (pc := 12) dX5_readCity_12 lk_X5_45 mn_X0_empty mv_X0_empty (c_X0_empty) rc_6 rfl rfl (Nat.le_of_ble_eq_true rfl) (by decide) (by decide) (Nat.zero_le _) (Nat.zero_le _) ?_
  refine z_aload_n hZ (pc := 15) dX5_readCity_15 rfl ?_
  refine z_iconst hZ (pc := 16) (v := 0) dX5_readCity_16 (by decide) ?_
  refine pC_1_6 hZ (pc := 17) fl_X5_38 dX5_readCity_17 ?_
  refine z_aload_n hZ (pc := 20) dX5_readCity_20 rfl ?_
  refine z_iconst hZ (pc := 21) (v := 0) dX5_readCity_21 (by decide) ?_
  refine cV_v hZ (pc := 22) dX5_readCity_22 lk_X5_48 mn_X5_goTo mv_X5_goTo (c_X5_goTo (j := 0) (by decide)) rc_1 rfl rfl (Nat.le_of_ble_eq_true rfl) (by decide) (by decide) (Nat.zero_le _) (Nat.zero_le _) ?_
  refine z_iconst hZ (pc := 25) (v := 1) dX5_readCity_25 (by decide) ?_
  refine q_istore_n_4_2 hZ (pc := 26) dX5_readCity_26 rfl ?_
  refine z_iconst hZ (pc := 27) (v := 0) dX5_readCity_27 (by decide) ?_
  refine q_istore_n_4_3 hZ (pc := 28) dX5_readCity_28 rfl ?_
  obtain ⟨vs, gs, hvs, hgs⟩ : ∃ (vs : ZV) (gs : ZG), vs = (goV (va_up (va_up (va_up (va_up (va_up (va_up v2 20 1) 21 0) 22 0) 23 0) 24 0) 6 0) (va_up g2 28 (fillf 100 (g2 28) 10)) 0) ∧ gs = (va_up g2 28 (fillf 100 (g2 28) 10)) := ⟨_, _, rfl, rfl⟩
  have hq1 : FrV2 v2 vs := by rw [hvs]; exact (fun k hk => by simp only [goV, va_up, show ¬ k = 2 by omega, show ¬ k = 3 by omega, show ¬ k = 4 by omega, show ¬ k = 6 by omega, show ¬ k = 20 by omega, show ¬ k = 21 by omega, show ¬ k = 22 by omega, show ¬ k = 23 by omega, show ¬ k = 24 by omega, if_false])
  have hq2 : FrG2 g2 gs := by rw [hgs]; exact FrG2.up (by decide)
  have hs2 : gs 2 = g2 2 := hq2 2 (by decide)
  have hs4 : gs 4 = g2 4 := hq2 4 (by decide)
  have hNs : ∀ j, j ≤ m → gs 2 j = 1 → 0 ≤ gs 4 j := fun j hj h1 => by
    obtain ⟨w1, -, w3⟩ := hS.2.2.2.2.1 j (Nat.lt_succ_of_le hj)
    rw [hs4, w3]
    exact tN_nn (by rw [← w1, ← hs2]; exact h1)
  have hC0 : CI m vs gs 0 true vs gs := ⟨FrV2.rf, FrG2.rf, Or.inl ⟨rfl, 0, dr0, [], ⟨Nat.zero_le _, Nat.le_trans hS.1 hn, by rw [hs2, (hS.2.2.2.2.1 m (Nat.lt_succ_self m)).1, tKd, hS.2.1, if_neg (Nat.lt_irrefl _)], by rw [hvs]; rfl, by rw [hvs, hgs]; rfl, by rw [hvs, hgs]; rfl, ⟨by rw [hvs]; rfl, fun k hk => absurd hk (Nat.not_lt_zero _)⟩, Nat.le_refl _⟩, ⟨by rw [hvs]; rfl, by rw [hvs]; rfl, by rw [hvs]; rfl, by rw [hvs]; rfl, fun p hp => absurd hp (Nat.not_lt_zero _), fun k hk => by rw [hgs]; show fillf 100 (g2 28) 10 k = 10; simp [fillf, hk], fun e he => absurd he (Nat.not_lt_zero _), fun e he => absurd he (Nat.not_lt_zero _)⟩, ⟨by decide, by decide, by decide, by decide, by decide⟩, rfl, by rw [hvs]; rfl⟩⟩
  have lp29 : ∀ (f k : Nat) (b : Bool) (v' : ZV) (g' : ZG), k ≤ 700 → 700 - k < f → CI m vs gs k b v' g' → Z 0 0 (WC o a cA v' g') [some (.ref (o 1)), some (.int (nI n)), some (.int (bI b)), some (.int (nI k))] [] 29 := by
    intro f
    induction f with
    | zero => intro k b v' g' _ hf; exact absurd hf (Nat.not_lt_zero _)
    | succ f ih29 =>
      intro k b v' g' hk hf hC
      refine z_iload_n hZ (pc := 29) dX5_readCity_29 rfl ?_
      refine z_sipush hZ (pc := 30) (v := 700) dX5_readCity_30 (by decide) ?_
      refine z_icmp_ge hZ (pc := 33) (tgt := 92) dX5_readCity_33 rfl (fun c33 => ?_) (fun c33 => ?_)
      · skip
        refine z_aload_n hZ (pc := 92) dX5_readCity_92 rfl ?_
        refine gC_1_6 hZ (pc := 93) fl_X5_38 dX5_readCity_93 ?_
        refine zr_i hZ (pc := 96) dX5_readCity_96 FitR.int ?_
        exact CityP_of hS hq1 hq2 hC (Or.inl (lp_ge rfl (by decide) hk c33)) hn
      · skip
        have hk7 : k < 700 := lp_lt rfl (by decide) hk c33
        refine z_iload_n hZ (pc := 36) dX5_readCity_36 rfl ?_
        refine z_if_eq hZ (pc := 37) (tgt := 92) dX5_readCity_37 rfl (fun c37 => ?_) (fun c37 => ?_)
        · skip
          refine z_aload_n hZ (pc := 92) dX5_readCity_92 rfl ?_
          refine gC_1_6 hZ (pc := 93) fl_X5_38 dX5_readCity_93 ?_
          refine zr_i hZ (pc := 96) dX5_readCity_96 FitR.int ?_
          exact CityP_of hS hq1 hq2 hC (Or.inr (Or.inl (bI_eq.mp c37))) hn
        · skip
          refine z_aload_n hZ (pc := 40) dX5_readCity_40 rfl ?_
          refine gC_1_3 hZ (pc := 41) fl_X5_29 dX5_readCity_41 ?_
          refine z_if_eq hZ (pc := 44) (tgt := 92) dX5_readCity_44 rfl (fun c44 => ?_) (fun c44 => ?_)
          · skip
            refine z_aload_n hZ (pc := 92) dX5_readCity_92 rfl ?_
            refine gC_1_6 hZ (pc := 93) fl_X5_38 dX5_readCity_93 ?_
            refine zr_i hZ (pc := 96) dX5_readCity_96 FitR.int ?_
            exact CityP_of hS hq1 hq2 hC (Or.inr (Or.inr c44)) hn
          · skip
            obtain ⟨i, d, L, hI, hD, hK, e, h6⟩ : ∃ (i : Nat) (d : Dr) (L : List Int32), RdI v' g' i m L ∧ DrA d L v' g' ∧ DrK d ∧ pCity (gs 2) (gs 4) 700 true dr0 0 = pCity (gs 2) (gs 4) (700 - k) (decide (k = 0)) d i ∧ v' 6 = 0 := by
              rcases hC.2.2 with ⟨-, x⟩ | ⟨hb, -⟩
              · exact x
              · rw [bI_ne c37] at hb; cases hb
            have hg2 : g' 2 = gs 2 := hC.2.1 2 (by decide)
            have hg4 : g' 4 = gs 4 := hC.2.1 4 (by decide)
            have hk0 : ¬ gs 2 i = 0 := by rw [← hg2, ← hI.2.2.2.2.1]; exact c44
            have hN : ∀ j, j ≤ m → g' 2 j = 1 → 0 ≤ g' 4 j := fun j hj h1 => by rw [hg4]; exact hNs j hj (by rw [← hg2]; exact h1)
            rw [pCity_step hk7 hk0] at e
            refine z_aload_n hZ (pc := 47) dX5_readCity_47 rfl ?_
            refine z_iload_n hZ (pc := 48) dX5_readCity_48 rfl ?_
            refine z_if_ne hZ (pc := 49) (tgt := 56) dX5_readCity_49 rfl (fun c49 => ?_) (fun c49 => ?_)
            · skip
              rw [decide_eq_false (fun q => c49 (by rw [q]; rfl))] at e
              refine z_iconst hZ (pc := 56) (v := 0) dX5_readCity_56 (by decide) ?_
              refine cV hZ (pc := 57) dX5_readCity_57 lk_X5_51 mn_X5_readClause mv_X5_readClause (c_X5_readClause (K := 90) (b := false) hI hD hK (by decide) hN) rc_1 rfl rfl (Nat.le_of_ble_eq_true rfl) (by decide) (by decide) (Nat.zero_le _) (Nat.zero_le _) ?_
              intro v5 g5 r5 h
              obtain ⟨f1, f2, rfl, h⟩ := h
              refine z_if_eq hZ (pc := 60) (tgt := 75) dX5_readCity_60 rfl (fun c60 => ?_) (fun c60 => ?_)
              · skip
                obtain ⟨c, q, hr⟩ := PC.of_er (bI_eq.mp c60)
                rw [hr] at h
                rw [hg2, hg4] at hr
                rw [hr] at e
                refine z_iconst hZ (pc := 75) (v := 0) dX5_readCity_75 (by decide) ?_
                refine q_istore_n_4_2 hZ (pc := 76) dX5_readCity_76 rfl ?_
                refine z_aload_n hZ (pc := 77) dX5_readCity_77 rfl ?_
                refine gC_1_1 hZ (pc := 78) fl_X5_21 dX5_readCity_78 ?_
                refine z_bipush hZ (pc := 81) (v := (-17)) dX5_readCity_81 (by decide) ?_
                refine cV hZ (pc := 83) dX5_readCity_83 lk_X5_59 mn_X0_addCode mv_X0_addCode (c_X0_addCode_any) rc_6 rfl rfl (Nat.le_of_ble_eq_true rfl) (by decide) (by decide) (Nat.zero_le _) (Nat.zero_le _) ?_
                intro v6 g6 r6 h9
                obtain ⟨rfl, w1, w2⟩ := h9
                refine q_iinc_4_3 hZ (pc := 86) dX5_readCity_86 rfl ?_
                refine z_goto hZ (pc := 89) (tgt := 29) dX5_readCity_89 rfl ?_
                exact z_back hZ (ih29 (k + 1) false _ _ hk7 (by omega) (CI_fail ((hC.1.trans f1).trans (FrV2.c24 w1)) ((hC.2.1.trans f2).trans (FrG2.c31 w2)) e (by rw [w1 6 (by decide)]; exact h.1) (by rw [w1 2 (by decide)]; exact h.2))) rfl ⟨rfl, rfl, rfl, zi (nI_inc _), trivial⟩
              · skip
                obtain ⟨j, d', hr⟩ := PC.of_ok (bI_ne c60)
                rw [hr] at h
                obtain ⟨h56, ll, hJ, hDJ⟩ := h
                have hpr := pClause_prg (N := g' 4) (b := false) hI.2.2.1 (hI.lt (by rw [hg2]; exact hk0)) hK
                rw [hr] at hpr
                obtain ⟨q1, q2, q3⟩ := hpr
                rw [hg2, hg4] at hr
                rw [hr] at e
                refine z_aload_n hZ (pc := 63) dX5_readCity_63 rfl ?_
                refine z_iconst hZ (pc := 64) (v := 3) dX5_readCity_64 (by decide) ?_
                refine cV_i hZ (pc := 65) dX5_readCity_65 lk_X5_55 mn_X5_take mv_X5_take (c_X5_take (due := 3) (i := j) hJ.2.2.2.1 (fun q => by have := hJ.lt (by rw [← hJ.2.2.2.2.1, q]; decide); have := hI.2.1; omega)) rc_1 rfl rfl (Nat.le_of_ble_eq_true rfl) (by decide) (by decide) (Nat.zero_le _) (Nat.zero_le _) ?_
                refine z_if_eq hZ (pc := 68) (tgt := 75) dX5_readCity_68 rfl (fun c68 => ?_) (fun c68 => ?_)
                · skip
                  have hk3 : ¬ gs 2 j = 3 := by rw [← hg2, ← f2 2 (by decide), ← hJ.2.2.2.2.1]; exact (tkC_1 (bD0 c68)).2
                  have e9 : pCity (gs 2) (gs 4) 700 true dr0 0 = .er 1 j := e.trans (if_neg hk3)
                  refine z_iconst hZ (pc := 75) (v := 0) dX5_readCity_75 (by decide) ?_
                  refine q_istore_n_4_2 hZ (pc := 76) dX5_readCity_76 rfl ?_
                  refine z_aload_n hZ (pc := 77) dX5_readCity_77 rfl ?_
                  refine gC_1_1 hZ (pc := 78) fl_X5_21 dX5_readCity_78 ?_
                  refine z_bipush hZ (pc := 81) (v := (-17)) dX5_readCity_81 (by decide) ?_
                  refine cV hZ (pc := 83) dX5_readCity_83 lk_X5_59 mn_X0_addCode mv_X0_addCode (c_X0_addCode_any) rc_6 rfl rfl (Nat.le_of_ble_eq_true rfl) (by decide) (by decide) (Nat.zero_le _) (Nat.zero_le _) ?_
                  intro v6 g6 r6 h9
                  obtain ⟨rfl, w1, w2⟩ := h9
                  refine q_iinc_4_3 hZ (pc := 86) dX5_readCity_86 rfl ?_
                  refine z_goto hZ (pc := 89) (tgt := 29) dX5_readCity_89 rfl ?_
                  exact z_back hZ (ih29 (k + 1) false _ _ hk7 (by omega) (CI_fail (((hC.1.trans f1).trans FrV2.tk).trans (FrV2.c24 w1)) ((hC.2.1.trans f2).trans (FrG2.c31 w2)) e9 (by rw [w1 6 (by decide), tkV_n (bD0 c68), up_at]; exact (tkC_1 (bD0 c68)).1) (by rw [w1 2 (by decide), tkV_n (bD0 c68), up_off (by decide)]; exact hJ.2.2.2.1))) rfl ⟨rfl, rfl, rfl, zi (nI_inc _), trivial⟩
                · skip
                  have hjm2 := hJ.lt (by rw [← hJ.2.2.2.2.1, tkC_0 (bD1 c68)]; decide)
                  rw [tkV_0 (bD1 c68)]
                  refine z_iconst hZ (pc := 71) (v := 1) dX5_readCity_71 (by decide) ?_
                  refine z_goto hZ (pc := 72) (tgt := 76) dX5_readCity_72 rfl ?_
                  refine q_istore_n_4_2 hZ (pc := 76) dX5_readCity_76 rfl ?_
                  refine z_aload_n hZ (pc := 77) dX5_readCity_77 rfl ?_
                  refine gC_1_1 hZ (pc := 78) fl_X5_21 dX5_readCity_78 ?_
                  refine z_bipush hZ (pc := 81) (v := (-17)) dX5_readCity_81 (by decide) ?_
                  refine cV_v hZ (pc := 83) dX5_readCity_83 lk_X5_59 mn_X0_addCode mv_X0_addCode (c_X0_addCode (c := (L ++ ll).length) hJ.2.2.2.2.2.2.1.1 (by have := hJ.2.2.2.2.2.2.2; have := hI.2.1; omega)) rc_6 rfl rfl (Nat.le_of_ble_eq_true rfl) (by decide) (by decide) (Nat.zero_le _) (Nat.zero_le _) ?_
                  refine q_iinc_4_3 hZ (pc := 86) dX5_readCity_86 rfl ?_
                  refine z_goto hZ (pc := 89) (tgt := 29) dX5_readCity_89 rfl ?_
                  have hk3 : v5 3 = 3 := tkC_0 (bD1 c68)
                  have hjm := hJ.lt (by rw [← hJ.2.2.2.2.1, hk3]; decide)
                  exact z_back hZ (ih29 (k + 1) true _ _ hk7 (by omega) (CI_more (i := j + 1) (d := d') (L := L ++ ll ++ [-17]) (((hC.1.trans f1).trans FrV.go.two).trans (FrV2.up (by omega))) ((hC.2.1.trans f2).trans (FrG2.up (by decide))) ((hJ.go (Nat.le_succ j) hjm).code (by have := hJ.2.2.2.2.2.2.2; omega)) (by rw [← List.append_nil (L ++ ll ++ [-17])]; exact hDJ.mv (fun k h1 h2 => by rw [up_off (by omega), goV_o (by omega) (by omega) (by omega)]) (fun k h1 h2 => up_off (by omega))) q3 (e.trans (if_pos (by rw [← hg2, ← f2 2 (by decide), ← hJ.2.2.2.2.1]; exact hk3))) (h56.trans h6))) rfl ⟨rfl, rfl, rfl, zi (nI_inc _), trivial⟩
            · skip
              rw [decide_eq_true ((nI_eq (a := k) (b := 0) (by omega) (by decide)).mp c49)] at e
              refine z_iconst hZ (pc := 52) (v := 1) dX5_readCity_52 (by decide) ?_
              refine z_goto hZ (pc := 53) (tgt := 57) dX5_readCity_53 rfl ?_
              refine cV hZ (pc := 57) dX5_readCity_57 lk_X5_51 mn_X5_readClause mv_X5_readClause (c_X5_readClause (K := 90) (b := true) hI hD hK (by decide) hN) rc_1 rfl rfl (Nat.le_of_ble_eq_true rfl) (by decide) (by decide) (Nat.zero_le _) (Nat.zero_le _) ?_
              intro v5 g5 r5 h
              obtain ⟨f1, f2, rfl, h⟩ := h
              refine z_if_eq hZ (pc := 60) (tgt := 75) dX5_readCity_60 rfl (fun c60 => ?_) (fun c60 => ?_)
              · skip
                obtain ⟨c, q, hr⟩ := PC.of_er (bI_eq.mp c60)
                rw [hr] at h
                rw [hg2, hg4] at hr
                rw [hr] at e
                refine z_iconst hZ (pc := 75) (v := 0) dX5_readCity_75 (by decide) ?_
                refine q_istore_n_4_2 hZ (pc := 76) dX5_readCity_76 rfl ?_
                refine z_aload_n hZ (pc := 77) dX5_readCity_77 rfl ?_
                refine gC_1_1 hZ (pc := 78) fl_X5_21 dX5_readCity_78 ?_
                refine z_bipush hZ (pc := 81) (v := (-17)) dX5_readCity_81 (by decide) ?_
                refine cV hZ (pc := 83) dX5_readCity_83 lk_X5_59 mn_X0_addCode mv_X0_addCode (c_X0_addCode_any) rc_6 rfl rfl (Nat.le_of_ble_eq_true rfl) (by decide) (by decide) (Nat.zero_le _) (Nat.zero_le _) ?_
                intro v6 g6 r6 h9
                obtain ⟨rfl, w1, w2⟩ := h9
                refine q_iinc_4_3 hZ (pc := 86) dX5_readCity_86 rfl ?_
                refine z_goto hZ (pc := 89) (tgt := 29) dX5_readCity_89 rfl ?_
                exact z_back hZ (ih29 (k + 1) false _ _ hk7 (by omega) (CI_fail ((hC.1.trans f1).trans (FrV2.c24 w1)) ((hC.2.1.trans f2).trans (FrG2.c31 w2)) e (by rw [w1 6 (by decide)]; exact h.1) (by rw [w1 2 (by decide)]; exact h.2))) rfl ⟨rfl, rfl, rfl, zi (nI_inc _), trivial⟩
              · skip
                obtain ⟨j, d', hr⟩ := PC.of_ok (bI_ne c60)
                rw [hr] at h
                obtain ⟨h56, ll, hJ, hDJ⟩ := h
                have hpr := pClause_prg (N := g' 4) (b := true) hI.2.2.1 (hI.lt (by rw [hg2]; exact hk0)) hK
                rw [hr] at hpr
                obtain ⟨q1, q2, q3⟩ := hpr
                rw [hg2, hg4] at hr
                rw [hr] at e
                refine z_aload_n hZ (pc := 63) dX5_readCity_63 rfl ?_
                refine z_iconst hZ (pc := 64) (v := 3) dX5_readCity_64 (by decide) ?_
                refine cV_i hZ (pc := 65) dX5_readCity_65 lk_X5_55 mn_X5_take mv_X5_take (c_X5_take (due := 3) (i := j) hJ.2.2.2.1 (fun q => by have := hJ.lt (by rw [← hJ.2.2.2.2.1, q]; decide); have := hI.2.1; omega)) rc_1 rfl rfl (Nat.le_of_ble_eq_true rfl) (by decide) (by decide) (Nat.zero_le _) (Nat.zero_le _) ?_
                refine z_if_eq hZ (pc := 68) (tgt := 75) dX5_readCity_68 rfl (fun c68 => ?_) (fun c68 => ?_)
                · skip
                  have hk3 : ¬ gs 2 j = 3 := by rw [← hg2, ← f2 2 (by decide), ← hJ.2.2.2.2.1]; exact (tkC_1 (bD0 c68)).2
                  have e9 : pCity (gs 2) (gs 4) 700 true dr0 0 = .er 1 j := e.trans (if_neg hk3)
                  refine z_iconst hZ (pc := 75) (v := 0) dX5_readCity_75 (by decide) ?_
                  refine q_istore_n_4_2 hZ (pc := 76) dX5_readCity_76 rfl ?_
                  refine z_aload_n hZ (pc := 77) dX5_readCity_77 rfl ?_
                  refine gC_1_1 hZ (pc := 78) fl_X5_21 dX5_readCity_78 ?_
                  refine z_bipush hZ (pc := 81) (v := (-17)) dX5_readCity_81 (by decide) ?_
                  refine cV hZ (pc := 83) dX5_readCity_83 lk_X5_59 mn_X0_addCode mv_X0_addCode (c_X0_addCode_any) rc_6 rfl rfl (Nat.le_of_ble_eq_true rfl) (by decide) (by decide) (Nat.zero_le _) (Nat.zero_le _) ?_
                  intro v6 g6 r6 h9
                  obtain ⟨rfl, w1, w2⟩ := h9
                  refine q_iinc_4_3 hZ (pc := 86) dX5_readCity_86 rfl ?_
                  refine z_goto hZ (pc := 89) (tgt := 29) dX5_readCity_89 rfl ?_
                  exact z_back hZ (ih29 (k + 1) false _ _ hk7 (by omega) (CI_fail (((hC.1.trans f1).trans FrV2.tk).trans (FrV2.c24 w1)) ((hC.2.1.trans f2).trans (FrG2.c31 w2)) e9 (by rw [w1 6 (by decide), tkV_n (bD0 c68), up_at]; exact (tkC_1 (bD0 c68)).1) (by rw [w1 2 (by decide), tkV_n (bD0 c68), up_off (by decide)]; exact hJ.2.2.2.1))) rfl ⟨rfl, rfl, rfl, zi (nI_inc _), trivial⟩
                · skip
                  have hjm2 := hJ.lt (by rw [← hJ.2.2.2.2.1, tkC_0 (bD1 c68)]; decide)
                  rw [tkV_0 (bD1 c68)]
                  refine z_iconst hZ (pc := 71) (v := 1) dX5_readCity_71 (by decide) ?_
                  refine z_goto hZ (pc := 72) (tgt := 76) dX5_readCity_72 rfl ?_
                  refine q_istore_n_4_2 hZ (pc := 76) dX5_readCity_76 rfl ?_
                  refine z_aload_n hZ (pc := 77) dX5_readCity_77 rfl ?_
                  refine gC_1_1 hZ (pc := 78) fl_X5_21 dX5_readCity_78 ?_
                  refine z_bipush hZ (pc := 81) (v := (-17)) dX5_readCity_81 (by decide) ?_
                  refine cV_v hZ (pc := 83) dX5_readCity_83 lk_X5_59 mn_X0_addCode mv_X0_addCode (c_X0_addCode (c := (L ++ ll).length) hJ.2.2.2.2.2.2.1.1 (by have := hJ.2.2.2.2.2.2.2; have := hI.2.1; omega)) rc_6 rfl rfl (Nat.le_of_ble_eq_true rfl) (by decide) (by decide) (Nat.zero_le _) (Nat.zero_le _) ?_
                  refine q_iinc_4_3 hZ (pc := 86) dX5_readCity_86 rfl ?_
                  refine z_goto hZ (pc := 89) (tgt := 29) dX5_readCity_89 rfl ?_
                  have hk3 : v5 3 = 3 := tkC_0 (bD1 c68)
                  have hjm := hJ.lt (by rw [← hJ.2.2.2.2.1, hk3]; decide)
                  exact z_back hZ (ih29 (k + 1) true _ _ hk7 (by omega) (CI_more (i := j + 1) (d := d') (L := L ++ ll ++ [-17]) (((hC.1.trans f1).trans FrV.go.two).trans (FrV2.up (by omega))) ((hC.2.1.trans f2).trans (FrG2.up (by decide))) ((hJ.go (Nat.le_succ j) hjm).code (by have := hJ.2.2.2.2.2.2.2; omega)) (by rw [← List.append_nil (L ++ ll ++ [-17])]; exact hDJ.mv (fun k h1 h2 => by rw [up_off (by omega), goV_o (by omega) (by omega) (by omega)]) (fun k h1 h2 => up_off (by omega))) q3 (e.trans (if_pos (by rw [← hg2, ← f2 2 (by decide), ← hJ.2.2.2.2.1]; exact hk3))) (h56.trans h6))) rfl ⟨rfl, rfl, rfl, zi (nI_inc _), trivial⟩
  exact z_back hZ (lp29 701 0 true vs gs (Nat.zero_le _) (by decide) hC0) (by rw [hvs, hgs]) ⟨rfl, rfl, rfl, rfl, trivial⟩
