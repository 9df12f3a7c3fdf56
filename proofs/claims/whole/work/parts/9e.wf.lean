/-! the codes that are read keep the stack -/
def WfL (B : Nat) (l : List Int32) : Prop := ∀ (ops : Nat → Int32) (i h : Nat), (∀ k, k < l.length → ops (i + k) = l.getD k 0) → htE ops i = h → (∀ k, k < l.length → -17 < ops (i + k) ∧ (-8 < ops (i + k) → htE ops (i + k) + 1 ≤ h + B) ∧ (ops (i + k) = -8 → h + 1 ≤ htE ops (i + k)) ∧ (ops (i + k) < -8 → h + 2 ≤ htE ops (i + k))) ∧ htE ops (i + l.length) = h + 1
theorem WfL.mono {B B' : Nat} {l : List Int32} (h : WfL B l) (hB : B ≤ B') : WfL B' l := fun ops i x ho hh => by
  obtain ⟨a1, a2⟩ := h ops i x ho hh
  exact ⟨fun k hk => ⟨(a1 k hk).1, fun z => by have := (a1 k hk).2.1 z; omega, (a1 k hk).2.2.1, (a1 k hk).2.2.2⟩, a2⟩
theorem WfL.one {x : Int32} (h : -8 < x) : WfL 1 [x] := fun ops i y ho hh => by
  have e : ops (i + 0) = x := ho 0 (Nat.zero_lt_one)
  rw [Nat.add_zero] at e
  refine ⟨fun k hk => ?_, ?_⟩
  · have hk : k < 1 := hk
    obtain rfl : k = 0 := by omega
    rw [Nat.add_zero, e]
    refine ⟨Int32.lt_trans (by decide) h, fun _ => by omega, fun z => ?_, fun z => ?_⟩
    · rw [z] at h; exact absurd h (by decide)
    · exact absurd h (Int32.lt_asymm z)
  · show htE ops (i + 1) = y + 1
    rw [htE, if_pos (by rw [e]; exact h), hh]
theorem getD_l {l1 l2 : List Int32} {k : Nat} (h : k < l1.length) : (l1 ++ l2).getD k 0 = l1.getD k 0 := by
  rw [List.getD_eq_getElem?_getD, List.getD_eq_getElem?_getD, List.getElem?_append_left h]
theorem getD_r {l1 l2 : List Int32} {k : Nat} : (l1 ++ l2).getD (l1.length + k) 0 = l2.getD k 0 := by
  rw [List.getD_eq_getElem?_getD, List.getD_eq_getElem?_getD, List.getElem?_append_right (by omega), Nat.add_sub_cancel_left]
theorem WfL.not {B : Nat} {l : List Int32} (h : WfL B l) : WfL B (l ++ [-8]) := fun ops i x ho hh => by
  have hl : (l ++ [(-8 : Int32)]).length = l.length + 1 := by simp
  obtain ⟨a1, a2⟩ := h ops i x (fun k hk => by rw [ho k (by omega), getD_l hk]) hh
  have e : ops (i + l.length) = -8 := by rw [ho l.length (by omega)]; have := getD_r (l1 := l) (l2 := [-8]) (k := 0); rw [Nat.add_zero] at this; rw [this]; rfl
  refine ⟨fun k hk => ?_, ?_⟩
  · rcases Nat.lt_or_ge k l.length with q | q
    · exact a1 k q
    · obtain rfl : k = l.length := by omega
      rw [e, a2]
      exact ⟨by decide, fun z => absurd z (by decide), fun _ => Nat.le_refl _, fun z => absurd z (by decide)⟩
  · rw [hl, ← Nat.add_assoc, htE, if_neg (by rw [e]; decide), if_pos e, a2]
theorem WfL.nots {B : Nat} {l : List Int32} (h : WfL B l) : ∀ q, WfL B (l ++ List.replicate q (-8))
  | 0 => by rw [show l ++ List.replicate 0 (-8 : Int32) = l by simp]; exact h
  | q + 1 => by rw [List.replicate_succ', ← List.append_assoc]; exact (WfL.nots h q).not
theorem WfL.bin {B : Nat} {l1 l2 : List Int32} {x : Int32} (h1 : WfL (B + 1) l1) (h2 : WfL B l2) (hx : -17 < x) (hx8 : x < -8) : WfL (B + 1) (l1 ++ l2 ++ [x]) := fun ops i y ho hh => by
  have hl : (l1 ++ l2 ++ [x]).length = l1.length + l2.length + 1 := by simp [Nat.add_assoc]
  obtain ⟨a1, a2⟩ := h1 ops i y (fun k hk => by rw [ho k (by omega), List.append_assoc, getD_l hk]) hh
  obtain ⟨b1, b2⟩ := h2 ops (i + l1.length) (y + 1) (fun k hk => by rw [Nat.add_assoc, ho (l1.length + k) (by omega), List.append_assoc, getD_r, getD_l hk]) a2
  have e : ops (i + (l1.length + l2.length)) = x := by
    rw [ho (l1.length + l2.length) (by omega)]
    have := getD_r (l1 := l1 ++ l2) (l2 := [x]) (k := 0)
    rw [Nat.add_zero, List.length_append] at this
    rw [this]
    rfl
  have hn8 : ¬ -8 < x := Int32.lt_asymm hx8
  have hne : ¬ x = -8 := fun z => by rw [z] at hx8; exact absurd hx8 (by decide)
  refine ⟨fun k hk => ?_, ?_⟩
  · rcases Nat.lt_or_ge k l1.length with q | q
    · exact a1 k q
    · rcases Nat.lt_or_ge k (l1.length + l2.length) with q2 | q2
      · obtain ⟨c1, c2, c3, c4⟩ := b1 (k - l1.length) (by omega)
        rw [show i + l1.length + (k - l1.length) = i + k by omega] at c1 c2 c3 c4
        exact ⟨c1, fun z => by have := c2 z; omega, fun z => by have := c3 z; omega, fun z => by have := c4 z; omega⟩
      · obtain rfl : k = l1.length + l2.length := by omega
        rw [e, ← Nat.add_assoc, b2]
        exact ⟨hx, fun z => absurd z hn8, fun z => absurd z hne, fun _ => Nat.le_refl _⟩
  · rw [hl, show i + (l1.length + l2.length + 1) = i + (l1.length + l2.length) + 1 by omega, htE, if_neg (by rw [e]; exact hn8), if_neg (by rw [e]; exact hne), ← Nat.add_assoc, b2]
    omega
theorem jnK_rng : ∀ lv k, jnK lv k = true → -17 < k ∧ k < -8 := by
  intro lv k h
  unfold jnK at h
  split at h
  · rw [of_decide_eq_true h]; decide
  · split at h
    · rw [of_decide_eq_true h]; decide
    · split at h
      · rcases Bool.or_eq_true_iff.mp h with h | h <;> rw [of_decide_eq_true h] <;> decide
      · split at h
        · rcases Bool.or_eq_true_iff.mp h with h | h <;> rw [of_decide_eq_true h] <;> decide
        · rcases Bool.or_eq_true_iff.mp h with h | h <;> rw [of_decide_eq_true h] <;> decide
def WfR (B : Nat) : PR → Prop
  | Sum.inl _ => True
  | Sum.inr (_, l) => WfL B l
theorem pLoop_wf {K : Nat → Int32} {lv B : Nat} {rec : Nat → PR} (hr : ∀ i, WfR B (rec i)) : ∀ (f j : Nat) (l : List Int32), WfL (B + 1) l → WfR (B + 1) (pLoop K lv rec f j l)
  | 0, j, l, h => h
  | f + 1, j, l, h => by
    unfold pLoop
    split
    · next hj =>
      have h2 := hr (j + 1)
      cases e : rec (j + 1) using PR.el with
      | er c q => exact True.intro
      | ok j2 l2 =>
        rw [e] at h2
        obtain ⟨g1, g2⟩ := jnK_rng _ _ hj
        exact pLoop_wf hr f j2 _ (h.bin h2 g1 g2)
    · exact h
theorem pP_wf {K N : Nat → Int32} : ∀ (n i : Nat), WfR (n + 1) (pP K N n i) := by
  have hpart : ∀ (B d : Nat) (rec : Nat → PR) (i : Nat), (∀ i, WfR (B + 1) (rec i)) → WfR (B + 1) (pPart K N d rec i) := fun B d rec i hr => by
    unfold pPart
    split
    · split
      · next h => exact (WfL.one (Int32.lt_of_lt_of_le (by decide) (tnC_of h).2.1)).mono (by omega)
      · exact True.intro
    · split
      · next h => exact (WfL.one (Int32.not_le.mp h.2)).mono (by omega)
      · split
        · exact True.intro
        · split
          · exact True.intro
          · split
            · split <;> exact True.intro
            · have h2 := hr (i + 1)
              cases e : rec (i + 1) using PR.el with
              | er c q => exact True.intro
              | ok j l =>
                rw [e] at h2
                show WfR (B + 1) (if K j = 5 then _ else _)
                split
                · exact h2
                · exact True.intro
  intro n
  induction n with
  | zero => intro i; unfold pP; exact hpart 0 _ _ i (fun _ => True.intro)
  | succ n ih =>
    intro i
    have ih' : ∀ i, WfR (n + 1 + 1) (pP K N n i) := fun i => by
      have := ih i
      cases e : pP K N n i using PR.el with
      | er c q => exact True.intro
      | ok j l => rw [e] at this; exact this.mono (by omega)
    unfold pP
    split
    · exact hpart (n + 1) _ _ i ih'
    · split
      · unfold pTest
        split
        · exact True.intro
        · have h1 := ih' (i + notsN K i)
          cases e : pP K N n (i + notsN K i) using PR.el with
          | er c q => exact True.intro
          | ok j l =>
            rw [e] at h1
            show WfR (n + 1 + 1) (if jnK 2 (K j) = true then _ else _)
            split
            · next hj =>
              have h2 := ih (j + 1)
              cases e2 : pP K N n (j + 1) using PR.el with
              | er c q => exact True.intro
              | ok j2 l2 =>
                rw [e2] at h2
                obtain ⟨g1, g2⟩ := jnK_rng _ _ hj
                exact (h1.bin h2 g1 g2).nots _
            · exact h1.nots _
      · unfold pLev
        have h1 := ih' i
        cases e : pP K N n i using PR.el with
        | er c q => exact True.intro
        | ok j l =>
          rw [e] at h1
          exact pLoop_wf ih 700 j l h1
theorem WfL.wf {B : Nat} {l : List Int32} (h : WfL B l) (hB : B ≤ 60) : wfE (fun k => l.getD k 0) l.length := by
  obtain ⟨a1, a2⟩ := h (fun k => l.getD k 0) 0 0 (fun k hk => by rw [Nat.zero_add]) rfl
  rw [Nat.zero_add] at a2
  refine ⟨fun i hi => ?_, a2⟩
  obtain ⟨b1, b2, b3, b4⟩ := a1 i hi
  rw [Nat.zero_add] at b1 b2 b3 b4
  exact ⟨b1, fun z => by have := b2 z; omega, fun z => by have := b3 z; omega, fun z => by have := b4 z; omega⟩
