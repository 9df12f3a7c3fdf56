/-! a parsed city: its people's houses are houses, its walks 0 to 99, its codes well formed -/
def DrB (d : Dr) : Prop := (∀ p, p < d.P → 0 ≤ d.hm p ∧ d.hm p < d.H) ∧ (∀ k, 0 ≤ d.wk k ∧ d.wk k ≤ 99) ∧ (∀ e, e < d.R → WfL 36 (d.rs e)) ∧ ∀ e, e < d.A → WfL 36 (d.as e)
def BC : PC → Prop
  | Sum.inl _ => True
  | Sum.inr (_, d) => DrB d
theorem pHouses_B {K N : Nat → Int32} {i : Nat} {d : Dr} (hB : DrB d) (h0 : d.P = 0) : BC (pHouses K N d i) := by
  unfold pHouses
  split
  · exact ⟨fun p hp => absurd (show p < d.P from hp) (by omega), hB.2⟩
  · trivial
theorem pHired_B {K : Nat → Int32} {j : Nat} {d : Dr} {h c : Int32} (hB : DrB d) (h0 : 0 ≤ h) (h1 : h < d.H) : BC (pHired K d h c j) := by
  have hk : ∀ b, DrB (addP d h c b) := fun b => ⟨fun p hp => by
    have hp2 : p < d.P + 1 := hp
    show 0 ≤ upd d.hm d.P h p ∧ upd d.hm d.P h p < d.H
    by_cases e : p = d.P
    · rw [e, upd_at]; exact ⟨h0, h1⟩
    · rw [upd_off e]; exact hB.1 p (by omega), hB.2⟩
  unfold pHired
  split
  · exact hk 1
  · exact hk 0
theorem pPerson_B {K N : Nat → Int32} {m i : Nat} {d : Dr} (hm : K m = 0) (hN : ∀ j, j ≤ m → K j = 1 → 0 ≤ N j) (hi : i < m) (hB : DrB d) : BC (pPerson K N d i) := by
  unfold pPerson
  split
  · trivial
  · split
    · trivial
    · next h =>
      have h1 := thC_of (Decidable.not_not.mp h)
      have h0 := hN (i + 1) hi h1.1
      split
      · split
        · exact pHired_B hB h0 h1.2.1
        · trivial
      · exact pHired_B hB h0 h1.2.1
theorem pWalk_B {K N : Nat → Int32} {i : Nat} {d : Dr} (hB : DrB d) : BC (pWalk K N d i) := by
  unfold pWalk
  split
  · trivial
  · split
    · trivial
    · split
      · trivial
      · next h5 =>
        obtain ⟨-, h1, h2⟩ := tnC_of (Decidable.not_not.mp h5)
        have h0 : 0 ≤ N (i + 3) := Int32.le_trans (by decide) h1
        refine ⟨hB.1, fun k => ?_, hB.2.2⟩
        show 0 ≤ upd (upd d.wk _ _) _ _ k ∧ upd (upd d.wk _ _) _ _ k ≤ 99
        by_cases e : k = 10 * (N (i + 2)).toNatClampNeg + (N (i + 1)).toNatClampNeg
        · rw [e, upd_at]; exact ⟨h0, h2⟩
        · rw [upd_off e]
          by_cases e2 : k = 10 * (N (i + 1)).toNatClampNeg + (N (i + 2)).toNatClampNeg
          · rw [e2, upd_at]; exact ⟨h0, h2⟩
          · rw [upd_off e2]; exact hB.2.1 k
theorem pRule_B {K N : Nat → Int32} {i : Nat} {d : Dr} (hB : DrB d) : BC (pRule K N d i) := by
  unfold pRule
  split
  · trivial
  · have h := pP_wf (K := K) (N := N) 35 (i + 1)
    cases e : pP K N 35 (i + 1) using PR.el with
    | er c q => trivial
    | ok j l =>
      rw [e] at h
      refine ⟨hB.1, hB.2.1, fun e9 he => ?_, hB.2.2.2⟩
      have he2 : e9 < d.R + 1 := he
      show WfL 36 (if e9 = d.R then l else d.rs e9)
      by_cases q : e9 = d.R
      · rw [if_pos q]; exact h
      · rw [if_neg q]; exact hB.2.2.1 e9 (by omega)
theorem pAsk_B {K N : Nat → Int32} {i : Nat} {d : Dr} (hB : DrB d) : BC (pAsk K N d i) := by
  unfold pAsk
  split
  · trivial
  · have h := pP_wf (K := K) (N := N) 35 (i + 1)
    cases e : pP K N 35 (i + 1) using PR.el with
    | er c q => trivial
    | ok j l =>
      rw [e] at h
      refine ⟨hB.1, hB.2.1, hB.2.2.1, fun e9 he => ?_⟩
      have he2 : e9 < d.A + 1 := he
      show WfL 36 (if e9 = d.A then l else d.as e9)
      by_cases q : e9 = d.A
      · rw [if_pos q]; exact h
      · rw [if_neg q]; exact hB.2.2.2 e9 (by omega)
theorem pClause_B {K N : Nat → Int32} {m i : Nat} {b : Bool} {d : Dr} (hm : K m = 0) (hN : ∀ j, j ≤ m → K j = 1 → 0 ≤ N j) (hi : i < m) (hB : DrB d) (hb : b = true → d.P = 0) : BC (pClause K N b d i) := by
  unfold pClause
  split
  · split
    · next h => exact pHouses_B hB (hb h)
    · trivial
  · split
    · exact pPerson_B hm hN hi hB
    · split
      · exact pWalk_B hB
      · split
        · exact pRule_B hB
        · split
          · exact pAsk_B hB
          · trivial
theorem pCity_B {K N : Nat → Int32} {m : Nat} (hm : K m = 0) (hN : ∀ j, j ≤ m → K j = 1 → 0 ≤ N j) : ∀ (f i : Nat) (b : Bool) (d : Dr), i ≤ m → DrK d → DrB d → (b = true → d.P = 0) → BC (pCity K N f b d i)
  | 0, i, b, d, hi, hd, hB, hb => hB
  | f + 1, i, b, d, hi, hd, hB, hb => by
    rw [pCity]
    split
    · exact hB
    · next h0 =>
      have hi2 := k_lt hm hi h0
      have h := pClause_prg (N := N) (b := b) hm hi2 hd
      have h9 := pClause_B (b := b) hm hN hi2 hB hb
      cases e : pClause K N b d i using PC.el with
      | er c q => trivial
      | ok j d' =>
        rw [e] at h h9
        obtain ⟨h1, h2, h3⟩ := h
        show BC (if K j = 3 then pCity K N f false d' (j + 1) else .er 1 j)
        split
        · next h5 => exact pCity_B hm hN f (j + 1) false d' (k_lt hm h2 (by rw [h5]; decide)) h3 h9 (fun q => by cases q)
        · trivial
theorem DrB.dr0 : DrB dr0 := ⟨fun p hp => absurd (show p < 0 from hp) (Nat.not_lt_zero _), fun _ => ⟨(by decide : (0 : Int32) ≤ 10), (by decide : (10 : Int32) ≤ 99)⟩, fun e he => absurd (show e < 0 from he) (Nat.not_lt_zero _), fun e he => absurd (show e < 0 from he) (Nat.not_lt_zero _)⟩
theorem DrK.dr0 : DrK dr0 := ⟨(by decide : (1 : Int32) ≤ 1), (by decide : (1 : Int32) ≤ 10), (by decide : 0 ≤ 16), (by decide : 0 ≤ 4), (by decide : 0 ≤ 6)⟩
