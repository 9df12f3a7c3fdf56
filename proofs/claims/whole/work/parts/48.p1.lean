/-! the round: the class's table over places answers as the reference's walk over houses -/
abbrev cnR (b h : Nat) : Nat := fb_ct (rbB b) h
def RelS (b s left : Nat) : Prop := s < 2 ^ Kr b ∧ left < 1024 ∧ ∀ h, h < 10 → left.testBit h = (rbB b h && s.testBit (cnR b h))
theorem cnR_lt {b h : Nat} (hh : h < 10) (hb : rbB b h = true) : cnR b h < Kr b := by
  have h1 := fb_ct_mono (rbB b) (show h + 1 ≤ 10 from hh)
  rw [fb_ct_succ, hb, if_pos rfl] at h1
  exact h1
theorem cnR_inj {b h k : Nat} (hb : rbB b h = true) (kb : rbB b k = true) (e : cnR b h = cnR b k) : h = k := fb_ct_kth_one hb kb e
theorem Rel_pl {b s left : Nat} {fP fH : Nat → Nat} (hR : RelS b s left) (hf : ∀ h, h < 10 → left.testBit h = true → fP (cnR b h) = fH h) : ∀ h, h ≤ 10 → mB fP s (cnR b h) = mB fH left h
  | 0, _ => rfl
  | h + 1, hh => by
    have ih := Rel_pl hR hf h (by omega)
    have hl := hR.2.2 h (by omega)
    show mB fP s (fb_ct (rbB b) (h + 1)) = _
    rw [fb_ct_succ, mB]
    cases hb : rbB b h
    · rw [hb, Bool.false_and] at hl
      rw [hl]
      exact ih
    · rw [hb, Bool.true_and] at hl
      rw [if_pos rfl, mB, ← hl, ih]
      by_cases c : left.testBit h = true
      · rw [if_pos c, if_pos c, hf h (by omega) c]
      · rw [if_neg c, if_neg c]
theorem Rel_0 {b s left : Nat} (hR : RelS b s left) : s = 0 ↔ left = 0 := by
  obtain ⟨h1, h2, h3⟩ := hR
  constructor
  · intro e
    subst e
    apply Nat.eq_of_testBit_eq
    intro k
    rw [Nat.zero_testBit]
    rcases Nat.lt_or_ge k 10 with q | q
    · rw [h3 k q, Nat.zero_testBit, Bool.and_false]
    · exact Nat.testBit_lt_two_pow (Nat.lt_of_lt_of_le h2 (Nat.pow_le_pow_right (n := 2) (by omega) q))
  · intro e
    subst e
    apply Nat.eq_of_testBit_eq
    intro p
    rw [Nat.zero_testBit]
    rcases Nat.lt_or_ge p (Kr b) with q | q
    · obtain ⟨i, hi, hb, ei⟩ := fb_ct_kth (show p < fb_ct (rbB b) 10 from q)
      have := h3 i hi
      rw [Nat.zero_testBit, hb, Bool.true_and, show cnR b i = p from ei] at this
      exact this.symm
    · exact Nat.testBit_lt_two_pow (Nat.lt_of_lt_of_le h1 (Nat.pow_le_pow_right (n := 2) (by omega) q))
theorem Rel_rb {b s left h : Nat} (hR : RelS b s left) (hh : h < 10) (hl : left.testBit h = true) : rbB b h = true ∧ s.testBit (cnR b h) = true := by
  have := hR.2.2 h hh
  rw [hl] at this
  simpa using this.symm
theorem Rel_rm {b s left h : Nat} (hR : RelS b s left) (hh : h < 10) (hl : left.testBit h = true) : RelS b (rmB s (cnR b h)) (rmB left h) := by
  obtain ⟨hb, -⟩ := Rel_rb hR hh hl
  refine ⟨Nat.lt_of_le_of_lt (rm_le _ _) hR.1, Nat.lt_of_le_of_lt (rm_le _ _) hR.2.1, fun k hk => ?_⟩
  rw [rm_test, rm_test, hR.2.2 k hk]
  by_cases e : k = h
  · subst e; simp
  · cases hkb : rbB b k
    · simp
    · have e2 : ¬ cnR b k = cnR b h := fun q => e (cnR_inj hkb hb q)
      simp [e, e2]
theorem Lt_Bh {wk : Nat → Nat → Nat} {b : Nat} : ∀ s left, RelS b s left → ∀ x, Lt wk (odR b) (Kr b) s x = Bh wk left (odR b x) := by
  intro s
  induction s using Nat.strongRecOn with
  | ind s ih =>
    intro left hR x
    rw [Lt_eq, Bh_eq]
    by_cases h0 : s = 0
    · rw [if_pos h0, if_pos ((Rel_0 hR).mp h0)]
    · rw [if_neg h0, if_neg (fun q => h0 ((Rel_0 hR).mpr q))]
      refine Rel_pl (h := 10) hR (fun h hh hl => ?_) (Nat.le_refl _)
      obtain ⟨hb, hsb⟩ := Rel_rb hR hh hl
      rw [byP, byH, odR_cnt hh hb, ih _ (rm_lt hsb) _ (Rel_rm hR hh hl), odR_cnt hh hb]
theorem mB_none {f : Nat → Nat} {s : Nat} : ∀ {n : Nat}, (∀ k, k < n → s.testBit k = false) → mB f s n = 1000000
  | 0, _ => rfl
  | n + 1, h => by rw [mB, h n (by omega), mB_none (fun k hk => h k (by omega))]; rfl
theorem argm_spec {f : Nat → Nat} {s : Nat} (hf : ∀ k, f k < 1000000) : ∀ n, (∃ k, k < n ∧ s.testBit k = true) → argm f s n < n ∧ s.testBit (argm f s n) = true ∧ f (argm f s n) = mB f s n ∧ ∀ k, k < argm f s n → s.testBit k = true → mB f s n < f k
  | 0, h => by obtain ⟨k, hk, -⟩ := h; omega
  | n + 1, h => by
    by_cases c : s.testBit n = true ∧ f n < mB f s n
    · rw [argm, if_pos c, mB, if_pos c.1, Nat.min_eq_right (by omega)]
      exact ⟨by omega, c.1, rfl, fun k hk hb => Nat.lt_of_lt_of_le c.2 (mB_bit hk hb)⟩
    · have hex : ∃ k, k < n ∧ s.testBit k = true := by
        obtain ⟨k, hk, hb⟩ := h
        by_cases e : k < n
        · exact ⟨k, e, hb⟩
        · have ek : k = n := by omega
          subst ek
          by_cases q : ∃ j, j < k ∧ s.testBit j = true
          · exact q
          · exfalso
            refine c ⟨hb, ?_⟩
            rw [mB_none (fun j hj => by
              cases hq : s.testBit j
              · rfl
              · exact absurd ⟨j, hj, hq⟩ q)]
            exact hf k
      obtain ⟨i1, i2, i3, i4⟩ := argm_spec hf n hex
      have em : mB f s (n + 1) = mB f s n := by
        rw [mB]
        split
        · rename_i hb
          have : ¬ f n < mB f s n := fun q => c ⟨hb, q⟩
          omega
        · rfl
      rw [argm, if_neg c, em]
      exact ⟨by omega, i2, i3, i4⟩
theorem nxH_spec {wk : Nat → Nat → Nat} (hwl : ∀ x y, wk x y ≤ 99) {s : Nat} (hs : s < 1024) (h0 : s ≠ 0) (x : Nat) : nxH wk s x < 10 ∧ s.testBit (nxH wk s x) = true ∧ byH wk s x (nxH wk s x) = Bh wk s x ∧ ∀ k, k < nxH wk s x → s.testBit k = true → Bh wk s x < byH wk s x k := by
  have h1 := argm_spec (f := byH wk s x) (s := s) (fun k => by have := byH_bd hwl hs x k; omega) 10 ((lowb_tab s hs).resolve_left h0 |> fun z => ⟨_, z.1, z.2⟩)
  rw [Bh_eq, if_neg h0]
  exact h1
theorem nxP_nxH {wk : Nat → Nat → Nat} (hwl : ∀ x y, wk x y ≤ 99) {b s left : Nat} (hR : RelS b s left) (h0 : left ≠ 0) (x : Nat) : nxP wk (odR b) (Kr b) s x = cnR b (nxH wk left (odR b x)) := by
  obtain ⟨n1, n2, n3, n4⟩ := nxH_spec hwl hR.2.1 h0 (odR b x)
  obtain ⟨nx, hnx⟩ : ∃ nx, nx = nxH wk left (odR b x) := ⟨_, rfl⟩
  rw [← hnx] at n1 n2 n3 n4 ⊢
  obtain ⟨hb, hsb⟩ := Rel_rb hR n1 n2
  have hlt := cnR_lt n1 hb
  have hby : ∀ h, h < 10 → left.testBit h = true → byP wk (odR b) (Lt wk (odR b) (Kr b)) s x (cnR b h) = byH wk left (odR b x) h := fun h hh hl => by
    obtain ⟨hb, -⟩ := Rel_rb hR hh hl
    rw [byP, byH, odR_cnt hh hb, Lt_Bh _ _ (Rel_rm hR hh hl), odR_cnt hh hb]
  have hno : ∀ q, q < cnR b nx → (s.testBit q && decide (byP wk (odR b) (Lt wk (odR b) (Kr b)) s x q = Lt wk (odR b) (Kr b) s x)) = false := fun q hq => by
    obtain ⟨h, hh, hbh, e⟩ := fb_ct_kth (show q < fb_ct (rbB b) 10 from Nat.lt_trans hq hlt)
    have e : cnR b h = q := e
    have hlh : h < nx := by
      rcases Nat.lt_or_ge h nx with z | z
      · exact z
      · have : cnR b nx ≤ cnR b h := fb_ct_mono (rbB b) z
        omega
    cases hsq : s.testBit q
    · rfl
    · rw [Bool.true_and]
      refine decide_eq_false (fun z => ?_)
      have hl : left.testBit h = true := by rw [hR.2.2 h hh, hbh, e, hsq]; rfl
      have h5 := n4 h hlh hl
      rw [← e, hby h hh hl, Lt_Bh _ _ hR] at z
      omega
  have hyes : (s.testBit (cnR b nx) && decide (byP wk (odR b) (Lt wk (odR b) (Kr b)) s x (cnR b nx) = Lt wk (odR b) (Kr b) s x)) = true := by
    rw [hsb, Bool.true_and, hby nx n1 n2, Lt_Bh _ _ hR, n3]
    exact decide_eq_true rfl
  have h1 := first_ge (n := Kr b - 1) hno (by omega)
  have h2 := nxP_le wk (odR b) (Kr b) s x
  unfold nxP at *
  rcases Nat.lt_or_ge (cnR b nx) (Kr b - 1) with q | q
  · exact first_at hno q hyes
  · omega
theorem Rel_start {b : Nat} (hb : b < 1024) (hb0 : b.testBit 0 = false) : RelS b (2 ^ Kr b - 1) b := by
  refine ⟨by have := Nat.two_pow_pos (Kr b); omega, hb, fun h hh => ?_⟩
  rw [Nat.testBit_two_pow_sub_one]
  cases h with
  | zero => rw [hb0]; rfl
  | succ h =>
    cases q : rbB b (h + 1)
    · unfold rbB at q
      simpa using q
    · have h1 := cnR_lt hh q
      have h2 : b.testBit (h + 1) = true := by
        unfold rbB at q
        simpa using q
      rw [h2]
      simp [h1]
theorem Kr_popc {b : Nat} (hb0 : b.testBit 0 = false) : Kr b = popc b := by
  refine fb_ct_cong (fun h _ => ?_)
  cases h with
  | zero => rw [hb0]; rfl
  | succ h => simp [rbB]
theorem popc_0' {s : Nat} (h : 0 < popc s) : s ≠ 0 := fun q => by rw [q, popc_0] at h; omega
theorem stT_rel {wk : Nat → Nat → Nat} (hwl : ∀ x y, wk x y ≤ 99) {b : Nat} (hb : b < 1024) (hb0 : b.testBit 0 = false) : ∀ i, i ≤ Kr b → ∃ left, RelS b (stT wk (odR b) (Kr b) i).1 left ∧ popc left + i = Kr b ∧ ∀ k, pth wk (i + k) b 0 = pth wk k left (odR b (stT wk (odR b) (Kr b) i).2)
  | 0, _ => ⟨b, Rel_start hb hb0, by rw [Kr_popc hb0]; rfl, fun k => by rw [Nat.zero_add]; rfl⟩
  | i + 1, hi => by
    obtain ⟨left, hR, hp, ht⟩ := stT_rel hwl hb hb0 i (by omega)
    have h0 := popc_0' (s := left) (by omega)
    obtain ⟨n1, n2, n3, n4⟩ := nxH_spec hwl hR.2.1 h0 (odR b (stT wk (odR b) (Kr b) i).2)
    have hn := nxP_nxH hwl hR h0 (stT wk (odR b) (Kr b) i).2
    obtain ⟨hbn, -⟩ := Rel_rb hR n1 n2
    have hpr := popc_rm n1 n2
    refine ⟨rmB left (nxH wk left (odR b (stT wk (odR b) (Kr b) i).2)), ?_, by omega, fun k => ?_⟩
    · show RelS b (rmB _ (nxP _ _ _ _ _)) _
      rw [hn]
      exact Rel_rm hR n1 n2
    · show _ = pth wk k _ (odR b (nxP _ _ _ _ _ + 1))
      rw [hn, odR_cnt n1 hbn, show i + 1 + k = i + (k + 1) by omega, ht (k + 1)]
      rfl
theorem round_row {wk : Nat → Nat → Nat} (hwl : ∀ x y, wk x y ≤ 99) {b : Nat} (hb : b < 1024) (hb0 : b.testBit 0 = false) {i : Nat} (hi : i < Kr b) : rowT9 wk (odR b) (Kr b) i = pth wk i b 0 := by
  obtain ⟨left, hR, hp, ht⟩ := stT_rel hwl hb hb0 i (by omega)
  have h0 := popc_0' (s := left) (by omega)
  obtain ⟨n1, n2, n3, n4⟩ := nxH_spec hwl hR.2.1 h0 (odR b (stT wk (odR b) (Kr b) i).2)
  have hn := nxP_nxH hwl hR h0 (stT wk (odR b) (Kr b) i).2
  obtain ⟨hbn, -⟩ := Rel_rb hR n1 n2
  have := ht 0
  rw [Nat.add_zero] at this
  rw [this, rowT9, hn, odR_cnt n1 hbn]
  rfl
theorem round_sum {wk : Nat → Nat → Nat} {b : Nat} (hb : b < 1024) (hb0 : b.testBit 0 = false) : Lt wk (odR b) (Kr b) (2 ^ Kr b - 1) 0 = Bh wk b 0 := Lt_Bh _ _ (Rel_start hb hb0) 0
