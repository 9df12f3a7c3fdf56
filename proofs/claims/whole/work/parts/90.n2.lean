/-! the reference steps on -/
def bA (t : Nat → Int32) (n q : Nat) : Int32 := if q < n then t q else -1
def StM (t : Nat → Int32) (n s : Nat) (v : ZV) : Prop := v 30 = nI s ∧ v 26 = nI (eNd t n s) ∧ v 31 = nI (eNd t n s) ∧ v 28 = tcM t n s ∧ (v 28 = 2 → eNd t n s - s ≤ 4 → v 29 = numD t s (eNd t n s - s))
def FS (v v2 : ZV) : Prop := ∀ k, (k < 26 ∨ k = 27 ∨ 31 < k) → v2 k = v k
theorem FS.rf {v : ZV} : FS v v := fun _ _ => rfl
theorem FS.up {v v2 : ZV} {k : Nat} {x : Int32} (h : FS v v2) (hk : k = 26 ∨ (28 ≤ k ∧ k ≤ 31)) : FS v (va_up v2 k x) := fun j hj => by rw [up_off (by omega)]; exact h j hj
theorem bA_blk {t : Nat → Int32} {n q : Nat} (h : bA t n q = 32 ∨ bA t n q = 10) : q < n ∧ blkB (t q) = true := by
  unfold bA at h
  by_cases hq : q < n
  · rw [if_pos hq] at h
    refine ⟨hq, ?_⟩
    unfold blkB
    rcases h with h | h
    · rw [h]; rfl
    · rw [h]; rfl
  · rw [if_neg hq] at h
    rcases h with h | h <;> exact absurd h (by decide)
theorem nb_at {t : Nat → Int32} {n p k : Nat} (hk : ∀ j, j < k → blkB (t (p + j)) = true) (h : p + k ≤ n) (h2 : ¬ bA t n (p + k) = 32) (h3 : ¬ bA t n (p + k) = 10) : nbN t n p = p + k := by
  unfold nbN
  rcases Nat.lt_or_ge (p + k) n with q | q
  · rw [first_at (fun j hj => by rw [hk j hj]; rfl) (by omega) ?_]
    rw [bA, if_pos q] at h2 h3
    rw [blkB, decide_eq_false h2, decide_eq_false h3]
    rfl
  · have h4 := first_ge (p := fun i => !blkB (t (p + i))) (n := n - p) (i := k) (fun j hj => by rw [hk j hj]; rfl) (by omega)
    have h5 := fa_first_le (fun i => !blkB (t (p + i))) (n - p)
    omega
theorem bA_m1 {t : Nat → Int32} {n q : Nat} (ht : ∀ q, q < 700 → 0 ≤ t q) (hn : n ≤ 700) (h : bA t n q = -1) : ¬ q < n := fun hq => by
  rw [bA, if_pos hq] at h
  have := ht q (by omega)
  rw [h] at this
  exact absurd this (by decide)
theorem bA_lt {t : Nat → Int32} {n q : Nat} (h : ¬ bA t n q = -1) : q < n ∧ bA t n q = t q := by
  unfold bA at h ⊢
  by_cases hq : q < n
  · rw [if_pos hq]; exact ⟨hq, rfl⟩
  · rw [if_neg hq] at h; exact absurd rfl h
theorem bA_in {t : Nat → Int32} {n q : Nat} {a b : Int32} (ha : -1 < a) (h : inB (bA t n q) a b = true) : q < n ∧ inB (t q) a b = true := by
  unfold bA at h
  by_cases hq : q < n
  · rw [if_pos hq] at h; exact ⟨hq, h⟩
  · rw [if_neg hq, inB_n1 ha] at h; cases h
theorem end_run {t : Nat → Int32} {n s k : Nat} (hk : 1 ≤ k) (hl : ∀ j, 1 ≤ j → j < k → likB t s (s + j) = true) (h : s + k ≤ n) (h2 : s + k < n → likB t s (s + k) = false) : endN t n s = s + k := by
  unfold endN
  rcases Nat.lt_or_ge (s + k) n with q | q
  · rw [first_at (i := k - 1) (fun j hj => by rw [show s + 1 + j = s + (j + 1) by omega, hl (j + 1) (by omega) (by omega)]; rfl) (by omega) (by rw [show s + 1 + (k - 1) = s + k by omega, h2 q]; rfl)]
    omega
  · have h4 := first_ge (p := fun i => !likB t s (s + 1 + i)) (n := n - (s + 1)) (i := k - 1) (fun j hj => by rw [show s + 1 + j = s + (j + 1) by omega, hl (j + 1) (by omega) (by omega)]; rfl) (by omega)
    have h5 := fa_first_le (fun i => !likB t s (s + 1 + i)) (n - (s + 1))
    omega
theorem inB_let {x : Int32} (h : inB x 97 122 = true) : inB x 48 57 = false := by
  obtain ⟨h1, -⟩ := Bool.and_eq_true_iff.mp h
  exact inB_n2 (fun q => absurd (Int32.le_trans (of_decide_eq_true h1) q) (by decide))
theorem end_let {t : Nat → Int32} {n s k : Nat} (hs : inB (t s) 97 122 = true) (hk : ∀ j, j < k → inB (t (s + j)) 97 122 = true) (h : s + k ≤ n) (hsn : s < n) (h2 : inB (bA t n (s + k)) 97 122 = false) : endN t n s = s + k := by
  have hlk : ∀ q, likB t s q = inB (t q) 97 122 := fun q => by rw [likB, hs, inB_let hs]; simp
  rcases Nat.eq_zero_or_pos k with q | q
  · subst q
    rw [Nat.add_zero, bA, if_pos hsn, hs] at h2
    cases h2
  · exact end_run q (fun j _ hj => by rw [hlk]; exact hk j hj) h (fun hq => by rw [hlk]; rw [bA, if_pos hq] at h2; exact h2)
theorem end_num {t : Nat → Int32} {n s k : Nat} (hs : inB (t s) 48 57 = true) (hk : ∀ j, j < k → inB (t (s + j)) 48 57 = true) (h : s + k ≤ n) (hsn : s < n) (h2 : inB (bA t n (s + k)) 48 57 = false) : endN t n s = s + k := by
  have hlk : ∀ q, likB t s q = inB (t q) 48 57 := fun q => by rw [likB, hs, inB_two hs]; simp
  rcases Nat.eq_zero_or_pos k with q | q
  · subst q
    rw [Nat.add_zero, bA, if_pos hsn, hs] at h2
    cases h2
  · exact end_run q (fun j _ hj => by rw [hlk]; exact hk j hj) h (fun hq => by rw [hlk]; rw [bA, if_pos hq] at h2; exact h2)
theorem num_min {t : Nat → Int32} {n s k : Nat} {x : Int32} (hd : ∀ j, j < k + 1 → inB (t (s + j)) 48 57 = true) (hx : k ≤ 4 → x = numD t s k) (hn : s + k < n) : k + 1 ≤ 4 → (if 10 * x + bA t n (s + k) - 48 < 100000 then 10 * x + bA t n (s + k) - 48 else 100000) = numD t s (k + 1) := by
  intro h4
  have h5 := hx (by omega)
  obtain ⟨X, hX, e⟩ := numD_nI (t := t) (s := s) (k + 1) hd
  have e2 : 10 * x + bA t n (s + k) - 48 = numD t s (k + 1) := by rw [h5, bA, if_pos hn]; rfl
  rw [e2, e]
  have : 10 ^ (k + 1) ≤ 10 ^ 4 := Nat.pow_le_pow_right (by decide) h4
  exact if_pos (nI_lt (a := X) (b := 100000) (by omega) (by decide))
theorem sgK_b {c : Int32} : bI (!decide (sgK c = 2)) = 0 ↔ sgK c = 2 := by
  by_cases h : sgK c = 2
  · rw [decide_eq_true h]; exact ⟨fun _ => h, fun _ => rfl⟩
  · rw [decide_eq_false h]; exact ⟨fun q => absurd q (by decide), fun q => absurd q h⟩
theorem c_X11_byteAt {l : Launch} {D : va_G} {cA : Nat → ClassId} {r : Nat} {a : Nat → Nat} {s0 s1 : Nat → Option Nat} {v : ZV} {g : ZG} {n q : Nat} (hn : v 27 = nI n) (hn7 : n ≤ 700) (hq : q ≤ 700) : MG l D cA (WM r a cA s0 s1) yX11_byteAt cX11_byteAt 2 (some .int) 0 [(.ref r), .int (nI q)] v g (PF v g (some (.int (bA (g 24) n q)))) := by
  refine MG.of (by decide) rfl (Nat.le_of_ble_eq_true rfl) (by simp [Value.category]) (fun Z hZ => ?_)
  refine z_iload_n hZ (pc := 0) dX11_byteAt_0 rfl ?_
  refine z_aload_n hZ (pc := 1) dX11_byteAt_1 rfl ?_
  refine gM_27 hZ (pc := 2) fl_X11_170 dX11_byteAt_2 ?_
  refine z_top hn ?_
  refine z_icmp_ge hZ (pc := 5) (tgt := 17) dX11_byteAt_5 rfl (fun c5 => ?_) (fun c5 => ?_)
  · skip
    refine z_iconst hZ (pc := 17) (v := (-1)) dX11_byteAt_17 (by decide) ?_
    refine zr_i hZ (pc := 18) dX11_byteAt_18 FitR.int ?_
    exact ⟨rfl, rfl, by rw [bA, if_neg (fun z => absurd (nI_lt z (by omega)) (Int32.not_lt.mpr c5))]⟩
  · skip
    have hlt : q < n := by
      rcases Nat.lt_or_ge q n with z | z
      · exact z
      · exact absurd (nI_le z (by omega)) c5
    refine z_aload_n hZ (pc := 8) dX11_byteAt_8 rfl ?_
    refine gM_24 hZ (pc := 9) fl_X11_95 dX11_byteAt_9 ?_
    refine z_iload_n hZ (pc := 12) dX11_byteAt_12 rfl ?_
    refine lMn_24 hZ (pc := 13) dX11_byteAt_13 (by omega) ?_
    refine z_goto hZ (pc := 14) (tgt := 18) dX11_byteAt_14 rfl ?_
    refine zr_i hZ (pc := 18) dX11_byteAt_18 FitR.int ?_
    exact ⟨rfl, rfl, by rw [bA, if_pos hlt]⟩
theorem c_X11_isLetter {l : Launch} {D : va_G} {cA : Nat → ClassId} {r : Nat} {a : Nat → Nat} {s0 s1 : Nat → Option Nat} {v : ZV} {g : ZG} {c : Int32}  : MG l D cA (WM r a cA s0 s1) yX11_isLetter cX11_isLetter 1 (some .boolean) 0 [.int c] v g (PF v g (some (.int (bI (inB c 97 122))))) := by
  refine MG.of (by decide) rfl (Nat.le_of_ble_eq_true rfl) (by simp [Value.category]) (fun Z hZ => ?_)
  refine z_iload_n hZ (pc := 0) dX11_isLetter_0 rfl ?_
  refine z_bipush hZ (pc := 1) (v := 97) dX11_isLetter_1 (by decide) ?_
  refine z_icmp_lt hZ (pc := 3) (tgt := 16) dX11_isLetter_3 rfl (fun c3 => ?_) (fun c3 => ?_)
  · skip
    refine z_iconst hZ (pc := 16) (v := 0) dX11_isLetter_16 (by decide) ?_
    refine zr_i hZ (pc := 17) dX11_isLetter_17 FitR.b0 ?_
    exact ⟨rfl, rfl, by rw [inB_n1 c3]; rfl⟩
  · skip
    refine z_iload_n hZ (pc := 6) dX11_isLetter_6 rfl ?_
    refine z_bipush hZ (pc := 7) (v := 122) dX11_isLetter_7 (by decide) ?_
    refine z_icmp_gt hZ (pc := 9) (tgt := 16) dX11_isLetter_9 rfl (fun c9 => ?_) (fun c9 => ?_)
    · skip
      refine z_iconst hZ (pc := 16) (v := 0) dX11_isLetter_16 (by decide) ?_
      refine zr_i hZ (pc := 17) dX11_isLetter_17 FitR.b0 ?_
      exact ⟨rfl, rfl, by rw [inB_n2 (Int32.not_le.mpr c9)]; rfl⟩
    · skip
      refine z_iconst hZ (pc := 12) (v := 1) dX11_isLetter_12 (by decide) ?_
      refine z_goto hZ (pc := 13) (tgt := 17) dX11_isLetter_13 rfl ?_
      refine zr_i hZ (pc := 17) dX11_isLetter_17 FitR.b1 ?_
      exact ⟨rfl, rfl, by rw [inB_y c3 (Int32.not_lt.mp c9)]; rfl⟩
theorem c_X11_isDigit {l : Launch} {D : va_G} {cA : Nat → ClassId} {r : Nat} {a : Nat → Nat} {s0 s1 : Nat → Option Nat} {v : ZV} {g : ZG} {c : Int32}  : MG l D cA (WM r a cA s0 s1) yX11_isDigit cX11_isDigit 1 (some .boolean) 0 [.int c] v g (PF v g (some (.int (bI (inB c 48 57))))) := by
  refine MG.of (by decide) rfl (Nat.le_of_ble_eq_true rfl) (by simp [Value.category]) (fun Z hZ => ?_)
  refine z_iload_n hZ (pc := 0) dX11_isDigit_0 rfl ?_
  refine z_bipush hZ (pc := 1) (v := 48) dX11_isDigit_1 (by decide) ?_
  refine z_icmp_lt hZ (pc := 3) (tgt := 16) dX11_isDigit_3 rfl (fun c3 => ?_) (fun c3 => ?_)
  · skip
    refine z_iconst hZ (pc := 16) (v := 0) dX11_isDigit_16 (by decide) ?_
    refine zr_i hZ (pc := 17) dX11_isDigit_17 FitR.b0 ?_
    exact ⟨rfl, rfl, by rw [inB_n1 c3]; rfl⟩
  · skip
    refine z_iload_n hZ (pc := 6) dX11_isDigit_6 rfl ?_
    refine z_bipush hZ (pc := 7) (v := 57) dX11_isDigit_7 (by decide) ?_
    refine z_icmp_gt hZ (pc := 9) (tgt := 16) dX11_isDigit_9 rfl (fun c9 => ?_) (fun c9 => ?_)
    · skip
      refine z_iconst hZ (pc := 16) (v := 0) dX11_isDigit_16 (by decide) ?_
      refine zr_i hZ (pc := 17) dX11_isDigit_17 FitR.b0 ?_
      exact ⟨rfl, rfl, by rw [inB_n2 (Int32.not_le.mpr c9)]; rfl⟩
    · skip
      refine z_iconst hZ (pc := 12) (v := 1) dX11_isDigit_12 (by decide) ?_
      refine z_goto hZ (pc := 13) (tgt := 17) dX11_isDigit_13 rfl ?_
      refine zr_i hZ (pc := 17) dX11_isDigit_17 FitR.b1 ?_
      exact ⟨rfl, rfl, by rw [inB_y c3 (Int32.not_lt.mp c9)]; rfl⟩
theorem c_X11_isMark {l : Launch} {D : va_G} {cA : Nat → ClassId} {r : Nat} {a : Nat → Nat} {s0 s1 : Nat → Option Nat} {v : ZV} {g : ZG} {c : Int32}  : MG l D cA (WM r a cA s0 s1) yX11_isMark cX11_isMark 1 (some .boolean) 0 [.int c] v g (PF v g (some (.int (bI (!decide (sgK c = 2)))))) := by
  refine MG.of (by decide) rfl (Nat.le_of_ble_eq_true rfl) (by simp [Value.category]) (fun Z hZ => ?_)
  refine z_iload_n hZ (pc := 0) dX11_isMark_0 rfl ?_
  refine z_bipush hZ (pc := 1) (v := 59) dX11_isMark_1 (by decide) ?_
  refine z_icmp_eq hZ (pc := 3) (tgt := 54) dX11_isMark_3 rfl (fun c3 => ?_) (fun c3 => ?_)
  · skip
    refine z_iconst hZ (pc := 54) (v := 1) dX11_isMark_54 (by decide) ?_
    refine z_goto hZ (pc := 55) (tgt := 59) dX11_isMark_55 rfl ?_
    refine zr_i hZ (pc := 59) dX11_isMark_59 FitR.b1 ?_
    exact ⟨rfl, rfl, by rw [c3]; rfl⟩
  · skip
    refine z_iload_n hZ (pc := 6) dX11_isMark_6 rfl ?_
    refine z_bipush hZ (pc := 7) (v := 40) dX11_isMark_7 (by decide) ?_
    refine z_icmp_eq hZ (pc := 9) (tgt := 54) dX11_isMark_9 rfl (fun c9 => ?_) (fun c9 => ?_)
    · skip
      refine z_iconst hZ (pc := 54) (v := 1) dX11_isMark_54 (by decide) ?_
      refine z_goto hZ (pc := 55) (tgt := 59) dX11_isMark_55 rfl ?_
      refine zr_i hZ (pc := 59) dX11_isMark_59 FitR.b1 ?_
      exact ⟨rfl, rfl, by rw [c9]; rfl⟩
    · skip
      refine z_iload_n hZ (pc := 12) dX11_isMark_12 rfl ?_
      refine z_bipush hZ (pc := 13) (v := 41) dX11_isMark_13 (by decide) ?_
      refine z_icmp_eq hZ (pc := 15) (tgt := 54) dX11_isMark_15 rfl (fun c15 => ?_) (fun c15 => ?_)
      · skip
        refine z_iconst hZ (pc := 54) (v := 1) dX11_isMark_54 (by decide) ?_
        refine z_goto hZ (pc := 55) (tgt := 59) dX11_isMark_55 rfl ?_
        refine zr_i hZ (pc := 59) dX11_isMark_59 FitR.b1 ?_
        exact ⟨rfl, rfl, by rw [c15]; rfl⟩
      · skip
        refine z_iload_n hZ (pc := 18) dX11_isMark_18 rfl ?_
        refine z_bipush hZ (pc := 19) (v := 43) dX11_isMark_19 (by decide) ?_
        refine z_icmp_eq hZ (pc := 21) (tgt := 54) dX11_isMark_21 rfl (fun c21 => ?_) (fun c21 => ?_)
        · skip
          refine z_iconst hZ (pc := 54) (v := 1) dX11_isMark_54 (by decide) ?_
          refine z_goto hZ (pc := 55) (tgt := 59) dX11_isMark_55 rfl ?_
          refine zr_i hZ (pc := 59) dX11_isMark_59 FitR.b1 ?_
          exact ⟨rfl, rfl, by rw [c21]; rfl⟩
        · skip
          refine z_iload_n hZ (pc := 24) dX11_isMark_24 rfl ?_
          refine z_bipush hZ (pc := 25) (v := 45) dX11_isMark_25 (by decide) ?_
          refine z_icmp_eq hZ (pc := 27) (tgt := 54) dX11_isMark_27 rfl (fun c27 => ?_) (fun c27 => ?_)
          · skip
            refine z_iconst hZ (pc := 54) (v := 1) dX11_isMark_54 (by decide) ?_
            refine z_goto hZ (pc := 55) (tgt := 59) dX11_isMark_55 rfl ?_
            refine zr_i hZ (pc := 59) dX11_isMark_59 FitR.b1 ?_
            exact ⟨rfl, rfl, by rw [c27]; rfl⟩
          · skip
            refine z_iload_n hZ (pc := 30) dX11_isMark_30 rfl ?_
            refine z_bipush hZ (pc := 31) (v := 42) dX11_isMark_31 (by decide) ?_
            refine z_icmp_eq hZ (pc := 33) (tgt := 54) dX11_isMark_33 rfl (fun c33 => ?_) (fun c33 => ?_)
            · skip
              refine z_iconst hZ (pc := 54) (v := 1) dX11_isMark_54 (by decide) ?_
              refine z_goto hZ (pc := 55) (tgt := 59) dX11_isMark_55 rfl ?_
              refine zr_i hZ (pc := 59) dX11_isMark_59 FitR.b1 ?_
              exact ⟨rfl, rfl, by rw [c33]; rfl⟩
            · skip
              refine z_iload_n hZ (pc := 36) dX11_isMark_36 rfl ?_
              refine z_bipush hZ (pc := 37) (v := 47) dX11_isMark_37 (by decide) ?_
              refine z_icmp_eq hZ (pc := 39) (tgt := 54) dX11_isMark_39 rfl (fun c39 => ?_) (fun c39 => ?_)
              · skip
                refine z_iconst hZ (pc := 54) (v := 1) dX11_isMark_54 (by decide) ?_
                refine z_goto hZ (pc := 55) (tgt := 59) dX11_isMark_55 rfl ?_
                refine zr_i hZ (pc := 59) dX11_isMark_59 FitR.b1 ?_
                exact ⟨rfl, rfl, by rw [c39]; rfl⟩
              · skip
                refine z_iload_n hZ (pc := 42) dX11_isMark_42 rfl ?_
                refine z_bipush hZ (pc := 43) (v := 60) dX11_isMark_43 (by decide) ?_
                refine z_icmp_eq hZ (pc := 45) (tgt := 54) dX11_isMark_45 rfl (fun c45 => ?_) (fun c45 => ?_)
                · skip
                  refine z_iconst hZ (pc := 54) (v := 1) dX11_isMark_54 (by decide) ?_
                  refine z_goto hZ (pc := 55) (tgt := 59) dX11_isMark_55 rfl ?_
                  refine zr_i hZ (pc := 59) dX11_isMark_59 FitR.b1 ?_
                  exact ⟨rfl, rfl, by rw [c45]; rfl⟩
                · skip
                  refine z_iload_n hZ (pc := 48) dX11_isMark_48 rfl ?_
                  refine z_bipush hZ (pc := 49) (v := 61) dX11_isMark_49 (by decide) ?_
                  refine z_icmp_ne hZ (pc := 51) (tgt := 58) dX11_isMark_51 rfl (fun c51 => ?_) (fun c51 => ?_)
                  · skip
                    refine z_iconst hZ (pc := 58) (v := 0) dX11_isMark_58 (by decide) ?_
                    refine zr_i hZ (pc := 59) dX11_isMark_59 FitR.b0 ?_
                    exact ⟨rfl, rfl, by rw [show sgK c = 2 from by rw [sgK, if_neg c3, if_neg c9, if_neg c15, if_neg c21, if_neg c27, if_neg c33, if_neg c39, if_neg c45, if_neg c51]]; rfl⟩
                  · skip
                    refine z_iconst hZ (pc := 54) (v := 1) dX11_isMark_54 (by decide) ?_
                    refine z_goto hZ (pc := 55) (tgt := 59) dX11_isMark_55 rfl ?_
                    refine zr_i hZ (pc := 59) dX11_isMark_59 FitR.b1 ?_
                    exact ⟨rfl, rfl, by rw [c51]; rfl⟩
theorem c_X11_stepOn {l : Launch} {D : va_G} {cA : Nat → ClassId} {r : Nat} {a : Nat → Nat} {s0 s1 : Nat → Option Nat} {v : ZV} {g : ZG} {n p : Nat} (hp : v 26 = nI p) (hn : v 27 = nI n) (hpn : p ≤ n) (hn7 : n ≤ 700) (htp : ∀ q, q < 700 → 0 ≤ g 24 q) : MG l D cA (WM r a cA s0 s1) yX11_stepOn cX11_stepOn 2 none 2 [(.ref r)] v g (fun v2 g2 r => r = none ∧ g2 = g ∧ FS v v2 ∧ StM (g 24) n (nbN (g 24) n p) v2) := by
  refine MG.of (by decide) rfl (Nat.le_of_ble_eq_true rfl) (by simp [Value.category]) (fun Z hZ => ?_)
  have lp0 : ∀ (f k : Nat) (v' : ZV), p + k ≤ n → n - (p + k) < f → FS v v' → v' 26 = nI (p + k) → (∀ j, j < k → blkB (g 24 (p + j)) = true) → Z 0 0 (WM r a cA s0 s1 v' g) [some (.ref r), none] [] 0 := by
    intro f
    induction f with
    | zero => intro k v' _ hf; exact absurd hf (Nat.not_lt_zero _)
    | succ f ih0 =>
      intro k v' hk hf hF h26 hbl
      have h27 : v' 27 = nI n := (hF 27 (Or.inr (Or.inl rfl))).trans hn
      refine z_aload_n hZ (pc := 0) dX11_stepOn_0 rfl ?_
      refine z_aload_n hZ (pc := 1) dX11_stepOn_1 rfl ?_
      refine gM_26 hZ (pc := 2) fl_X11_173 dX11_stepOn_2 ?_
      refine z_top h26 ?_
      refine cV_i hZ (pc := 5) dX11_stepOn_5 lk_X11_176 mn_X11_byteAt mv_X11_byteAt (c_X11_byteAt (q := p + k) h27 hn7 (by omega)) rc_M rfl rfl (Nat.le_of_ble_eq_true rfl) (by decide) (by decide) (Nat.zero_le _) (Nat.zero_le _) ?_
      refine z_bipush hZ (pc := 8) (v := 32) dX11_stepOn_8 (by decide) ?_
      refine z_icmp_eq hZ (pc := 10) (tgt := 26) dX11_stepOn_10 rfl (fun c10 => ?_) (fun c10 => ?_)
      · skip
        have hb := bA_blk (Or.inl c10)
        refine z_aload_n hZ (pc := 26) dX11_stepOn_26 rfl ?_
        refine z_dup hZ (pc := 27) dX11_stepOn_27 rfl ?_
        refine gM_26 hZ (pc := 28) fl_X11_173 dX11_stepOn_28 ?_
        refine z_iconst hZ (pc := 31) (v := 1) dX11_stepOn_31 (by decide) ?_
        refine z_iadd hZ (pc := 32) dX11_stepOn_32 ?_
        refine z_top (y := nI (p + (k + 1))) (by rw [h26]; exact nI_1 _) ?_
        refine pM_26 hZ (pc := 33) fl_X11_173 dX11_stepOn_33 ?_
        refine z_goto hZ (pc := 36) (tgt := 0) dX11_stepOn_36 rfl ?_
        exact z_back hZ (ih0 (k + 1) _ (by omega) (by omega) (hF.up (Or.inl rfl)) (up_at) (lt_s hbl hb.2)) rfl ⟨rfl, trivial⟩
      · skip
        refine z_aload_n hZ (pc := 13) dX11_stepOn_13 rfl ?_
        refine z_aload_n hZ (pc := 14) dX11_stepOn_14 rfl ?_
        refine gM_26 hZ (pc := 15) fl_X11_173 dX11_stepOn_15 ?_
        refine z_top h26 ?_
        refine cV_i hZ (pc := 18) dX11_stepOn_18 lk_X11_176 mn_X11_byteAt mv_X11_byteAt (c_X11_byteAt (q := p + k) h27 hn7 (by omega)) rc_M rfl rfl (Nat.le_of_ble_eq_true rfl) (by decide) (by decide) (Nat.zero_le _) (Nat.zero_le _) ?_
        refine z_bipush hZ (pc := 21) (v := 10) dX11_stepOn_21 (by decide) ?_
        refine z_icmp_ne hZ (pc := 23) (tgt := 39) dX11_stepOn_23 rfl (fun c23 => ?_) (fun c23 => ?_)
        · skip
          have hs := nb_at hbl hk c10 c23
          refine z_aload_n hZ (pc := 39) dX11_stepOn_39 rfl ?_
          refine z_aload_n hZ (pc := 40) dX11_stepOn_40 rfl ?_
          refine gM_26 hZ (pc := 41) fl_X11_173 dX11_stepOn_41 ?_
          refine pM_30 hZ (pc := 44) fl_X11_180 dX11_stepOn_44 ?_
          refine z_aload_n hZ (pc := 47) dX11_stepOn_47 rfl ?_
          refine z_aload_n hZ (pc := 48) dX11_stepOn_48 rfl ?_
          refine gM_26 hZ (pc := 49) fl_X11_173 dX11_stepOn_49 ?_
          refine z_top (y := nI (p + k)) h26 ?_
          refine cV_i hZ (pc := 52) dX11_stepOn_52 lk_X11_176 mn_X11_byteAt mv_X11_byteAt (c_X11_byteAt (q := p + k) h27 hn7 (by omega)) rc_M rfl rfl (Nat.le_of_ble_eq_true rfl) (by decide) (by decide) (Nat.zero_le _) (Nat.zero_le _) ?_
          refine q_istore_n_2_1 hZ (pc := 55) dX11_stepOn_55 rfl ?_
          refine z_iload_n hZ (pc := 56) dX11_stepOn_56 rfl ?_
          refine z_iconst hZ (pc := 57) (v := (-1)) dX11_stepOn_57 (by decide) ?_
          refine z_icmp_ne hZ (pc := 58) (tgt := 69) dX11_stepOn_58 rfl (fun c58 => ?_) (fun c58 => ?_)
          · skip
            obtain ⟨hsn, hbs⟩ := bA_lt c58
            have heN : eNd (g 24) n (p + k) = endN (g 24) n (p + k) := if_pos hsn
            refine z_iload_n hZ (pc := 69) dX11_stepOn_69 rfl ?_
            refine cS_i hZ (pc := 70) dX11_stepOn_70 lk_X11_186 mn_X11_isLetter ms_X11_isLetter (c_X11_isLetter) rfl rfl (Nat.le_of_ble_eq_true rfl) (by decide) (by decide) (Nat.zero_le _) (Nat.zero_le _) ?_
            refine z_if_eq hZ (pc := 73) (tgt := 111) dX11_stepOn_73 rfl (fun c73 => ?_) (fun c73 => ?_)
            · skip
              have hnl : inB (g 24 (p + k)) 97 122 = false := by rw [← hbs]; exact bI_eq.mp c73
              refine z_iload_n hZ (pc := 111) dX11_stepOn_111 rfl ?_
              refine cS_i hZ (pc := 112) dX11_stepOn_112 lk_X11_190 mn_X11_isDigit ms_X11_isDigit (c_X11_isDigit) rfl rfl (Nat.le_of_ble_eq_true rfl) (by decide) (by decide) (Nat.zero_le _) (Nat.zero_le _) ?_
              refine z_if_eq hZ (pc := 115) (tgt := 186) dX11_stepOn_115 rfl (fun c115 => ?_) (fun c115 => ?_)
              · skip
                have hnd : inB (g 24 (p + k)) 48 57 = false := by rw [← hbs]; exact bI_eq.mp c115
                have he := endN_1 (t := g 24) (n := n) (s := p + k) hnl hnd
                refine z_aload_n hZ (pc := 186) dX11_stepOn_186 rfl ?_
                refine z_dup hZ (pc := 187) dX11_stepOn_187 rfl ?_
                refine gM_26 hZ (pc := 188) fl_X11_173 dX11_stepOn_188 ?_
                refine z_iconst hZ (pc := 191) (v := 1) dX11_stepOn_191 (by decide) ?_
                refine z_iadd hZ (pc := 192) dX11_stepOn_192 ?_
                refine z_top (y := nI (p + k + 1)) (by show v' 26 + 1 = _; rw [h26]; exact nI_1 _) ?_
                refine pM_26 hZ (pc := 193) fl_X11_173 dX11_stepOn_193 ?_
                refine z_aload_n hZ (pc := 196) dX11_stepOn_196 rfl ?_
                refine z_iload_n hZ (pc := 197) dX11_stepOn_197 rfl ?_
                refine cS_i hZ (pc := 198) dX11_stepOn_198 lk_X11_203 mn_X11_isMark ms_X11_isMark (c_X11_isMark) rfl rfl (Nat.le_of_ble_eq_true rfl) (by decide) (by decide) (Nat.zero_le _) (Nat.zero_le _) ?_
                refine z_if_eq hZ (pc := 201) (tgt := 208) dX11_stepOn_201 rfl (fun c201 => ?_) (fun c201 => ?_)
                · skip
                  refine z_iconst hZ (pc := 208) (v := 4) dX11_stepOn_208 (by decide) ?_
                  refine pM_28 hZ (pc := 209) fl_X11_183 dX11_stepOn_209 ?_
                  refine z_aload_n hZ (pc := 212) dX11_stepOn_212 rfl ?_
                  refine z_aload_n hZ (pc := 213) dX11_stepOn_213 rfl ?_
                  refine gM_26 hZ (pc := 214) fl_X11_173 dX11_stepOn_214 ?_
                  refine pM_31 hZ (pc := 217) fl_X11_206 dX11_stepOn_217 ?_
                  refine zr_v hZ (pc := 220) dX11_stepOn_220 ?_
                  exact ⟨rfl, rfl, (((hF.up (by omega)).up (by omega)).up (by omega)).up (by omega), by rw [hs]; exact ⟨h26, by rw [heN, he]; rfl, by rw [heN, he]; rfl, by rw [tcM, if_pos hsn, if_neg (by rw [hnl]; decide), if_neg (by rw [hnd]; decide), if_pos (by rw [← hbs]; exact sgK_b.mp c201)]; rfl, fun z => absurd (show (4 : Int32) = 2 from z) (by decide)⟩⟩
                · skip
                  refine z_iconst hZ (pc := 204) (v := 3) dX11_stepOn_204 (by decide) ?_
                  refine z_goto hZ (pc := 205) (tgt := 209) dX11_stepOn_205 rfl ?_
                  refine pM_28 hZ (pc := 209) fl_X11_183 dX11_stepOn_209 ?_
                  refine z_aload_n hZ (pc := 212) dX11_stepOn_212 rfl ?_
                  refine z_aload_n hZ (pc := 213) dX11_stepOn_213 rfl ?_
                  refine gM_26 hZ (pc := 214) fl_X11_173 dX11_stepOn_214 ?_
                  refine pM_31 hZ (pc := 217) fl_X11_206 dX11_stepOn_217 ?_
                  refine zr_v hZ (pc := 220) dX11_stepOn_220 ?_
                  exact ⟨rfl, rfl, (((hF.up (by omega)).up (by omega)).up (by omega)).up (by omega), by rw [hs]; exact ⟨h26, by rw [heN, he]; rfl, by rw [heN, he]; rfl, by rw [tcM, if_pos hsn, if_neg (by rw [hnl]; decide), if_neg (by rw [hnd]; decide), if_neg (by rw [← hbs]; exact fun z => c201 (sgK_b.mpr z))]; rfl, fun z => absurd (show (3 : Int32) = 2 from z) (by decide)⟩⟩
              · skip
                refine z_aload_n hZ (pc := 118) dX11_stepOn_118 rfl ?_
                refine z_iconst hZ (pc := 119) (v := 0) dX11_stepOn_119 (by decide) ?_
                refine pM_29 hZ (pc := 120) fl_X11_193 dX11_stepOn_120 ?_
                have lp123 : ∀ (f k2 : Nat) (v2 : ZV), p + k + k2 ≤ n → n - (p + k + k2) < f → FS v v2 → v2 30 = nI (p + k) → v2 26 = nI (p + k + k2) → (∀ j, j < k2 → inB (g 24 (p + k + j)) 48 57 = true) → (k2 ≤ 4 → v2 29 = numD (g 24) (p + k) k2) → Z 0 0 (WM r a cA s0 s1 v2 g) [some (.ref r), some (.int (bA (g 24) n (p + k)))] [] 123 := by
                  intro f
                  induction f with
                  | zero => intro k2 v2 _ hf; exact absurd hf (Nat.not_lt_zero _)
                  | succ f ih123 =>
                    intro k2 v2 hk2 hf2 hF2 h30 h26b hdig hnum
                    have h27b : v2 27 = nI n := (hF2 27 (Or.inr (Or.inl rfl))).trans hn
                    refine z_aload_n hZ (pc := 123) dX11_stepOn_123 rfl ?_
                    refine z_aload_n hZ (pc := 124) dX11_stepOn_124 rfl ?_
                    refine gM_26 hZ (pc := 125) fl_X11_173 dX11_stepOn_125 ?_
                    refine z_top h26b ?_
                    refine cV_i hZ (pc := 128) dX11_stepOn_128 lk_X11_176 mn_X11_byteAt mv_X11_byteAt (c_X11_byteAt (q := p + k + k2) h27b hn7 (by omega)) rc_M rfl rfl (Nat.le_of_ble_eq_true rfl) (by decide) (by decide) (Nat.zero_le _) (Nat.zero_le _) ?_
                    refine cS_i hZ (pc := 131) dX11_stepOn_131 lk_X11_190 mn_X11_isDigit ms_X11_isDigit (c_X11_isDigit) rfl rfl (Nat.le_of_ble_eq_true rfl) (by decide) (by decide) (Nat.zero_le _) (Nat.zero_le _) ?_
                    refine z_if_eq hZ (pc := 134) (tgt := 178) dX11_stepOn_134 rfl (fun c134 => ?_) (fun c134 => ?_)
                    · skip
                      have hdg0 : inB (g 24 (p + k)) 48 57 = true := by rw [← hbs]; exact bI_ne c115
                      have he := end_num hdg0 hdig hk2 hsn (bI_eq.mp c134)
                      refine z_aload_n hZ (pc := 178) dX11_stepOn_178 rfl ?_
                      refine z_iconst hZ (pc := 179) (v := 2) dX11_stepOn_179 (by decide) ?_
                      refine pM_28 hZ (pc := 180) fl_X11_183 dX11_stepOn_180 ?_
                      refine z_goto hZ (pc := 183) (tgt := 212) dX11_stepOn_183 rfl ?_
                      refine z_aload_n hZ (pc := 212) dX11_stepOn_212 rfl ?_
                      refine z_aload_n hZ (pc := 213) dX11_stepOn_213 rfl ?_
                      refine gM_26 hZ (pc := 214) fl_X11_173 dX11_stepOn_214 ?_
                      refine pM_31 hZ (pc := 217) fl_X11_206 dX11_stepOn_217 ?_
                      refine zr_v hZ (pc := 220) dX11_stepOn_220 ?_
                      exact ⟨rfl, rfl, (hF2.up (by omega)).up (by omega), by rw [hs]; exact ⟨h30, by rw [heN, he]; exact h26b, by rw [heN, he]; exact h26b, by rw [tcM, if_pos hsn, if_neg (by rw [inB_two hdg0]; decide), if_pos hdg0]; rfl, fun _ h4 => by rw [heN, he, show p + k + k2 - (p + k) = k2 by omega] at h4 ⊢; exact hnum h4⟩⟩
                    · skip
                      obtain ⟨hq1, hq2⟩ := bA_in (by decide) (bI_ne c134)
                      refine z_aload_n hZ (pc := 137) dX11_stepOn_137 rfl ?_
                      refine z_ldc hZ (pc := 138) (v := 100000) dX11_stepOn_138 (List.mem_of_getElem? (i := 1405) (by decide +kernel)) ?_
                      refine z_bipush hZ (pc := 140) (v := 10) dX11_stepOn_140 (by decide) ?_
                      refine z_aload_n hZ (pc := 142) dX11_stepOn_142 rfl ?_
                      refine gM_29 hZ (pc := 143) fl_X11_193 dX11_stepOn_143 ?_
                      refine z_imul hZ (pc := 146) dX11_stepOn_146 ?_
                      refine z_aload_n hZ (pc := 147) dX11_stepOn_147 rfl ?_
                      refine z_aload_n hZ (pc := 148) dX11_stepOn_148 rfl ?_
                      refine gM_26 hZ (pc := 149) fl_X11_173 dX11_stepOn_149 ?_
                      refine z_top h26b ?_
                      refine cV_i hZ (pc := 152) dX11_stepOn_152 lk_X11_176 mn_X11_byteAt mv_X11_byteAt (c_X11_byteAt (q := p + k + k2) h27b hn7 (by omega)) rc_M rfl rfl (Nat.le_of_ble_eq_true rfl) (by decide) (by decide) (Nat.zero_le _) (Nat.zero_le _) ?_
                      refine z_iadd hZ (pc := 155) dX11_stepOn_155 ?_
                      refine z_bipush hZ (pc := 156) (v := 48) dX11_stepOn_156 (by decide) ?_
                      refine z_isub hZ (pc := 158) dX11_stepOn_158 ?_
                      refine z_min hZ (pc := 159) dX11_stepOn_159 (List.mem_of_getElem? (i := 1406) (by decide +kernel)) (List.mem_of_getElem? (i := 500) (by decide +kernel)) (List.mem_of_getElem? (i := 135) (by decide +kernel)) (List.mem_of_getElem? (i := 501) (by decide +kernel)) (Nat.le_of_ble_eq_true rfl) (by decide) (Nat.zero_le _) (Nat.zero_le _) ?_
                      refine pM_29 hZ (pc := 162) fl_X11_193 dX11_stepOn_162 ?_
                      refine z_aload_n hZ (pc := 165) dX11_stepOn_165 rfl ?_
                      refine z_dup hZ (pc := 166) dX11_stepOn_166 rfl ?_
                      refine gM_26 hZ (pc := 167) fl_X11_173 dX11_stepOn_167 ?_
                      refine z_iconst hZ (pc := 170) (v := 1) dX11_stepOn_170 (by decide) ?_
                      refine z_iadd hZ (pc := 171) dX11_stepOn_171 ?_
                      refine z_top (y := nI (p + k + (k2 + 1))) (by show v2 26 + 1 = _; rw [h26b]; exact nI_1 _) ?_
                      refine pM_26 hZ (pc := 172) fl_X11_173 dX11_stepOn_172 ?_
                      refine z_goto hZ (pc := 175) (tgt := 123) dX11_stepOn_175 rfl ?_
                      exact z_back hZ (ih123 (k2 + 1) (va_up (va_up v2 29 _) 26 _) (by omega) (by omega) ((hF2.up (by omega)).up (Or.inl rfl)) h30 (up_at) (lt_s hdig hq2) (num_min (lt_s hdig hq2) hnum hq1)) rfl ⟨rfl, rfl, trivial⟩
                exact z_back hZ (lp123 (n + 1) 0 (va_up (va_up v' 30 _) 29 _) (by omega) (by omega) ((hF.up (by omega)).up (by omega)) h26 h26 (fun j hj => absurd hj (Nat.not_lt_zero _)) (fun _ => rfl)) rfl ⟨rfl, rfl, trivial⟩
            · skip
              have lp76 : ∀ (f k2 : Nat) (v2 : ZV), p + k + k2 ≤ n → n - (p + k + k2) < f → FS v v2 → v2 30 = nI (p + k) → v2 26 = nI (p + k + k2) → (∀ j, j < k2 → inB (g 24 (p + k + j)) 97 122 = true) → Z 0 0 (WM r a cA s0 s1 v2 g) [some (.ref r), some (.int (bA (g 24) n (p + k)))] [] 76 := by
                intro f
                induction f with
                | zero => intro k2 v2 _ hf; exact absurd hf (Nat.not_lt_zero _)
                | succ f ih76 =>
                  intro k2 v2 hk2 hf2 hF2 h30 h26b hlet
                  have h27b : v2 27 = nI n := (hF2 27 (Or.inr (Or.inl rfl))).trans hn
                  skip
                  refine z_aload_n hZ (pc := 76) dX11_stepOn_76 rfl ?_
                  refine z_aload_n hZ (pc := 77) dX11_stepOn_77 rfl ?_
                  refine gM_26 hZ (pc := 78) fl_X11_173 dX11_stepOn_78 ?_
                  refine z_top h26b ?_
                  refine cV_i hZ (pc := 81) dX11_stepOn_81 lk_X11_176 mn_X11_byteAt mv_X11_byteAt (c_X11_byteAt (q := p + k + k2) h27b hn7 (by omega)) rc_M rfl rfl (Nat.le_of_ble_eq_true rfl) (by decide) (by decide) (Nat.zero_le _) (Nat.zero_le _) ?_
                  refine cS_i hZ (pc := 84) dX11_stepOn_84 lk_X11_186 mn_X11_isLetter ms_X11_isLetter (c_X11_isLetter) rfl rfl (Nat.le_of_ble_eq_true rfl) (by decide) (by decide) (Nat.zero_le _) (Nat.zero_le _) ?_
                  refine z_if_eq hZ (pc := 87) (tgt := 103) dX11_stepOn_87 rfl (fun c87 => ?_) (fun c87 => ?_)
                  · skip
                    have hlt0 : inB (g 24 (p + k)) 97 122 = true := by rw [← hbs]; exact bI_ne c73
                    have he := end_let hlt0 hlet hk2 hsn (bI_eq.mp c87)
                    refine z_aload_n hZ (pc := 103) dX11_stepOn_103 rfl ?_
                    refine z_iconst hZ (pc := 104) (v := 1) dX11_stepOn_104 (by decide) ?_
                    refine pM_28 hZ (pc := 105) fl_X11_183 dX11_stepOn_105 ?_
                    refine z_goto hZ (pc := 108) (tgt := 212) dX11_stepOn_108 rfl ?_
                    refine z_aload_n hZ (pc := 212) dX11_stepOn_212 rfl ?_
                    refine z_aload_n hZ (pc := 213) dX11_stepOn_213 rfl ?_
                    refine gM_26 hZ (pc := 214) fl_X11_173 dX11_stepOn_214 ?_
                    refine pM_31 hZ (pc := 217) fl_X11_206 dX11_stepOn_217 ?_
                    refine zr_v hZ (pc := 220) dX11_stepOn_220 ?_
                    exact ⟨rfl, rfl, (hF2.up (by omega)).up (by omega), by rw [hs]; exact ⟨h30, by rw [heN, he]; exact h26b, by rw [heN, he]; exact h26b, by rw [tcM, if_pos hsn, if_pos hlt0]; rfl, fun z => absurd (show (1 : Int32) = 2 from z) (by decide)⟩⟩
                  · skip
                    obtain ⟨hq1, hq2⟩ := bA_in (by decide) (bI_ne c87)
                    refine z_aload_n hZ (pc := 90) dX11_stepOn_90 rfl ?_
                    refine z_dup hZ (pc := 91) dX11_stepOn_91 rfl ?_
                    refine gM_26 hZ (pc := 92) fl_X11_173 dX11_stepOn_92 ?_
                    refine z_iconst hZ (pc := 95) (v := 1) dX11_stepOn_95 (by decide) ?_
                    refine z_iadd hZ (pc := 96) dX11_stepOn_96 ?_
                    refine z_top (y := nI (p + k + (k2 + 1))) (by show v2 26 + 1 = _; rw [h26b]; exact nI_1 _) ?_
                    refine pM_26 hZ (pc := 97) fl_X11_173 dX11_stepOn_97 ?_
                    refine z_goto hZ (pc := 100) (tgt := 76) dX11_stepOn_100 rfl ?_
                    exact z_back hZ (ih76 (k2 + 1) (va_up v2 26 _) (by omega) (by omega) (hF2.up (Or.inl rfl)) h30 (up_at) (lt_s hlet hq2)) rfl ⟨rfl, rfl, trivial⟩
              exact z_back hZ (lp76 (n + 1) 0 (va_up v' 30 _) (by omega) (by omega) (hF.up (by omega)) h26 h26 (fun j hj => absurd hj (Nat.not_lt_zero _))) rfl ⟨rfl, rfl, trivial⟩
          · skip
            have hsn := bA_m1 htp hn7 c58
            have hpe : p + k = n := by omega
            refine z_aload_n hZ (pc := 61) dX11_stepOn_61 rfl ?_
            refine z_iconst hZ (pc := 62) (v := 0) dX11_stepOn_62 (by decide) ?_
            refine pM_28 hZ (pc := 63) fl_X11_183 dX11_stepOn_63 ?_
            refine z_goto hZ (pc := 66) (tgt := 212) dX11_stepOn_66 rfl ?_
            refine z_aload_n hZ (pc := 212) dX11_stepOn_212 rfl ?_
            refine z_aload_n hZ (pc := 213) dX11_stepOn_213 rfl ?_
            refine gM_26 hZ (pc := 214) fl_X11_173 dX11_stepOn_214 ?_
            refine pM_31 hZ (pc := 217) fl_X11_206 dX11_stepOn_217 ?_
            refine zr_v hZ (pc := 220) dX11_stepOn_220 ?_
            exact ⟨rfl, rfl, ((hF.up (by omega)).up (by omega)).up (by omega), by rw [hs, hpe]; exact ⟨by rw [← hpe]; exact h26, by rw [eNd, if_neg (Nat.lt_irrefl _), ← hpe]; exact h26, by rw [eNd, if_neg (Nat.lt_irrefl _), ← hpe]; exact h26, by rw [tcM, if_neg (Nat.lt_irrefl _)]; rfl, fun z => absurd (show (0 : Int32) = 2 from z) (by decide)⟩⟩
        · skip
          have hb := bA_blk (Or.inr c23)
          refine z_aload_n hZ (pc := 26) dX11_stepOn_26 rfl ?_
          refine z_dup hZ (pc := 27) dX11_stepOn_27 rfl ?_
          refine gM_26 hZ (pc := 28) fl_X11_173 dX11_stepOn_28 ?_
          refine z_iconst hZ (pc := 31) (v := 1) dX11_stepOn_31 (by decide) ?_
          refine z_iadd hZ (pc := 32) dX11_stepOn_32 ?_
          refine z_top (y := nI (p + (k + 1))) (by rw [h26]; exact nI_1 _) ?_
          refine pM_26 hZ (pc := 33) fl_X11_173 dX11_stepOn_33 ?_
          refine z_goto hZ (pc := 36) (tgt := 0) dX11_stepOn_36 rfl ?_
          exact z_back hZ (ih0 (k + 1) _ (by omega) (by omega) (hF.up (Or.inl rfl)) (up_at) (lt_s hbl hb.2)) rfl ⟨rfl, trivial⟩
  exact z_back hZ (lp0 (n + 1) 0 v hpn (by omega) FS.rf hp (fun j hj => absurd hj (Nat.not_lt_zero _))) rfl ⟨rfl, trivial⟩
