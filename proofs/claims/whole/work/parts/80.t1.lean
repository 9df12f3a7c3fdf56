/-! tokens -/
def blkB (c : Int32) : Bool := decide (c = 32) || decide (c = 10)
def likB (t : Nat → Int32) (s q : Nat) : Bool := (inB (t s) 97 122 && inB (t q) 97 122) || (inB (t s) 48 57 && inB (t q) 48 57)
def endN (t : Nat → Int32) (n s : Nat) : Nat := s + 1 + fa_first (fun i => !likB t s (s + 1 + i)) (n - (s + 1))
theorem endN_gt (t : Nat → Int32) (n s : Nat) : s < endN t n s := by unfold endN; omega
theorem endN_le (t : Nat → Int32) {n s : Nat} (h : s < n) : endN t n s ≤ n := by
  have := fa_first_le (fun i => !likB t s (s + 1 + i)) (n - (s + 1))
  unfold endN
  omega
def numD (t : Nat → Int32) (s : Nat) : Nat → Int32
  | 0 => 0
  | k + 1 => 10 * numD t s k + t (s + k) - 48
def numV (t : Nat → Int32) (s e : Nat) : Int32 := if 4 < e - s then 10000 else numD t s (e - s)
theorem inB_n1 {x a b : Int32} (h : x < a) : inB x a b = false := by simp [inB, Int32.not_le.mpr h]
theorem inB_n2 {x a b : Int32} (h : ¬ x ≤ b) : inB x a b = false := by simp [inB, h]
theorem inB_y {x a b : Int32} (h : ¬ x < a) (h2 : x ≤ b) : inB x a b = true := by simp [inB, Int32.not_lt.mp h, h2]
theorem c_X7_isBlank {l : Launch} {D : va_G} {cA : Nat → ClassId} {o a : Nat → Nat} {v : ZV} {g : ZG} {c : Int32}  : MG l D cA (WC o a cA) yX7_isBlank cX7_isBlank 1 (some .boolean) 0 [.int c] v g (PF v g (some (.int (bI (blkB c))))) := by
  refine MG.of (by decide) rfl (Nat.le_of_ble_eq_true rfl) (by simp [Value.category]) (fun Z hZ => ?_)
  refine z_iload_n hZ (pc := 0) dX7_isBlank_0 rfl ?_
  refine z_bipush hZ (pc := 1) (v := 32) dX7_isBlank_1 (by decide) ?_
  refine z_icmp_eq hZ (pc := 3) (tgt := 12) dX7_isBlank_3 rfl (fun c3 => ?_) (fun c3 => ?_)
  · skip
    refine z_iconst hZ (pc := 12) (v := 1) dX7_isBlank_12 (by decide) ?_
    refine z_goto hZ (pc := 13) (tgt := 17) dX7_isBlank_13 rfl ?_
    refine zr_i hZ (pc := 17) dX7_isBlank_17 FitR.b1 ?_
    exact ⟨rfl, rfl, by rw [blkB, c3]; rfl⟩
  · skip
    refine z_iload_n hZ (pc := 6) dX7_isBlank_6 rfl ?_
    refine z_bipush hZ (pc := 7) (v := 10) dX7_isBlank_7 (by decide) ?_
    refine z_icmp_ne hZ (pc := 9) (tgt := 16) dX7_isBlank_9 rfl (fun c9 => ?_) (fun c9 => ?_)
    · skip
      refine z_iconst hZ (pc := 16) (v := 0) dX7_isBlank_16 (by decide) ?_
      refine zr_i hZ (pc := 17) dX7_isBlank_17 FitR.b0 ?_
      exact ⟨rfl, rfl, by rw [blkB, decide_eq_false c3, decide_eq_false c9]; rfl⟩
    · skip
      refine z_iconst hZ (pc := 12) (v := 1) dX7_isBlank_12 (by decide) ?_
      refine z_goto hZ (pc := 13) (tgt := 17) dX7_isBlank_13 rfl ?_
      refine zr_i hZ (pc := 17) dX7_isBlank_17 FitR.b1 ?_
      exact ⟨rfl, rfl, by rw [blkB, c9]; rfl⟩
theorem c_X7_isLetter {l : Launch} {D : va_G} {cA : Nat → ClassId} {o a : Nat → Nat} {v : ZV} {g : ZG} {c : Int32}  : MG l D cA (WC o a cA) yX7_isLetter cX7_isLetter 1 (some .boolean) 0 [.int c] v g (PF v g (some (.int (bI (inB c 97 122))))) := by
  refine MG.of (by decide) rfl (Nat.le_of_ble_eq_true rfl) (by simp [Value.category]) (fun Z hZ => ?_)
  refine z_iload_n hZ (pc := 0) dX7_isLetter_0 rfl ?_
  refine z_bipush hZ (pc := 1) (v := 97) dX7_isLetter_1 (by decide) ?_
  refine z_icmp_lt hZ (pc := 3) (tgt := 16) dX7_isLetter_3 rfl (fun c3 => ?_) (fun c3 => ?_)
  · skip
    refine z_iconst hZ (pc := 16) (v := 0) dX7_isLetter_16 (by decide) ?_
    refine zr_i hZ (pc := 17) dX7_isLetter_17 FitR.b0 ?_
    exact ⟨rfl, rfl, by rw [inB_n1 c3]; rfl⟩
  · skip
    refine z_iload_n hZ (pc := 6) dX7_isLetter_6 rfl ?_
    refine z_bipush hZ (pc := 7) (v := 122) dX7_isLetter_7 (by decide) ?_
    refine z_icmp_gt hZ (pc := 9) (tgt := 16) dX7_isLetter_9 rfl (fun c9 => ?_) (fun c9 => ?_)
    · skip
      refine z_iconst hZ (pc := 16) (v := 0) dX7_isLetter_16 (by decide) ?_
      refine zr_i hZ (pc := 17) dX7_isLetter_17 FitR.b0 ?_
      exact ⟨rfl, rfl, by rw [inB_n2 (Int32.not_le.mpr c9)]; rfl⟩
    · skip
      refine z_iconst hZ (pc := 12) (v := 1) dX7_isLetter_12 (by decide) ?_
      refine z_goto hZ (pc := 13) (tgt := 17) dX7_isLetter_13 rfl ?_
      refine zr_i hZ (pc := 17) dX7_isLetter_17 FitR.b1 ?_
      exact ⟨rfl, rfl, by rw [inB_y c3 (Int32.not_lt.mp c9)]; rfl⟩
theorem c_X7_isDigit {l : Launch} {D : va_G} {cA : Nat → ClassId} {o a : Nat → Nat} {v : ZV} {g : ZG} {c : Int32}  : MG l D cA (WC o a cA) yX7_isDigit cX7_isDigit 1 (some .boolean) 0 [.int c] v g (PF v g (some (.int (bI (inB c 48 57))))) := by
  refine MG.of (by decide) rfl (Nat.le_of_ble_eq_true rfl) (by simp [Value.category]) (fun Z hZ => ?_)
  refine z_iload_n hZ (pc := 0) dX7_isDigit_0 rfl ?_
  refine z_bipush hZ (pc := 1) (v := 48) dX7_isDigit_1 (by decide) ?_
  refine z_icmp_lt hZ (pc := 3) (tgt := 16) dX7_isDigit_3 rfl (fun c3 => ?_) (fun c3 => ?_)
  · skip
    refine z_iconst hZ (pc := 16) (v := 0) dX7_isDigit_16 (by decide) ?_
    refine zr_i hZ (pc := 17) dX7_isDigit_17 FitR.b0 ?_
    exact ⟨rfl, rfl, by rw [inB_n1 c3]; rfl⟩
  · skip
    refine z_iload_n hZ (pc := 6) dX7_isDigit_6 rfl ?_
    refine z_bipush hZ (pc := 7) (v := 57) dX7_isDigit_7 (by decide) ?_
    refine z_icmp_gt hZ (pc := 9) (tgt := 16) dX7_isDigit_9 rfl (fun c9 => ?_) (fun c9 => ?_)
    · skip
      refine z_iconst hZ (pc := 16) (v := 0) dX7_isDigit_16 (by decide) ?_
      refine zr_i hZ (pc := 17) dX7_isDigit_17 FitR.b0 ?_
      exact ⟨rfl, rfl, by rw [inB_n2 (Int32.not_le.mpr c9)]; rfl⟩
    · skip
      refine z_iconst hZ (pc := 12) (v := 1) dX7_isDigit_12 (by decide) ?_
      refine z_goto hZ (pc := 13) (tgt := 17) dX7_isDigit_13 rfl ?_
      refine zr_i hZ (pc := 17) dX7_isDigit_17 FitR.b1 ?_
      exact ⟨rfl, rfl, by rw [inB_y c3 (Int32.not_lt.mp c9)]; rfl⟩
theorem c_X7_add {l : Launch} {D : va_G} {cA : Nat → ClassId} {o a : Nat → Nat} {v : ZV} {g : ZG} {kd st nb : Int32} {m : Nat} (hm : v 8 = nI m) (h7 : m < 701) : MG l D cA (WC o a cA) yX7_add cX7_add 4 none 1 [(.ref (o 2)), .int kd, .int st, .int nb] v g (PF (va_up v 8 (nI (m + 1))) (va_up (va_up (va_up g 2 (upd (g 2) m kd)) 3 (upd (g 3) m st)) 4 (upd (g 4) m nb)) (none)) := by
  refine MG.of (by decide) rfl (Nat.le_of_ble_eq_true rfl) (by simp [Value.category]) (fun Z hZ => ?_)
  refine z_aload_n hZ (pc := 0) dX7_add_0 rfl ?_
  refine gC_2_3 hZ (pc := 1) fl_X7_22 dX7_add_1 ?_
  refine z_aload_n hZ (pc := 4) dX7_add_4 rfl ?_
  refine gC_2_2 hZ (pc := 5) fl_X7_19 dX7_add_5 ?_
  refine z_top hm ?_
  refine z_iload_n hZ (pc := 8) dX7_add_8 rfl ?_
  refine cS_v hZ (pc := 9) dX7_add_9 lk_X7_31 mn_X10_put ms_X10_put (c_X10_putn (j := 2) (n := m) (by decide) (by show m < 701; omega)) rfl rfl (Nat.le_of_ble_eq_true rfl) (by decide) (by decide) (Nat.zero_le _) (Nat.zero_le _) ?_
  refine z_aload_n hZ (pc := 12) dX7_add_12 rfl ?_
  refine gC_2_4 hZ (pc := 13) fl_X7_25 dX7_add_13 ?_
  refine z_aload_n hZ (pc := 16) dX7_add_16 rfl ?_
  refine gC_2_2 hZ (pc := 17) fl_X7_19 dX7_add_17 ?_
  refine z_top hm ?_
  refine z_iload_n hZ (pc := 20) dX7_add_20 rfl ?_
  refine cS_v hZ (pc := 21) dX7_add_21 lk_X7_31 mn_X10_put ms_X10_put (c_X10_putn (j := 3) (n := m) (by decide) (by show m < 701; omega)) rfl rfl (Nat.le_of_ble_eq_true rfl) (by decide) (by decide) (Nat.zero_le _) (Nat.zero_le _) ?_
  refine z_aload_n hZ (pc := 24) dX7_add_24 rfl ?_
  refine gC_2_5 hZ (pc := 25) fl_X7_28 dX7_add_25 ?_
  refine z_aload_n hZ (pc := 28) dX7_add_28 rfl ?_
  refine gC_2_2 hZ (pc := 29) fl_X7_19 dX7_add_29 ?_
  refine z_top hm ?_
  refine z_iload_n hZ (pc := 32) dX7_add_32 rfl ?_
  refine cS_v hZ (pc := 33) dX7_add_33 lk_X7_31 mn_X10_put ms_X10_put (c_X10_putn (j := 4) (n := m) (by decide) (by show m < 701; omega)) rfl rfl (Nat.le_of_ble_eq_true rfl) (by decide) (by decide) (Nat.zero_le _) (Nat.zero_le _) ?_
  refine z_aload_n hZ (pc := 36) dX7_add_36 rfl ?_
  refine z_dup hZ (pc := 37) dX7_add_37 rfl ?_
  refine gC_2_2 hZ (pc := 38) fl_X7_19 dX7_add_38 ?_
  refine z_iconst hZ (pc := 41) (v := 1) dX7_add_41 (by decide) ?_
  refine z_iadd hZ (pc := 42) dX7_add_42 ?_
  refine z_top (y := nI (m + 1)) (by rw [hm]; exact nI_1 m) ?_
  refine pC_2_2 hZ (pc := 43) fl_X7_19 dX7_add_43 ?_
  refine zr_v hZ (pc := 46) dX7_add_46 ?_
  exact ⟨rfl, rfl, rfl⟩
theorem c_X7_endOf {l : Launch} {D : va_G} {cA : Nat → ClassId} {o a : Nat → Nat} {v : ZV} {g : ZG} {s n : Nat} (hs : s < n) (hn : n ≤ 700) : MG l D cA (WC o a cA) yX7_endOf cX7_endOf 6 (some .int) 2 [(.ref (o 2)), .int (nI s), .int (nI n)] v g (PF v g (some (.int (nI (endN (g 1) n s))))) := by
  refine MG.of (by decide) rfl (Nat.le_of_ble_eq_true rfl) (by simp [Value.category]) (fun Z hZ => ?_)
  have hno : ∀ k, k ≤ n - (s + 1) → (∀ i, i < k → likB (g 1) s (s + 1 + i) = true) → (k < n - (s + 1) → likB (g 1) s (s + 1 + k) = false) → s + 1 + k = endN (g 1) n s := fun k hk h1 h2 => by
    unfold endN
    rcases Nat.lt_or_ge k (n - (s + 1)) with q | q
    · rw [first_at (fun i hi => by rw [h1 i hi]; rfl) q (by rw [h2 q]; rfl)]
    · have e : k = n - (s + 1) := by omega
      have h3 := first_ge (p := fun i => !likB (g 1) s (s + 1 + i)) (n := n - (s + 1)) (i := k) (fun i hi => by rw [h1 i hi]; rfl) hk
      have h4 := fa_first_le (fun i => !likB (g 1) s (s + 1 + i)) (n - (s + 1))
      omega
  refine z_aload_n hZ (pc := 0) dX7_endOf_0 rfl ?_
  refine gC_2_0 hZ (pc := 1) fl_X7_9 dX7_endOf_1 ?_
  refine z_iload_n hZ (pc := 4) dX7_endOf_4 rfl ?_
  refine cS_i hZ (pc := 5) dX7_endOf_5 lk_X7_39 mn_X10_at ms_X10_at (c_X10_atn (j := 1) (n := s) (by decide) (by show s < 700; omega)) rfl rfl (Nat.le_of_ble_eq_true rfl) (by decide) (by decide) (Nat.zero_le _) (Nat.zero_le _) ?_
  refine cS_i hZ (pc := 8) dX7_endOf_8 lk_X7_57 mn_X7_isLetter ms_X7_isLetter (c_X7_isLetter) rfl rfl (Nat.le_of_ble_eq_true rfl) (by decide) (by decide) (Nat.zero_le _) (Nat.zero_le _) ?_
  refine q_istore_n_6_3 hZ (pc := 11) dX7_endOf_11 rfl ?_
  refine z_aload_n hZ (pc := 12) dX7_endOf_12 rfl ?_
  refine gC_2_0 hZ (pc := 13) fl_X7_9 dX7_endOf_13 ?_
  refine z_iload_n hZ (pc := 16) dX7_endOf_16 rfl ?_
  refine cS_i hZ (pc := 17) dX7_endOf_17 lk_X7_39 mn_X10_at ms_X10_at (c_X10_atn (j := 1) (n := s) (by decide) (by show s < 700; omega)) rfl rfl (Nat.le_of_ble_eq_true rfl) (by decide) (by decide) (Nat.zero_le _) (Nat.zero_le _) ?_
  refine cS_i hZ (pc := 20) dX7_endOf_20 lk_X7_60 mn_X7_isDigit ms_X7_isDigit (c_X7_isDigit) rfl rfl (Nat.le_of_ble_eq_true rfl) (by decide) (by decide) (Nat.zero_le _) (Nat.zero_le _) ?_
  refine q_istore_6_4 hZ (pc := 23) dX7_endOf_23 rfl ?_
  refine z_iload_n hZ (pc := 25) dX7_endOf_25 rfl ?_
  refine z_iconst hZ (pc := 26) (v := 1) dX7_endOf_26 (by decide) ?_
  refine z_iadd hZ (pc := 27) dX7_endOf_27 ?_
  refine z_top (y := nI (s + 1 + 0)) (nI_1 s) ?_
  refine q_istore_6_5 hZ (pc := 28) dX7_endOf_28 rfl ?_
  have lp30 : ∀ (f k : Nat), k ≤ n - (s + 1) → n - (s + 1) - k < f → (∀ i, i < k → likB (g 1) s (s + 1 + i) = true) → Z 0 0 (WC o a cA v g) [some (.ref (o 2)), some (.int (nI s)), some (.int (nI n)), some (.int (bI (inB (g 1 s) 97 122))), some (.int (bI (inB (g 1 s) 48 57))), some (.int (nI (s + 1 + k)))] [] 30 := by
    intro f
    induction f with
    | zero => intro k _ hf; exact absurd hf (Nat.not_lt_zero _)
    | succ f ih30 =>
      intro k hk hf hlk
      refine z_iload hZ (pc := 30) dX7_endOf_30 rfl ?_
      refine z_iload_n hZ (pc := 32) dX7_endOf_32 rfl ?_
      refine z_icmp_ge hZ (pc := 33) (tgt := 81) dX7_endOf_33 rfl (fun c33 => ?_) (fun c33 => ?_)
      · skip
        have e : s + 1 + k = n := lp_ge rfl (by omega) (by omega) c33
        have hE := hno k hk hlk (fun z => absurd z (by omega))
        refine z_iload hZ (pc := 81) dX7_endOf_81 rfl ?_
        refine zr_i hZ (pc := 83) dX7_endOf_83 FitR.int ?_
        exact ⟨rfl, rfl, by rw [hE]⟩
      · skip
        have hl : s + 1 + k < n := lp_lt rfl (by omega) (by omega) c33
        refine z_iload_n hZ (pc := 36) dX7_endOf_36 rfl ?_
        refine z_if_eq hZ (pc := 37) (tgt := 55) dX7_endOf_37 rfl (fun c37 => ?_) (fun c37 => ?_)
        · skip
          refine z_iload hZ (pc := 55) dX7_endOf_55 rfl ?_
          refine z_if_eq hZ (pc := 57) (tgt := 81) dX7_endOf_57 rfl (fun c57 => ?_) (fun c57 => ?_)
          · skip
            have hE := hno k hk hlk (fun _ => by rw [likB, bI_eq.mp c37, bI_eq.mp c57]; rfl)
            refine z_iload hZ (pc := 81) dX7_endOf_81 rfl ?_
            refine zr_i hZ (pc := 83) dX7_endOf_83 FitR.int ?_
            exact ⟨rfl, rfl, by rw [hE]⟩
          · skip
            refine z_aload_n hZ (pc := 60) dX7_endOf_60 rfl ?_
            refine gC_2_0 hZ (pc := 61) fl_X7_9 dX7_endOf_61 ?_
            refine z_iload hZ (pc := 64) dX7_endOf_64 rfl ?_
            refine cS_i hZ (pc := 66) dX7_endOf_66 lk_X7_39 mn_X10_at ms_X10_at (c_X10_atn (j := 1) (n := s + 1 + k) (by decide) (by show s + 1 + k < 700; omega)) rfl rfl (Nat.le_of_ble_eq_true rfl) (by decide) (by decide) (Nat.zero_le _) (Nat.zero_le _) ?_
            refine cS_i hZ (pc := 69) dX7_endOf_69 lk_X7_60 mn_X7_isDigit ms_X7_isDigit (c_X7_isDigit) rfl rfl (Nat.le_of_ble_eq_true rfl) (by decide) (by decide) (Nat.zero_le _) (Nat.zero_le _) ?_
            refine z_if_eq hZ (pc := 72) (tgt := 81) dX7_endOf_72 rfl (fun c72 => ?_) (fun c72 => ?_)
            · skip
              have hE := hno k hk hlk (fun _ => by rw [likB, bI_eq.mp c37, bI_eq.mp c72, Bool.and_false]; rfl)
              refine z_iload hZ (pc := 81) dX7_endOf_81 rfl ?_
              refine zr_i hZ (pc := 83) dX7_endOf_83 FitR.int ?_
              exact ⟨rfl, rfl, by rw [hE]⟩
            · skip
              have hlik : likB (g 1) s (s + 1 + k) = true := by rw [likB, bI_ne c57, bI_ne c72]; simp
              refine q_iinc_6_5 hZ (pc := 75) dX7_endOf_75 rfl ?_
              refine z_goto hZ (pc := 78) (tgt := 30) dX7_endOf_78 rfl ?_
              exact z_back hZ (ih30 (k + 1) (by omega) (by omega) (lt_s hlk hlik)) rfl ⟨rfl, rfl, rfl, rfl, rfl, zi (nI_inc _), trivial⟩
        · skip
          refine z_aload_n hZ (pc := 40) dX7_endOf_40 rfl ?_
          refine gC_2_0 hZ (pc := 41) fl_X7_9 dX7_endOf_41 ?_
          refine z_iload hZ (pc := 44) dX7_endOf_44 rfl ?_
          refine cS_i hZ (pc := 46) dX7_endOf_46 lk_X7_39 mn_X10_at ms_X10_at (c_X10_atn (j := 1) (n := s + 1 + k) (by decide) (by show s + 1 + k < 700; omega)) rfl rfl (Nat.le_of_ble_eq_true rfl) (by decide) (by decide) (Nat.zero_le _) (Nat.zero_le _) ?_
          refine cS_i hZ (pc := 49) dX7_endOf_49 lk_X7_57 mn_X7_isLetter ms_X7_isLetter (c_X7_isLetter) rfl rfl (Nat.le_of_ble_eq_true rfl) (by decide) (by decide) (Nat.zero_le _) (Nat.zero_le _) ?_
          refine z_if_ne hZ (pc := 52) (tgt := 75) dX7_endOf_52 rfl (fun c52 => ?_) (fun c52 => ?_)
          · skip
            have hlik : likB (g 1) s (s + 1 + k) = true := by rw [likB, bI_ne c37, bI_ne c52]; rfl
            refine q_iinc_6_5 hZ (pc := 75) dX7_endOf_75 rfl ?_
            refine z_goto hZ (pc := 78) (tgt := 30) dX7_endOf_78 rfl ?_
            exact z_back hZ (ih30 (k + 1) (by omega) (by omega) (lt_s hlk hlik)) rfl ⟨rfl, rfl, rfl, rfl, rfl, zi (nI_inc _), trivial⟩
          · skip
            refine z_iload hZ (pc := 55) dX7_endOf_55 rfl ?_
            refine z_if_eq hZ (pc := 57) (tgt := 81) dX7_endOf_57 rfl (fun c57 => ?_) (fun c57 => ?_)
            · skip
              have hE := hno k hk hlk (fun _ => by rw [likB, bI_eq.mp c52, bI_eq.mp c57]; simp)
              refine z_iload hZ (pc := 81) dX7_endOf_81 rfl ?_
              refine zr_i hZ (pc := 83) dX7_endOf_83 FitR.int ?_
              exact ⟨rfl, rfl, by rw [hE]⟩
            · skip
              refine z_aload_n hZ (pc := 60) dX7_endOf_60 rfl ?_
              refine gC_2_0 hZ (pc := 61) fl_X7_9 dX7_endOf_61 ?_
              refine z_iload hZ (pc := 64) dX7_endOf_64 rfl ?_
              refine cS_i hZ (pc := 66) dX7_endOf_66 lk_X7_39 mn_X10_at ms_X10_at (c_X10_atn (j := 1) (n := s + 1 + k) (by decide) (by show s + 1 + k < 700; omega)) rfl rfl (Nat.le_of_ble_eq_true rfl) (by decide) (by decide) (Nat.zero_le _) (Nat.zero_le _) ?_
              refine cS_i hZ (pc := 69) dX7_endOf_69 lk_X7_60 mn_X7_isDigit ms_X7_isDigit (c_X7_isDigit) rfl rfl (Nat.le_of_ble_eq_true rfl) (by decide) (by decide) (Nat.zero_le _) (Nat.zero_le _) ?_
              refine z_if_eq hZ (pc := 72) (tgt := 81) dX7_endOf_72 rfl (fun c72 => ?_) (fun c72 => ?_)
              · skip
                have hE := hno k hk hlk (fun _ => by rw [likB, bI_eq.mp c52, bI_eq.mp c72]; simp)
                refine z_iload hZ (pc := 81) dX7_endOf_81 rfl ?_
                refine zr_i hZ (pc := 83) dX7_endOf_83 FitR.int ?_
                exact ⟨rfl, rfl, by rw [hE]⟩
              · skip
                have hlik : likB (g 1) s (s + 1 + k) = true := by rw [likB, bI_ne c57, bI_ne c72]; simp
                refine q_iinc_6_5 hZ (pc := 75) dX7_endOf_75 rfl ?_
                refine z_goto hZ (pc := 78) (tgt := 30) dX7_endOf_78 rfl ?_
                exact z_back hZ (ih30 (k + 1) (by omega) (by omega) (lt_s hlk hlik)) rfl ⟨rfl, rfl, rfl, rfl, rfl, zi (nI_inc _), trivial⟩
  exact z_back hZ (lp30 (n + 1) 0 (Nat.zero_le _) (by omega) (fun i hi => absurd hi (Nat.not_lt_zero _))) rfl ⟨rfl, rfl, rfl, rfl, rfl, rfl, trivial⟩
