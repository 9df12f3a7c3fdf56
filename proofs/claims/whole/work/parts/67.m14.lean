def cntM (v : ZV) (g : ZG) (nw : Int32) : Nat → Int32
  | 0 => g 3 0
  | 1 => g 3 1
  | 2 => g 3 2
  | 3 => g 3 3
  | 4 => v 12
  | 5 => v 19
  | 6 => v 20
  | 7 => v 25
  | 8 => nw
  | k + 9 => g 11 k
theorem cntM_3 (v : ZV) (g : ZG) (nw : Int32) {k : Nat} (hk : k < 4) : cntM v g nw k = g 3 k := by
  have : k = 0 ∨ k = 1 ∨ k = 2 ∨ k = 3 := by omega
  rcases this with rfl | rfl | rfl | rfl <;> rfl
theorem inB_12 {w : Int32} (h : inB w 9 12 = true) : ∃ k, k < 4 ∧ w = nI (k + 9) := by
  simp only [inB, Bool.and_eq_true, decide_eq_true_eq] at h
  have h0 : ¬ w < 0 := fun q => absurd (Int32.lt_of_le_of_lt h.1 q) (by decide)
  obtain ⟨j, hj, rfl⟩ := nI_of h0
  have h1 := (nI_leI (a := 9) (b := j) (by omega) hj).mp h.1
  have h2 := (nI_leI (a := j) (b := 12) hj (by omega)).mp h.2
  exact ⟨j - 9, by omega, by rw [show j - 9 + 9 = j by omega]⟩
theorem cnt_none {w : Int32} (h1 : inB w 0 3 = false) (h2 : inB w 9 12 = false) (ho : w.toInt < 4 ∨ 8 < w.toInt) : inI w 13 = false := by
  cases q : inI w 13
  · rfl
  · obtain ⟨k, hk, rfl⟩ := inI_t q (by omega)
    rw [nI_toInt (by omega)] at ho
    have a1 : inB (nI k) 0 3 = inI (nI k) 4 := inB_inI (n := 4) (by omega)
    rw [a1, inI_nI (by omega)] at h1
    have h1 : ¬ k < 4 := of_decide_eq_false h1
    have a2 : inB (nI k) 9 12 = true := by
      simp only [inB, Bool.and_eq_true, decide_eq_true_eq]
      exact ⟨nI_le (a := 9) (b := k) (by omega) (by omega), nI_le (a := k) (b := 12) (by omega) (by omega)⟩
    rw [a2] at h2
    cases h2
theorem c_X11_count {l : Launch} {D : va_G} {cA : Nat → ClassId} {r : Nat} {a : Nat → Nat} {s0 s1 : Nat → Option Nat} {v : ZV} {g : ZG} {w : Int32} {n : Nat} (hn : v 12 = nI n) (h2 : n ≤ 200) : MG l D cA (WM r a cA s0 s1) yX11_count cX11_count 2 (some .int) 2 [(.ref r), .int w] v g (fun v2 g2 r => v2 = va_up v 2 (if inI w 13 = true then 0 else 1) ∧ g2 = g ∧ r = some (.int (if inI w 13 = true then cntM v g (if n = 0 then 0 else g 15 (n - 1)) w.toNatClampNeg else 0))) := by
  refine MG.of (by decide) rfl (Nat.le_of_ble_eq_true rfl) (by simp [Value.category]) (fun Z hZ => ?_)
  refine z_aload_n hZ (pc := 0) dX11_count_0 rfl ?_
  refine z_iconst hZ (pc := 1) (v := 0) dX11_count_1 (by decide) ?_
  refine pM_2 hZ (pc := 2) fl_X11_160 dX11_count_2 ?_
  refine z_iload_n hZ (pc := 5) dX11_count_5 rfl ?_
  refine z_iconst hZ (pc := 6) (v := 0) dX11_count_6 (by decide) ?_
  refine z_iconst hZ (pc := 7) (v := 3) dX11_count_7 (by decide) ?_
  refine cS_i hZ (pc := 8) dX11_count_8 lk_X11_163 mn_X11_isIn ms_X11_isIn (c_X11_isIn) rfl rfl (Nat.le_of_ble_eq_true rfl) (by decide) (by decide) (Nat.zero_le _) (Nat.zero_le _) ?_
  refine z_top (y := bI (inI w 4)) (congrArg bI (show inB w 0 3 = inI w 4 from inB_inI (n := 4) (by omega))) ?_
  refine z_if_eq hZ (pc := 11) (tgt := 21) dX11_count_11 rfl (fun c11 => ?_) (fun c11 => ?_)
  · skip
    refine z_iload_n hZ (pc := 21) dX11_count_21 rfl ?_
    refine z_bipush hZ (pc := 22) (v := 9) dX11_count_22 (by decide) ?_
    refine z_bipush hZ (pc := 24) (v := 12) dX11_count_24 (by decide) ?_
    refine cS_i hZ (pc := 26) dX11_count_26 lk_X11_163 mn_X11_isIn ms_X11_isIn (c_X11_isIn) rfl rfl (Nat.le_of_ble_eq_true rfl) (by decide) (by decide) (Nat.zero_le _) (Nat.zero_le _) ?_
    refine z_if_eq hZ (pc := 29) (tgt := 42) dX11_count_29 rfl (fun c29 => ?_) (fun c29 => ?_)
    · skip
      refine z_iload_n hZ (pc := 42) dX11_count_42 rfl ?_
      by_cases s43_0 : w = 4
      · subst s43_0
        refine z_swIn hZ (pc := 43) (off := 33) (tgt := 76) dX11_count_43 (by decide) (by decide) (by decide) rfl ?_
        refine z_aload_n hZ (pc := 76) dX11_count_76 rfl ?_
        refine gM_12 hZ (pc := 77) fl_X11_296 dX11_count_77 ?_
        refine zr_i hZ (pc := 80) dX11_count_80 FitR.int ?_
        exact ⟨by rw [if_pos (show inI 4 13 = true by decide)], rfl, by rw [if_pos (show inI 4 13 = true by decide)]; rfl⟩
      by_cases s43_1 : w = 5
      · subst s43_1
        refine z_swIn hZ (pc := 43) (off := 38) (tgt := 81) dX11_count_43 (by decide) (by decide) (by decide) rfl ?_
        refine z_aload_n hZ (pc := 81) dX11_count_81 rfl ?_
        refine gM_19 hZ (pc := 82) fl_X11_299 dX11_count_82 ?_
        refine zr_i hZ (pc := 85) dX11_count_85 FitR.int ?_
        exact ⟨by rw [if_pos (show inI 5 13 = true by decide)], rfl, by rw [if_pos (show inI 5 13 = true by decide)]; rfl⟩
      by_cases s43_2 : w = 6
      · subst s43_2
        refine z_swIn hZ (pc := 43) (off := 43) (tgt := 86) dX11_count_43 (by decide) (by decide) (by decide) rfl ?_
        refine z_aload_n hZ (pc := 86) dX11_count_86 rfl ?_
        refine gM_20 hZ (pc := 87) fl_X11_302 dX11_count_87 ?_
        refine zr_i hZ (pc := 90) dX11_count_90 FitR.int ?_
        exact ⟨by rw [if_pos (show inI 6 13 = true by decide)], rfl, by rw [if_pos (show inI 6 13 = true by decide)]; rfl⟩
      by_cases s43_3 : w = 7
      · subst s43_3
        refine z_swIn hZ (pc := 43) (off := 48) (tgt := 91) dX11_count_43 (by decide) (by decide) (by decide) rfl ?_
        refine z_aload_n hZ (pc := 91) dX11_count_91 rfl ?_
        refine gM_25 hZ (pc := 92) fl_X11_167 dX11_count_92 ?_
        refine zr_i hZ (pc := 95) dX11_count_95 FitR.int ?_
        exact ⟨by rw [if_pos (show inI 7 13 = true by decide)], rfl, by rw [if_pos (show inI 7 13 = true by decide)]; rfl⟩
      by_cases s43_4 : w = 8
      · subst s43_4
        refine z_swIn hZ (pc := 43) (off := 53) (tgt := 96) dX11_count_43 (by decide) (by decide) (by decide) rfl ?_
        refine z_aload_n hZ (pc := 96) dX11_count_96 rfl ?_
        refine cV_i hZ (pc := 97) dX11_count_97 lk_X11_309 mn_X11_now mv_X11_now (c_X11_now (n := n) hn h2) rc_M rfl rfl (Nat.le_of_ble_eq_true rfl) (by decide) (by decide) (Nat.zero_le _) (Nat.zero_le _) ?_
        refine zr_i hZ (pc := 100) dX11_count_100 FitR.int ?_
        exact ⟨by rw [if_pos (show inI 8 13 = true by decide)], rfl, by rw [if_pos (show inI 8 13 = true by decide)]; rfl⟩
      have hout43 : w.toInt < 4 ∨ 8 < w.toInt := by
        have q0 := lv_neT s43_0 (a := 4) (by decide)
        have q1 := lv_neT s43_1 (a := 5) (by decide)
        have q2 := lv_neT s43_2 (a := 6) (by decide)
        have q3 := lv_neT s43_3 (a := 7) (by decide)
        have q4 := lv_neT s43_4 (a := 8) (by decide)
        omega
      refine z_swOut hZ (pc := 43) (tgt := 101) dX11_count_43 hout43 rfl ?_
      refine z_aload_n hZ (pc := 101) dX11_count_101 rfl ?_
      refine z_iconst hZ (pc := 102) (v := 1) dX11_count_102 (by decide) ?_
      refine cV_i hZ (pc := 103) dX11_count_103 lk_X11_286 mn_X11_fail mv_X11_fail (c_X11_fail) rc_M rfl rfl (Nat.le_of_ble_eq_true rfl) (by decide) (by decide) (Nat.zero_le _) (Nat.zero_le _) ?_
      refine zr_i hZ (pc := 106) dX11_count_106 FitR.int ?_
      have hno : inI w 13 = false := cnt_none (by rw [show inB w 0 3 = inI w 4 from inB_inI (n := 4) (by omega)]; exact bI_eq.mp c11) (bI_eq.mp c29) hout43
      exact ⟨by rw [hno]; exact up_twice, rfl, by rw [hno]; rfl⟩
    · skip
      obtain ⟨k, hk, rfl⟩ := inB_12 (bI_ne c29)
      refine z_aload_n hZ (pc := 32) dX11_count_32 rfl ?_
      refine gM_11 hZ (pc := 33) fl_X11_66 dX11_count_33 ?_
      refine z_iload_n hZ (pc := 36) dX11_count_36 rfl ?_
      refine z_bipush hZ (pc := 37) (v := 9) dX11_count_37 (by decide) ?_
      refine z_isub hZ (pc := 39) dX11_count_39 ?_
      refine z_top (y := nI k) (by rw [show (9 : Int32) = nI 9 from rfl, pk_sub (by omega), Nat.add_sub_cancel]) ?_
      refine lMn_11 hZ (pc := 40) dX11_count_40 (show k < 4 by omega) ?_
      refine zr_i hZ (pc := 41) dX11_count_41 FitR.int ?_
      exact ⟨by rw [if_pos (show inI (nI (k + 9)) 13 = true by rw [inI_nI (by omega)]; exact decide_eq_true (by omega))], rfl, by rw [if_pos (show inI (nI (k + 9)) 13 = true by rw [inI_nI (by omega)]; exact decide_eq_true (by omega)), nI_clamp (by omega)]; rfl⟩
  · skip
    obtain ⟨k, hk, rfl⟩ := inI_t (bI_ne c11) (by omega)
    refine z_aload_n hZ (pc := 14) dX11_count_14 rfl ?_
    refine gM_3 hZ (pc := 15) fl_X11_40 dX11_count_15 ?_
    refine z_iload_n hZ (pc := 18) dX11_count_18 rfl ?_
    refine lMn_3 hZ (pc := 19) dX11_count_19 (show k < 8 by omega) ?_
    refine zr_i hZ (pc := 20) dX11_count_20 FitR.int ?_
    exact ⟨by rw [if_pos (show inI (nI k) 13 = true by rw [inI_nI (by omega)]; exact decide_eq_true (by omega))], rfl, by rw [if_pos (show inI (nI k) 13 = true by rw [inI_nI (by omega)]; exact decide_eq_true (by omega)), nI_clamp (by omega), cntM_3 _ _ _ hk]⟩
