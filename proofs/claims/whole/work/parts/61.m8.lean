theorem c_X11_letter {l : Launch} {D : va_G} {cA : Nat → ClassId} {r : Nat} {a : Nat → Nat} {s0 s1 : Nat → Option Nat} {v : ZV} {g : ZG} {x y : Int32} {P q : Nat} (hP : g 3 1 = nI P) (hP6 : P ≤ 16) (hq : v 19 = nI q) (hq4 : q ≤ 40) : MG l D cA (WM r a cA s0 s1) yX11_letter cX11_letter 3 (some .int) 3 [(.ref r), .int x, .int y] v g (fun v2 g2 r => if (inI x P && inI y 2400) = true then (if q < 40 then v2 = va_up (va_up v 2 0) 19 (nI (q + 1)) ∧ g2 = va_up (va_up g 21 (upd (g 21) q x)) 22 (upd (g 22) q y) ∧ r = some (.int (nI q)) else v2 = va_up v 2 0 ∧ g2 = va_up g 11 (upd (g 11) 2 (g 11 2 + 1)) ∧ r = some (.int (-1))) else v2 = va_up v 2 1 ∧ g2 = g ∧ r = some (.int 0)) := by
  refine MG.of (by decide) rfl (Nat.le_of_ble_eq_true rfl) (by simp [Value.category]) (fun Z hZ => ?_)
  refine z_aload_n hZ (pc := 0) dX11_letter_0 rfl ?_
  refine z_iconst hZ (pc := 1) (v := 0) dX11_letter_1 (by decide) ?_
  refine pM_2 hZ (pc := 2) fl_X11_160 dX11_letter_2 ?_
  refine z_aload_n hZ (pc := 5) dX11_letter_5 rfl ?_
  refine z_iload_n hZ (pc := 6) dX11_letter_6 rfl ?_
  refine cV_i hZ (pc := 7) dX11_letter_7 lk_X11_312 mn_X11_isPerson mv_X11_isPerson (c_X11_isPerson (n := P) hP (by omega)) rc_M rfl rfl (Nat.le_of_ble_eq_true rfl) (by decide) (by decide) (Nat.zero_le _) (Nat.zero_le _) ?_
  refine z_if_eq hZ (pc := 10) (tgt := 20) dX11_letter_10 rfl (fun c10 => ?_) (fun c10 => ?_)
  · skip
    refine z_aload_n hZ (pc := 20) dX11_letter_20 rfl ?_
    refine z_iconst hZ (pc := 21) (v := 1) dX11_letter_21 (by decide) ?_
    refine cV_i hZ (pc := 22) dX11_letter_22 lk_X11_286 mn_X11_fail mv_X11_fail (c_X11_fail) rc_M rfl rfl (Nat.le_of_ble_eq_true rfl) (by decide) (by decide) (Nat.zero_le _) (Nat.zero_le _) ?_
    refine zr_i hZ (pc := 25) dX11_letter_25 FitR.int ?_
    exact (by rw [if_neg (show ¬ (inI x P && inI y 2400) = true by rw [show (inI x P && inI y 2400) = false from by rw [bI_eq.mp c10, Bool.false_and]]; decide)]; exact ⟨up_twice, rfl, rfl⟩)
  · skip
    refine z_iload_n hZ (pc := 13) dX11_letter_13 rfl ?_
    refine cS_i hZ (pc := 14) dX11_letter_14 lk_X11_338 mn_X11_isHour ms_X11_isHour (c_X11_isHour) rfl rfl (Nat.le_of_ble_eq_true rfl) (by decide) (by decide) (Nat.zero_le _) (Nat.zero_le _) ?_
    refine z_if_ne hZ (pc := 17) (tgt := 26) dX11_letter_17 rfl (fun c17 => ?_) (fun c17 => ?_)
    · skip
      refine z_aload_n hZ (pc := 26) dX11_letter_26 rfl ?_
      refine gM_19 hZ (pc := 27) fl_X11_299 dX11_letter_27 ?_
      refine z_top (y := nI q) hq ?_
      refine z_bipush hZ (pc := 30) (v := 40) dX11_letter_30 (by decide) ?_
      refine z_icmp_ne hZ (pc := 32) (tgt := 47) dX11_letter_32 rfl (fun c32 => ?_) (fun c32 => ?_)
      · skip
        have hl : q < 40 := by
          rcases Nat.lt_or_ge q 40 with z | z
          · exact z
          · exact absurd (by rw [show q = 40 by omega]; rfl) c32
        refine z_aload_n hZ (pc := 47) dX11_letter_47 rfl ?_
        refine gM_21 hZ (pc := 48) fl_X11_86 dX11_letter_48 ?_
        refine z_aload_n hZ (pc := 51) dX11_letter_51 rfl ?_
        refine gM_19 hZ (pc := 52) fl_X11_299 dX11_letter_52 ?_
        refine z_top (y := nI q) hq ?_
        refine z_iload_n hZ (pc := 55) dX11_letter_55 rfl ?_
        refine sMn_21 hZ (pc := 56) dX11_letter_56 (show q < 40 by omega) ?_
        refine z_aload_n hZ (pc := 57) dX11_letter_57 rfl ?_
        refine gM_22 hZ (pc := 58) fl_X11_89 dX11_letter_58 ?_
        refine z_aload_n hZ (pc := 61) dX11_letter_61 rfl ?_
        refine gM_19 hZ (pc := 62) fl_X11_299 dX11_letter_62 ?_
        refine z_top (y := nI q) hq ?_
        refine z_iload_n hZ (pc := 65) dX11_letter_65 rfl ?_
        refine sMn_22 hZ (pc := 66) dX11_letter_66 (show q < 40 by omega) ?_
        refine z_aload_n hZ (pc := 67) dX11_letter_67 rfl ?_
        refine z_dup hZ (pc := 68) dX11_letter_68 rfl ?_
        refine gM_19 hZ (pc := 69) fl_X11_299 dX11_letter_69 ?_
        refine z_iconst hZ (pc := 72) (v := 1) dX11_letter_72 (by decide) ?_
        refine z_iadd hZ (pc := 73) dX11_letter_73 ?_
        refine z_top (y := nI (q + 1)) (by rw [show (va_up v 2 0) 19 = nI q from hq]; exact nI_1 q) ?_
        refine pM_19 hZ (pc := 74) fl_X11_299 dX11_letter_74 ?_
        refine z_aload_n hZ (pc := 77) dX11_letter_77 rfl ?_
        refine gM_19 hZ (pc := 78) fl_X11_299 dX11_letter_78 ?_
        refine z_iconst hZ (pc := 81) (v := 1) dX11_letter_81 (by decide) ?_
        refine z_isub hZ (pc := 82) dX11_letter_82 ?_
        refine z_top (y := nI q) (nI_pred q) ?_
        refine zr_i hZ (pc := 83) dX11_letter_83 FitR.int ?_
        exact (by rw [if_pos (show (inI x P && inI y 2400) = true from by rw [bI_ne c10, bI_ne c17]; rfl), if_pos hl]; exact ⟨rfl, rfl, rfl⟩)
      · skip
        have hl : ¬ q < 40 := by
          have := (nI_eq (a := q) (b := 40) (by omega) (by omega)).mp c32
          omega
        refine z_aload_n hZ (pc := 35) dX11_letter_35 rfl ?_
        refine gM_11 hZ (pc := 36) fl_X11_66 dX11_letter_36 ?_
        refine z_iconst hZ (pc := 39) (v := 2) dX11_letter_39 (by decide) ?_
        refine z_dup2 hZ (pc := 40) dX11_letter_40 rfl rfl ?_
        refine lMn_11 hZ (pc := 41) (q := 2) dX11_letter_41 (by omega) ?_
        refine z_iconst hZ (pc := 42) (v := 1) dX11_letter_42 (by decide) ?_
        refine z_iadd hZ (pc := 43) dX11_letter_43 ?_
        refine sMn_11 hZ (pc := 44) (q := 2) dX11_letter_44 (by omega) ?_
        refine z_iconst hZ (pc := 45) (v := (-1)) dX11_letter_45 (by decide) ?_
        refine zr_i hZ (pc := 46) dX11_letter_46 FitR.int ?_
        exact (by rw [if_pos (show (inI x P && inI y 2400) = true from by rw [bI_ne c10, bI_ne c17]; rfl), if_neg hl]; exact ⟨rfl, rfl, rfl⟩)
    · skip
      refine z_aload_n hZ (pc := 20) dX11_letter_20 rfl ?_
      refine z_iconst hZ (pc := 21) (v := 1) dX11_letter_21 (by decide) ?_
      refine cV_i hZ (pc := 22) dX11_letter_22 lk_X11_286 mn_X11_fail mv_X11_fail (c_X11_fail) rc_M rfl rfl (Nat.le_of_ble_eq_true rfl) (by decide) (by decide) (Nat.zero_le _) (Nat.zero_le _) ?_
      refine zr_i hZ (pc := 25) dX11_letter_25 FitR.int ?_
      exact (by rw [if_neg (show ¬ (inI x P && inI y 2400) = true by rw [show (inI x P && inI y 2400) = false from by rw [bI_eq.mp c17, Bool.and_false]]; decide)]; exact ⟨up_twice, rfl, rfl⟩)
theorem c_X11_write {l : Launch} {D : va_G} {cA : Nat → ClassId} {r : Nat} {a : Nat → Nat} {s0 s1 : Nat → Option Nat} {v : ZV} {g : ZG} {x : Int32} {P m : Nat} (hP : g 3 1 = nI P) (hP6 : P ≤ 16) (hm : v 20 = nI m) (h40 : m ≤ 40) : MG l D cA (WM r a cA s0 s1) yX11_write cX11_write 2 (some .int) 3 [(.ref r), .int x] v g (fun v2 g2 r => if (inI x P) = true then (if m < 40 then v2 = va_up (va_up v 2 0) 20 (nI (m + 1)) ∧ g2 = va_up g 23 (upd (g 23) m x) ∧ r = some (.int (nI (m + 1))) else v2 = va_up v 2 0 ∧ g2 = va_up g 11 (upd (g 11) 3 (g 11 3 + 1)) ∧ r = some (.int (-1))) else v2 = va_up v 2 1 ∧ g2 = g ∧ r = some (.int 0)) := by
  refine MG.of (by decide) rfl (Nat.le_of_ble_eq_true rfl) (by simp [Value.category]) (fun Z hZ => ?_)
  refine z_aload_n hZ (pc := 0) dX11_write_0 rfl ?_
  refine z_iconst hZ (pc := 1) (v := 0) dX11_write_1 (by decide) ?_
  refine pM_2 hZ (pc := 2) fl_X11_160 dX11_write_2 ?_
  refine z_aload_n hZ (pc := 5) dX11_write_5 rfl ?_
  refine z_iload_n hZ (pc := 6) dX11_write_6 rfl ?_
  refine cV_i hZ (pc := 7) dX11_write_7 lk_X11_312 mn_X11_isPerson mv_X11_isPerson (c_X11_isPerson (n := P) hP (by omega)) rc_M rfl rfl (Nat.le_of_ble_eq_true rfl) (by decide) (by decide) (Nat.zero_le _) (Nat.zero_le _) ?_
  refine z_if_ne hZ (pc := 10) (tgt := 19) dX11_write_10 rfl (fun c10 => ?_) (fun c10 => ?_)
  · skip
    refine z_aload_n hZ (pc := 19) dX11_write_19 rfl ?_
    refine gM_20 hZ (pc := 20) fl_X11_302 dX11_write_20 ?_
    refine z_top (y := nI m) hm ?_
    refine z_bipush hZ (pc := 23) (v := 40) dX11_write_23 (by decide) ?_
    refine z_icmp_ne hZ (pc := 25) (tgt := 40) dX11_write_25 rfl (fun c25 => ?_) (fun c25 => ?_)
    · skip
      have hl : m < 40 := by
        rcases Nat.lt_or_ge m 40 with z | z
        · exact z
        · exact absurd (by rw [show m = 40 by omega]; rfl) c25
      refine z_aload_n hZ (pc := 40) dX11_write_40 rfl ?_
      refine gM_23 hZ (pc := 41) fl_X11_92 dX11_write_41 ?_
      refine z_aload_n hZ (pc := 44) dX11_write_44 rfl ?_
      refine gM_20 hZ (pc := 45) fl_X11_302 dX11_write_45 ?_
      refine z_top (y := nI m) hm ?_
      refine z_iload_n hZ (pc := 48) dX11_write_48 rfl ?_
      refine sMn_23 hZ (pc := 49) dX11_write_49 (show m < 40 by omega) ?_
      refine z_aload_n hZ (pc := 50) dX11_write_50 rfl ?_
      refine z_dup hZ (pc := 51) dX11_write_51 rfl ?_
      refine gM_20 hZ (pc := 52) fl_X11_302 dX11_write_52 ?_
      refine z_iconst hZ (pc := 55) (v := 1) dX11_write_55 (by decide) ?_
      refine z_iadd hZ (pc := 56) dX11_write_56 ?_
      refine z_top (y := nI (m + 1)) (by rw [show (va_up v 2 0) 20 = nI m from hm]; exact nI_1 m) ?_
      refine pM_20 hZ (pc := 57) fl_X11_302 dX11_write_57 ?_
      refine z_aload_n hZ (pc := 60) dX11_write_60 rfl ?_
      refine gM_20 hZ (pc := 61) fl_X11_302 dX11_write_61 ?_
      refine zr_i hZ (pc := 64) dX11_write_64 FitR.int ?_
      exact (by rw [if_pos (show (inI x P) = true from bI_ne c10), if_pos hl]; exact ⟨rfl, rfl, rfl⟩)
    · skip
      have hl : ¬ m < 40 := by
        have := (nI_eq (a := m) (b := 40) (by omega) (by omega)).mp c25
        omega
      refine z_aload_n hZ (pc := 28) dX11_write_28 rfl ?_
      refine gM_11 hZ (pc := 29) fl_X11_66 dX11_write_29 ?_
      refine z_iconst hZ (pc := 32) (v := 3) dX11_write_32 (by decide) ?_
      refine z_dup2 hZ (pc := 33) dX11_write_33 rfl rfl ?_
      refine lMn_11 hZ (pc := 34) (q := 3) dX11_write_34 (by omega) ?_
      refine z_iconst hZ (pc := 35) (v := 1) dX11_write_35 (by decide) ?_
      refine z_iadd hZ (pc := 36) dX11_write_36 ?_
      refine sMn_11 hZ (pc := 37) (q := 3) dX11_write_37 (by omega) ?_
      refine z_iconst hZ (pc := 38) (v := (-1)) dX11_write_38 (by decide) ?_
      refine zr_i hZ (pc := 39) dX11_write_39 FitR.int ?_
      exact (by rw [if_pos (show (inI x P) = true from bI_ne c10), if_neg hl]; exact ⟨rfl, rfl, rfl⟩)
  · skip
    refine z_aload_n hZ (pc := 13) dX11_write_13 rfl ?_
    refine z_iconst hZ (pc := 14) (v := 1) dX11_write_14 (by decide) ?_
    refine cV_i hZ (pc := 15) dX11_write_15 lk_X11_286 mn_X11_fail mv_X11_fail (c_X11_fail) rc_M rfl rfl (Nat.le_of_ble_eq_true rfl) (by decide) (by decide) (Nat.zero_le _) (Nat.zero_le _) ?_
    refine zr_i hZ (pc := 18) dX11_write_18 FitR.int ?_
    exact (by rw [if_neg (show ¬ (inI x P) = true by rw [show (inI x P) = false from bI_eq.mp c10]; decide)]; exact ⟨up_twice, rfl, rfl⟩)
theorem inB_round {x v42 : Int32} {K : Nat} (hK : v42 = nI K ∨ (v42 = -1 ∧ K = 0)) (h9 : K ≤ 10) : inB x 0 (v42 - 1) = inI x K := by
  rcases hK with e | ⟨e, rfl⟩
  · rw [e]; exact inB_inI (by omega)
  · have h2 : ((-1 : Int32) - 1) = -2 := by decide
    rw [e, h2]
    have hx : inI x 0 = false := by
      cases q : inI x 0
      · rfl
      · obtain ⟨k, hk, -⟩ := inI_t q (by omega)
        omega
    rw [hx]
    cases q : inB x 0 (-2)
    · rfl
    · simp only [inB, Bool.and_eq_true, decide_eq_true_eq] at q
      exact absurd (Int32.le_trans q.1 q.2) (by decide)
theorem c_X11_rounded {l : Launch} {D : va_G} {cA : Nat → ClassId} {r : Nat} {a : Nat → Nat} {s0 s1 : Nat → Option Nat} {v : ZV} {g : ZG} {x : Int32} {K : Nat} (hK : v 42 = nI K ∨ (v 42 = -1 ∧ K = 0)) (h9 : K ≤ 10) : MG l D cA (WM r a cA s0 s1) yX11_rounded cX11_rounded 2 (some .int) 3 [(.ref r), .int x] v g (PF (va_up v 2 (if (inI x K) = true then 0 else 1)) g (some (.int (if (inI x K) = true then g 40 x.toNatClampNeg else 0)))) := by
  refine MG.of (by decide) rfl (Nat.le_of_ble_eq_true rfl) (by simp [Value.category]) (fun Z hZ => ?_)
  refine z_aload_n hZ (pc := 0) dX11_rounded_0 rfl ?_
  refine z_iconst hZ (pc := 1) (v := 0) dX11_rounded_1 (by decide) ?_
  refine pM_2 hZ (pc := 2) fl_X11_160 dX11_rounded_2 ?_
  refine z_iload_n hZ (pc := 5) dX11_rounded_5 rfl ?_
  refine z_iconst hZ (pc := 6) (v := 0) dX11_rounded_6 (by decide) ?_
  refine z_aload_n hZ (pc := 7) dX11_rounded_7 rfl ?_
  refine gM_42 hZ (pc := 8) fl_X11_114 dX11_rounded_8 ?_
  refine z_iconst hZ (pc := 11) (v := 1) dX11_rounded_11 (by decide) ?_
  refine z_isub hZ (pc := 12) dX11_rounded_12 ?_
  refine cS_i hZ (pc := 13) dX11_rounded_13 lk_X11_163 mn_X11_isIn ms_X11_isIn (c_X11_isIn) rfl rfl (Nat.le_of_ble_eq_true rfl) (by decide) (by decide) (Nat.zero_le _) (Nat.zero_le _) ?_
  refine z_top (y := bI (inI x K)) (congrArg bI (inB_round hK h9)) ?_
  refine z_if_eq hZ (pc := 16) (tgt := 28) dX11_rounded_16 rfl (fun c16 => ?_) (fun c16 => ?_)
  · skip
    refine z_aload_n hZ (pc := 28) dX11_rounded_28 rfl ?_
    refine z_iconst hZ (pc := 29) (v := 1) dX11_rounded_29 (by decide) ?_
    refine cV_i hZ (pc := 30) dX11_rounded_30 lk_X11_286 mn_X11_fail mv_X11_fail (c_X11_fail) rc_M rfl rfl (Nat.le_of_ble_eq_true rfl) (by decide) (by decide) (Nat.zero_le _) (Nat.zero_le _) ?_
    refine zr_i hZ (pc := 33) dX11_rounded_33 FitR.int ?_
    exact ⟨by rw [show (inI x K) = false from bI_eq.mp c16]; exact up_twice, rfl, by rw [show (inI x K) = false from bI_eq.mp c16]; rfl⟩
  · skip
    obtain ⟨k, hk, rfl⟩ := inI_t (bI_ne c16) (by omega)
    refine z_aload_n hZ (pc := 19) dX11_rounded_19 rfl ?_
    refine gM_40 hZ (pc := 20) fl_X11_108 dX11_rounded_20 ?_
    refine z_iload_n hZ (pc := 23) dX11_rounded_23 rfl ?_
    refine lMn_40 hZ (pc := 24) dX11_rounded_24 (show k < 10 by omega) ?_
    refine z_goto hZ (pc := 25) (tgt := 33) dX11_rounded_25 rfl ?_
    refine zr_i hZ (pc := 33) dX11_rounded_33 FitR.int ?_
    exact ⟨by rw [show (inI (nI k) K) = true from bI_ne c16]; rfl, rfl, by rw [show (inI (nI k) K) = true from bI_ne c16, if_pos rfl]; rw [nI_clamp (by omega)]⟩
theorem c_X11_holds {l : Launch} {D : va_G} {cA : Nat → ClassId} {r : Nat} {a : Nat → Nat} {s0 s1 : Nat → Option Nat} {v : ZV} {g : ZG} {x y : Int32} {n H R A : Nat} {ops : Nat → Nat → Int32} {m : Nat → Nat} (hn : v 12 = nI n) (h2 : n ≤ 200) (hco : ∀ t, t < n → g 18 t = 0 ∨ g 18 t = 1) (hH : g 3 0 = nI H) (h10 : H ≤ 10) (hX : ExM g R A ops m) (hA : g 3 3 = nI A) (hA6 : A ≤ 6) (hwo : ∀ t, t < n → ∃ p, p < 16 ∧ g 13 t = nI p) (hhi : ∀ p, p < 16 → g 7 p = 0 ∨ g 7 p = 1) : MG l D cA (WM r a cA s0 s1) yX11_holds cX11_holds 3 (some .boolean) 4 [(.ref r), .int x, .int y] v g (fun v2 g2 r => v2 = va_up v 2 (if (inI x A && inI y H) = true then 0 else 1) ∧ (∀ j, j ≠ 37 → j ≠ 36 → g2 j = g j) ∧ r = some (.int (if (inI x A && inI y H) = true then bI (holdE (valsH (g 13) (g 16) (g 15) (g 17) (g 7) y.toNatClampNeg (cbS (g 18) (g 14) (g 15) (nI y.toNatClampNeg) (if n = 0 then 0 else g 15 (n - 1)) n)) ops m (4 + x.toNatClampNeg)) else 0))) := by
  refine MG.of (by decide) rfl (Nat.le_of_ble_eq_true rfl) (by simp [Value.category]) (fun Z hZ => ?_)
  refine z_aload_n hZ (pc := 0) dX11_holds_0 rfl ?_
  refine z_iconst hZ (pc := 1) (v := 0) dX11_holds_1 (by decide) ?_
  refine pM_2 hZ (pc := 2) fl_X11_160 dX11_holds_2 ?_
  refine z_iload_n hZ (pc := 5) dX11_holds_5 rfl ?_
  refine z_iconst hZ (pc := 6) (v := 0) dX11_holds_6 (by decide) ?_
  refine z_aload_n hZ (pc := 7) dX11_holds_7 rfl ?_
  refine gM_3 hZ (pc := 8) fl_X11_40 dX11_holds_8 ?_
  refine z_iconst hZ (pc := 11) (v := 3) dX11_holds_11 (by decide) ?_
  refine lMn_3 hZ (pc := 12) (q := 3) dX11_holds_12 (by omega) ?_
  refine z_iconst hZ (pc := 13) (v := 1) dX11_holds_13 (by decide) ?_
  refine z_isub hZ (pc := 14) dX11_holds_14 ?_
  refine cS_i hZ (pc := 15) dX11_holds_15 lk_X11_163 mn_X11_isIn ms_X11_isIn (c_X11_isIn) rfl rfl (Nat.le_of_ble_eq_true rfl) (by decide) (by decide) (Nat.zero_le _) (Nat.zero_le _) ?_
  refine z_top (y := bI (inI x A)) (congrArg bI (show inB x 0 (g 3 3 - 1) = inI x A by rw [hA]; exact inB_inI (by omega))) ?_
  refine z_if_eq hZ (pc := 18) (tgt := 29) dX11_holds_18 rfl (fun c18 => ?_) (fun c18 => ?_)
  · skip
    refine z_aload_n hZ (pc := 29) dX11_holds_29 rfl ?_
    refine z_iconst hZ (pc := 30) (v := 1) dX11_holds_30 (by decide) ?_
    refine pM_2 hZ (pc := 31) fl_X11_160 dX11_holds_31 ?_
    refine z_iconst hZ (pc := 34) (v := 0) dX11_holds_34 (by decide) ?_
    refine zr_i hZ (pc := 35) dX11_holds_35 FitR.b0 ?_
    exact ⟨by rw [show (inI x A && inI y H) = false from by rw [bI_eq.mp c18, Bool.false_and]]; exact up_twice, fun _ _ _ => rfl, by rw [show (inI x A && inI y H) = false from by rw [bI_eq.mp c18, Bool.false_and]]; rfl⟩
  · skip
    refine z_aload_n hZ (pc := 21) dX11_holds_21 rfl ?_
    refine z_iload_n hZ (pc := 22) dX11_holds_22 rfl ?_
    refine cV_i hZ (pc := 23) dX11_holds_23 lk_X11_315 mn_X11_isHouse mv_X11_isHouse (c_X11_isHouse (n := H) hH (by omega)) rc_M rfl rfl (Nat.le_of_ble_eq_true rfl) (by decide) (by decide) (Nat.zero_le _) (Nat.zero_le _) ?_
    refine z_if_ne hZ (pc := 26) (tgt := 36) dX11_holds_26 rfl (fun c26 => ?_) (fun c26 => ?_)
    · skip
      obtain ⟨e, he, rfl⟩ := inI_t (bI_ne c18) (by omega)
      obtain ⟨k, hk, rfl⟩ := inI_t (bI_ne c26) (by omega)
      refine z_aload_n hZ (pc := 36) dX11_holds_36 rfl ?_
      refine z_iload_n hZ (pc := 37) dX11_holds_37 rfl ?_
      refine z_iload_n hZ (pc := 38) dX11_holds_38 rfl ?_
      refine cV hZ (pc := 39) dX11_holds_39 lk_X11_375 mn_X11_holdsOf mv_X11_holdsOf (c_X11_holdsOf (n := n) (R := R) (A := A) (e := e) (k := k) (ops := ops) (m := m) hn h2 hco hX he hwo hhi) rc_M rfl rfl (Nat.le_of_ble_eq_true rfl) (by decide) (by decide) (Nat.zero_le _) (Nat.zero_le _) ?_
      intro v2 g2 r h
      obtain ⟨rfl, hg2, rfl⟩ := h
      refine zr_i hZ (pc := 42) dX11_holds_42 FitR.bI ?_
      exact ⟨by rw [show (inI (nI e) A && inI (nI k) H) = true from by rw [bI_ne c18, bI_ne c26]; rfl]; rfl, hg2, by rw [show (inI (nI e) A && inI (nI k) H) = true from by rw [bI_ne c18, bI_ne c26]; rfl, if_pos rfl, nI_clamp (by omega), nI_clamp (by omega)]⟩
    · skip
      refine z_aload_n hZ (pc := 29) dX11_holds_29 rfl ?_
      refine z_iconst hZ (pc := 30) (v := 1) dX11_holds_30 (by decide) ?_
      refine pM_2 hZ (pc := 31) fl_X11_160 dX11_holds_31 ?_
      refine z_iconst hZ (pc := 34) (v := 0) dX11_holds_34 (by decide) ?_
      refine zr_i hZ (pc := 35) dX11_holds_35 FitR.b0 ?_
      exact ⟨by rw [show (inI x A && inI y H) = false from by rw [bI_eq.mp c26, Bool.and_false]]; exact up_twice, fun _ _ _ => rfl, by rw [show (inI x A && inI y H) = false from by rw [bI_eq.mp c26, Bool.and_false]]; rfl⟩
