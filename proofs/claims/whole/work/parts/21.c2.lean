/-- seven values laid -/
def vals7 (x0 x1 x2 x3 x4 x5 x6 : Int32) (f : Nat → Int32) : Nat → Int32 := upd (upd (upd (upd (upd (upd (upd f 0 x0) 1 x1) 2 x2) 3 x3) 4 x4) 5 x5) 6 x6
theorem c_X10_setValues {l : Launch} {D : va_G} {cA : Nat → ClassId} {o a : Nat → Nat} {v : ZV} {g : ZG} {h p gr hi hr be : Int32}  : MG l D cA (WC o a cA) yX10_setValues cX10_setValues 7 none 1 [(.ref (o 0)), .int h, .int p, .int gr, .int hi, .int hr, .int be] v g (PF v (va_up g 0 (vals7 h p gr hi (hr / 24) (hr - hr / 24 * 24) be (g 0))) (none)) := by
  refine MG.of (by decide) rfl (Nat.le_of_ble_eq_true rfl) (by simp [Value.category]) (fun Z hZ => ?_)
  refine z_aload_n hZ (pc := 0) dX10_setValues_0 rfl ?_
  refine gC_0_9 hZ (pc := 1) fl_X10_68 dX10_setValues_1 ?_
  refine z_iconst hZ (pc := 4) (v := 0) dX10_setValues_4 (by decide) ?_
  refine z_iload_n hZ (pc := 5) dX10_setValues_5 rfl ?_
  refine cS_v hZ (pc := 6) dX10_setValues_6 lk_X10_182 mn_X10_put ms_X10_put (c_X10_putn (j := 0) (n := 0) (by decide) (by decide)) rfl rfl (Nat.le_of_ble_eq_true rfl) (by decide) (by decide) (Nat.zero_le _) (Nat.zero_le _) ?_
  refine z_aload_n hZ (pc := 9) dX10_setValues_9 rfl ?_
  refine gC_0_9 hZ (pc := 10) fl_X10_68 dX10_setValues_10 ?_
  refine z_iconst hZ (pc := 13) (v := 1) dX10_setValues_13 (by decide) ?_
  refine z_iload_n hZ (pc := 14) dX10_setValues_14 rfl ?_
  refine cS_v hZ (pc := 15) dX10_setValues_15 lk_X10_182 mn_X10_put ms_X10_put (c_X10_putn (j := 0) (n := 1) (by decide) (by decide)) rfl rfl (Nat.le_of_ble_eq_true rfl) (by decide) (by decide) (Nat.zero_le _) (Nat.zero_le _) ?_
  refine z_aload_n hZ (pc := 18) dX10_setValues_18 rfl ?_
  refine gC_0_9 hZ (pc := 19) fl_X10_68 dX10_setValues_19 ?_
  refine z_iconst hZ (pc := 22) (v := 2) dX10_setValues_22 (by decide) ?_
  refine z_iload_n hZ (pc := 23) dX10_setValues_23 rfl ?_
  refine cS_v hZ (pc := 24) dX10_setValues_24 lk_X10_182 mn_X10_put ms_X10_put (c_X10_putn (j := 0) (n := 2) (by decide) (by decide)) rfl rfl (Nat.le_of_ble_eq_true rfl) (by decide) (by decide) (Nat.zero_le _) (Nat.zero_le _) ?_
  refine z_aload_n hZ (pc := 27) dX10_setValues_27 rfl ?_
  refine gC_0_9 hZ (pc := 28) fl_X10_68 dX10_setValues_28 ?_
  refine z_iconst hZ (pc := 31) (v := 3) dX10_setValues_31 (by decide) ?_
  refine z_iload hZ (pc := 32) dX10_setValues_32 rfl ?_
  refine cS_v hZ (pc := 34) dX10_setValues_34 lk_X10_182 mn_X10_put ms_X10_put (c_X10_putn (j := 0) (n := 3) (by decide) (by decide)) rfl rfl (Nat.le_of_ble_eq_true rfl) (by decide) (by decide) (Nat.zero_le _) (Nat.zero_le _) ?_
  refine z_aload_n hZ (pc := 37) dX10_setValues_37 rfl ?_
  refine gC_0_9 hZ (pc := 38) fl_X10_68 dX10_setValues_38 ?_
  refine z_iconst hZ (pc := 41) (v := 4) dX10_setValues_41 (by decide) ?_
  refine z_iload hZ (pc := 42) dX10_setValues_42 rfl ?_
  refine z_bipush hZ (pc := 44) (v := 24) dX10_setValues_44 (by decide) ?_
  refine z_idiv hZ (pc := 46) dX10_setValues_46 (by decide) ?_
  refine cS_v hZ (pc := 47) dX10_setValues_47 lk_X10_182 mn_X10_put ms_X10_put (c_X10_putn (j := 0) (n := 4) (by decide) (by decide)) rfl rfl (Nat.le_of_ble_eq_true rfl) (by decide) (by decide) (Nat.zero_le _) (Nat.zero_le _) ?_
  refine z_aload_n hZ (pc := 50) dX10_setValues_50 rfl ?_
  refine gC_0_9 hZ (pc := 51) fl_X10_68 dX10_setValues_51 ?_
  refine z_iconst hZ (pc := 54) (v := 5) dX10_setValues_54 (by decide) ?_
  refine z_iload hZ (pc := 55) dX10_setValues_55 rfl ?_
  refine z_bipush hZ (pc := 57) (v := 24) dX10_setValues_57 (by decide) ?_
  refine z_irem hZ (pc := 59) dX10_setValues_59 (by decide) ?_
  refine cS_v hZ (pc := 60) dX10_setValues_60 lk_X10_182 mn_X10_put ms_X10_put (c_X10_putn (j := 0) (n := 5) (by decide) (by decide)) rfl rfl (Nat.le_of_ble_eq_true rfl) (by decide) (by decide) (Nat.zero_le _) (Nat.zero_le _) ?_
  refine z_aload_n hZ (pc := 63) dX10_setValues_63 rfl ?_
  refine gC_0_9 hZ (pc := 64) fl_X10_68 dX10_setValues_64 ?_
  refine z_bipush hZ (pc := 67) (v := 6) dX10_setValues_67 (by decide) ?_
  refine z_iload hZ (pc := 69) dX10_setValues_69 rfl ?_
  refine cS_v hZ (pc := 71) dX10_setValues_71 lk_X10_182 mn_X10_put ms_X10_put (c_X10_putn (j := 0) (n := 6) (by decide) (by decide)) rfl rfl (Nat.le_of_ble_eq_true rfl) (by decide) (by decide) (Nat.zero_le _) (Nat.zero_le _) ?_
  refine zr_v hZ (pc := 74) dX10_setValues_74 ?_
  exact ⟨rfl, by simp only [up_twice, up_at]; rfl, rfl⟩
theorem c_X0_walkBetween {l : Launch} {D : va_G} {cA : Nat → ClassId} {o a : Nat → Nat} {v : ZV} {g : ZG} {h k : Nat} (hh : h < 10) (hk : k < 10) : MG l D cA (WC o a cA) yX0_walkBetween cX0_walkBetween 3 (some .int) 1 [(.ref (o 5)), .int (nI h), .int (nI k)] v g (PF v g (some (.int (if h = k then 0 else g 20 (10 * h + k))))) := by
  refine MG.of (by decide) rfl (Nat.le_of_ble_eq_true rfl) (by simp [Value.category]) (fun Z hZ => ?_)
  refine z_iload_n hZ (pc := 0) dX0_walkBetween_0 rfl ?_
  refine z_iload_n hZ (pc := 1) dX0_walkBetween_1 rfl ?_
  refine z_icmp_ne hZ (pc := 2) (tgt := 9) dX0_walkBetween_2 rfl (fun c2 => ?_) (fun c2 => ?_)
  · skip
    refine z_aload_n hZ (pc := 9) dX0_walkBetween_9 rfl ?_
    refine gC_5_8 hZ (pc := 10) fl_X0_21 dX0_walkBetween_10 ?_
    refine z_iload_n hZ (pc := 13) dX0_walkBetween_13 rfl ?_
    refine z_bipush hZ (pc := 14) (v := 10) dX0_walkBetween_14 (by decide) ?_
    refine z_imul hZ (pc := 16) dX0_walkBetween_16 ?_
    refine z_iload_n hZ (pc := 17) dX0_walkBetween_17 rfl ?_
    refine z_iadd hZ (pc := 18) dX0_walkBetween_18 ?_
    refine z_top (y := nI (10 * h + k)) (by rw [show (10 : Int32) = nI 10 from rfl, pk_mul, nI_add, Nat.mul_comm]) ?_
    refine cS_i hZ (pc := 19) dX0_walkBetween_19 lk_X0_61 mn_X10_at ms_X10_at (c_X10_atn (j := 20) (n := 10 * h + k) (by decide) (by show 10 * h + k < 100; omega)) rfl rfl (Nat.le_of_ble_eq_true rfl) (by decide) (by decide) (Nat.zero_le _) (Nat.zero_le _) ?_
    refine zr_i hZ (pc := 22) dX0_walkBetween_22 FitR.int ?_
    exact ⟨rfl, rfl, by rw [if_neg (fun q => c2 (by rw [q]))]⟩
  · skip
    refine z_iconst hZ (pc := 5) (v := 0) dX0_walkBetween_5 (by decide) ?_
    refine z_goto hZ (pc := 6) (tgt := 22) dX0_walkBetween_6 rfl ?_
    refine zr_i hZ (pc := 22) dX0_walkBetween_22 FitR.int ?_
    exact ⟨rfl, rfl, by rw [if_pos ((nI_eq (by omega) (by omega)).mp c2)]⟩
/-- what joins two -/
def joinS (s a b : Int32) : Int32 := if s = -9 then bI (decide (a ≠ 0) || decide (b ≠ 0)) else if s = -10 then bI (decide (a ≠ 0) && decide (b ≠ 0)) else if s = -11 then bI (decide (a < b)) else if s = -12 then bI (decide (a = b)) else if s = -13 then a + b else if s = -14 then a - b else if s = -15 then a * b else if b = 0 then 0 else a / b
theorem c_X0_join {l : Launch} {D : va_G} {cA : Nat → ClassId} {o a : Nat → Nat} {v : ZV} {g : ZG} {s x y : Int32}  : MG l D cA (WC o a cA) yX0_join cX0_join 3 (some .int) 0 [.int s, .int x, .int y] v g (PF v g (some (.int (joinS s x y)))) := by
  refine MG.of (by decide) rfl (Nat.le_of_ble_eq_true rfl) (by simp [Value.category]) (fun Z hZ => ?_)
  refine z_iload_n hZ (pc := 0) dX0_join_0 rfl ?_
  by_cases s1_0 : s = (-15)
  · subst s1_0
    refine z_swIn hZ (pc := 1) (off := 101) (tgt := 102) dX0_join_1 (by decide) (by decide) (by decide) rfl ?_
    refine z_iload_n hZ (pc := 102) dX0_join_102 rfl ?_
    refine z_iload_n hZ (pc := 103) dX0_join_103 rfl ?_
    refine z_imul hZ (pc := 104) dX0_join_104 ?_
    refine zr_i hZ (pc := 105) dX0_join_105 FitR.int ?_
    exact ⟨rfl, rfl, by simp [joinS]⟩
  by_cases s1_1 : s = (-14)
  · subst s1_1
    refine z_swIn hZ (pc := 1) (off := 97) (tgt := 98) dX0_join_1 (by decide) (by decide) (by decide) rfl ?_
    refine z_iload_n hZ (pc := 98) dX0_join_98 rfl ?_
    refine z_iload_n hZ (pc := 99) dX0_join_99 rfl ?_
    refine z_isub hZ (pc := 100) dX0_join_100 ?_
    refine zr_i hZ (pc := 101) dX0_join_101 FitR.int ?_
    exact ⟨rfl, rfl, by simp [joinS]⟩
  by_cases s1_2 : s = (-13)
  · subst s1_2
    refine z_swIn hZ (pc := 1) (off := 93) (tgt := 94) dX0_join_1 (by decide) (by decide) (by decide) rfl ?_
    refine z_iload_n hZ (pc := 94) dX0_join_94 rfl ?_
    refine z_iload_n hZ (pc := 95) dX0_join_95 rfl ?_
    refine z_iadd hZ (pc := 96) dX0_join_96 ?_
    refine zr_i hZ (pc := 97) dX0_join_97 FitR.int ?_
    exact ⟨rfl, rfl, by simp [joinS]⟩
  by_cases s1_3 : s = (-12)
  · subst s1_3
    refine z_swIn hZ (pc := 1) (off := 82) (tgt := 83) dX0_join_1 (by decide) (by decide) (by decide) rfl ?_
    refine z_iload_n hZ (pc := 83) dX0_join_83 rfl ?_
    refine z_iload_n hZ (pc := 84) dX0_join_84 rfl ?_
    refine z_icmp_ne hZ (pc := 85) (tgt := 92) dX0_join_85 rfl (fun c85 => ?_) (fun c85 => ?_)
    · skip
      refine z_iconst hZ (pc := 92) (v := 0) dX0_join_92 (by decide) ?_
      refine zr_i hZ (pc := 93) dX0_join_93 FitR.int ?_
      exact ⟨rfl, rfl, by simp [joinS, bI, c85]⟩
    · skip
      refine z_iconst hZ (pc := 88) (v := 1) dX0_join_88 (by decide) ?_
      refine z_goto hZ (pc := 89) (tgt := 93) dX0_join_89 rfl ?_
      refine zr_i hZ (pc := 93) dX0_join_93 FitR.int ?_
      exact ⟨rfl, rfl, by simp [joinS, bI, c85]⟩
  by_cases s1_4 : s = (-11)
  · subst s1_4
    refine z_swIn hZ (pc := 1) (off := 71) (tgt := 72) dX0_join_1 (by decide) (by decide) (by decide) rfl ?_
    refine z_iload_n hZ (pc := 72) dX0_join_72 rfl ?_
    refine z_iload_n hZ (pc := 73) dX0_join_73 rfl ?_
    refine z_icmp_ge hZ (pc := 74) (tgt := 81) dX0_join_74 rfl (fun c74 => ?_) (fun c74 => ?_)
    · skip
      refine z_iconst hZ (pc := 81) (v := 0) dX0_join_81 (by decide) ?_
      refine zr_i hZ (pc := 82) dX0_join_82 FitR.int ?_
      exact ⟨rfl, rfl, by simp [joinS, bI]; exact c74⟩
    · skip
      refine z_iconst hZ (pc := 77) (v := 1) dX0_join_77 (by decide) ?_
      refine z_goto hZ (pc := 78) (tgt := 82) dX0_join_78 rfl ?_
      refine zr_i hZ (pc := 82) dX0_join_82 FitR.int ?_
      exact ⟨rfl, rfl, by simp [joinS, bI]; exact Int32.not_le.mp c74⟩
  by_cases s1_5 : s = (-10)
  · subst s1_5
    refine z_swIn hZ (pc := 1) (off := 57) (tgt := 58) dX0_join_1 (by decide) (by decide) (by decide) rfl ?_
    refine z_iload_n hZ (pc := 58) dX0_join_58 rfl ?_
    refine z_if_eq hZ (pc := 59) (tgt := 70) dX0_join_59 rfl (fun c59 => ?_) (fun c59 => ?_)
    · skip
      refine z_iconst hZ (pc := 70) (v := 0) dX0_join_70 (by decide) ?_
      refine zr_i hZ (pc := 71) dX0_join_71 FitR.int ?_
      exact ⟨rfl, rfl, by simp [joinS, bI, c59]⟩
    · skip
      refine z_iload_n hZ (pc := 62) dX0_join_62 rfl ?_
      refine z_if_eq hZ (pc := 63) (tgt := 70) dX0_join_63 rfl (fun c63 => ?_) (fun c63 => ?_)
      · skip
        refine z_iconst hZ (pc := 70) (v := 0) dX0_join_70 (by decide) ?_
        refine zr_i hZ (pc := 71) dX0_join_71 FitR.int ?_
        exact ⟨rfl, rfl, by simp [joinS, bI, c59, c63]⟩
      · skip
        refine z_iconst hZ (pc := 66) (v := 1) dX0_join_66 (by decide) ?_
        refine z_goto hZ (pc := 67) (tgt := 71) dX0_join_67 rfl ?_
        refine zr_i hZ (pc := 71) dX0_join_71 FitR.int ?_
        exact ⟨rfl, rfl, by simp [joinS, bI, c59, c63]⟩
  by_cases s1_6 : s = (-9)
  · subst s1_6
    refine z_swIn hZ (pc := 1) (off := 43) (tgt := 44) dX0_join_1 (by decide) (by decide) (by decide) rfl ?_
    refine z_iload_n hZ (pc := 44) dX0_join_44 rfl ?_
    refine z_if_ne hZ (pc := 45) (tgt := 52) dX0_join_45 rfl (fun c45 => ?_) (fun c45 => ?_)
    · skip
      refine z_iconst hZ (pc := 52) (v := 1) dX0_join_52 (by decide) ?_
      refine z_goto hZ (pc := 53) (tgt := 57) dX0_join_53 rfl ?_
      refine zr_i hZ (pc := 57) dX0_join_57 FitR.int ?_
      exact ⟨rfl, rfl, by simp [joinS, bI, c45]⟩
    · skip
      refine z_iload_n hZ (pc := 48) dX0_join_48 rfl ?_
      refine z_if_eq hZ (pc := 49) (tgt := 56) dX0_join_49 rfl (fun c49 => ?_) (fun c49 => ?_)
      · skip
        refine z_iconst hZ (pc := 56) (v := 0) dX0_join_56 (by decide) ?_
        refine zr_i hZ (pc := 57) dX0_join_57 FitR.int ?_
        exact ⟨rfl, rfl, by simp [joinS, bI, c45, c49]⟩
      · skip
        refine z_iconst hZ (pc := 52) (v := 1) dX0_join_52 (by decide) ?_
        refine z_goto hZ (pc := 53) (tgt := 57) dX0_join_53 rfl ?_
        refine zr_i hZ (pc := 57) dX0_join_57 FitR.int ?_
        exact ⟨rfl, rfl, by simp [joinS, bI, c45, c49]⟩
  have hout1 : s.toInt < -15 ∨ -9 < s.toInt := by
    have q0 := lv_neT s1_0 (a := -15) (by decide)
    have q1 := lv_neT s1_1 (a := -14) (by decide)
    have q2 := lv_neT s1_2 (a := -13) (by decide)
    have q3 := lv_neT s1_3 (a := -12) (by decide)
    have q4 := lv_neT s1_4 (a := -11) (by decide)
    have q5 := lv_neT s1_5 (a := -10) (by decide)
    have q6 := lv_neT s1_6 (a := -9) (by decide)
    omega
  refine z_swOut hZ (pc := 1) (tgt := 106) dX0_join_1 hout1 rfl ?_
  refine z_iload_n hZ (pc := 106) dX0_join_106 rfl ?_
  refine z_if_ne hZ (pc := 107) (tgt := 114) dX0_join_107 rfl (fun c107 => ?_) (fun c107 => ?_)
  · skip
    refine z_iload_n hZ (pc := 114) dX0_join_114 rfl ?_
    refine z_iload_n hZ (pc := 115) dX0_join_115 rfl ?_
    refine z_idiv hZ (pc := 116) dX0_join_116 c107 ?_
    refine zr_i hZ (pc := 117) dX0_join_117 FitR.int ?_
    exact ⟨rfl, rfl, by rw [joinS]; simp only [*, if_false]⟩
  · skip
    refine z_iconst hZ (pc := 110) (v := 0) dX0_join_110 (by decide) ?_
    refine z_goto hZ (pc := 111) (tgt := 117) dX0_join_111 rfl ?_
    refine zr_i hZ (pc := 117) dX0_join_117 FitR.int ?_
    exact ⟨rfl, rfl, by rw [joinS]; simp only [*, if_true, if_false]⟩
theorem c_X6_countRefused {l : Launch} {D : va_G} {cA : Nat → ClassId} {o a : Nat → Nat} {v : ZV} {g : ZG} {w : Nat} (hw : w < 4) : MG l D cA (WC o a cA) yX6_countRefused cX6_countRefused 2 none 1 [(.ref (o 3)), .int (nI w)] v g (PF v (va_up g 10 (upd (g 10) w (g 10 w + 1))) (none)) := by
  refine MG.of (by decide) rfl (Nat.le_of_ble_eq_true rfl) (by simp [Value.category]) (fun Z hZ => ?_)
  refine z_aload_n hZ (pc := 0) dX6_countRefused_0 rfl ?_
  refine gC_3_8 hZ (pc := 1) fl_X6_37 dX6_countRefused_1 ?_
  refine z_iload_n hZ (pc := 4) dX6_countRefused_4 rfl ?_
  refine z_aload_n hZ (pc := 5) dX6_countRefused_5 rfl ?_
  refine gC_3_8 hZ (pc := 6) fl_X6_37 dX6_countRefused_6 ?_
  refine z_iload_n hZ (pc := 9) dX6_countRefused_9 rfl ?_
  refine cS_i hZ (pc := 10) dX6_countRefused_10 lk_X6_47 mn_X10_at ms_X10_at (c_X10_atn (j := 10) (n := w) (by decide) hw) rfl rfl (Nat.le_of_ble_eq_true rfl) (by decide) (by decide) (Nat.zero_le _) (Nat.zero_le _) ?_
  refine z_iconst hZ (pc := 13) (v := 1) dX6_countRefused_13 (by decide) ?_
  refine z_iadd hZ (pc := 14) dX6_countRefused_14 ?_
  refine cS_v hZ (pc := 15) dX6_countRefused_15 lk_X6_51 mn_X10_put ms_X10_put (c_X10_putn (j := 10) (n := w) (by decide) hw) rfl rfl (Nat.le_of_ble_eq_true rfl) (by decide) (by decide) (Nat.zero_le _) (Nat.zero_le _) ?_
  refine zr_v hZ (pc := 18) dX6_countRefused_18 ?_
  exact ⟨rfl, rfl, rfl⟩
theorem c_X6_writeLetter {l : Launch} {D : va_G} {cA : Nat → ClassId} {o a : Nat → Nat} {v : ZV} {g : ZG} {n : Nat} {p hr : Int32} (hn : v 10 = nI n) (h4 : n < 40) : MG l D cA (WC o a cA) yX6_writeLetter cX6_writeLetter 3 none 1 [(.ref (o 3)), .int p, .int hr] v g (PF (va_up v 10 (nI (n + 1))) (va_up (va_up g 6 (upd (g 6) n p)) 7 (upd (g 7) n hr)) (none)) := by
  refine MG.of (by decide) rfl (Nat.le_of_ble_eq_true rfl) (by simp [Value.category]) (fun Z hZ => ?_)
  refine z_aload_n hZ (pc := 0) dX6_writeLetter_0 rfl ?_
  refine gC_3_4 hZ (pc := 1) fl_X6_25 dX6_writeLetter_1 ?_
  refine z_aload_n hZ (pc := 4) dX6_writeLetter_4 rfl ?_
  refine gC_3_1 hZ (pc := 5) fl_X6_15 dX6_writeLetter_5 ?_
  refine z_st ?_ (by rw [hn])
  refine z_iload_n hZ (pc := 8) dX6_writeLetter_8 rfl ?_
  refine cS_v hZ (pc := 9) dX6_writeLetter_9 lk_X6_51 mn_X10_put ms_X10_put (c_X10_putn (j := 6) (n := n) (by decide) h4) rfl rfl (Nat.le_of_ble_eq_true rfl) (by decide) (by decide) (Nat.zero_le _) (Nat.zero_le _) ?_
  refine z_aload_n hZ (pc := 12) dX6_writeLetter_12 rfl ?_
  refine gC_3_5 hZ (pc := 13) fl_X6_28 dX6_writeLetter_13 ?_
  refine z_aload_n hZ (pc := 16) dX6_writeLetter_16 rfl ?_
  refine gC_3_1 hZ (pc := 17) fl_X6_15 dX6_writeLetter_17 ?_
  refine z_st ?_ (by rw [hn])
  refine z_iload_n hZ (pc := 20) dX6_writeLetter_20 rfl ?_
  refine cS_v hZ (pc := 21) dX6_writeLetter_21 lk_X6_51 mn_X10_put ms_X10_put (c_X10_putn (j := 7) (n := n) (by decide) h4) rfl rfl (Nat.le_of_ble_eq_true rfl) (by decide) (by decide) (Nat.zero_le _) (Nat.zero_le _) ?_
  refine z_aload_n hZ (pc := 24) dX6_writeLetter_24 rfl ?_
  refine z_dup hZ (pc := 25) dX6_writeLetter_25 rfl ?_
  refine gC_3_1 hZ (pc := 26) fl_X6_15 dX6_writeLetter_26 ?_
  refine z_iconst hZ (pc := 29) (v := 1) dX6_writeLetter_29 (by decide) ?_
  refine z_iadd hZ (pc := 30) dX6_writeLetter_30 ?_
  refine pC_3_1 hZ (pc := 31) fl_X6_15 dX6_writeLetter_31 ?_
  refine zr_v hZ (pc := 34) dX6_writeLetter_34 ?_
  exact ⟨by rw [hn, nI_1], rfl, rfl⟩
theorem c_X6_tell {l : Launch} {D : va_G} {cA : Nat → ClassId} {o a : Nat → Nat} {v : ZV} {g : ZG} {n : Nat} {hr : Int32} {b : Bool} (hn : v 9 = nI n) (h2 : n < 200) : MG l D cA (WC o a cA) yX6_tell cX6_tell 5 none 2 [(.ref (o 3)), (.ref (a 0)), .int hr, .int (bI b)] v g (PF (va_up v 9 (nI (n + 1))) (va_up g 5 (upd (upd (upd (upd (upd (upd (g 5) (6 * n) (g 0 1)) (6 * n + 1) (g 0 0)) (6 * n + 2) hr) (6 * n + 3) (g 0 2)) (6 * n + 4) (g 0 6)) (6 * n + 5) (bI b))) (none)) := by
  refine MG.of (by decide) rfl (Nat.le_of_ble_eq_true rfl) (by simp [Value.category]) (fun Z hZ => ?_)
  refine z_aload_n hZ (pc := 0) dX6_tell_0 rfl ?_
  refine gC_3_0 hZ (pc := 1) fl_X6_9 dX6_tell_1 ?_
  refine z_bipush hZ (pc := 4) (v := 6) dX6_tell_4 (by decide) ?_
  refine z_imul hZ (pc := 6) dX6_tell_6 ?_
  refine z_top (y := nI (6 * n)) (by rw [hn, show (6 : Int32) = nI 6 from rfl, pk_mul, Nat.mul_comm]) ?_
  refine q_istore_5_4 hZ (pc := 7) dX6_tell_7 rfl ?_
  refine z_aload_n hZ (pc := 9) dX6_tell_9 rfl ?_
  refine gC_3_3 hZ (pc := 10) fl_X6_21 dX6_tell_10 ?_
  refine z_iload hZ (pc := 13) dX6_tell_13 rfl ?_
  refine z_iconst hZ (pc := 15) (v := 0) dX6_tell_15 (by decide) ?_
  refine z_iadd hZ (pc := 16) dX6_tell_16 ?_
  refine z_top (y := nI (6 * n + 0)) (nI_add _ _) ?_
  refine z_aload_n hZ (pc := 17) dX6_tell_17 rfl ?_
  refine z_iconst hZ (pc := 18) (v := 1) dX6_tell_18 (by decide) ?_
  refine cS_i hZ (pc := 19) dX6_tell_19 lk_X6_47 mn_X10_at ms_X10_at (c_X10_atn (j := 0) (n := 1) (by decide) (by decide)) rfl rfl (Nat.le_of_ble_eq_true rfl) (by decide) (by decide) (Nat.zero_le _) (Nat.zero_le _) ?_
  refine cS_v hZ (pc := 22) dX6_tell_22 lk_X6_51 mn_X10_put ms_X10_put (c_X10_putn (j := 5) (n := 6 * n + 0) (by decide) (by show 6 * n + 0 < 1200; omega)) rfl rfl (Nat.le_of_ble_eq_true rfl) (by decide) (by decide) (Nat.zero_le _) (Nat.zero_le _) ?_
  refine z_aload_n hZ (pc := 25) dX6_tell_25 rfl ?_
  refine gC_3_3 hZ (pc := 26) fl_X6_21 dX6_tell_26 ?_
  refine z_iload hZ (pc := 29) dX6_tell_29 rfl ?_
  refine z_iconst hZ (pc := 31) (v := 1) dX6_tell_31 (by decide) ?_
  refine z_iadd hZ (pc := 32) dX6_tell_32 ?_
  refine z_top (y := nI (6 * n + 1)) (nI_add _ _) ?_
  refine z_aload_n hZ (pc := 33) dX6_tell_33 rfl ?_
  refine z_iconst hZ (pc := 34) (v := 0) dX6_tell_34 (by decide) ?_
  refine cS_i hZ (pc := 35) dX6_tell_35 lk_X6_47 mn_X10_at ms_X10_at (c_X10_atn (j := 0) (n := 0) (by decide) (by decide)) rfl rfl (Nat.le_of_ble_eq_true rfl) (by decide) (by decide) (Nat.zero_le _) (Nat.zero_le _) ?_
  refine cS_v hZ (pc := 38) dX6_tell_38 lk_X6_51 mn_X10_put ms_X10_put (c_X10_putn (j := 5) (n := 6 * n + 1) (by decide) (by show 6 * n + 1 < 1200; omega)) rfl rfl (Nat.le_of_ble_eq_true rfl) (by decide) (by decide) (Nat.zero_le _) (Nat.zero_le _) ?_
  refine z_aload_n hZ (pc := 41) dX6_tell_41 rfl ?_
  refine gC_3_3 hZ (pc := 42) fl_X6_21 dX6_tell_42 ?_
  refine z_iload hZ (pc := 45) dX6_tell_45 rfl ?_
  refine z_iconst hZ (pc := 47) (v := 2) dX6_tell_47 (by decide) ?_
  refine z_iadd hZ (pc := 48) dX6_tell_48 ?_
  refine z_top (y := nI (6 * n + 2)) (nI_add _ _) ?_
  refine z_iload_n hZ (pc := 49) dX6_tell_49 rfl ?_
  refine cS_v hZ (pc := 50) dX6_tell_50 lk_X6_51 mn_X10_put ms_X10_put (c_X10_putn (j := 5) (n := 6 * n + 2) (by decide) (by show 6 * n + 2 < 1200; omega)) rfl rfl (Nat.le_of_ble_eq_true rfl) (by decide) (by decide) (Nat.zero_le _) (Nat.zero_le _) ?_
  refine z_aload_n hZ (pc := 53) dX6_tell_53 rfl ?_
  refine gC_3_3 hZ (pc := 54) fl_X6_21 dX6_tell_54 ?_
  refine z_iload hZ (pc := 57) dX6_tell_57 rfl ?_
  refine z_iconst hZ (pc := 59) (v := 3) dX6_tell_59 (by decide) ?_
  refine z_iadd hZ (pc := 60) dX6_tell_60 ?_
  refine z_top (y := nI (6 * n + 3)) (nI_add _ _) ?_
  refine z_aload_n hZ (pc := 61) dX6_tell_61 rfl ?_
  refine z_iconst hZ (pc := 62) (v := 2) dX6_tell_62 (by decide) ?_
  refine cS_i hZ (pc := 63) dX6_tell_63 lk_X6_47 mn_X10_at ms_X10_at (c_X10_atn (j := 0) (n := 2) (by decide) (by decide)) rfl rfl (Nat.le_of_ble_eq_true rfl) (by decide) (by decide) (Nat.zero_le _) (Nat.zero_le _) ?_
  refine cS_v hZ (pc := 66) dX6_tell_66 lk_X6_51 mn_X10_put ms_X10_put (c_X10_putn (j := 5) (n := 6 * n + 3) (by decide) (by show 6 * n + 3 < 1200; omega)) rfl rfl (Nat.le_of_ble_eq_true rfl) (by decide) (by decide) (Nat.zero_le _) (Nat.zero_le _) ?_
  refine z_aload_n hZ (pc := 69) dX6_tell_69 rfl ?_
  refine gC_3_3 hZ (pc := 70) fl_X6_21 dX6_tell_70 ?_
  refine z_iload hZ (pc := 73) dX6_tell_73 rfl ?_
  refine z_iconst hZ (pc := 75) (v := 4) dX6_tell_75 (by decide) ?_
  refine z_iadd hZ (pc := 76) dX6_tell_76 ?_
  refine z_top (y := nI (6 * n + 4)) (nI_add _ _) ?_
  refine z_aload_n hZ (pc := 77) dX6_tell_77 rfl ?_
  refine z_bipush hZ (pc := 78) (v := 6) dX6_tell_78 (by decide) ?_
  refine cS_i hZ (pc := 80) dX6_tell_80 lk_X6_47 mn_X10_at ms_X10_at (c_X10_atn (j := 0) (n := 6) (by decide) (by decide)) rfl rfl (Nat.le_of_ble_eq_true rfl) (by decide) (by decide) (Nat.zero_le _) (Nat.zero_le _) ?_
  refine cS_v hZ (pc := 83) dX6_tell_83 lk_X6_51 mn_X10_put ms_X10_put (c_X10_putn (j := 5) (n := 6 * n + 4) (by decide) (by show 6 * n + 4 < 1200; omega)) rfl rfl (Nat.le_of_ble_eq_true rfl) (by decide) (by decide) (Nat.zero_le _) (Nat.zero_le _) ?_
  refine z_aload_n hZ (pc := 86) dX6_tell_86 rfl ?_
  refine gC_3_3 hZ (pc := 87) fl_X6_21 dX6_tell_87 ?_
  refine z_iload hZ (pc := 90) dX6_tell_90 rfl ?_
  refine z_iconst hZ (pc := 92) (v := 5) dX6_tell_92 (by decide) ?_
  refine z_iadd hZ (pc := 93) dX6_tell_93 ?_
  refine z_top (y := nI (6 * n + 5)) (nI_add _ _) ?_
  refine z_iload_n hZ (pc := 94) dX6_tell_94 rfl ?_
  refine z_if_eq hZ (pc := 95) (tgt := 102) dX6_tell_95 rfl (fun c95 => ?_) (fun c95 => ?_)
  · skip
    refine z_iconst hZ (pc := 102) (v := 0) dX6_tell_102 (by decide) ?_
    refine cS_v hZ (pc := 103) dX6_tell_103 lk_X6_51 mn_X10_put ms_X10_put (c_X10_putn (j := 5) (n := 6 * n + 5) (by decide) (by show 6 * n + 5 < 1200; omega)) rfl rfl (Nat.le_of_ble_eq_true rfl) (by decide) (by decide) (Nat.zero_le _) (Nat.zero_le _) ?_
    refine z_aload_n hZ (pc := 106) dX6_tell_106 rfl ?_
    refine z_dup hZ (pc := 107) dX6_tell_107 rfl ?_
    refine gC_3_0 hZ (pc := 108) fl_X6_9 dX6_tell_108 ?_
    refine z_iconst hZ (pc := 111) (v := 1) dX6_tell_111 (by decide) ?_
    refine z_iadd hZ (pc := 112) dX6_tell_112 ?_
    refine pC_3_0 hZ (pc := 113) fl_X6_9 dX6_tell_113 ?_
    refine zr_v hZ (pc := 116) dX6_tell_116 ?_
    exact ⟨by rw [hn, nI_1], by simp only [up_twice, up_at, bI_eq.mp c95]; rfl, rfl⟩
  · skip
    refine z_iconst hZ (pc := 98) (v := 1) dX6_tell_98 (by decide) ?_
    refine z_goto hZ (pc := 99) (tgt := 103) dX6_tell_99 rfl ?_
    refine cS_v hZ (pc := 103) dX6_tell_103 lk_X6_51 mn_X10_put ms_X10_put (c_X10_putn (j := 5) (n := 6 * n + 5) (by decide) (by show 6 * n + 5 < 1200; omega)) rfl rfl (Nat.le_of_ble_eq_true rfl) (by decide) (by decide) (Nat.zero_le _) (Nat.zero_le _) ?_
    refine z_aload_n hZ (pc := 106) dX6_tell_106 rfl ?_
    refine z_dup hZ (pc := 107) dX6_tell_107 rfl ?_
    refine gC_3_0 hZ (pc := 108) fl_X6_9 dX6_tell_108 ?_
    refine z_iconst hZ (pc := 111) (v := 1) dX6_tell_111 (by decide) ?_
    refine z_iadd hZ (pc := 112) dX6_tell_112 ?_
    refine pC_3_0 hZ (pc := 113) fl_X6_9 dX6_tell_113 ?_
    refine zr_v hZ (pc := 116) dX6_tell_116 ?_
    have hb : b = true := by
      cases b
      · exact absurd rfl c95
      · rfl
    exact ⟨by rw [hn, nI_1], by simp only [up_twice, up_at, hb]; rfl, rfl⟩
/-- at how many of the hours from a on, m of them, a house has a name -/
def hoursN (nameAt : Nat → Int32) (p : Int32) (a : Nat) (m : Nat) : Nat := fb_ct (fun i => decide (nameAt (a + i) = p)) m
theorem hoursN_add (f : Nat → Int32) (p : Int32) (a m k : Nat) : hoursN f p a (m + k) = hoursN f p a m + hoursN f p (a + m) k := by
  unfold hoursN
  rw [fb_ct_split]
  congr 1
  exact fb_ct_cong (fun i _ => by rw [Nat.add_assoc])
theorem hoursN_yes {f : Nat → Int32} {p : Int32} {a m : Nat} (h : ∀ i, i < m → f (a + i) = p) : hoursN f p a m = m := fb_ct_all.mpr (fun i hi => by simp [h i hi])
theorem hoursN_no {f : Nat → Int32} {p : Int32} {a m : Nat} (h : ∀ i, i < m → f (a + i) ≠ p) : hoursN f p a m = 0 := fb_ct_zero.mpr (fun i hi => by simp [h i hi])
/-- houses wept out of above an hour, as bits -/
def weptN (co fr wh : Nat → Int32) (hr : Int32) (n : Nat) (h : Nat) : Bool := decide (∃ t, t < n ∧ hr < wh t ∧ co t = 1 ∧ fr t = nI h)
def weptB (co fr wh : Nat → Int32) (hr : Int32) : Nat → Nat
  | 0 => 0
  | t + 1 => weptB co fr wh hr t ||| (if hr < wh t ∧ co t = 1 then 2 ^ (fr t).toNatClampNeg else 0)
theorem c_X6_weptBehind {l : Launch} {D : va_G} {cA : Nat → ClassId} {o a : Nat → Nat} {v : ZV} {g : ZG} {n : Nat} {hr : Int32} (hn : v 9 = nI n) (h2 : n ≤ 200) (hfr : ∀ t, t < n → ∃ k, k < 10 ∧ T5 g 1 t = nI k) : MG l D cA (WC o a cA) yX6_weptBehind cX6_weptBehind 4 (some .int) 2 [(.ref (o 3)), .int hr] v g (PF v g (some (.int (nI (weptB (T5 g 5) (T5 g 1) (T5 g 2) hr n))))) := by
  refine MG.of (by decide) rfl (Nat.le_of_ble_eq_true rfl) (by simp [Value.category]) (fun Z hZ => ?_)
  refine z_iconst hZ (pc := 0) (v := 0) dX6_weptBehind_0 (by decide) ?_
  refine q_istore_n_4_2 hZ (pc := 1) dX6_weptBehind_1 rfl ?_
  refine z_iconst hZ (pc := 2) (v := 0) dX6_weptBehind_2 (by decide) ?_
  refine q_istore_n_4_3 hZ (pc := 3) dX6_weptBehind_3 rfl ?_
  have lp4 : ∀ f i : Nat, i ≤ n → n - i < f → Z 0 0 (WC o a cA v g) [some (.ref (o 3)), some (.int hr), some (.int (nI (weptB (T5 g 5) (T5 g 1) (T5 g 2) hr i))), some (.int (nI i))] [] 4 := by
    intro f
    induction f with
    | zero => intro i _ hf; exact absurd hf (Nat.not_lt_zero _)
    | succ f ih4 =>
      intro i hi4 hf4
      refine z_iload_n hZ (pc := 4) dX6_weptBehind_4 rfl ?_
      refine z_aload_n hZ (pc := 5) dX6_weptBehind_5 rfl ?_
      refine gC_3_0 hZ (pc := 6) fl_X6_9 dX6_weptBehind_6 ?_
      refine z_icmp_ge hZ (pc := 9) (tgt := 49) dX6_weptBehind_9 rfl (fun c9 => ?_) (fun c9 => ?_)
      · skip
        have e4 : n = i := (lp_ge hn (by omega) hi4 c9).symm
        subst e4
        refine z_iload_n hZ (pc := 49) dX6_weptBehind_49 rfl ?_
        refine zr_i hZ (pc := 50) dX6_weptBehind_50 FitR.int ?_
        exact ⟨rfl, rfl, rfl⟩
      · skip
        have hl4 : i < n := lp_lt hn (by omega) hi4 c9
        refine z_aload_n hZ (pc := 12) dX6_weptBehind_12 rfl ?_
        refine z_iload_n hZ (pc := 13) dX6_weptBehind_13 rfl ?_
        refine z_iconst hZ (pc := 14) (v := 2) dX6_weptBehind_14 (by decide) ?_
        refine cV_i hZ (pc := 15) dX6_weptBehind_15 lk_X6_55 mn_X6_tearsNumber mv_X6_tearsNumber (c_X6_tn (i := i) (j := 2) (by omega) (by decide)) rc_3 rfl rfl (Nat.le_of_ble_eq_true rfl) (by decide) (by decide) (Nat.zero_le _) (Nat.zero_le _) ?_
        refine z_iload_n hZ (pc := 18) dX6_weptBehind_18 rfl ?_
        refine z_icmp_le hZ (pc := 19) (tgt := 43) dX6_weptBehind_19 rfl (fun c19 => ?_) (fun c19 => ?_)
        · skip
          refine q_iinc_4_3 hZ (pc := 43) dX6_weptBehind_43 rfl ?_
          refine z_goto hZ (pc := 46) (tgt := 4) dX6_weptBehind_46 rfl ?_
          exact z_back hZ (ih4 (i + 1) hl4 (by omega)) (rfl) ⟨rfl, rfl, zi (by rw [weptB, if_neg (fun q => Int32.not_lt.mpr c19 q.1), Nat.or_zero]), zi (nI_inc i), trivial⟩
        · skip
          refine z_aload_n hZ (pc := 22) dX6_weptBehind_22 rfl ?_
          refine z_iload_n hZ (pc := 23) dX6_weptBehind_23 rfl ?_
          refine z_iconst hZ (pc := 24) (v := 5) dX6_weptBehind_24 (by decide) ?_
          refine cV_i hZ (pc := 25) dX6_weptBehind_25 lk_X6_55 mn_X6_tearsNumber mv_X6_tearsNumber (c_X6_tn (i := i) (j := 5) (by omega) (by decide)) rc_3 rfl rfl (Nat.le_of_ble_eq_true rfl) (by decide) (by decide) (Nat.zero_le _) (Nat.zero_le _) ?_
          refine z_iconst hZ (pc := 28) (v := 1) dX6_weptBehind_28 (by decide) ?_
          refine z_icmp_ne hZ (pc := 29) (tgt := 43) dX6_weptBehind_29 rfl (fun c29 => ?_) (fun c29 => ?_)
          · skip
            refine q_iinc_4_3 hZ (pc := 43) dX6_weptBehind_43 rfl ?_
            refine z_goto hZ (pc := 46) (tgt := 4) dX6_weptBehind_46 rfl ?_
            exact z_back hZ (ih4 (i + 1) hl4 (by omega)) (rfl) ⟨rfl, rfl, zi (by rw [weptB, if_neg (fun q => c29 q.2), Nat.or_zero]), zi (nI_inc i), trivial⟩
          · skip
            refine z_iload_n hZ (pc := 32) dX6_weptBehind_32 rfl ?_
            refine z_iconst hZ (pc := 33) (v := 1) dX6_weptBehind_33 (by decide) ?_
            refine z_aload_n hZ (pc := 34) dX6_weptBehind_34 rfl ?_
            refine z_iload_n hZ (pc := 35) dX6_weptBehind_35 rfl ?_
            refine z_iconst hZ (pc := 36) (v := 1) dX6_weptBehind_36 (by decide) ?_
            refine cV_i hZ (pc := 37) dX6_weptBehind_37 lk_X6_55 mn_X6_tearsNumber mv_X6_tearsNumber (c_X6_tn (i := i) (j := 1) (by omega) (by decide)) rc_3 rfl rfl (Nat.le_of_ble_eq_true rfl) (by decide) (by decide) (Nat.zero_le _) (Nat.zero_le _) ?_
            obtain ⟨k, hk, ek⟩ := hfr i hl4
            refine z_st ?_ (by rw [ek])
            refine z_ishl hZ (pc := 40) dX6_weptBehind_40 ?_
            refine z_ior hZ (pc := 41) dX6_weptBehind_41 ?_
            refine q_istore_n_4_2 hZ (pc := 42) dX6_weptBehind_42 rfl ?_
            refine q_iinc_4_3 hZ (pc := 43) dX6_weptBehind_43 rfl ?_
            refine z_goto hZ (pc := 46) (tgt := 4) dX6_weptBehind_46 rfl ?_
            exact z_back hZ (ih4 (i + 1) hl4 (by omega)) (rfl) ⟨rfl, rfl, zi (by rw [weptB, if_pos ⟨Int32.not_le.mp c19, c29⟩, ek, nI_clamp (by omega), sh_one k (by omega), bit_or]), zi (nI_inc i), trivial⟩
  exact z_back hZ (lp4 (n - 0 + 1) 0 (Nat.zero_le _) (by omega)) (rfl) ⟨rfl, rfl, rfl, rfl, trivial⟩
