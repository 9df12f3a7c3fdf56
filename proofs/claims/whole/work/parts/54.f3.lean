theorem c_X6_startAnew {l : Launch} {D : va_G} {cA : Nat → ClassId} {o a : Nat → Nat} {v : ZV} {g : ZG}   : MG l D cA (WC o a cA) yX6_startAnew cX6_startAnew 2 none 3 [(.ref (o 3)), (.ref (o 5))] v g (PF (va_up (va_up (va_up v 9 0) 10 0) 11 0) (va_up g 9 (cpyf 16 (g 17) (g 9))) (none)) := by
  refine MG.of (by decide) rfl (Nat.le_of_ble_eq_true rfl) (by simp [Value.category]) (fun Z hZ => ?_)
  refine z_aload_n hZ (pc := 0) dX6_startAnew_0 rfl ?_
  refine z_iconst hZ (pc := 1) (v := 0) dX6_startAnew_1 (by decide) ?_
  refine pC_3_0 hZ (pc := 2) fl_X6_9 dX6_startAnew_2 ?_
  refine z_aload_n hZ (pc := 5) dX6_startAnew_5 rfl ?_
  refine z_iconst hZ (pc := 6) (v := 0) dX6_startAnew_6 (by decide) ?_
  refine pC_3_1 hZ (pc := 7) fl_X6_15 dX6_startAnew_7 ?_
  refine z_aload_n hZ (pc := 10) dX6_startAnew_10 rfl ?_
  refine z_iconst hZ (pc := 11) (v := 0) dX6_startAnew_11 (by decide) ?_
  refine pC_3_2 hZ (pc := 12) fl_X6_18 dX6_startAnew_12 ?_
  refine z_aload_n hZ (pc := 15) dX6_startAnew_15 rfl ?_
  refine gC_5_5 hZ (pc := 16) fl_X6_40 dX6_startAnew_16 ?_
  refine z_aload_n hZ (pc := 19) dX6_startAnew_19 rfl ?_
  refine gC_3_7 hZ (pc := 20) fl_X6_34 dX6_startAnew_20 ?_
  refine cS_v hZ (pc := 23) dX6_startAnew_23 lk_X6_43 mn_X10_copyRow ms_X10_copyRow (c_X10_copyRow (i := 17) (j := 9) (by decide) (by decide) (by decide)) rfl rfl (Nat.le_of_ble_eq_true rfl) (by decide) (by decide) (Nat.zero_le _) (Nat.zero_le _) ?_
  refine zr_v hZ (pc := 26) dX6_startAnew_26 ?_
  exact ⟨rfl, rfl, rfl⟩
theorem c_X6_copyFromA {l : Launch} {D : va_G} {cA : Nat → ClassId} {o a : Nat → Nat} {v : ZV} {g : ZG}   : MG l D cA (WC o a cA) yX6_copyFrom cX6_copyFrom 2 none 3 [(.ref (o 4)), (.ref (o 3))] v g (PF (va_up (va_up (va_up v 12 (v 9)) 13 (v 10)) 14 (v 11)) (va_up (va_up (va_up (va_up (va_up (va_up g 11 (cpyf (lenC 5) (g 5) (g 11))) 12 (cpyf (lenC 6) (g 6) (g 12))) 13 (cpyf (lenC 7) (g 7) (g 13))) 14 (cpyf (lenC 8) (g 8) (g 14))) 15 (cpyf (lenC 9) (g 9) (g 15))) 16 (cpyf (lenC 10) (g 10) (g 16))) (none)) := by
  refine MG.of (by decide) rfl (Nat.le_of_ble_eq_true rfl) (by simp [Value.category]) (fun Z hZ => ?_)
  refine z_aload_n hZ (pc := 0) dX6_copyFrom_0 rfl ?_
  refine z_aload_n hZ (pc := 1) dX6_copyFrom_1 rfl ?_
  refine gC_3_0 hZ (pc := 2) fl_X6_9 dX6_copyFrom_2 ?_
  refine pC_4_0 hZ (pc := 5) fl_X6_9 dX6_copyFrom_5 ?_
  refine z_aload_n hZ (pc := 8) dX6_copyFrom_8 rfl ?_
  refine z_aload_n hZ (pc := 9) dX6_copyFrom_9 rfl ?_
  refine gC_3_1 hZ (pc := 10) fl_X6_15 dX6_copyFrom_10 ?_
  refine pC_4_1 hZ (pc := 13) fl_X6_15 dX6_copyFrom_13 ?_
  refine z_aload_n hZ (pc := 16) dX6_copyFrom_16 rfl ?_
  refine z_aload_n hZ (pc := 17) dX6_copyFrom_17 rfl ?_
  refine gC_3_2 hZ (pc := 18) fl_X6_18 dX6_copyFrom_18 ?_
  refine pC_4_2 hZ (pc := 21) fl_X6_18 dX6_copyFrom_21 ?_
  refine z_aload_n hZ (pc := 24) dX6_copyFrom_24 rfl ?_
  refine gC_3_3 hZ (pc := 25) fl_X6_21 dX6_copyFrom_25 ?_
  refine z_aload_n hZ (pc := 28) dX6_copyFrom_28 rfl ?_
  refine gC_4_3 hZ (pc := 29) fl_X6_21 dX6_copyFrom_29 ?_
  refine cS_v hZ (pc := 32) dX6_copyFrom_32 lk_X6_43 mn_X10_copyRow ms_X10_copyRow (c_X10_copyRow (i := 5) (j := 11) (by decide) (by decide) (by decide)) rfl rfl (Nat.le_of_ble_eq_true rfl) (by decide) (by decide) (Nat.zero_le _) (Nat.zero_le _) ?_
  refine z_aload_n hZ (pc := 35) dX6_copyFrom_35 rfl ?_
  refine gC_3_4 hZ (pc := 36) fl_X6_25 dX6_copyFrom_36 ?_
  refine z_aload_n hZ (pc := 39) dX6_copyFrom_39 rfl ?_
  refine gC_4_4 hZ (pc := 40) fl_X6_25 dX6_copyFrom_40 ?_
  refine cS_v hZ (pc := 43) dX6_copyFrom_43 lk_X6_43 mn_X10_copyRow ms_X10_copyRow (c_X10_copyRow (i := 6) (j := 12) (by decide) (by decide) (by decide)) rfl rfl (Nat.le_of_ble_eq_true rfl) (by decide) (by decide) (Nat.zero_le _) (Nat.zero_le _) ?_
  refine z_aload_n hZ (pc := 46) dX6_copyFrom_46 rfl ?_
  refine gC_3_5 hZ (pc := 47) fl_X6_28 dX6_copyFrom_47 ?_
  refine z_aload_n hZ (pc := 50) dX6_copyFrom_50 rfl ?_
  refine gC_4_5 hZ (pc := 51) fl_X6_28 dX6_copyFrom_51 ?_
  refine cS_v hZ (pc := 54) dX6_copyFrom_54 lk_X6_43 mn_X10_copyRow ms_X10_copyRow (c_X10_copyRow (i := 7) (j := 13) (by decide) (by decide) (by decide)) rfl rfl (Nat.le_of_ble_eq_true rfl) (by decide) (by decide) (Nat.zero_le _) (Nat.zero_le _) ?_
  refine z_aload_n hZ (pc := 57) dX6_copyFrom_57 rfl ?_
  refine gC_3_6 hZ (pc := 58) fl_X6_31 dX6_copyFrom_58 ?_
  refine z_aload_n hZ (pc := 61) dX6_copyFrom_61 rfl ?_
  refine gC_4_6 hZ (pc := 62) fl_X6_31 dX6_copyFrom_62 ?_
  refine cS_v hZ (pc := 65) dX6_copyFrom_65 lk_X6_43 mn_X10_copyRow ms_X10_copyRow (c_X10_copyRow (i := 8) (j := 14) (by decide) (by decide) (by decide)) rfl rfl (Nat.le_of_ble_eq_true rfl) (by decide) (by decide) (Nat.zero_le _) (Nat.zero_le _) ?_
  refine z_aload_n hZ (pc := 68) dX6_copyFrom_68 rfl ?_
  refine gC_3_7 hZ (pc := 69) fl_X6_34 dX6_copyFrom_69 ?_
  refine z_aload_n hZ (pc := 72) dX6_copyFrom_72 rfl ?_
  refine gC_4_7 hZ (pc := 73) fl_X6_34 dX6_copyFrom_73 ?_
  refine cS_v hZ (pc := 76) dX6_copyFrom_76 lk_X6_43 mn_X10_copyRow ms_X10_copyRow (c_X10_copyRow (i := 9) (j := 15) (by decide) (by decide) (by decide)) rfl rfl (Nat.le_of_ble_eq_true rfl) (by decide) (by decide) (Nat.zero_le _) (Nat.zero_le _) ?_
  refine z_aload_n hZ (pc := 79) dX6_copyFrom_79 rfl ?_
  refine gC_3_8 hZ (pc := 80) fl_X6_37 dX6_copyFrom_80 ?_
  refine z_aload_n hZ (pc := 83) dX6_copyFrom_83 rfl ?_
  refine gC_4_8 hZ (pc := 84) fl_X6_37 dX6_copyFrom_84 ?_
  refine cS_v hZ (pc := 87) dX6_copyFrom_87 lk_X6_43 mn_X10_copyRow ms_X10_copyRow (c_X10_copyRow (i := 10) (j := 16) (by decide) (by decide) (by decide)) rfl rfl (Nat.le_of_ble_eq_true rfl) (by decide) (by decide) (Nat.zero_le _) (Nat.zero_le _) ?_
  refine zr_v hZ (pc := 90) dX6_copyFrom_90 ?_
  exact ⟨rfl, rfl, rfl⟩
theorem c_X6_copyFromB {l : Launch} {D : va_G} {cA : Nat → ClassId} {o a : Nat → Nat} {v : ZV} {g : ZG}   : MG l D cA (WC o a cA) yX6_copyFrom cX6_copyFrom 2 none 3 [(.ref (o 3)), (.ref (o 4))] v g (PF (va_up (va_up (va_up v 9 (v 12)) 10 (v 13)) 11 (v 14)) (va_up (va_up (va_up (va_up (va_up (va_up g 5 (cpyf (lenC 11) (g 11) (g 5))) 6 (cpyf (lenC 12) (g 12) (g 6))) 7 (cpyf (lenC 13) (g 13) (g 7))) 8 (cpyf (lenC 14) (g 14) (g 8))) 9 (cpyf (lenC 15) (g 15) (g 9))) 10 (cpyf (lenC 16) (g 16) (g 10))) (none)) := by
  refine MG.of (by decide) rfl (Nat.le_of_ble_eq_true rfl) (by simp [Value.category]) (fun Z hZ => ?_)
  refine z_aload_n hZ (pc := 0) dX6_copyFrom_0 rfl ?_
  refine z_aload_n hZ (pc := 1) dX6_copyFrom_1 rfl ?_
  refine gC_4_0 hZ (pc := 2) fl_X6_9 dX6_copyFrom_2 ?_
  refine pC_3_0 hZ (pc := 5) fl_X6_9 dX6_copyFrom_5 ?_
  refine z_aload_n hZ (pc := 8) dX6_copyFrom_8 rfl ?_
  refine z_aload_n hZ (pc := 9) dX6_copyFrom_9 rfl ?_
  refine gC_4_1 hZ (pc := 10) fl_X6_15 dX6_copyFrom_10 ?_
  refine pC_3_1 hZ (pc := 13) fl_X6_15 dX6_copyFrom_13 ?_
  refine z_aload_n hZ (pc := 16) dX6_copyFrom_16 rfl ?_
  refine z_aload_n hZ (pc := 17) dX6_copyFrom_17 rfl ?_
  refine gC_4_2 hZ (pc := 18) fl_X6_18 dX6_copyFrom_18 ?_
  refine pC_3_2 hZ (pc := 21) fl_X6_18 dX6_copyFrom_21 ?_
  refine z_aload_n hZ (pc := 24) dX6_copyFrom_24 rfl ?_
  refine gC_4_3 hZ (pc := 25) fl_X6_21 dX6_copyFrom_25 ?_
  refine z_aload_n hZ (pc := 28) dX6_copyFrom_28 rfl ?_
  refine gC_3_3 hZ (pc := 29) fl_X6_21 dX6_copyFrom_29 ?_
  refine cS_v hZ (pc := 32) dX6_copyFrom_32 lk_X6_43 mn_X10_copyRow ms_X10_copyRow (c_X10_copyRow (i := 11) (j := 5) (by decide) (by decide) (by decide)) rfl rfl (Nat.le_of_ble_eq_true rfl) (by decide) (by decide) (Nat.zero_le _) (Nat.zero_le _) ?_
  refine z_aload_n hZ (pc := 35) dX6_copyFrom_35 rfl ?_
  refine gC_4_4 hZ (pc := 36) fl_X6_25 dX6_copyFrom_36 ?_
  refine z_aload_n hZ (pc := 39) dX6_copyFrom_39 rfl ?_
  refine gC_3_4 hZ (pc := 40) fl_X6_25 dX6_copyFrom_40 ?_
  refine cS_v hZ (pc := 43) dX6_copyFrom_43 lk_X6_43 mn_X10_copyRow ms_X10_copyRow (c_X10_copyRow (i := 12) (j := 6) (by decide) (by decide) (by decide)) rfl rfl (Nat.le_of_ble_eq_true rfl) (by decide) (by decide) (Nat.zero_le _) (Nat.zero_le _) ?_
  refine z_aload_n hZ (pc := 46) dX6_copyFrom_46 rfl ?_
  refine gC_4_5 hZ (pc := 47) fl_X6_28 dX6_copyFrom_47 ?_
  refine z_aload_n hZ (pc := 50) dX6_copyFrom_50 rfl ?_
  refine gC_3_5 hZ (pc := 51) fl_X6_28 dX6_copyFrom_51 ?_
  refine cS_v hZ (pc := 54) dX6_copyFrom_54 lk_X6_43 mn_X10_copyRow ms_X10_copyRow (c_X10_copyRow (i := 13) (j := 7) (by decide) (by decide) (by decide)) rfl rfl (Nat.le_of_ble_eq_true rfl) (by decide) (by decide) (Nat.zero_le _) (Nat.zero_le _) ?_
  refine z_aload_n hZ (pc := 57) dX6_copyFrom_57 rfl ?_
  refine gC_4_6 hZ (pc := 58) fl_X6_31 dX6_copyFrom_58 ?_
  refine z_aload_n hZ (pc := 61) dX6_copyFrom_61 rfl ?_
  refine gC_3_6 hZ (pc := 62) fl_X6_31 dX6_copyFrom_62 ?_
  refine cS_v hZ (pc := 65) dX6_copyFrom_65 lk_X6_43 mn_X10_copyRow ms_X10_copyRow (c_X10_copyRow (i := 14) (j := 8) (by decide) (by decide) (by decide)) rfl rfl (Nat.le_of_ble_eq_true rfl) (by decide) (by decide) (Nat.zero_le _) (Nat.zero_le _) ?_
  refine z_aload_n hZ (pc := 68) dX6_copyFrom_68 rfl ?_
  refine gC_4_7 hZ (pc := 69) fl_X6_34 dX6_copyFrom_69 ?_
  refine z_aload_n hZ (pc := 72) dX6_copyFrom_72 rfl ?_
  refine gC_3_7 hZ (pc := 73) fl_X6_34 dX6_copyFrom_73 ?_
  refine cS_v hZ (pc := 76) dX6_copyFrom_76 lk_X6_43 mn_X10_copyRow ms_X10_copyRow (c_X10_copyRow (i := 15) (j := 9) (by decide) (by decide) (by decide)) rfl rfl (Nat.le_of_ble_eq_true rfl) (by decide) (by decide) (Nat.zero_le _) (Nat.zero_le _) ?_
  refine z_aload_n hZ (pc := 79) dX6_copyFrom_79 rfl ?_
  refine gC_4_8 hZ (pc := 80) fl_X6_37 dX6_copyFrom_80 ?_
  refine z_aload_n hZ (pc := 83) dX6_copyFrom_83 rfl ?_
  refine gC_3_8 hZ (pc := 84) fl_X6_37 dX6_copyFrom_84 ?_
  refine cS_v hZ (pc := 87) dX6_copyFrom_87 lk_X6_43 mn_X10_copyRow ms_X10_copyRow (c_X10_copyRow (i := 16) (j := 10) (by decide) (by decide) (by decide)) rfl rfl (Nat.le_of_ble_eq_true rfl) (by decide) (by decide) (Nat.zero_le _) (Nat.zero_le _) ?_
  refine zr_v hZ (pc := 90) dX6_copyFrom_90 ?_
  exact ⟨rfl, rfl, rfl⟩
theorem c_X10_image {l : Launch} {D : va_G} {cA : Nat → ClassId} {o a : Nat → Nat} {v : ZV} {g : ZG}   : MG l D cA (WC o a cA) yX10_image cX10_image 1 none 4 [(.ref (o 0))] v g (PF (va_up (va_up (va_up (va_up v 12 (v 9)) 13 (v 10)) 14 (v 11)) 1 1) (va_up (va_up (va_up (va_up (va_up (va_up g 11 (cpyf (lenC 5) (g 5) (g 11))) 12 (cpyf (lenC 6) (g 6) (g 12))) 13 (cpyf (lenC 7) (g 7) (g 13))) 14 (cpyf (lenC 8) (g 8) (g 14))) 15 (cpyf (lenC 9) (g 9) (g 15))) 16 (cpyf (lenC 10) (g 10) (g 16))) (none)) := by
  refine MG.of (by decide) rfl (Nat.le_of_ble_eq_true rfl) (by simp [Value.category]) (fun Z hZ => ?_)
  refine z_aload_n hZ (pc := 0) dX10_image_0 rfl ?_
  refine gC_0_2 hZ (pc := 1) fl_X10_23 dX10_image_1 ?_
  refine z_aload_n hZ (pc := 4) dX10_image_4 rfl ?_
  refine gC_0_1 hZ (pc := 5) fl_X10_19 dX10_image_5 ?_
  refine cV_v hZ (pc := 8) dX10_image_8 lk_X10_320 mn_X6_copyFrom mv_X6_copyFrom (c_X6_copyFromA) rc_4 rfl rfl (Nat.le_of_ble_eq_true rfl) (by decide) (by decide) (Nat.zero_le _) (Nat.zero_le _) ?_
  refine z_aload_n hZ (pc := 11) dX10_image_11 rfl ?_
  refine z_iconst hZ (pc := 12) (v := 1) dX10_image_12 (by decide) ?_
  refine pC_0_12 hZ (pc := 13) fl_X10_83 dX10_image_13 (by decide) (by decide) ?_
  refine zr_v hZ (pc := 16) dX10_image_16 ?_
  exact ⟨rfl, rfl, rfl⟩
theorem c_X10_restore {l : Launch} {D : va_G} {cA : Nat → ClassId} {o a : Nat → Nat} {v : ZV} {g : ZG}  (hb : v 1 = 0 ∨ v 1 = 1) : MG l D cA (WC o a cA) yX10_restore cX10_restore 1 (some .boolean) 4 [(.ref (o 0))] v g (fun v2 g2 r => r = some (.int (v 1)) ∧ (v 1 = 0 → v2 = v ∧ g2 = g) ∧ (v 1 ≠ 0 → v2 = (va_up (va_up (va_up v 9 (v 12)) 10 (v 13)) 11 (v 14)) ∧ g2 = (va_up (va_up (va_up (va_up (va_up (va_up g 5 (cpyf (lenC 11) (g 11) (g 5))) 6 (cpyf (lenC 12) (g 12) (g 6))) 7 (cpyf (lenC 13) (g 13) (g 7))) 8 (cpyf (lenC 14) (g 14) (g 8))) 9 (cpyf (lenC 15) (g 15) (g 9))) 10 (cpyf (lenC 16) (g 16) (g 10))))) := by
  refine MG.of (by decide) rfl (Nat.le_of_ble_eq_true rfl) (by simp [Value.category]) (fun Z hZ => ?_)
  refine z_aload_n hZ (pc := 0) dX10_restore_0 rfl ?_
  refine gC_0_12 hZ (pc := 1) fl_X10_83 dX10_restore_1 ?_
  refine z_if_eq hZ (pc := 4) (tgt := 18) dX10_restore_4 rfl (fun c4 => ?_) (fun c4 => ?_)
  · skip
    refine z_aload_n hZ (pc := 18) dX10_restore_18 rfl ?_
    refine gC_0_12 hZ (pc := 19) fl_X10_83 dX10_restore_19 ?_
    refine zr_i hZ (pc := 22) dX10_restore_22 (FitR.b01 hb) ?_
    exact ⟨rfl, fun _ => ⟨rfl, rfl⟩, fun q => absurd c4 q⟩
  · skip
    refine z_aload_n hZ (pc := 7) dX10_restore_7 rfl ?_
    refine gC_0_1 hZ (pc := 8) fl_X10_19 dX10_restore_8 ?_
    refine z_aload_n hZ (pc := 11) dX10_restore_11 rfl ?_
    refine gC_0_2 hZ (pc := 12) fl_X10_23 dX10_restore_12 ?_
    refine cV_v hZ (pc := 15) dX10_restore_15 lk_X10_320 mn_X6_copyFrom mv_X6_copyFrom (c_X6_copyFromB) rc_3 rfl rfl (Nat.le_of_ble_eq_true rfl) (by decide) (by decide) (Nat.zero_le _) (Nat.zero_le _) ?_
    refine z_aload_n hZ (pc := 18) dX10_restore_18 rfl ?_
    refine gC_0_12 hZ (pc := 19) fl_X10_83 dX10_restore_19 ?_
    refine zr_i hZ (pc := 22) dX10_restore_22 (FitR.b01 hb) ?_
    exact ⟨rfl, fun q => absurd q c4, fun _ => ⟨rfl, rfl⟩⟩
def cntV (v : ZV) (nw : Int32) : Nat → Int32
  | 0 => v 15
  | 1 => v 16
  | 2 => v 17
  | 3 => v 18
  | 4 => v 9
  | 5 => v 10
  | 6 => v 11
  | 7 => v 7
  | _ => nw
theorem i32_sub_add (x y : Int32) : x - y + y = x := by
  apply Int32.toBitVec_inj.1
  show x.toBitVec - y.toBitVec + y.toBitVec = x.toBitVec
  exact BitVec.sub_add_cancel _ _
theorem cnt_no {w : Int32} (ho : w.toInt < 0 ∨ 8 < w.toInt) (h : inI (w - 9) 4 = false) : inI w 13 = false := by
  cases q : inI w 13
  · rfl
  · obtain ⟨k, hk, rfl⟩ := inI_t q (by omega)
    rw [nI_toInt (by omega)] at ho
    have h9 : 9 ≤ k := by omega
    rw [show (9 : Int32) = nI 9 from rfl, pk_sub h9, inI_nI (by omega)] at h
    have : k - 9 < 4 := by omega
    simp [this] at h
theorem c_X10_count {l : Launch} {D : va_G} {cA : Nat → ClassId} {o a : Nat → Nat} {v : ZV} {g : ZG} {w : Int32} {n : Nat} (hn : v 9 = nI n) (h2 : n ≤ 200) : MF l D cA o a yX10_count cX10_count 2 (some .int) 8 1 6 [(.ref (o 0)), .int w] v g (fun v2 g2 r => v2 = v ∧ g2 = g ∧ ((∃ k, k < 9 ∧ w = nI k ∧ r = some (.int (cntV v (if n = 0 then 0 else T5 g 2 (n - 1)) k))) ∨ (∃ k, k < 4 ∧ w = nI (k + 9) ∧ r = some (.int (g 10 k))))) (fun En => En = sNSE ∧ inI w 13 = false) := by
  refine MF.of (by decide) rfl (Nat.le_of_ble_eq_true rfl) (by simp [Value.category]) (fun Z hX => ?_)
  have hZ := hX.toZR
  refine z_iload_n hZ (pc := 0) dX10_count_0 rfl ?_
  by_cases s1_0 : w = 0
  · subst s1_0
    refine z_swIn hZ (pc := 1) (off := 51) (tgt := 52) dX10_count_1 (by decide) (by decide) (by decide) rfl ?_
    refine z_aload_n hZ (pc := 52) dX10_count_52 rfl ?_
    refine gC_0_10 hZ (pc := 53) fl_X10_75 dX10_count_53 ?_
    refine gC_5_0 hZ (pc := 56) fl_X10_128 dX10_count_56 ?_
    refine zx_i hZ (pc := 59) (by decide) (by decide) dX10_count_59 FitR.int ?_
    exact ⟨rfl, rfl, Or.inl ⟨0, by decide, rfl, rfl⟩⟩
  by_cases s1_1 : w = 1
  · subst s1_1
    refine z_swIn hZ (pc := 1) (off := 59) (tgt := 60) dX10_count_1 (by decide) (by decide) (by decide) rfl ?_
    refine z_aload_n hZ (pc := 60) dX10_count_60 rfl ?_
    refine gC_0_10 hZ (pc := 61) fl_X10_75 dX10_count_61 ?_
    refine gC_5_1 hZ (pc := 64) fl_X10_131 dX10_count_64 ?_
    refine zx_i hZ (pc := 67) (by decide) (by decide) dX10_count_67 FitR.int ?_
    exact ⟨rfl, rfl, Or.inl ⟨1, by decide, rfl, rfl⟩⟩
  by_cases s1_2 : w = 2
  · subst s1_2
    refine z_swIn hZ (pc := 1) (off := 67) (tgt := 68) dX10_count_1 (by decide) (by decide) (by decide) rfl ?_
    refine z_aload_n hZ (pc := 68) dX10_count_68 rfl ?_
    refine gC_0_10 hZ (pc := 69) fl_X10_75 dX10_count_69 ?_
    refine gC_5_2 hZ (pc := 72) fl_X10_134 dX10_count_72 ?_
    refine zx_i hZ (pc := 75) (by decide) (by decide) dX10_count_75 FitR.int ?_
    exact ⟨rfl, rfl, Or.inl ⟨2, by decide, rfl, rfl⟩⟩
  by_cases s1_3 : w = 3
  · subst s1_3
    refine z_swIn hZ (pc := 1) (off := 75) (tgt := 76) dX10_count_1 (by decide) (by decide) (by decide) rfl ?_
    refine z_aload_n hZ (pc := 76) dX10_count_76 rfl ?_
    refine gC_0_10 hZ (pc := 77) fl_X10_75 dX10_count_77 ?_
    refine gC_5_3 hZ (pc := 80) fl_X10_137 dX10_count_80 ?_
    refine zx_i hZ (pc := 83) (by decide) (by decide) dX10_count_83 FitR.int ?_
    exact ⟨rfl, rfl, Or.inl ⟨3, by decide, rfl, rfl⟩⟩
  by_cases s1_4 : w = 4
  · subst s1_4
    refine z_swIn hZ (pc := 1) (off := 83) (tgt := 84) dX10_count_1 (by decide) (by decide) (by decide) rfl ?_
    refine z_aload_n hZ (pc := 84) dX10_count_84 rfl ?_
    refine gC_0_1 hZ (pc := 85) fl_X10_19 dX10_count_85 ?_
    refine gC_3_0 hZ (pc := 88) fl_X10_140 dX10_count_88 ?_
    refine zx_i hZ (pc := 91) (by decide) (by decide) dX10_count_91 FitR.int ?_
    exact ⟨rfl, rfl, Or.inl ⟨4, by decide, rfl, rfl⟩⟩
  by_cases s1_5 : w = 5
  · subst s1_5
    refine z_swIn hZ (pc := 1) (off := 91) (tgt := 92) dX10_count_1 (by decide) (by decide) (by decide) rfl ?_
    refine z_aload_n hZ (pc := 92) dX10_count_92 rfl ?_
    refine gC_0_1 hZ (pc := 93) fl_X10_19 dX10_count_93 ?_
    refine gC_3_1 hZ (pc := 96) fl_X10_143 dX10_count_96 ?_
    refine zx_i hZ (pc := 99) (by decide) (by decide) dX10_count_99 FitR.int ?_
    exact ⟨rfl, rfl, Or.inl ⟨5, by decide, rfl, rfl⟩⟩
  by_cases s1_6 : w = 6
  · subst s1_6
    refine z_swIn hZ (pc := 1) (off := 99) (tgt := 100) dX10_count_1 (by decide) (by decide) (by decide) rfl ?_
    refine z_aload_n hZ (pc := 100) dX10_count_100 rfl ?_
    refine gC_0_1 hZ (pc := 101) fl_X10_19 dX10_count_101 ?_
    refine gC_3_2 hZ (pc := 104) fl_X10_146 dX10_count_104 ?_
    refine zx_i hZ (pc := 107) (by decide) (by decide) dX10_count_107 FitR.int ?_
    exact ⟨rfl, rfl, Or.inl ⟨6, by decide, rfl, rfl⟩⟩
  by_cases s1_7 : w = 7
  · subst s1_7
    refine z_swIn hZ (pc := 1) (off := 107) (tgt := 108) dX10_count_1 (by decide) (by decide) (by decide) rfl ?_
    refine z_aload_n hZ (pc := 108) dX10_count_108 rfl ?_
    refine gC_0_0 hZ (pc := 109) fl_X10_10 dX10_count_109 ?_
    refine gC_1_0 hZ (pc := 112) fl_X10_87 dX10_count_112 ?_
    refine gC_2_1 hZ (pc := 115) fl_X10_91 dX10_count_115 ?_
    refine zx_i hZ (pc := 118) (by decide) (by decide) dX10_count_118 FitR.int ?_
    exact ⟨rfl, rfl, Or.inl ⟨7, by decide, rfl, rfl⟩⟩
  by_cases s1_8 : w = 8
  · subst s1_8
    refine z_swIn hZ (pc := 1) (off := 118) (tgt := 119) dX10_count_1 (by decide) (by decide) (by decide) rfl ?_
    refine z_aload_n hZ (pc := 119) dX10_count_119 rfl ?_
    refine gC_0_1 hZ (pc := 120) fl_X10_19 dX10_count_120 ?_
    refine cV_i hZ (pc := 123) dX10_count_123 lk_X10_149 mn_X6_nowHour mv_X6_nowHour (c_X6_nowHour hn h2) rc_3 rfl rfl (Nat.le_of_ble_eq_true rfl) (by decide) (by decide) (by decide) (by decide) ?_
    refine zx_i hZ (pc := 126) (by decide) (by decide) dX10_count_126 FitR.int ?_
    exact ⟨rfl, rfl, Or.inl ⟨8, by decide, rfl, rfl⟩⟩
  have hout1 : w.toInt < 0 ∨ 8 < w.toInt := by
    have q0 := lv_neT s1_0 (a := 0) (by decide)
    have q1 := lv_neT s1_1 (a := 1) (by decide)
    have q2 := lv_neT s1_2 (a := 2) (by decide)
    have q3 := lv_neT s1_3 (a := 3) (by decide)
    have q4 := lv_neT s1_4 (a := 4) (by decide)
    have q5 := lv_neT s1_5 (a := 5) (by decide)
    have q6 := lv_neT s1_6 (a := 6) (by decide)
    have q7 := lv_neT s1_7 (a := 7) (by decide)
    have q8 := lv_neT s1_8 (a := 8) (by decide)
    omega
  refine z_swOut hZ (pc := 1) (tgt := 127) dX10_count_1 hout1 rfl ?_
  refine z_iload_n hZ (pc := 127) dX10_count_127 rfl ?_
  refine z_bipush hZ (pc := 128) (v := 9) dX10_count_128 (by decide) ?_
  refine z_isub hZ (pc := 130) dX10_count_130 ?_
  refine z_iconst hZ (pc := 131) (v := 4) dX10_count_131 (by decide) ?_
  refine cSX hX (pc := 132) (mc' := 1) (ms' := 6) dX10_count_132 (List.mem_of_getElem? (i := 804) (by decide +kernel)) mn_X10_needWhat ms_X10_needWhat (c_X10_needWhat (n := 4) (by omega)) rfl rfl (Nat.le_of_ble_eq_true rfl) (by decide) (by decide) (by decide) (by decide) (fun En h => ⟨h.1, cnt_no hout1 h.2⟩) (fun v2 g2 r h => ?_)
  obtain ⟨e1, e2, rfl, hi⟩ := h
  subst v2
  subst g2
  obtain ⟨k, hk, ek⟩ := inI_t hi (by omega)
  refine z_aload_n hZ (pc := 135) dX10_count_135 rfl ?_
  refine gC_0_1 hZ (pc := 136) fl_X10_19 dX10_count_136 ?_
  refine gC_3_8 hZ (pc := 139) fl_X10_156 dX10_count_139 ?_
  refine z_iload_n hZ (pc := 142) dX10_count_142 rfl ?_
  refine z_bipush hZ (pc := 143) (v := 9) dX10_count_143 (by decide) ?_
  refine z_isub hZ (pc := 145) dX10_count_145 ?_
  refine z_top ek ?_
  refine cS_i hZ (pc := 146) dX10_count_146 lk_X10_159 mn_X10_at ms_X10_at (c_X10_atn (j := 10) (n := k) (by decide) (by show k < 4; omega)) rfl rfl (Nat.le_of_ble_eq_true rfl) (by decide) (by decide) (by decide) (by decide) ?_
  refine zx_i hZ (pc := 149) (by decide) (by decide) dX10_count_149 FitR.int ?_
  exact ⟨rfl, rfl, Or.inr ⟨k, hk, by rw [← nI_add, ← ek]; exact (i32_sub_add w 9).symm, rfl⟩⟩
def postS (nm hr me ca da : Int32) (w : Int32) : Int32 := if w = 0 then nm else if w = 1 then hr else if w = 2 then me else if w = 3 then ca else if w = 4 then da else if ca = -1 then 0 else if ca = me then 0 else 1
theorem carG_lt {sa : Nat → Nat} (hs : ∀ d, sa d < 1024) : ∀ (m d t : Nat), t < 3 → carH (carG sa m d t) = -1 ∨ ∃ x, x < 10 ∧ carH (carG sa m d t) = nI x
  | 0, _, _, _ => Or.inl rfl
  | m + 1, d, t, ht => by
    rw [carG_s]
    obtain ⟨t', ht'⟩ : ∃ t', t' = (if 1 < popc (sa d) then t + 1 else t) := ⟨_, rfl⟩
    rw [← ht']
    by_cases h : popc (sa d) = 1 ∨ t' = 3
    · rw [if_pos h]
      refine Or.inr ⟨lowb (sa d), ?_, carH_some _ _⟩
      have h0 : sa d ≠ 0 := fun q => by
        rw [q, popc_0] at h
        rw [q, popc_0, if_neg (by omega)] at ht'
        omega
      exact ((lowb_tab _ (hs d)).resolve_left h0).1
    · rw [if_neg h]
      refine carG_lt hs m (d + 1) t' ?_
      have h2 : t' ≤ t + 1 := by rw [ht']; split <;> omega
      omega
theorem carryS_or (wo co fr wh : Nat → Int32) (n : Nat) (p : Int32) (hh : Nat) : carH (carryS wo co fr wh n p 10 hh) = -1 ∨ ∃ x, x < 10 ∧ carH (carryS wo co fr wh n p 10 hh) = nI x := carG_lt (fun d => hsT_lt _ _ _ _ _ _ _ (by decide)) _ _ _ (by omega)
theorem c_X10_post {l : Launch} {D : va_G} {cA : Nat → ClassId} {o a : Nat → Nat} {v : ZV} {g : ZG} {x w : Int32} {n q : Nat} {hh : Nat → Nat} (hn : v 9 = nI n) (h2 : n ≤ 200) (hfr : ∀ t, t < n → ∃ k, k < 10 ∧ T5 g 1 t = nI k) (hso : SortT (T5 g 2) n) (hq : v 10 = nI q) (hq4 : q ≤ 40) (hlh : ∀ k, k < q → g 7 k = nI (hh k) ∧ hh k < 2400) : MF l D cA o a yX10_post cX10_post 3 (some .int) 8 1 6 [(.ref (o 0)), .int x, .int w] v g (fun v2 g2 r => (∀ j, j ≠ 25 → j ≠ 26 → j ≠ 27 → j ≠ 28 → v2 j = v j) ∧ (∀ j, j ≠ 33 → g2 j = g j) ∧ (inI x q && inI w 6) = true ∧ r = some (.int (postS (g 6 x.toNatClampNeg) (g 7 x.toNatClampNeg) (meantS (hsT (T5 g 0) (T5 g 5) (T5 g 1) (T5 g 2) n (g 6 x.toNatClampNeg) (nI (hh x.toNatClampNeg)) 10)) (carH (carryS (T5 g 0) (T5 g 5) (T5 g 1) (T5 g 2) n (g 6 x.toNatClampNeg) 10 (hh x.toNatClampNeg))) (carD (carryS (T5 g 0) (T5 g 5) (T5 g 1) (T5 g 2) n (g 6 x.toNatClampNeg) 10 (hh x.toNatClampNeg))) w))) (fun En => En = sNSE ∧ (inI x q && inI w 6) = false) := by
  refine MF.of (by decide) rfl (Nat.le_of_ble_eq_true rfl) (by simp [Value.category]) (fun Z hX => ?_)
  have hZ := hX.toZR
  refine z_iload_n hZ (pc := 0) dX10_post_0 rfl ?_
  refine z_if_lt hZ (pc := 1) (tgt := 15) dX10_post_1 rfl (fun c1 => ?_) (fun c1 => ?_)
  · skip
    exact z_nse hX (pc := 15) (n := 2) (txm_226) dX10_post_15 dX10_post_18 (Or.inl ⟨rfl, dX10_post_19⟩) dX10_post_21 dX10_post_24 (by decide) (Nat.le_of_ble_eq_true rfl) (by decide) (by decide) ⟨rfl, rfl, by rw [inI_neg c1, Bool.false_and]⟩
  · skip
    refine z_iload_n hZ (pc := 4) dX10_post_4 rfl ?_
    refine z_aload_n hZ (pc := 5) dX10_post_5 rfl ?_
    refine gC_0_1 hZ (pc := 6) fl_X10_19 dX10_post_6 ?_
    refine gC_3_1 hZ (pc := 9) fl_X10_143 dX10_post_9 ?_
    refine z_top hq ?_
    refine z_icmp_lt hZ (pc := 12) (tgt := 25) dX10_post_12 rfl (fun c12 => ?_) (fun c12 => ?_)
    · skip
      have hi : inI x q = true := inI_lt (by omega) c1 c12
      refine z_iload_n hZ (pc := 25) dX10_post_25 rfl ?_
      refine z_bipush hZ (pc := 26) (v := 6) dX10_post_26 (by decide) ?_
      refine cSX hX (pc := 28) (mc' := 1) (ms' := 6) dX10_post_28 (List.mem_of_getElem? (i := 804) (by decide +kernel)) mn_X10_needWhat ms_X10_needWhat (c_X10_needWhat (n := 6) (by omega)) rfl rfl (Nat.le_of_ble_eq_true rfl) (by decide) (by decide) (by decide) (by decide) (fun En h => ⟨h.1, by rw [h.2, Bool.and_false]⟩) (fun v2 g2 r h => ?_)
      obtain ⟨e1, e2, rfl, hi2⟩ := h
      subst v2
      subst g2
      obtain ⟨k, hk, rfl⟩ := inI_t hi (by omega)
      refine z_aload_n hZ (pc := 31) dX10_post_31 rfl ?_
      refine gC_0_4 hZ (pc := 32) fl_X10_36 dX10_post_32 ?_
      refine z_aload_n hZ (pc := 35) dX10_post_35 rfl ?_
      refine gC_0_1 hZ (pc := 36) fl_X10_19 dX10_post_36 ?_
      refine z_iload_n hZ (pc := 39) dX10_post_39 rfl ?_
      refine z_aload_n hZ (pc := 40) dX10_post_40 rfl ?_
      refine gC_0_3 hZ (pc := 41) fl_X10_29 dX10_post_41 ?_
      refine cV hZ (pc := 44) dX10_post_44 lk_X10_228 mn_X9_follow mv_X9_follow (c_X9_follow (k := k) (hh := hh k) hn h2 hfr hso (by omega) (hlh k hk).1 (hlh k hk).2) rc_8 rfl rfl (Nat.le_of_ble_eq_true rfl) (by decide) (by decide) (by decide) (by decide) ?_
      intro v2 g2 r h
      obtain ⟨rfl, hv2, hg2, e26, e27, e28⟩ := h
      refine z_iload_n hZ (pc := 47) dX10_post_47 rfl ?_
      by_cases s48_0 : w = 0
      · subst s48_0
        refine z_swIn hZ (pc := 48) (off := 36) (tgt := 84) dX10_post_48 (by decide) (by decide) (by decide) rfl ?_
        refine z_aload_n hZ (pc := 84) dX10_post_84 rfl ?_
        refine gC_0_1 hZ (pc := 85) fl_X10_19 dX10_post_85 ?_
        refine gC_3_4 hZ (pc := 88) fl_X10_232 dX10_post_88 ?_
        refine z_iload_n hZ (pc := 91) dX10_post_91 rfl ?_
        refine cS_i hZ (pc := 92) dX10_post_92 lk_X10_159 mn_X10_at ms_X10_at (c_X10_atn (j := 6) (n := k) (by decide) (by show k < 40; omega)) rfl rfl (Nat.le_of_ble_eq_true rfl) (by decide) (by decide) (by decide) (by decide) ?_
        refine zx_i hZ (pc := 95) (by decide) (by decide) dX10_post_95 FitR.int ?_
        exact ⟨hv2, hg2, by rw [hi, hi2]; rfl, by rw [nI_clamp (by omega)]; rw [hg2 6 (by decide)]; rfl⟩
      by_cases s48_1 : w = 1
      · subst s48_1
        refine z_swIn hZ (pc := 48) (off := 48) (tgt := 96) dX10_post_48 (by decide) (by decide) (by decide) rfl ?_
        refine z_aload_n hZ (pc := 96) dX10_post_96 rfl ?_
        refine gC_0_1 hZ (pc := 97) fl_X10_19 dX10_post_97 ?_
        refine gC_3_5 hZ (pc := 100) fl_X10_235 dX10_post_100 ?_
        refine z_iload_n hZ (pc := 103) dX10_post_103 rfl ?_
        refine cS_i hZ (pc := 104) dX10_post_104 lk_X10_159 mn_X10_at ms_X10_at (c_X10_atn (j := 7) (n := k) (by decide) (by show k < 40; omega)) rfl rfl (Nat.le_of_ble_eq_true rfl) (by decide) (by decide) (by decide) (by decide) ?_
        refine zx_i hZ (pc := 107) (by decide) (by decide) dX10_post_107 FitR.int ?_
        exact ⟨hv2, hg2, by rw [hi, hi2]; rfl, by rw [nI_clamp (by omega)]; rw [hg2 7 (by decide)]; rfl⟩
      by_cases s48_2 : w = 2
      · subst s48_2
        refine z_swIn hZ (pc := 48) (off := 60) (tgt := 108) dX10_post_48 (by decide) (by decide) (by decide) rfl ?_
        refine z_aload_n hZ (pc := 108) dX10_post_108 rfl ?_
        refine gC_0_4 hZ (pc := 109) fl_X10_36 dX10_post_109 ?_
        refine gC_8_0 hZ (pc := 112) fl_X10_238 dX10_post_112 ?_
        refine zx_i hZ (pc := 115) (by decide) (by decide) dX10_post_115 FitR.int ?_
        exact ⟨hv2, hg2, by rw [hi, hi2]; rfl, by rw [nI_clamp (by omega)]; rw [e26]; rfl⟩
      by_cases s48_3 : w = 3
      · subst s48_3
        refine z_swIn hZ (pc := 48) (off := 68) (tgt := 116) dX10_post_48 (by decide) (by decide) (by decide) rfl ?_
        refine z_aload_n hZ (pc := 116) dX10_post_116 rfl ?_
        refine gC_0_4 hZ (pc := 117) fl_X10_36 dX10_post_117 ?_
        refine gC_8_1 hZ (pc := 120) fl_X10_241 dX10_post_120 ?_
        refine zx_i hZ (pc := 123) (by decide) (by decide) dX10_post_123 FitR.int ?_
        exact ⟨hv2, hg2, by rw [hi, hi2]; rfl, by rw [nI_clamp (by omega)]; rw [e27]; rfl⟩
      by_cases s48_4 : w = 4
      · subst s48_4
        refine z_swIn hZ (pc := 48) (off := 76) (tgt := 124) dX10_post_48 (by decide) (by decide) (by decide) rfl ?_
        refine z_aload_n hZ (pc := 124) dX10_post_124 rfl ?_
        refine gC_0_4 hZ (pc := 125) fl_X10_36 dX10_post_125 ?_
        refine gC_8_2 hZ (pc := 128) fl_X10_244 dX10_post_128 ?_
        refine zx_i hZ (pc := 131) (by decide) (by decide) dX10_post_131 FitR.int ?_
        exact ⟨hv2, hg2, by rw [hi, hi2]; rfl, by rw [nI_clamp (by omega)]; rw [e28]; rfl⟩
      have hout48 : w.toInt < 0 ∨ 4 < w.toInt := by
        have q0 := lv_neT s48_0 (a := 0) (by decide)
        have q1 := lv_neT s48_1 (a := 1) (by decide)
        have q2 := lv_neT s48_2 (a := 2) (by decide)
        have q3 := lv_neT s48_3 (a := 3) (by decide)
        have q4 := lv_neT s48_4 (a := 4) (by decide)
        omega
      refine z_swOut hZ (pc := 48) (tgt := 132) dX10_post_48 hout48 rfl ?_
      refine z_aload_n hZ (pc := 132) dX10_post_132 rfl ?_
      refine gC_0_4 hZ (pc := 133) fl_X10_36 dX10_post_133 ?_
      refine gC_8_1 hZ (pc := 136) fl_X10_241 dX10_post_136 ?_
      refine z_top e27 ?_
      refine z_iconst hZ (pc := 139) (v := (-1)) dX10_post_139 (by decide) ?_
      refine z_icmp_eq hZ (pc := 140) (tgt := 164) dX10_post_140 rfl (fun c140 => ?_) (fun c140 => ?_)
      · skip
        refine z_iconst hZ (pc := 164) (v := 0) dX10_post_164 (by decide) ?_
        refine zx_i hZ (pc := 165) (by decide) (by decide) dX10_post_165 FitR.int ?_
        exact ⟨hv2, hg2, by rw [hi, hi2]; rfl, by rw [nI_clamp (by omega)]; simp only [postS, if_neg s48_0, if_neg s48_1, if_neg s48_2, if_neg s48_3, if_neg s48_4, if_pos c140]⟩
      · skip
        refine z_aload_n hZ (pc := 143) dX10_post_143 rfl ?_
        refine gC_0_4 hZ (pc := 144) fl_X10_36 dX10_post_144 ?_
        refine gC_8_1 hZ (pc := 147) fl_X10_241 dX10_post_147 ?_
        refine z_top e27 ?_
        refine z_aload_n hZ (pc := 150) dX10_post_150 rfl ?_
        refine gC_0_4 hZ (pc := 151) fl_X10_36 dX10_post_151 ?_
        refine gC_8_0 hZ (pc := 154) fl_X10_238 dX10_post_154 ?_
        refine z_top e26 ?_
        refine z_icmp_eq hZ (pc := 157) (tgt := 164) dX10_post_157 rfl (fun c157 => ?_) (fun c157 => ?_)
        · skip
          refine z_iconst hZ (pc := 164) (v := 0) dX10_post_164 (by decide) ?_
          refine zx_i hZ (pc := 165) (by decide) (by decide) dX10_post_165 FitR.int ?_
          exact ⟨hv2, hg2, by rw [hi, hi2]; rfl, by rw [nI_clamp (by omega)]; simp only [postS, if_neg s48_0, if_neg s48_1, if_neg s48_2, if_neg s48_3, if_neg s48_4, if_neg c140, if_pos c157]⟩
        · skip
          refine z_iconst hZ (pc := 160) (v := 1) dX10_post_160 (by decide) ?_
          refine z_goto hZ (pc := 161) (tgt := 165) dX10_post_161 rfl ?_
          refine zx_i hZ (pc := 165) (by decide) (by decide) dX10_post_165 FitR.int ?_
          exact ⟨hv2, hg2, by rw [hi, hi2]; rfl, by rw [nI_clamp (by omega)]; simp only [postS, if_neg s48_0, if_neg s48_1, if_neg s48_2, if_neg s48_3, if_neg s48_4, if_neg c140, if_neg c157]⟩
    · skip
      exact z_nse hX (pc := 15) (n := 2) (txm_226) dX10_post_15 dX10_post_18 (Or.inl ⟨rfl, dX10_post_19⟩) dX10_post_21 dX10_post_24 (by decide) (Nat.le_of_ble_eq_true rfl) (by decide) (by decide) ⟨rfl, rfl, by rw [inI_ge (by omega) c12, Bool.false_and]⟩
theorem c_X10_holds {l : Launch} {D : va_G} {cA : Nat → ClassId} {o a : Nat → Nat} {v : ZV} {g : ZG} {x y : Int32} {n R A H : Nat} {ops : Nat → Nat → Int32} {m : Nat → Nat} (hn : v 9 = nI n) (h2 : n ≤ 200) (hH : v 15 = nI H) (h10 : H ≤ 10) (hfr : ∀ t, t < n → ∃ k, k < 10 ∧ T5 g 1 t = nI k) (hso : SortT (T5 g 2) n) (hwo : ∀ t, t < n → ∃ p, p < 16 ∧ T5 g 0 t = nI p) (hX9 : ExC v g R A ops m) (hA : v 18 = nI A) (hA6 : A ≤ 6) : MF l D cA o a yX10_holds cX10_holds 3 (some .boolean) 8 1 6 [(.ref (o 0)), .int x, .int y] v g (fun v2 g2 r => (∀ j, j ≠ 25 → v2 j = v j) ∧ (∀ j, j ≠ 33 → j ≠ 24 → j ≠ 0 → g2 j = g j) ∧ (inI x A && inI y H) = true ∧ r = some (.int (bI (holdE (valsH (T5 g 0) (T5 g 3) (T5 g 2) (T5 g 4) (g 19) y.toNatClampNeg (cbS (T5 g 5) (T5 g 1) (T5 g 2) (nI y.toNatClampNeg) (if n = 0 then 0 else T5 g 2 (n - 1)) n)) ops m (4 + x.toNatClampNeg))))) (fun En => En = sNSE ∧ (inI x A && inI y H) = false) := by
  refine MF.of (by decide) rfl (Nat.le_of_ble_eq_true rfl) (by simp [Value.category]) (fun Z hX => ?_)
  have hZ := hX.toZR
  refine z_iload_n hZ (pc := 0) dX10_holds_0 rfl ?_
  refine z_if_lt hZ (pc := 1) (tgt := 15) dX10_holds_1 rfl (fun c1 => ?_) (fun c1 => ?_)
  · skip
    exact z_nse hX (pc := 15) (n := 3) (txm_258) dX10_holds_15 dX10_holds_18 (Or.inr ⟨rfl, dX10_holds_19⟩) dX10_holds_22 dX10_holds_25 (by decide) (Nat.le_of_ble_eq_true rfl) (by decide) (by decide) ⟨rfl, rfl, by rw [inI_neg c1, Bool.false_and]⟩
  · skip
    refine z_iload_n hZ (pc := 4) dX10_holds_4 rfl ?_
    refine z_aload_n hZ (pc := 5) dX10_holds_5 rfl ?_
    refine gC_0_10 hZ (pc := 6) fl_X10_75 dX10_holds_6 ?_
    refine gC_5_3 hZ (pc := 9) fl_X10_137 dX10_holds_9 ?_
    refine z_top hA ?_
    refine z_icmp_lt hZ (pc := 12) (tgt := 26) dX10_holds_12 rfl (fun c12 => ?_) (fun c12 => ?_)
    · skip
      have hi : inI x A = true := inI_lt (by omega) c1 c12
      refine z_aload_n hZ (pc := 26) dX10_holds_26 rfl ?_
      refine z_iload_n hZ (pc := 27) dX10_holds_27 rfl ?_
      refine cVX hX (pc := 28) (mc' := 1) (ms' := 6) dX10_holds_28 (List.mem_of_getElem? (i := 843) (by decide +kernel)) mn_X10_needHouse mv_X10_needHouse (c_X10_needHouse hH h10) rc_0 rfl rfl (Nat.le_of_ble_eq_true rfl) (by decide) (by decide) (by decide) (by decide) (fun En h => ⟨h.1, by rw [h.2, Bool.and_false]⟩) (fun v2 g2 r h => ?_)
      obtain ⟨e1, e2, rfl, hi2⟩ := h
      subst v2
      subst g2
      obtain ⟨e, he, rfl⟩ := inI_t hi (by omega)
      obtain ⟨k, hk, rfl⟩ := inI_t hi2 (by omega)
      refine z_aload_n hZ (pc := 31) dX10_holds_31 rfl ?_
      refine gC_0_3 hZ (pc := 32) fl_X10_29 dX10_holds_32 ?_
      refine z_aload_n hZ (pc := 35) dX10_holds_35 rfl ?_
      refine gC_0_1 hZ (pc := 36) fl_X10_19 dX10_holds_36 ?_
      refine z_aload_n hZ (pc := 39) dX10_holds_39 rfl ?_
      refine gC_0_1 hZ (pc := 40) fl_X10_19 dX10_holds_40 ?_
      refine cV_i hZ (pc := 43) dX10_holds_43 lk_X10_149 mn_X6_nowHour mv_X6_nowHour (c_X6_nowHour hn h2) rc_3 rfl rfl (Nat.le_of_ble_eq_true rfl) (by decide) (by decide) (by decide) (by decide) ?_
      refine cV hZ (pc := 46) dX10_holds_46 lk_X10_212 mn_X2_callAt mv_X2_callAt (c_X2_callAt (n := n) (hr := (if n = 0 then 0 else T5 g 2 (n - 1))) hn h2 hfr) rc_7 rfl rfl (Nat.le_of_ble_eq_true rfl) (by decide) (by decide) (by decide) (by decide) ?_
      intro v2 g2 r h
      obtain ⟨rfl, e9, R2, h1, h3, h4, h5, rfl, rfl⟩ := h
      refine z_aload_n hZ (pc := 49) dX10_holds_49 rfl ?_
      refine z_iload_n hZ (pc := 50) dX10_holds_50 rfl ?_
      refine z_iload_n hZ (pc := 51) dX10_holds_51 rfl ?_
      have ecb : ∀ k, k < 10 → R2 k = cbS (T5 g 5) (T5 g 1) (T5 g 2) (nI k) (if n = 0 then 0 else T5 g 2 (n - 1)) n := fun k hk => (h5 k hk).trans (last_cb h1 hso h3 h4)
      have hwo2 : ∀ t, t < 200 → R2 k = nI t → ∃ p, p < 16 ∧ T5 g 0 t = nI p := fun t ht et => by
        rw [h5 k (by omega)] at et
        rcases lastC_or (T5 g 5) (T5 g 1) (nI k) e9 with z | ⟨t2, ht2, z⟩
        · rw [z] at et
          exact absurd et.symm (nI_m1 (by omega))
        · rw [z] at et
          have := (nI_eq (by omega) (by omega)).mp et
          exact hwo t (by omega)
      refine cV hZ (pc := 52) dX10_holds_52 lk_X10_260 mn_X10_holdsNow mv_X10_holdsNow (c_X10_holdsNow (v := va_up v 25 (nI e9)) (g := va_up g 33 R2) (R := R) (A := A) (e := e) (k := k) (ops := ops) (m := m) (ExC_mv hX9 rfl rfl rfl rfl rfl rfl) he (by omega) (row_or h1 h2 h5 k (by omega)) hwo2) rc_0 rfl rfl (Nat.le_of_ble_eq_true rfl) (by decide) (by decide) (by decide) (by decide) ?_
      intro v2 g2 r h
      obtain ⟨rfl, hg2, rfl⟩ := h
      refine zx_i hZ (pc := 55) (by decide) (by decide) dX10_holds_55 FitR.bI ?_
      exact ⟨fun j hj => up_off hj, fun j h1 h2 h3 => (hg2 j h2 h3).trans (up_off h1), by rw [hi, hi2]; rfl, by rw [nI_clamp (by omega), nI_clamp (by omega), ← ecb k (by omega)]; rfl⟩
    · skip
      exact z_nse hX (pc := 15) (n := 3) (txm_258) dX10_holds_15 dX10_holds_18 (Or.inr ⟨rfl, dX10_holds_19⟩) dX10_holds_22 dX10_holds_25 (by decide) (Nat.le_of_ble_eq_true rfl) (by decide) (by decide) ⟨rfl, rfl, by rw [inI_ge (by omega) c12, Bool.false_and]⟩
