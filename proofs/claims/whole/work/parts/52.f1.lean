theorem txm_102 : (RX10, 102, "the tape has not so many bytes") ∈ txts := by decide +kernel
theorem txm_330 : (RX10, 330, "no such what") ∈ txts := by decide +kernel
theorem txm_324 : (RX10, 324, "no such person") ∈ txts := by decide +kernel
theorem txm_326 : (RX10, 326, "no such house") ∈ txts := by decide +kernel
theorem txm_203 : (RX10, 203, "no such tears") ∈ txts := by decide +kernel
theorem txm_328 : (RX10, 328, "no such hour") ∈ txts := by decide +kernel
theorem txm_226 : (RX10, 226, "no such letter") ∈ txts := by decide +kernel
theorem txm_247 : (RX10, 247, "no such day") ∈ txts := by decide +kernel
theorem txm_253 : (RX10, 253, "the round has no such house") ∈ txts := by decide +kernel
theorem txm_258 : (RX10, 258, "no such ask") ∈ txts := by decide +kernel
theorem txm_264 : (RX10, 264, "bits of houses that there are not") ∈ txts := by decide +kernel
theorem txm_293 : (RX10, 293, "from is above to") ∈ txts := by decide +kernel
theorem txm_306 : (RX10, 306, "days are 0 to 100") ∈ txts := by decide +kernel
theorem txm_310 : (RX10, 310, "days are 1 to 99") ∈ txts := by decide +kernel
theorem i32_succ_le {x : Int32} {n : Nat} (hn : n < 2 ^ 31 - 1) : nI (n + 1) ≤ x ↔ nI n < x := by
  rw [Int32.le_iff_toInt_le, Int32.lt_iff_toInt_lt, nI_toInt (by omega), nI_toInt (by omega)]
  omega
theorem hr_ge {x : Int32} (h : ¬ x ≤ 2399) : nI 2400 ≤ x := (i32_succ_le (n := 2399) (by omega)).mpr (Int32.not_le.mp h)
theorem hr_le {x : Int32} (h : x ≤ 2399) : ¬ nI 2400 ≤ x := fun q => Int32.not_lt.mpr h ((i32_succ_le (n := 2399) (by omega)).mp q)
theorem c_X10_needPerson {l : Launch} {D : va_G} {cA : Nat → ClassId} {o a : Nat → Nat} {v : ZV} {g : ZG} {x : Int32} {n : Nat} (hn : v 16 = nI n) (h16 : n ≤ 16) : MF l D cA o a yX10_needPerson cX10_needPerson 2 none 6 1 6 [(.ref (o 0)), .int x] v g (fun v2 g2 r => v2 = v ∧ g2 = g ∧ r = none ∧ inI x n = true) (fun En => En = sNSE ∧ inI x n = false) := by
  refine MF.of (by decide) rfl (Nat.le_of_ble_eq_true rfl) (by simp [Value.category]) (fun Z hX => ?_)
  have hZ := hX.toZR
  refine z_iload_n hZ (pc := 0) dX10_needPerson_0 rfl ?_
  refine z_if_lt hZ (pc := 1) (tgt := 15) dX10_needPerson_1 rfl (fun c1 => ?_) (fun c1 => ?_)
  · skip
    exact z_nse hX (pc := 15) (n := 3) (txm_324) dX10_needPerson_15 dX10_needPerson_18 (Or.inr ⟨rfl, dX10_needPerson_19⟩) dX10_needPerson_22 dX10_needPerson_25 (by decide) (Nat.le_of_ble_eq_true rfl) (by decide) (by decide) ⟨rfl, rfl, inI_neg c1⟩
  · skip
    refine z_iload_n hZ (pc := 4) dX10_needPerson_4 rfl ?_
    refine z_aload_n hZ (pc := 5) dX10_needPerson_5 rfl ?_
    refine gC_0_10 hZ (pc := 6) fl_X10_75 dX10_needPerson_6 ?_
    refine gC_5_1 hZ (pc := 9) fl_X10_131 dX10_needPerson_9 ?_
    refine z_top hn ?_
    refine z_icmp_lt hZ (pc := 12) (tgt := 26) dX10_needPerson_12 rfl (fun c12 => ?_) (fun c12 => ?_)
    · skip
      refine zx_v hZ (pc := 26) (by decide) (by decide) dX10_needPerson_26 ?_
      exact ⟨rfl, rfl, rfl, inI_lt (by omega) c1 c12⟩
    · skip
      exact z_nse hX (pc := 15) (n := 3) (txm_324) dX10_needPerson_15 dX10_needPerson_18 (Or.inr ⟨rfl, dX10_needPerson_19⟩) dX10_needPerson_22 dX10_needPerson_25 (by decide) (Nat.le_of_ble_eq_true rfl) (by decide) (by decide) ⟨rfl, rfl, inI_ge (by omega) c12⟩
theorem c_X10_needHouse {l : Launch} {D : va_G} {cA : Nat → ClassId} {o a : Nat → Nat} {v : ZV} {g : ZG} {x : Int32} {n : Nat} (hn : v 15 = nI n) (h16 : n ≤ 10) : MF l D cA o a yX10_needHouse cX10_needHouse 2 none 6 1 6 [(.ref (o 0)), .int x] v g (fun v2 g2 r => v2 = v ∧ g2 = g ∧ r = none ∧ inI x n = true) (fun En => En = sNSE ∧ inI x n = false) := by
  refine MF.of (by decide) rfl (Nat.le_of_ble_eq_true rfl) (by simp [Value.category]) (fun Z hX => ?_)
  have hZ := hX.toZR
  refine z_iload_n hZ (pc := 0) dX10_needHouse_0 rfl ?_
  refine z_if_lt hZ (pc := 1) (tgt := 15) dX10_needHouse_1 rfl (fun c1 => ?_) (fun c1 => ?_)
  · skip
    exact z_nse hX (pc := 15) (n := 3) (txm_326) dX10_needHouse_15 dX10_needHouse_18 (Or.inr ⟨rfl, dX10_needHouse_19⟩) dX10_needHouse_22 dX10_needHouse_25 (by decide) (Nat.le_of_ble_eq_true rfl) (by decide) (by decide) ⟨rfl, rfl, inI_neg c1⟩
  · skip
    refine z_iload_n hZ (pc := 4) dX10_needHouse_4 rfl ?_
    refine z_aload_n hZ (pc := 5) dX10_needHouse_5 rfl ?_
    refine gC_0_10 hZ (pc := 6) fl_X10_75 dX10_needHouse_6 ?_
    refine gC_5_0 hZ (pc := 9) fl_X10_128 dX10_needHouse_9 ?_
    refine z_top hn ?_
    refine z_icmp_lt hZ (pc := 12) (tgt := 26) dX10_needHouse_12 rfl (fun c12 => ?_) (fun c12 => ?_)
    · skip
      refine zx_v hZ (pc := 26) (by decide) (by decide) dX10_needHouse_26 ?_
      exact ⟨rfl, rfl, rfl, inI_lt (by omega) c1 c12⟩
    · skip
      exact z_nse hX (pc := 15) (n := 3) (txm_326) dX10_needHouse_15 dX10_needHouse_18 (Or.inr ⟨rfl, dX10_needHouse_19⟩) dX10_needHouse_22 dX10_needHouse_25 (by decide) (Nat.le_of_ble_eq_true rfl) (by decide) (by decide) ⟨rfl, rfl, inI_ge (by omega) c12⟩
theorem c_X10_needHour {l : Launch} {D : va_G} {cA : Nat → ClassId} {o a : Nat → Nat} {v : ZV} {g : ZG} {x : Int32}  : MF l D cA o a yX10_needHour cX10_needHour 1 none 6 1 6 [.int x] v g (fun v2 g2 r => v2 = v ∧ g2 = g ∧ r = none ∧ inI x 2400 = true) (fun En => En = sNSE ∧ inI x 2400 = false) := by
  refine MF.of (by decide) rfl (Nat.le_of_ble_eq_true rfl) (by simp [Value.category]) (fun Z hX => ?_)
  have hZ := hX.toZR
  refine z_iload_n hZ (pc := 0) dX10_needHour_0 rfl ?_
  refine z_if_lt hZ (pc := 1) (tgt := 11) dX10_needHour_1 rfl (fun c1 => ?_) (fun c1 => ?_)
  · skip
    exact z_nse hX (pc := 11) (n := 3) (txm_328) dX10_needHour_11 dX10_needHour_14 (Or.inr ⟨rfl, dX10_needHour_15⟩) dX10_needHour_18 dX10_needHour_21 (by decide) (Nat.le_of_ble_eq_true rfl) (by decide) (by decide) ⟨rfl, rfl, inI_neg c1⟩
  · skip
    refine z_iload_n hZ (pc := 4) dX10_needHour_4 rfl ?_
    refine z_sipush hZ (pc := 5) (v := 2399) dX10_needHour_5 (by decide) ?_
    refine z_icmp_le hZ (pc := 8) (tgt := 22) dX10_needHour_8 rfl (fun c8 => ?_) (fun c8 => ?_)
    · skip
      refine zx_v hZ (pc := 22) (by decide) (by decide) dX10_needHour_22 ?_
      exact ⟨rfl, rfl, rfl, inI_in (by omega) c1 (hr_le c8)⟩
    · skip
      exact z_nse hX (pc := 11) (n := 3) (txm_328) dX10_needHour_11 dX10_needHour_14 (Or.inr ⟨rfl, dX10_needHour_15⟩) dX10_needHour_18 dX10_needHour_21 (by decide) (Nat.le_of_ble_eq_true rfl) (by decide) (by decide) ⟨rfl, rfl, inI_big (by omega) (hr_ge c8)⟩
theorem c_X10_needWhat {l : Launch} {D : va_G} {cA : Nat → ClassId} {o a : Nat → Nat} {v : ZV} {g : ZG} {x : Int32} {n : Nat} (hn : n < 2 ^ 31) : MF l D cA o a yX10_needWhat cX10_needWhat 2 none 6 1 6 [.int x, .int (nI n)] v g (fun v2 g2 r => v2 = v ∧ g2 = g ∧ r = none ∧ inI x n = true) (fun En => En = sNSE ∧ inI x n = false) := by
  refine MF.of (by decide) rfl (Nat.le_of_ble_eq_true rfl) (by simp [Value.category]) (fun Z hX => ?_)
  have hZ := hX.toZR
  refine z_iload_n hZ (pc := 0) dX10_needWhat_0 rfl ?_
  refine z_if_lt hZ (pc := 1) (tgt := 9) dX10_needWhat_1 rfl (fun c1 => ?_) (fun c1 => ?_)
  · skip
    exact z_nse hX (pc := 9) (n := 3) (txm_330) dX10_needWhat_9 dX10_needWhat_12 (Or.inr ⟨rfl, dX10_needWhat_13⟩) dX10_needWhat_16 dX10_needWhat_19 (by decide) (Nat.le_of_ble_eq_true rfl) (by decide) (by decide) ⟨rfl, rfl, inI_neg c1⟩
  · skip
    refine z_iload_n hZ (pc := 4) dX10_needWhat_4 rfl ?_
    refine z_iload_n hZ (pc := 5) dX10_needWhat_5 rfl ?_
    refine z_icmp_lt hZ (pc := 6) (tgt := 20) dX10_needWhat_6 rfl (fun c6 => ?_) (fun c6 => ?_)
    · skip
      refine zx_v hZ (pc := 20) (by decide) (by decide) dX10_needWhat_20 ?_
      exact ⟨rfl, rfl, rfl, inI_lt hn c1 c6⟩
    · skip
      exact z_nse hX (pc := 9) (n := 3) (txm_330) dX10_needWhat_9 dX10_needWhat_12 (Or.inr ⟨rfl, dX10_needWhat_13⟩) dX10_needWhat_16 dX10_needWhat_19 (by decide) (Nat.le_of_ble_eq_true rfl) (by decide) (by decide) ⟨rfl, rfl, inI_ge hn c6⟩
