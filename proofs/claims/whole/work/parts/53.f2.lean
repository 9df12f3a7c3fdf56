theorem c_X10_fault {l : Launch} {D : va_G} {cA : Nat → ClassId} {o a : Nat → Nat} {v : ZV} {g : ZG}   : MG l D cA (WC o a cA) yX10_fault cX10_fault 1 (some .int) 1 [(.ref (o 0))] v g (PF v g (some (.int (v 0)))) := by
  refine MG.of (by decide) rfl (Nat.le_of_ble_eq_true rfl) (by simp [Value.category]) (fun Z hZ => ?_)
  refine z_aload_n hZ (pc := 0) dX10_fault_0 rfl ?_
  refine gC_0_11 hZ (pc := 1) fl_X10_79 dX10_fault_1 ?_
  refine zr_i hZ (pc := 4) dX10_fault_4 FitR.int ?_
  exact ⟨rfl, rfl, rfl⟩
theorem c_X10_person {l : Launch} {D : va_G} {cA : Nat → ClassId} {o a : Nat → Nat} {v : ZV} {g : ZG} {x w : Int32} {P : Nat} (hP : v 16 = nI P) (hP6 : P ≤ 16) : MF l D cA o a yX10_person cX10_person 3 (some .int) 8 2 12 [(.ref (o 0)), .int x, .int w] v g (fun v2 g2 r => v2 = v ∧ g2 = g ∧ (inI x P && inI w 3) = true ∧ r = some (.int (if w = 0 then g 9 x.toNatClampNeg else if w = 1 then g 18 x.toNatClampNeg else g 19 x.toNatClampNeg))) (fun En => En = sNSE ∧ (inI x P && inI w 3) = false) := by
  refine MF.of (by decide) rfl (Nat.le_of_ble_eq_true rfl) (by simp [Value.category]) (fun Z hX => ?_)
  have hZ := hX.toZR
  refine z_aload_n hZ (pc := 0) dX10_person_0 rfl ?_
  refine z_iload_n hZ (pc := 1) dX10_person_1 rfl ?_
  refine cVX hX (pc := 2) (mc' := 1) (ms' := 6) dX10_person_2 (List.mem_of_getElem? (i := 831) (by decide +kernel)) mn_X10_needPerson mv_X10_needPerson (c_X10_needPerson hP hP6) rc_0 rfl rfl (Nat.le_of_ble_eq_true rfl) (by decide) (by decide) (by decide) (by decide) (fun En h => ⟨h.1, by rw [h.2, Bool.false_and]⟩) (fun v2 g2 r h => ?_)
  obtain ⟨e1, e2, rfl, hi⟩ := h
  subst v2
  subst g2
  refine z_iload_n hZ (pc := 5) dX10_person_5 rfl ?_
  refine z_iconst hZ (pc := 6) (v := 3) dX10_person_6 (by decide) ?_
  refine cSX hX (pc := 7) (mc' := 1) (ms' := 6) dX10_person_7 (List.mem_of_getElem? (i := 804) (by decide +kernel)) mn_X10_needWhat ms_X10_needWhat (c_X10_needWhat (n := 3) (by omega)) rfl rfl (Nat.le_of_ble_eq_true rfl) (by decide) (by decide) (by decide) (by decide) (fun En h => ⟨h.1, by rw [h.2, Bool.and_false]⟩) (fun v2 g2 r h => ?_)
  obtain ⟨e1, e2, rfl, hi2⟩ := h
  subst v2
  subst g2
  obtain ⟨k, hk, rfl⟩ := inI_t hi (by omega)
  refine z_iload_n hZ (pc := 10) dX10_person_10 rfl ?_
  refine z_if_ne hZ (pc := 11) (tgt := 26) dX10_person_11 rfl (fun c11 => ?_) (fun c11 => ?_)
  · skip
    refine z_iload_n hZ (pc := 26) dX10_person_26 rfl ?_
    refine z_iconst hZ (pc := 27) (v := 1) dX10_person_27 (by decide) ?_
    refine z_icmp_ne hZ (pc := 28) (tgt := 45) dX10_person_28 rfl (fun c28 => ?_) (fun c28 => ?_)
    · skip
      refine z_aload_n hZ (pc := 45) dX10_person_45 rfl ?_
      refine gC_0_10 hZ (pc := 46) fl_X10_75 dX10_person_46 ?_
      refine gC_5_7 hZ (pc := 49) fl_X10_172 dX10_person_49 ?_
      refine z_iload_n hZ (pc := 52) dX10_person_52 rfl ?_
      refine cS_i hZ (pc := 53) dX10_person_53 lk_X10_159 mn_X10_at ms_X10_at (c_X10_atn (j := 19) (n := k) (by decide) (by show k < 16; omega)) rfl rfl (Nat.le_of_ble_eq_true rfl) (by decide) (by decide) (by decide) (by decide) ?_
      refine zx_i hZ (pc := 56) (by decide) (by decide) dX10_person_56 FitR.int ?_
      exact ⟨rfl, rfl, by rw [hi, hi2]; rfl, by rw [if_neg c11, if_neg c28, nI_clamp (by omega)]⟩
    · skip
      refine z_aload_n hZ (pc := 31) dX10_person_31 rfl ?_
      refine gC_0_10 hZ (pc := 32) fl_X10_75 dX10_person_32 ?_
      refine gC_5_6 hZ (pc := 35) fl_X10_169 dX10_person_35 ?_
      refine z_iload_n hZ (pc := 38) dX10_person_38 rfl ?_
      refine cS_i hZ (pc := 39) dX10_person_39 lk_X10_159 mn_X10_at ms_X10_at (c_X10_atn (j := 18) (n := k) (by decide) (by show k < 16; omega)) rfl rfl (Nat.le_of_ble_eq_true rfl) (by decide) (by decide) (by decide) (by decide) ?_
      refine z_goto hZ (pc := 42) (tgt := 56) dX10_person_42 rfl ?_
      refine zx_i hZ (pc := 56) (by decide) (by decide) dX10_person_56 FitR.int ?_
      exact ⟨rfl, rfl, by rw [hi, hi2]; rfl, by rw [if_neg c11, if_pos c28, nI_clamp (by omega)]⟩
  · skip
    refine z_aload_n hZ (pc := 14) dX10_person_14 rfl ?_
    refine gC_0_1 hZ (pc := 15) fl_X10_19 dX10_person_15 ?_
    refine gC_3_7 hZ (pc := 18) fl_X10_166 dX10_person_18 ?_
    refine z_iload_n hZ (pc := 21) dX10_person_21 rfl ?_
    refine cS_i hZ (pc := 22) dX10_person_22 lk_X10_159 mn_X10_at ms_X10_at (c_X10_atn (j := 9) (n := k) (by decide) (by show k < 16; omega)) rfl rfl (Nat.le_of_ble_eq_true rfl) (by decide) (by decide) (by decide) (by decide) ?_
    refine zx_i hZ (pc := 25) (by decide) (by decide) dX10_person_25 FitR.int ?_
    exact ⟨rfl, rfl, by rw [hi, hi2]; rfl, by rw [if_pos c11, nI_clamp (by omega)]⟩
theorem c_X10_walk {l : Launch} {D : va_G} {cA : Nat → ClassId} {o a : Nat → Nat} {v : ZV} {g : ZG} {x y : Int32} {H : Nat} (hH : v 15 = nI H) (h10 : H ≤ 10) : MF l D cA o a yX10_walk cX10_walk 3 (some .int) 8 2 12 [(.ref (o 0)), .int x, .int y] v g (fun v2 g2 r => v2 = v ∧ g2 = g ∧ (inI x H && inI y H) = true ∧ r = some (.int (if x.toNatClampNeg = y.toNatClampNeg then 0 else g 20 (10 * x.toNatClampNeg + y.toNatClampNeg)))) (fun En => En = sNSE ∧ (inI x H && inI y H) = false) := by
  refine MF.of (by decide) rfl (Nat.le_of_ble_eq_true rfl) (by simp [Value.category]) (fun Z hX => ?_)
  have hZ := hX.toZR
  refine z_aload_n hZ (pc := 0) dX10_walk_0 rfl ?_
  refine z_iload_n hZ (pc := 1) dX10_walk_1 rfl ?_
  refine cVX hX (pc := 2) (mc' := 1) (ms' := 6) dX10_walk_2 (List.mem_of_getElem? (i := 843) (by decide +kernel)) mn_X10_needHouse mv_X10_needHouse (c_X10_needHouse hH h10) rc_0 rfl rfl (Nat.le_of_ble_eq_true rfl) (by decide) (by decide) (by decide) (by decide) (fun En h => ⟨h.1, by rw [h.2, Bool.false_and]⟩) (fun v2 g2 r h => ?_)
  obtain ⟨e1, e2, rfl, hi⟩ := h
  subst v2
  subst g2
  refine z_aload_n hZ (pc := 5) dX10_walk_5 rfl ?_
  refine z_iload_n hZ (pc := 6) dX10_walk_6 rfl ?_
  refine cVX hX (pc := 7) (mc' := 1) (ms' := 6) dX10_walk_7 (List.mem_of_getElem? (i := 843) (by decide +kernel)) mn_X10_needHouse mv_X10_needHouse (c_X10_needHouse hH h10) rc_0 rfl rfl (Nat.le_of_ble_eq_true rfl) (by decide) (by decide) (by decide) (by decide) (fun En h => ⟨h.1, by rw [h.2, Bool.and_false]⟩) (fun v2 g2 r h => ?_)
  obtain ⟨e1, e2, rfl, hi2⟩ := h
  subst v2
  subst g2
  obtain ⟨k, hk, rfl⟩ := inI_t hi (by omega)
  obtain ⟨q, hq, rfl⟩ := inI_t hi2 (by omega)
  refine z_aload_n hZ (pc := 10) dX10_walk_10 rfl ?_
  refine gC_0_10 hZ (pc := 11) fl_X10_75 dX10_walk_11 ?_
  refine z_iload_n hZ (pc := 14) dX10_walk_14 rfl ?_
  refine z_iload_n hZ (pc := 15) dX10_walk_15 rfl ?_
  refine cV_i hZ (pc := 16) dX10_walk_16 lk_X10_178 mn_X0_walkBetween mv_X0_walkBetween (c_X0_walkBetween (h := k) (k := q) (by omega) (by omega)) rc_5 rfl rfl (Nat.le_of_ble_eq_true rfl) (by decide) (by decide) (by decide) (by decide) ?_
  refine zx_i hZ (pc := 19) (by decide) (by decide) dX10_walk_19 FitR.int ?_
  exact ⟨rfl, rfl, by rw [hi, hi2]; rfl, by rw [nI_clamp (by omega), nI_clamp (by omega)]⟩
theorem c_X10_move {l : Launch} {D : va_G} {cA : Nat → ClassId} {o a : Nat → Nat} {v : ZV} {g : ZG} {x y : Int32} {P H : Nat} (hP : v 16 = nI P) (hP6 : P ≤ 16) (hH : v 15 = nI H) (h10 : H ≤ 10) : MF l D cA o a yX10_move cX10_move 3 none 8 2 12 [(.ref (o 0)), .int x, .int y] v g (fun v2 g2 r => v2 = v ∧ g2 = va_up g 9 (upd (g 9) x.toNatClampNeg y) ∧ (inI x P && inI y H) = true ∧ r = none) (fun En => En = sNSE ∧ (inI x P && inI y H) = false) := by
  refine MF.of (by decide) rfl (Nat.le_of_ble_eq_true rfl) (by simp [Value.category]) (fun Z hX => ?_)
  have hZ := hX.toZR
  refine z_aload_n hZ (pc := 0) dX10_move_0 rfl ?_
  refine z_iload_n hZ (pc := 1) dX10_move_1 rfl ?_
  refine cVX hX (pc := 2) (mc' := 1) (ms' := 6) dX10_move_2 (List.mem_of_getElem? (i := 831) (by decide +kernel)) mn_X10_needPerson mv_X10_needPerson (c_X10_needPerson hP hP6) rc_0 rfl rfl (Nat.le_of_ble_eq_true rfl) (by decide) (by decide) (by decide) (by decide) (fun En h => ⟨h.1, by rw [h.2, Bool.false_and]⟩) (fun v2 g2 r h => ?_)
  obtain ⟨e1, e2, rfl, hi⟩ := h
  subst v2
  subst g2
  refine z_aload_n hZ (pc := 5) dX10_move_5 rfl ?_
  refine z_iload_n hZ (pc := 6) dX10_move_6 rfl ?_
  refine cVX hX (pc := 7) (mc' := 1) (ms' := 6) dX10_move_7 (List.mem_of_getElem? (i := 843) (by decide +kernel)) mn_X10_needHouse mv_X10_needHouse (c_X10_needHouse hH h10) rc_0 rfl rfl (Nat.le_of_ble_eq_true rfl) (by decide) (by decide) (by decide) (by decide) (fun En h => ⟨h.1, by rw [h.2, Bool.and_false]⟩) (fun v2 g2 r h => ?_)
  obtain ⟨e1, e2, rfl, hi2⟩ := h
  subst v2
  subst g2
  obtain ⟨k, hk, rfl⟩ := inI_t hi (by omega)
  refine z_aload_n hZ (pc := 10) dX10_move_10 rfl ?_
  refine gC_0_1 hZ (pc := 11) fl_X10_19 dX10_move_11 ?_
  refine gC_3_7 hZ (pc := 14) fl_X10_166 dX10_move_14 ?_
  refine z_iload_n hZ (pc := 17) dX10_move_17 rfl ?_
  refine z_iload_n hZ (pc := 18) dX10_move_18 rfl ?_
  refine cS_v hZ (pc := 19) dX10_move_19 lk_X10_182 mn_X10_put ms_X10_put (c_X10_putn (j := 9) (n := k) (by decide) (by show k < 16; omega)) rfl rfl (Nat.le_of_ble_eq_true rfl) (by decide) (by decide) (by decide) (by decide) ?_
  refine zx_v hZ (pc := 22) (by decide) (by decide) dX10_move_22 ?_
  exact ⟨rfl, by rw [nI_clamp (by omega)], by rw [hi, hi2]; rfl, rfl⟩
theorem c_X10_tears {l : Launch} {D : va_G} {cA : Nat → ClassId} {o a : Nat → Nat} {v : ZV} {g : ZG} {x w : Int32} {n : Nat} (hn : v 9 = nI n) (h2 : n ≤ 200) : MF l D cA o a yX10_tears cX10_tears 3 (some .int) 8 1 6 [(.ref (o 0)), .int x, .int w] v g (fun v2 g2 r => v2 = v ∧ g2 = g ∧ (inI x n && inI w 6) = true ∧ r = some (.int (T5 g w.toNatClampNeg x.toNatClampNeg))) (fun En => En = sNSE ∧ (inI x n && inI w 6) = false) := by
  refine MF.of (by decide) rfl (Nat.le_of_ble_eq_true rfl) (by simp [Value.category]) (fun Z hX => ?_)
  have hZ := hX.toZR
  refine z_iload_n hZ (pc := 0) dX10_tears_0 rfl ?_
  refine z_if_lt hZ (pc := 1) (tgt := 15) dX10_tears_1 rfl (fun c1 => ?_) (fun c1 => ?_)
  · skip
    exact z_nse hX (pc := 15) (n := 2) (txm_203) dX10_tears_15 dX10_tears_18 (Or.inl ⟨rfl, dX10_tears_19⟩) dX10_tears_21 dX10_tears_24 (by decide) (Nat.le_of_ble_eq_true rfl) (by decide) (by decide) ⟨rfl, rfl, by rw [inI_neg c1, Bool.false_and]⟩
  · skip
    refine z_iload_n hZ (pc := 4) dX10_tears_4 rfl ?_
    refine z_aload_n hZ (pc := 5) dX10_tears_5 rfl ?_
    refine gC_0_1 hZ (pc := 6) fl_X10_19 dX10_tears_6 ?_
    refine gC_3_0 hZ (pc := 9) fl_X10_140 dX10_tears_9 ?_
    refine z_top hn ?_
    refine z_icmp_lt hZ (pc := 12) (tgt := 25) dX10_tears_12 rfl (fun c12 => ?_) (fun c12 => ?_)
    · skip
      have hi : inI x n = true := inI_lt (by omega) c1 c12
      refine z_iload_n hZ (pc := 25) dX10_tears_25 rfl ?_
      refine z_bipush hZ (pc := 26) (v := 6) dX10_tears_26 (by decide) ?_
      refine cSX hX (pc := 28) (mc' := 1) (ms' := 6) dX10_tears_28 (List.mem_of_getElem? (i := 804) (by decide +kernel)) mn_X10_needWhat ms_X10_needWhat (c_X10_needWhat (n := 6) (by omega)) rfl rfl (Nat.le_of_ble_eq_true rfl) (by decide) (by decide) (by decide) (by decide) (fun En h => ⟨h.1, by rw [h.2, Bool.and_false]⟩) (fun v2 g2 r h => ?_)
      obtain ⟨e1, e2, rfl, hi2⟩ := h
      subst v2
      subst g2
      obtain ⟨k, hk, rfl⟩ := inI_t hi (by omega)
      obtain ⟨q, hq, rfl⟩ := inI_t hi2 (by omega)
      refine z_aload_n hZ (pc := 31) dX10_tears_31 rfl ?_
      refine gC_0_1 hZ (pc := 32) fl_X10_19 dX10_tears_32 ?_
      refine z_iload_n hZ (pc := 35) dX10_tears_35 rfl ?_
      refine z_iload_n hZ (pc := 36) dX10_tears_36 rfl ?_
      refine cV_i hZ (pc := 37) dX10_tears_37 lk_X10_206 mn_X6_tearsNumber mv_X6_tearsNumber (c_X6_tn (i := k) (j := q) (by omega) hq) rc_3 rfl rfl (Nat.le_of_ble_eq_true rfl) (by decide) (by decide) (by decide) (by decide) ?_
      refine zx_i hZ (pc := 40) (by decide) (by decide) dX10_tears_40 FitR.int ?_
      exact ⟨rfl, rfl, by rw [hi, hi2]; rfl, by rw [nI_clamp (by omega), nI_clamp (by omega)]⟩
    · skip
      exact z_nse hX (pc := 15) (n := 2) (txm_203) dX10_tears_15 dX10_tears_18 (Or.inl ⟨rfl, dX10_tears_19⟩) dX10_tears_21 dX10_tears_24 (by decide) (Nat.le_of_ble_eq_true rfl) (by decide) (by decide) ⟨rfl, rfl, by rw [inI_ge (by omega) c12, Bool.false_and]⟩
theorem c_X10_name {l : Launch} {D : va_G} {cA : Nat → ClassId} {o a : Nat → Nat} {v : ZV} {g : ZG} {x y : Int32} {n H : Nat} (hn : v 9 = nI n) (h2 : n ≤ 200) (hH : v 15 = nI H) (h10 : H ≤ 10) (hfr : ∀ t, t < n → ∃ k, k < 10 ∧ T5 g 1 t = nI k) (hso : SortT (T5 g 2) n) : MF l D cA o a yX10_name cX10_name 3 (some .int) 8 2 12 [(.ref (o 0)), .int x, .int y] v g (fun v2 g2 r => (∀ j, j ≠ 25 → v2 j = v j) ∧ (∀ j, j ≠ 33 → g2 j = g j) ∧ (inI x H && inI y 2400) = true ∧ r = some (.int (nm2 (T5 g 0) (cbS (T5 g 5) (T5 g 1) (T5 g 2) x y n)))) (fun En => En = sNSE ∧ (inI x H && inI y 2400) = false) := by
  refine MF.of (by decide) rfl (Nat.le_of_ble_eq_true rfl) (by simp [Value.category]) (fun Z hX => ?_)
  have hZ := hX.toZR
  refine z_aload_n hZ (pc := 0) dX10_name_0 rfl ?_
  refine z_iload_n hZ (pc := 1) dX10_name_1 rfl ?_
  refine cVX hX (pc := 2) (mc' := 1) (ms' := 6) dX10_name_2 (List.mem_of_getElem? (i := 843) (by decide +kernel)) mn_X10_needHouse mv_X10_needHouse (c_X10_needHouse hH h10) rc_0 rfl rfl (Nat.le_of_ble_eq_true rfl) (by decide) (by decide) (by decide) (by decide) (fun En h => ⟨h.1, by rw [h.2, Bool.false_and]⟩) (fun v2 g2 r h => ?_)
  obtain ⟨e1, e2, rfl, hi⟩ := h
  subst v2
  subst g2
  refine z_iload_n hZ (pc := 5) dX10_name_5 rfl ?_
  refine cSX hX (pc := 6) (mc' := 1) (ms' := 6) dX10_name_6 (List.mem_of_getElem? (i := 911) (by decide +kernel)) mn_X10_needHour ms_X10_needHour (c_X10_needHour) rfl rfl (Nat.le_of_ble_eq_true rfl) (by decide) (by decide) (by decide) (by decide) (fun En h => ⟨h.1, by rw [h.2, Bool.and_false]⟩) (fun v2 g2 r h => ?_)
  obtain ⟨e1, e2, rfl, hi2⟩ := h
  subst v2
  subst g2
  obtain ⟨k, hk, rfl⟩ := inI_t hi (by omega)
  refine z_aload_n hZ (pc := 9) dX10_name_9 rfl ?_
  refine gC_0_3 hZ (pc := 10) fl_X10_29 dX10_name_10 ?_
  refine z_aload_n hZ (pc := 13) dX10_name_13 rfl ?_
  refine gC_0_1 hZ (pc := 14) fl_X10_19 dX10_name_14 ?_
  refine z_iload_n hZ (pc := 17) dX10_name_17 rfl ?_
  refine cV hZ (pc := 18) dX10_name_18 lk_X10_212 mn_X2_callAt mv_X2_callAt (c_X2_callAt (n := n) (hr := y) hn h2 hfr) rc_7 rfl rfl (Nat.le_of_ble_eq_true rfl) (by decide) (by decide) (by decide) (by decide) ?_
  intro v2 g2 r h
  obtain ⟨rfl, e, R, h1, h3, h4, h5, rfl, rfl⟩ := h
  refine z_aload_n hZ (pc := 21) dX10_name_21 rfl ?_
  refine gC_0_3 hZ (pc := 22) fl_X10_29 dX10_name_22 ?_
  refine z_aload_n hZ (pc := 25) dX10_name_25 rfl ?_
  refine gC_0_1 hZ (pc := 26) fl_X10_19 dX10_name_26 ?_
  refine z_iload_n hZ (pc := 29) dX10_name_29 rfl ?_
  refine cV_i hZ (pc := 30) dX10_name_30 lk_X10_216 mn_X2_nameOf mv_X2_nameOf (c_X2_nameOf (k := k) (by omega) (row_or h1 h2 h5 k (by omega))) rc_7 rfl rfl (Nat.le_of_ble_eq_true rfl) (by decide) (by decide) (by decide) (by decide) ?_
  refine zx_i hZ (pc := 33) (by decide) (by decide) dX10_name_33 FitR.int ?_
  exact ⟨fun j hj => up_off hj, fun j hj => up_off hj, by rw [hi, hi2]; rfl, by rw [up_at, h5 k (by omega), last_cb h1 hso h3 h4]; rfl⟩
theorem c_X10_houses {l : Launch} {D : va_G} {cA : Nat → ClassId} {o a : Nat → Nat} {v : ZV} {g : ZG} {x y : Int32} {n P : Nat} (hn : v 9 = nI n) (h2 : n ≤ 200) (hP : v 16 = nI P) (hP6 : P ≤ 16) (hfr : ∀ t, t < n → ∃ k, k < 10 ∧ T5 g 1 t = nI k) (hso : SortT (T5 g 2) n) : MF l D cA o a yX10_houses cX10_houses 3 (some .int) 8 2 12 [(.ref (o 0)), .int x, .int y] v g (fun v2 g2 r => (∀ j, j ≠ 25 → v2 j = v j) ∧ (∀ j, j ≠ 33 → g2 j = g j) ∧ (inI x P && inI y 2400) = true ∧ r = some (.int (nI (hsT (T5 g 0) (T5 g 5) (T5 g 1) (T5 g 2) n x y 10)))) (fun En => En = sNSE ∧ (inI x P && inI y 2400) = false) := by
  refine MF.of (by decide) rfl (Nat.le_of_ble_eq_true rfl) (by simp [Value.category]) (fun Z hX => ?_)
  have hZ := hX.toZR
  refine z_aload_n hZ (pc := 0) dX10_houses_0 rfl ?_
  refine z_iload_n hZ (pc := 1) dX10_houses_1 rfl ?_
  refine cVX hX (pc := 2) (mc' := 1) (ms' := 6) dX10_houses_2 (List.mem_of_getElem? (i := 831) (by decide +kernel)) mn_X10_needPerson mv_X10_needPerson (c_X10_needPerson hP hP6) rc_0 rfl rfl (Nat.le_of_ble_eq_true rfl) (by decide) (by decide) (by decide) (by decide) (fun En h => ⟨h.1, by rw [h.2, Bool.false_and]⟩) (fun v2 g2 r h => ?_)
  obtain ⟨e1, e2, rfl, hi⟩ := h
  subst v2
  subst g2
  refine z_iload_n hZ (pc := 5) dX10_houses_5 rfl ?_
  refine cSX hX (pc := 6) (mc' := 1) (ms' := 6) dX10_houses_6 (List.mem_of_getElem? (i := 911) (by decide +kernel)) mn_X10_needHour ms_X10_needHour (c_X10_needHour) rfl rfl (Nat.le_of_ble_eq_true rfl) (by decide) (by decide) (by decide) (by decide) (fun En h => ⟨h.1, by rw [h.2, Bool.and_false]⟩) (fun v2 g2 r h => ?_)
  obtain ⟨e1, e2, rfl, hi2⟩ := h
  subst v2
  subst g2
  refine z_aload_n hZ (pc := 9) dX10_houses_9 rfl ?_
  refine gC_0_3 hZ (pc := 10) fl_X10_29 dX10_houses_10 ?_
  refine z_aload_n hZ (pc := 13) dX10_houses_13 rfl ?_
  refine gC_0_1 hZ (pc := 14) fl_X10_19 dX10_houses_14 ?_
  refine z_iload_n hZ (pc := 17) dX10_houses_17 rfl ?_
  refine cV hZ (pc := 18) dX10_houses_18 lk_X10_212 mn_X2_callAt mv_X2_callAt (c_X2_callAt (n := n) (hr := y) hn h2 hfr) rc_7 rfl rfl (Nat.le_of_ble_eq_true rfl) (by decide) (by decide) (by decide) (by decide) ?_
  intro v2 g2 r h
  obtain ⟨rfl, e, R, h1, h3, h4, h5, rfl, rfl⟩ := h
  refine z_aload_n hZ (pc := 21) dX10_houses_21 rfl ?_
  refine gC_0_3 hZ (pc := 22) fl_X10_29 dX10_houses_22 ?_
  refine z_aload_n hZ (pc := 25) dX10_houses_25 rfl ?_
  refine gC_0_1 hZ (pc := 26) fl_X10_19 dX10_houses_26 ?_
  refine z_iload_n hZ (pc := 29) dX10_houses_29 rfl ?_
  refine cV_i hZ (pc := 30) dX10_houses_30 lk_X10_220 mn_X2_housesOf mv_X2_housesOf (c_X2_housesOf (row_or h1 h2 h5)) rc_7 rfl rfl (Nat.le_of_ble_eq_true rfl) (by decide) (by decide) (by decide) (by decide) ?_
  refine zx_i hZ (pc := 33) (by decide) (by decide) dX10_houses_33 FitR.int ?_
  exact ⟨fun j hj => up_off hj, fun j hj => up_off hj, by rw [hi, hi2]; rfl, congrArg (fun z => some (Value.int (nI z))) (hsN_hsT h1 hso h3 h4 h5)⟩
theorem c_X10_letter {l : Launch} {D : va_G} {cA : Nat → ClassId} {o a : Nat → Nat} {v : ZV} {g : ZG} {x y : Int32} {q P : Nat} (hP : v 16 = nI P) (hP6 : P ≤ 16) (hq : v 10 = nI q) (hq4 : q ≤ 40) : MF l D cA o a yX10_letter cX10_letter 3 (some .int) 8 2 12 [(.ref (o 0)), .int x, .int y] v g (fun v2 g2 r => (inI x P && inI y 2400) = true ∧ (if q < 40 then v2 = va_up v 10 (nI (q + 1)) ∧ g2 = va_up (va_up g 6 (upd (g 6) q x)) 7 (upd (g 7) q y) ∧ r = some (.int (nI q)) else v2 = v ∧ g2 = va_up g 10 (upd (g 10) 2 (g 10 2 + 1)) ∧ r = some (.int (-1)))) (fun En => En = sNSE ∧ (inI x P && inI y 2400) = false) := by
  refine MF.of (by decide) rfl (Nat.le_of_ble_eq_true rfl) (by simp [Value.category]) (fun Z hX => ?_)
  have hZ := hX.toZR
  refine z_aload_n hZ (pc := 0) dX10_letter_0 rfl ?_
  refine z_iload_n hZ (pc := 1) dX10_letter_1 rfl ?_
  refine cVX hX (pc := 2) (mc' := 1) (ms' := 6) dX10_letter_2 (List.mem_of_getElem? (i := 831) (by decide +kernel)) mn_X10_needPerson mv_X10_needPerson (c_X10_needPerson hP hP6) rc_0 rfl rfl (Nat.le_of_ble_eq_true rfl) (by decide) (by decide) (by decide) (by decide) (fun En h => ⟨h.1, by rw [h.2, Bool.false_and]⟩) (fun v2 g2 r h => ?_)
  obtain ⟨e1, e2, rfl, hi⟩ := h
  subst v2
  subst g2
  refine z_iload_n hZ (pc := 5) dX10_letter_5 rfl ?_
  refine cSX hX (pc := 6) (mc' := 1) (ms' := 6) dX10_letter_6 (List.mem_of_getElem? (i := 911) (by decide +kernel)) mn_X10_needHour ms_X10_needHour (c_X10_needHour) rfl rfl (Nat.le_of_ble_eq_true rfl) (by decide) (by decide) (by decide) (by decide) (fun En h => ⟨h.1, by rw [h.2, Bool.and_false]⟩) (fun v2 g2 r h => ?_)
  obtain ⟨e1, e2, rfl, hi2⟩ := h
  subst v2
  subst g2
  refine z_aload_n hZ (pc := 9) dX10_letter_9 rfl ?_
  refine gC_0_1 hZ (pc := 10) fl_X10_19 dX10_letter_10 ?_
  refine gC_3_1 hZ (pc := 13) fl_X10_143 dX10_letter_13 ?_
  refine z_top hq ?_
  refine z_bipush hZ (pc := 16) (v := 40) dX10_letter_16 (by decide) ?_
  refine z_icmp_lt hZ (pc := 18) (tgt := 31) dX10_letter_18 rfl (fun c18 => ?_) (fun c18 => ?_)
  · skip
    have hl : q < 40 := (nI_ltI (a := q) (b := 40) (by omega) (by omega)).mp c18
    refine z_aload_n hZ (pc := 31) dX10_letter_31 rfl ?_
    refine gC_0_1 hZ (pc := 32) fl_X10_19 dX10_letter_32 ?_
    refine z_iload_n hZ (pc := 35) dX10_letter_35 rfl ?_
    refine z_iload_n hZ (pc := 36) dX10_letter_36 rfl ?_
    refine cV_v hZ (pc := 37) dX10_letter_37 lk_X10_223 mn_X6_writeLetter mv_X6_writeLetter (c_X6_writeLetter (n := q) hq hl) rc_3 rfl rfl (Nat.le_of_ble_eq_true rfl) (by decide) (by decide) (by decide) (by decide) ?_
    refine z_aload_n hZ (pc := 40) dX10_letter_40 rfl ?_
    refine gC_0_1 hZ (pc := 41) fl_X10_19 dX10_letter_41 ?_
    refine gC_3_1 hZ (pc := 44) fl_X10_143 dX10_letter_44 ?_
    refine z_iconst hZ (pc := 47) (v := 1) dX10_letter_47 (by decide) ?_
    refine z_isub hZ (pc := 48) dX10_letter_48 ?_
    refine z_top (y := nI q) (nI_pred q) ?_
    refine zx_i hZ (pc := 49) (by decide) (by decide) dX10_letter_49 FitR.int ?_
    exact ⟨by rw [hi, hi2]; rfl, by rw [if_pos hl]; exact ⟨rfl, rfl, rfl⟩⟩
  · skip
    have hl : ¬ q < 40 := fun z => c18 (nI_lt (b := 40) z (by omega))
    refine z_aload_n hZ (pc := 21) dX10_letter_21 rfl ?_
    refine gC_0_1 hZ (pc := 22) fl_X10_19 dX10_letter_22 ?_
    refine z_iconst hZ (pc := 25) (v := 2) dX10_letter_25 (by decide) ?_
    refine cV_v hZ (pc := 26) dX10_letter_26 lk_X10_115 mn_X6_countRefused mv_X6_countRefused (c_X6_countRefused (w := 2) (by decide)) rc_3 rfl rfl (Nat.le_of_ble_eq_true rfl) (by decide) (by decide) (by decide) (by decide) ?_
    refine z_iconst hZ (pc := 29) (v := (-1)) dX10_letter_29 (by decide) ?_
    refine zx_i hZ (pc := 30) (by decide) (by decide) dX10_letter_30 FitR.int ?_
    exact ⟨by rw [hi, hi2]; rfl, by rw [if_neg hl]; exact ⟨rfl, rfl, rfl⟩⟩
theorem c_X10_rounded {l : Launch} {D : va_G} {cA : Nat → ClassId} {o a : Nat → Nat} {v : ZV} {g : ZG} {x : Int32} {K : Nat} (hK : v 29 = nI K) (hK9 : K ≤ 9) : MF l D cA o a yX10_rounded cX10_rounded 2 (some .int) 8 1 6 [(.ref (o 0)), .int x] v g (fun v2 g2 r => v2 = v ∧ g2 = g ∧ inI x K = true ∧ r = some (.int (g 34 x.toNatClampNeg))) (fun En => En = sNSE ∧ inI x K = false) := by
  refine MF.of (by decide) rfl (Nat.le_of_ble_eq_true rfl) (by simp [Value.category]) (fun Z hX => ?_)
  have hZ := hX.toZR
  refine z_iload_n hZ (pc := 0) dX10_rounded_0 rfl ?_
  refine z_if_lt hZ (pc := 1) (tgt := 15) dX10_rounded_1 rfl (fun c1 => ?_) (fun c1 => ?_)
  · skip
    exact z_nse hX (pc := 15) (n := 2) (txm_253) dX10_rounded_15 dX10_rounded_18 (Or.inl ⟨rfl, dX10_rounded_19⟩) dX10_rounded_21 dX10_rounded_24 (by decide) (Nat.le_of_ble_eq_true rfl) (by decide) (by decide) ⟨rfl, rfl, inI_neg c1⟩
  · skip
    refine z_iload_n hZ (pc := 4) dX10_rounded_4 rfl ?_
    refine z_aload_n hZ (pc := 5) dX10_rounded_5 rfl ?_
    refine gC_0_5 hZ (pc := 6) fl_X10_43 dX10_rounded_6 ?_
    refine gC_9_0 hZ (pc := 9) fl_X10_125 dX10_rounded_9 ?_
    refine z_top hK ?_
    refine z_icmp_lt hZ (pc := 12) (tgt := 25) dX10_rounded_12 rfl (fun c12 => ?_) (fun c12 => ?_)
    · skip
      have hi : inI x K = true := inI_lt (by omega) c1 c12
      obtain ⟨k, hk, rfl⟩ := inI_t hi (by omega)
      refine z_aload_n hZ (pc := 25) dX10_rounded_25 rfl ?_
      refine gC_0_5 hZ (pc := 26) fl_X10_43 dX10_rounded_26 ?_
      refine gC_9_1 hZ (pc := 29) fl_X10_255 dX10_rounded_29 ?_
      refine z_iload_n hZ (pc := 32) dX10_rounded_32 rfl ?_
      refine cS_i hZ (pc := 33) dX10_rounded_33 lk_X10_159 mn_X10_at ms_X10_at (c_X10_atn (j := 34) (n := k) (by decide) (by show k < 10; omega)) rfl rfl (Nat.le_of_ble_eq_true rfl) (by decide) (by decide) (by decide) (by decide) ?_
      refine zx_i hZ (pc := 36) (by decide) (by decide) dX10_rounded_36 FitR.int ?_
      exact ⟨rfl, rfl, hi, by rw [nI_clamp (by omega)]⟩
    · skip
      exact z_nse hX (pc := 15) (n := 2) (txm_253) dX10_rounded_15 dX10_rounded_18 (Or.inl ⟨rfl, dX10_rounded_19⟩) dX10_rounded_21 dX10_rounded_24 (by decide) (Nat.le_of_ble_eq_true rfl) (by decide) (by decide) ⟨rfl, rfl, inI_ge (by omega) c12⟩
theorem c_X10_write {l : Launch} {D : va_G} {cA : Nat → ClassId} {o a : Nat → Nat} {v : ZV} {g : ZG} {x : Int32} {m P : Nat} (hP : v 16 = nI P) (hP6 : P ≤ 16) (hm : v 11 = nI m) (h40 : m ≤ 40) : MF l D cA o a yX10_write cX10_write 2 (some .int) 8 1 6 [(.ref (o 0)), .int x] v g (fun v2 g2 r => inI x P = true ∧ (if m < 40 then v2 = va_up v 11 (nI (m + 1)) ∧ g2 = va_up g 8 (upd (g 8) m x) ∧ r = some (.int (nI (m + 1))) else v2 = v ∧ g2 = va_up g 10 (upd (g 10) 3 (g 10 3 + 1)) ∧ r = some (.int (-1)))) (fun En => En = sNSE ∧ inI x P = false) := by
  refine MF.of (by decide) rfl (Nat.le_of_ble_eq_true rfl) (by simp [Value.category]) (fun Z hX => ?_)
  have hZ := hX.toZR
  refine z_aload_n hZ (pc := 0) dX10_write_0 rfl ?_
  refine z_iload_n hZ (pc := 1) dX10_write_1 rfl ?_
  refine cVX hX (pc := 2) (mc' := 1) (ms' := 6) dX10_write_2 (List.mem_of_getElem? (i := 831) (by decide +kernel)) mn_X10_needPerson mv_X10_needPerson (c_X10_needPerson hP hP6) rc_0 rfl rfl (Nat.le_of_ble_eq_true rfl) (by decide) (by decide) (by decide) (by decide) (fun En h => h) (fun v2 g2 r h => ?_)
  obtain ⟨e1, e2, rfl, hi⟩ := h
  subst v2
  subst g2
  refine z_aload_n hZ (pc := 5) dX10_write_5 rfl ?_
  refine gC_0_1 hZ (pc := 6) fl_X10_19 dX10_write_6 ?_
  refine gC_3_2 hZ (pc := 9) fl_X10_146 dX10_write_9 ?_
  refine z_top hm ?_
  refine z_bipush hZ (pc := 12) (v := 40) dX10_write_12 (by decide) ?_
  refine z_icmp_lt hZ (pc := 14) (tgt := 27) dX10_write_14 rfl (fun c14 => ?_) (fun c14 => ?_)
  · skip
    have hl : m < 40 := (nI_ltI (a := m) (b := 40) (by omega) (by omega)).mp c14
    refine z_aload_n hZ (pc := 27) dX10_write_27 rfl ?_
    refine gC_0_1 hZ (pc := 28) fl_X10_19 dX10_write_28 ?_
    refine gC_3_6 hZ (pc := 31) fl_X10_278 dX10_write_31 ?_
    refine z_aload_n hZ (pc := 34) dX10_write_34 rfl ?_
    refine gC_0_1 hZ (pc := 35) fl_X10_19 dX10_write_35 ?_
    refine gC_3_2 hZ (pc := 38) fl_X10_146 dX10_write_38 ?_
    refine z_top hm ?_
    refine z_iload_n hZ (pc := 41) dX10_write_41 rfl ?_
    refine cS_v hZ (pc := 42) dX10_write_42 lk_X10_182 mn_X10_put ms_X10_put (c_X10_putn (j := 8) (n := m) (by decide) (by show m < 40; omega)) rfl rfl (Nat.le_of_ble_eq_true rfl) (by decide) (by decide) (by decide) (by decide) ?_
    refine z_aload_n hZ (pc := 45) dX10_write_45 rfl ?_
    refine gC_0_1 hZ (pc := 46) fl_X10_19 dX10_write_46 ?_
    refine z_dup hZ (pc := 49) dX10_write_49 rfl ?_
    refine gC_3_2 hZ (pc := 50) fl_X10_146 dX10_write_50 ?_
    refine z_iconst hZ (pc := 53) (v := 1) dX10_write_53 (by decide) ?_
    refine z_iadd hZ (pc := 54) dX10_write_54 ?_
    refine z_top (y := nI (m + 1)) (by rw [hm]; exact nI_1 m) ?_
    refine pC_3_2 hZ (pc := 55) fl_X10_146 dX10_write_55 ?_
    refine z_aload_n hZ (pc := 58) dX10_write_58 rfl ?_
    refine gC_0_1 hZ (pc := 59) fl_X10_19 dX10_write_59 ?_
    refine gC_3_2 hZ (pc := 62) fl_X10_146 dX10_write_62 ?_
    refine zx_i hZ (pc := 65) (by decide) (by decide) dX10_write_65 FitR.int ?_
    exact ⟨hi, by rw [if_pos hl]; exact ⟨rfl, rfl, rfl⟩⟩
  · skip
    have hl : ¬ m < 40 := fun z => c14 (nI_lt (b := 40) z (by omega))
    refine z_aload_n hZ (pc := 17) dX10_write_17 rfl ?_
    refine gC_0_1 hZ (pc := 18) fl_X10_19 dX10_write_18 ?_
    refine z_iconst hZ (pc := 21) (v := 3) dX10_write_21 (by decide) ?_
    refine cV_v hZ (pc := 22) dX10_write_22 lk_X10_115 mn_X6_countRefused mv_X6_countRefused (c_X6_countRefused (w := 3) (by decide)) rc_3 rfl rfl (Nat.le_of_ble_eq_true rfl) (by decide) (by decide) (by decide) (by decide) ?_
    refine z_iconst hZ (pc := 25) (v := (-1)) dX10_write_25 (by decide) ?_
    refine zx_i hZ (pc := 26) (by decide) (by decide) dX10_write_26 FitR.int ?_
    exact ⟨hi, by rw [if_neg hl]; exact ⟨rfl, rfl, rfl⟩⟩
theorem c_X10_clear {l : Launch} {D : va_G} {cA : Nat → ClassId} {o a : Nat → Nat} {v : ZV} {g : ZG}   : MG l D cA (WC o a cA) yX10_clear cX10_clear 2 (some .int) 1 [(.ref (o 0))] v g (PF (va_up v 11 0) g (some (.int (v 11)))) := by
  refine MG.of (by decide) rfl (Nat.le_of_ble_eq_true rfl) (by simp [Value.category]) (fun Z hZ => ?_)
  refine z_aload_n hZ (pc := 0) dX10_clear_0 rfl ?_
  refine gC_0_1 hZ (pc := 1) fl_X10_19 dX10_clear_1 ?_
  refine gC_3_2 hZ (pc := 4) fl_X10_146 dX10_clear_4 ?_
  refine q_istore_n_2_1 hZ (pc := 7) dX10_clear_7 rfl ?_
  refine z_aload_n hZ (pc := 8) dX10_clear_8 rfl ?_
  refine gC_0_1 hZ (pc := 9) fl_X10_19 dX10_clear_9 ?_
  refine z_iconst hZ (pc := 12) (v := 0) dX10_clear_12 (by decide) ?_
  refine pC_3_2 hZ (pc := 13) fl_X10_146 dX10_clear_13 ?_
  refine z_iload_n hZ (pc := 16) dX10_clear_16 rfl ?_
  refine zr_i hZ (pc := 17) dX10_clear_17 FitR.int ?_
  exact ⟨rfl, rfl, rfl⟩
theorem c_X10_register {l : Launch} {D : va_G} {cA : Nat → ClassId} {o a : Nat → Nat} {v : ZV} {g : ZG} {x w : Int32} {n m : Nat} (hm : v 11 = nI m) (h40 : m ≤ 40) (hn : v 9 = nI n) (h2 : n ≤ 200) : MF l D cA o a yX10_register cX10_register 3 (some .int) 8 1 6 [(.ref (o 0)), .int x, .int w] v g (fun v2 g2 r => (∀ j, j ≠ 30 → j ≠ 31 → j ≠ 32 → v2 j = v j) ∧ (∀ j, j ≠ 39 → g2 j = g j) ∧ (inI x 100 && inI w 3) = true ∧ r = some (.int (if w = 0 then nI (chN (cRw (g 8) (T5 g 0) (T5 g 2) x n m)) else if w = 1 then nI (gpN (cRw (g 8) (T5 g 0) (T5 g 2) x n m)) else nI (fb_ct (dayB (T5 g 2) x) n)))) (fun En => En = sNSE ∧ (inI x 100 && inI w 3) = false) := by
  refine MF.of (by decide) rfl (Nat.le_of_ble_eq_true rfl) (by simp [Value.category]) (fun Z hX => ?_)
  have hZ := hX.toZR
  refine z_iload_n hZ (pc := 0) dX10_register_0 rfl ?_
  refine z_if_lt hZ (pc := 1) (tgt := 10) dX10_register_1 rfl (fun c1 => ?_) (fun c1 => ?_)
  · skip
    exact z_nse hX (pc := 10) (n := 2) (txm_247) dX10_register_10 dX10_register_13 (Or.inl ⟨rfl, dX10_register_14⟩) dX10_register_16 dX10_register_19 (by decide) (Nat.le_of_ble_eq_true rfl) (by decide) (by decide) ⟨rfl, rfl, by rw [inI_neg c1, Bool.false_and]⟩
  · skip
    refine z_iload_n hZ (pc := 4) dX10_register_4 rfl ?_
    refine z_bipush hZ (pc := 5) (v := 100) dX10_register_5 (by decide) ?_
    refine z_icmp_lt hZ (pc := 7) (tgt := 20) dX10_register_7 rfl (fun c7 => ?_) (fun c7 => ?_)
    · skip
      have hi : inI x 100 = true := inI_lt (n := 100) (by omega) c1 c7
      refine z_iload_n hZ (pc := 20) dX10_register_20 rfl ?_
      refine z_iconst hZ (pc := 21) (v := 3) dX10_register_21 (by decide) ?_
      refine cSX hX (pc := 22) (mc' := 1) (ms' := 6) dX10_register_22 (List.mem_of_getElem? (i := 804) (by decide +kernel)) mn_X10_needWhat ms_X10_needWhat (c_X10_needWhat (n := 3) (by omega)) rfl rfl (Nat.le_of_ble_eq_true rfl) (by decide) (by decide) (by decide) (by decide) (fun En h => ⟨h.1, by rw [h.2, Bool.and_false]⟩) (fun v2 g2 r h => ?_)
      obtain ⟨e1, e2, rfl, hi2⟩ := h
      subst v2
      subst g2
      refine z_aload_n hZ (pc := 25) dX10_register_25 rfl ?_
      refine gC_0_7 hZ (pc := 26) fl_X10_57 dX10_register_26 ?_
      refine z_aload_n hZ (pc := 29) dX10_register_29 rfl ?_
      refine gC_0_1 hZ (pc := 30) fl_X10_19 dX10_register_30 ?_
      refine z_iload_n hZ (pc := 33) dX10_register_33 rfl ?_
      refine cV hZ (pc := 34) dX10_register_34 lk_X10_281 mn_X3_compare mv_X3_compare (c_X3_compare (n := n) (m := m) hm h40 hn h2) rc_11 rfl rfl (Nat.le_of_ble_eq_true rfl) (by decide) (by decide) (by decide) (by decide) ?_
      intro v2 g2 r h
      obtain ⟨rfl, hv2, hg2, e1, e2, e3⟩ := h
      refine z_iload_n hZ (pc := 37) dX10_register_37 rfl ?_
      refine z_if_ne hZ (pc := 38) (tgt := 49) dX10_register_38 rfl (fun c38 => ?_) (fun c38 => ?_)
      · skip
        refine z_iload_n hZ (pc := 49) dX10_register_49 rfl ?_
        refine z_iconst hZ (pc := 50) (v := 1) dX10_register_50 (by decide) ?_
        refine z_icmp_ne hZ (pc := 51) (tgt := 64) dX10_register_51 rfl (fun c51 => ?_) (fun c51 => ?_)
        · skip
          refine z_aload_n hZ (pc := 64) dX10_register_64 rfl ?_
          refine gC_0_7 hZ (pc := 65) fl_X10_57 dX10_register_65 ?_
          refine gC_11_2 hZ (pc := 68) fl_X10_290 dX10_register_68 ?_
          refine zx_i hZ (pc := 71) (by decide) (by decide) dX10_register_71 FitR.int ?_
          exact ⟨hv2, hg2, by rw [hi, hi2]; rfl, by rw [if_neg c38, if_neg c51, e3]⟩
        · skip
          refine z_aload_n hZ (pc := 54) dX10_register_54 rfl ?_
          refine gC_0_7 hZ (pc := 55) fl_X10_57 dX10_register_55 ?_
          refine gC_11_1 hZ (pc := 58) fl_X10_287 dX10_register_58 ?_
          refine z_goto hZ (pc := 61) (tgt := 71) dX10_register_61 rfl ?_
          refine zx_i hZ (pc := 71) (by decide) (by decide) dX10_register_71 FitR.int ?_
          exact ⟨hv2, hg2, by rw [hi, hi2]; rfl, by rw [if_neg c38, if_pos c51, e2]⟩
      · skip
        refine z_aload_n hZ (pc := 41) dX10_register_41 rfl ?_
        refine gC_0_7 hZ (pc := 42) fl_X10_57 dX10_register_42 ?_
        refine gC_11_0 hZ (pc := 45) fl_X10_284 dX10_register_45 ?_
        refine zx_i hZ (pc := 48) (by decide) (by decide) dX10_register_48 FitR.int ?_
        exact ⟨hv2, hg2, by rw [hi, hi2]; rfl, by rw [if_pos c38, e1]⟩
    · skip
      exact z_nse hX (pc := 10) (n := 2) (txm_247) dX10_register_10 dX10_register_13 (Or.inl ⟨rfl, dX10_register_14⟩) dX10_register_16 dX10_register_19 (by decide) (Nat.le_of_ble_eq_true rfl) (by decide) (by decide) ⟨rfl, rfl, by rw [inI_ge (n := 100) (by omega) c7, Bool.false_and]⟩
theorem c_X10_last {l : Launch} {D : va_G} {cA : Nat → ClassId} {o a : Nat → Nat} {v : ZV} {g : ZG} {x : Int32} {P : Nat} (hP : v 16 = nI P) (hP6 : P ≤ 16) : MF l D cA o a yX10_last cX10_last 2 (some .int) 8 1 6 [(.ref (o 0)), .int x] v g (fun v2 g2 r => v2 = v ∧ (∀ j, j ≠ 40 → g2 j = g j) ∧ inI x P = true ∧ r = some (.int (lastS (g 9) (g 18) x.toNatClampNeg P))) (fun En => En = sNSE ∧ inI x P = false) := by
  refine MF.of (by decide) rfl (Nat.le_of_ble_eq_true rfl) (by simp [Value.category]) (fun Z hX => ?_)
  have hZ := hX.toZR
  refine z_aload_n hZ (pc := 0) dX10_last_0 rfl ?_
  refine z_iload_n hZ (pc := 1) dX10_last_1 rfl ?_
  refine cVX hX (pc := 2) (mc' := 1) (ms' := 6) dX10_last_2 (List.mem_of_getElem? (i := 831) (by decide +kernel)) mn_X10_needPerson mv_X10_needPerson (c_X10_needPerson hP hP6) rc_0 rfl rfl (Nat.le_of_ble_eq_true rfl) (by decide) (by decide) (by decide) (by decide) (fun En h => h) (fun v2 g2 r h => ?_)
  obtain ⟨e1, e2, rfl, hi⟩ := h
  subst v2
  subst g2
  obtain ⟨k, hk, rfl⟩ := inI_t hi (by omega)
  refine z_aload_n hZ (pc := 5) dX10_last_5 rfl ?_
  refine gC_0_8 hZ (pc := 6) fl_X10_64 dX10_last_6 ?_
  refine z_aload_n hZ (pc := 9) dX10_last_9 rfl ?_
  refine gC_0_10 hZ (pc := 10) fl_X10_75 dX10_last_10 ?_
  refine z_aload_n hZ (pc := 13) dX10_last_13 rfl ?_
  refine gC_0_1 hZ (pc := 14) fl_X10_19 dX10_last_14 ?_
  refine gC_3_7 hZ (pc := 17) fl_X10_166 dX10_last_17 ?_
  refine z_iload_n hZ (pc := 20) dX10_last_20 rfl ?_
  refine cV hZ (pc := 21) dX10_last_21 lk_X10_299 mn_X4_lastOf mv_X4_lastOf (c_X4_lastOf (p := k) hP hP6 hk) rc_12 rfl rfl (Nat.le_of_ble_eq_true rfl) (by decide) (by decide) (by decide) (by decide) ?_
  intro v2 g2 r h
  obtain ⟨rfl, hg2, rfl⟩ := h
  refine zx_i hZ (pc := 24) (by decide) (by decide) dX10_last_24 FitR.int ?_
  exact ⟨rfl, hg2, hi, by rw [nI_clamp (by omega)]⟩
theorem c_X10_nobody {l : Launch} {D : va_G} {cA : Nat → ClassId} {o a : Nat → Nat} {v : ZV} {g : ZG} {x : Int32} {P H : Nat} (hP : v 16 = nI P) (hP6 : P ≤ 16) (hH : v 15 = nI H) (h10 : H ≤ 10) : MF l D cA o a yX10_nobody cX10_nobody 2 (some .int) 8 1 6 [(.ref (o 0)), .int x] v g (fun v2 g2 r => v2 = v ∧ g2 = g ∧ inI x H = true ∧ r = some (.int (nobS (g 9) (g 18) x P))) (fun En => En = sNSE ∧ inI x H = false) := by
  refine MF.of (by decide) rfl (Nat.le_of_ble_eq_true rfl) (by simp [Value.category]) (fun Z hX => ?_)
  have hZ := hX.toZR
  refine z_aload_n hZ (pc := 0) dX10_nobody_0 rfl ?_
  refine z_iload_n hZ (pc := 1) dX10_nobody_1 rfl ?_
  refine cVX hX (pc := 2) (mc' := 1) (ms' := 6) dX10_nobody_2 (List.mem_of_getElem? (i := 843) (by decide +kernel)) mn_X10_needHouse mv_X10_needHouse (c_X10_needHouse hH h10) rc_0 rfl rfl (Nat.le_of_ble_eq_true rfl) (by decide) (by decide) (by decide) (by decide) (fun En h => h) (fun v2 g2 r h => ?_)
  obtain ⟨e1, e2, rfl, hi⟩ := h
  subst v2
  subst g2
  refine z_aload_n hZ (pc := 5) dX10_nobody_5 rfl ?_
  refine gC_0_8 hZ (pc := 6) fl_X10_64 dX10_nobody_6 ?_
  refine z_aload_n hZ (pc := 9) dX10_nobody_9 rfl ?_
  refine gC_0_10 hZ (pc := 10) fl_X10_75 dX10_nobody_10 ?_
  refine z_aload_n hZ (pc := 13) dX10_nobody_13 rfl ?_
  refine gC_0_1 hZ (pc := 14) fl_X10_19 dX10_nobody_14 ?_
  refine gC_3_7 hZ (pc := 17) fl_X10_166 dX10_nobody_17 ?_
  refine z_iload_n hZ (pc := 20) dX10_nobody_20 rfl ?_
  refine cV_i hZ (pc := 21) dX10_nobody_21 lk_X10_303 mn_X4_nobodyOf mv_X4_nobodyOf (c_X4_nobodyOf (n := P) hP hP6) rc_12 rfl rfl (Nat.le_of_ble_eq_true rfl) (by decide) (by decide) (by decide) (by decide) ?_
  refine zx_i hZ (pc := 24) (by decide) (by decide) dX10_nobody_24 FitR.int ?_
  exact ⟨rfl, rfl, hi, rfl⟩
