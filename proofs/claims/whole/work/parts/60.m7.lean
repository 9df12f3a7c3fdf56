theorem inI3_no {w : Int32} (h0 : ¬ w = 0) (h1 : ¬ w = 1) (h2 : ¬ w = 2) : inI w 3 = false := by
  cases q : inI w 3
  · rfl
  · obtain ⟨k, hk, rfl⟩ := inI_t q (by omega)
    have : k = 0 ∨ k = 1 ∨ k = 2 := by omega
    rcases this with rfl | rfl | rfl
    · exact absurd rfl h0
    · exact absurd rfl h1
    · exact absurd rfl h2
theorem inI_out {w : Int32} {n : Nat} (h : w.toInt < 0 ∨ (n : Int) < w.toInt) : inI w (n + 1) = false := by
  simp only [inI, Bool.and_eq_false_iff, decide_eq_false_iff_not]
  omega
theorem b01 {x : Int32} (h : x = 0 ∨ x = 1) (hn : ¬ x = 0) : x = 1 := h.resolve_left hn
theorem c_X11_thrown {l : Launch} {D : va_G} {cA : Nat → ClassId} {r : Nat} {a : Nat → Nat} {s0 s1 : Nat → Option Nat} {v : ZV} {g : ZG}   : MG l D cA (WM r a cA s0 s1) yX11_thrown cX11_thrown 1 (some .int) 1 [(.ref r)] v g (PF v g (some (.int (v 2)))) := by
  refine MG.of (by decide) rfl (Nat.le_of_ble_eq_true rfl) (by simp [Value.category]) (fun Z hZ => ?_)
  refine z_aload_n hZ (pc := 0) dX11_thrown_0 rfl ?_
  refine gM_2 hZ (pc := 1) fl_X11_160 dX11_thrown_1 ?_
  refine zr_i hZ (pc := 4) dX11_thrown_4 FitR.int ?_
  exact ⟨rfl, rfl, rfl⟩
theorem c_X11_fault {l : Launch} {D : va_G} {cA : Nat → ClassId} {r : Nat} {a : Nat → Nat} {s0 s1 : Nat → Option Nat} {v : ZV} {g : ZG}   : MG l D cA (WM r a cA s0 s1) yX11_fault cX11_fault 1 (some .int) 1 [(.ref r)] v g (PF (va_up v 2 0) g (some (.int (v 34)))) := by
  refine MG.of (by decide) rfl (Nat.le_of_ble_eq_true rfl) (by simp [Value.category]) (fun Z hZ => ?_)
  refine z_aload_n hZ (pc := 0) dX11_fault_0 rfl ?_
  refine z_iconst hZ (pc := 1) (v := 0) dX11_fault_1 (by decide) ?_
  refine pM_2 hZ (pc := 2) fl_X11_160 dX11_fault_2 ?_
  refine z_aload_n hZ (pc := 5) dX11_fault_5 rfl ?_
  refine gM_34 hZ (pc := 6) fl_X11_98 dX11_fault_6 ?_
  refine zr_i hZ (pc := 9) dX11_fault_9 FitR.int ?_
  exact ⟨rfl, rfl, rfl⟩
theorem c_X11_person {l : Launch} {D : va_G} {cA : Nat → ClassId} {r : Nat} {a : Nat → Nat} {s0 s1 : Nat → Option Nat} {v : ZV} {g : ZG} {x w : Int32} {P : Nat} (hP : g 3 1 = nI P) (hP6 : P ≤ 16) (hhi : ∀ p, p < 32 → g 7 p = 0 ∨ g 7 p = 1) : MG l D cA (WM r a cA s0 s1) yX11_person cX11_person 3 (some .int) 3 [(.ref r), .int x, .int w] v g (PF (va_up v 2 (if (inI x P && inI w 3) = true then 0 else 1)) g (some (.int (if (inI x P && inI w 3) = true then (if w = 0 then g 4 x.toNatClampNeg else if w = 1 then g 5 x.toNatClampNeg else g 7 x.toNatClampNeg) else 0)))) := by
  refine MG.of (by decide) rfl (Nat.le_of_ble_eq_true rfl) (by simp [Value.category]) (fun Z hZ => ?_)
  refine z_aload_n hZ (pc := 0) dX11_person_0 rfl ?_
  refine z_iconst hZ (pc := 1) (v := 0) dX11_person_1 (by decide) ?_
  refine pM_2 hZ (pc := 2) fl_X11_160 dX11_person_2 ?_
  refine z_aload_n hZ (pc := 5) dX11_person_5 rfl ?_
  refine z_iload_n hZ (pc := 6) dX11_person_6 rfl ?_
  refine cV_i hZ (pc := 7) dX11_person_7 lk_X11_312 mn_X11_isPerson mv_X11_isPerson (c_X11_isPerson (n := P) hP (by omega)) rc_M rfl rfl (Nat.le_of_ble_eq_true rfl) (by decide) (by decide) (Nat.zero_le _) (Nat.zero_le _) ?_
  refine z_if_ne hZ (pc := 10) (tgt := 19) dX11_person_10 rfl (fun c10 => ?_) (fun c10 => ?_)
  · skip
    obtain ⟨k, hk, rfl⟩ := inI_t (bI_ne c10) (by omega)
    refine z_iload_n hZ (pc := 19) dX11_person_19 rfl ?_
    refine z_if_ne hZ (pc := 20) (tgt := 32) dX11_person_20 rfl (fun c20 => ?_) (fun c20 => ?_)
    · skip
      refine z_iload_n hZ (pc := 32) dX11_person_32 rfl ?_
      refine z_iconst hZ (pc := 33) (v := 1) dX11_person_33 (by decide) ?_
      refine z_icmp_ne hZ (pc := 34) (tgt := 46) dX11_person_34 rfl (fun c34 => ?_) (fun c34 => ?_)
      · skip
        refine z_iload_n hZ (pc := 46) dX11_person_46 rfl ?_
        refine z_iconst hZ (pc := 47) (v := 2) dX11_person_47 (by decide) ?_
        refine z_icmp_ne hZ (pc := 48) (tgt := 68) dX11_person_48 rfl (fun c48 => ?_) (fun c48 => ?_)
        · skip
          refine z_aload_n hZ (pc := 68) dX11_person_68 rfl ?_
          refine z_iconst hZ (pc := 69) (v := 1) dX11_person_69 (by decide) ?_
          refine cV_i hZ (pc := 70) dX11_person_70 lk_X11_286 mn_X11_fail mv_X11_fail (c_X11_fail) rc_M rfl rfl (Nat.le_of_ble_eq_true rfl) (by decide) (by decide) (Nat.zero_le _) (Nat.zero_le _) ?_
          refine zr_i hZ (pc := 73) dX11_person_73 FitR.int ?_
          exact ⟨by rw [show (inI (nI k) P && inI w 3) = false from by rw [inI3_no c20 c34 c48, Bool.and_false]]; exact up_twice, rfl, by rw [show (inI (nI k) P && inI w 3) = false from by rw [inI3_no c20 c34 c48, Bool.and_false]]; rfl⟩
        · skip
          refine z_aload_n hZ (pc := 51) dX11_person_51 rfl ?_
          refine gM_7 hZ (pc := 52) fl_X11_53 dX11_person_52 ?_
          refine z_iload_n hZ (pc := 55) dX11_person_55 rfl ?_
          refine lMn_7 hZ (pc := 56) dX11_person_56 (show k < 32 by omega) ?_
          refine z_if_eq hZ (pc := 57) (tgt := 64) dX11_person_57 rfl (fun c57 => ?_) (fun c57 => ?_)
          · skip
            refine z_iconst hZ (pc := 64) (v := 0) dX11_person_64 (by decide) ?_
            refine z_goto hZ (pc := 65) (tgt := 73) dX11_person_65 rfl ?_
            refine zr_i hZ (pc := 73) dX11_person_73 FitR.int ?_
            exact ⟨by rw [show (inI (nI k) P && inI w 3) = true from by rw [bI_ne c10, c48]; decide]; rfl, rfl, by rw [show (inI (nI k) P && inI w 3) = true from by rw [bI_ne c10, c48]; decide, if_pos rfl]; rw [if_neg c20, if_neg c34, nI_clamp (by omega)]; exact congrArg (fun z => some (Value.int z)) (show (0 : Int32) = g 7 k from (show g 7 k = 0 from c57).symm)⟩
          · skip
            refine z_iconst hZ (pc := 60) (v := 1) dX11_person_60 (by decide) ?_
            refine z_goto hZ (pc := 61) (tgt := 73) dX11_person_61 rfl ?_
            refine zr_i hZ (pc := 73) dX11_person_73 FitR.int ?_
            exact ⟨by rw [show (inI (nI k) P && inI w 3) = true from by rw [bI_ne c10, c48]; decide]; rfl, rfl, by rw [show (inI (nI k) P && inI w 3) = true from by rw [bI_ne c10, c48]; decide, if_pos rfl]; rw [if_neg c20, if_neg c34, nI_clamp (by omega)]; exact congrArg (fun z => some (Value.int z)) (b01 (hhi k (by omega)) c57).symm⟩
      · skip
        refine z_aload_n hZ (pc := 37) dX11_person_37 rfl ?_
        refine gM_5 hZ (pc := 38) fl_X11_47 dX11_person_38 ?_
        refine z_iload_n hZ (pc := 41) dX11_person_41 rfl ?_
        refine lMn_5 hZ (pc := 42) dX11_person_42 (show k < 32 by omega) ?_
        refine z_goto hZ (pc := 43) (tgt := 73) dX11_person_43 rfl ?_
        refine zr_i hZ (pc := 73) dX11_person_73 FitR.int ?_
        exact ⟨by rw [show (inI (nI k) P && inI w 3) = true from by rw [bI_ne c10, c34]; decide]; rfl, rfl, by rw [show (inI (nI k) P && inI w 3) = true from by rw [bI_ne c10, c34]; decide, if_pos rfl]; rw [if_neg c20, if_pos c34, nI_clamp (by omega)]⟩
    · skip
      refine z_aload_n hZ (pc := 23) dX11_person_23 rfl ?_
      refine gM_4 hZ (pc := 24) fl_X11_44 dX11_person_24 ?_
      refine z_iload_n hZ (pc := 27) dX11_person_27 rfl ?_
      refine lMn_4 hZ (pc := 28) dX11_person_28 (show k < 32 by omega) ?_
      refine z_goto hZ (pc := 29) (tgt := 73) dX11_person_29 rfl ?_
      refine zr_i hZ (pc := 73) dX11_person_73 FitR.int ?_
      exact ⟨by rw [show (inI (nI k) P && inI w 3) = true from by rw [bI_ne c10, c20]; decide]; rfl, rfl, by rw [show (inI (nI k) P && inI w 3) = true from by rw [bI_ne c10, c20]; decide, if_pos rfl]; rw [if_pos c20, nI_clamp (by omega)]⟩
  · skip
    refine z_aload_n hZ (pc := 13) dX11_person_13 rfl ?_
    refine z_iconst hZ (pc := 14) (v := 1) dX11_person_14 (by decide) ?_
    refine cV_i hZ (pc := 15) dX11_person_15 lk_X11_286 mn_X11_fail mv_X11_fail (c_X11_fail) rc_M rfl rfl (Nat.le_of_ble_eq_true rfl) (by decide) (by decide) (Nat.zero_le _) (Nat.zero_le _) ?_
    refine zr_i hZ (pc := 18) dX11_person_18 FitR.int ?_
    exact ⟨by rw [show (inI x P && inI w 3) = false from by rw [bI_eq.mp c10, Bool.false_and]]; exact up_twice, rfl, by rw [show (inI x P && inI w 3) = false from by rw [bI_eq.mp c10, Bool.false_and]]; rfl⟩
theorem c_X11_walk {l : Launch} {D : va_G} {cA : Nat → ClassId} {r : Nat} {a : Nat → Nat} {s0 s1 : Nat → Option Nat} {v : ZV} {g : ZG} {x y : Int32} {H : Nat} (hH : g 3 0 = nI H) (h10 : H ≤ 10) : MG l D cA (WM r a cA s0 s1) yX11_walk cX11_walk 3 (some .int) 3 [(.ref r), .int x, .int y] v g (PF (va_up v 2 (if (inI x H && inI y H) = true then 0 else 1)) g (some (.int (if (inI x H && inI y H) = true then g 6 (10 * x.toNatClampNeg + y.toNatClampNeg) else 0)))) := by
  refine MG.of (by decide) rfl (Nat.le_of_ble_eq_true rfl) (by simp [Value.category]) (fun Z hZ => ?_)
  refine z_aload_n hZ (pc := 0) dX11_walk_0 rfl ?_
  refine z_iconst hZ (pc := 1) (v := 0) dX11_walk_1 (by decide) ?_
  refine pM_2 hZ (pc := 2) fl_X11_160 dX11_walk_2 ?_
  refine z_aload_n hZ (pc := 5) dX11_walk_5 rfl ?_
  refine z_iload_n hZ (pc := 6) dX11_walk_6 rfl ?_
  refine cV_i hZ (pc := 7) dX11_walk_7 lk_X11_315 mn_X11_isHouse mv_X11_isHouse (c_X11_isHouse (n := H) hH (by omega)) rc_M rfl rfl (Nat.le_of_ble_eq_true rfl) (by decide) (by decide) (Nat.zero_le _) (Nat.zero_le _) ?_
  refine z_if_eq hZ (pc := 10) (tgt := 35) dX11_walk_10 rfl (fun c10 => ?_) (fun c10 => ?_)
  · skip
    refine z_aload_n hZ (pc := 35) dX11_walk_35 rfl ?_
    refine z_iconst hZ (pc := 36) (v := 1) dX11_walk_36 (by decide) ?_
    refine cV_i hZ (pc := 37) dX11_walk_37 lk_X11_286 mn_X11_fail mv_X11_fail (c_X11_fail) rc_M rfl rfl (Nat.le_of_ble_eq_true rfl) (by decide) (by decide) (Nat.zero_le _) (Nat.zero_le _) ?_
    refine zr_i hZ (pc := 40) dX11_walk_40 FitR.int ?_
    exact ⟨by rw [show (inI x H && inI y H) = false from by rw [bI_eq.mp c10, Bool.false_and]]; exact up_twice, rfl, by rw [show (inI x H && inI y H) = false from by rw [bI_eq.mp c10, Bool.false_and]]; rfl⟩
  · skip
    refine z_aload_n hZ (pc := 13) dX11_walk_13 rfl ?_
    refine z_iload_n hZ (pc := 14) dX11_walk_14 rfl ?_
    refine cV_i hZ (pc := 15) dX11_walk_15 lk_X11_315 mn_X11_isHouse mv_X11_isHouse (c_X11_isHouse (n := H) hH (by omega)) rc_M rfl rfl (Nat.le_of_ble_eq_true rfl) (by decide) (by decide) (Nat.zero_le _) (Nat.zero_le _) ?_
    refine z_if_eq hZ (pc := 18) (tgt := 35) dX11_walk_18 rfl (fun c18 => ?_) (fun c18 => ?_)
    · skip
      refine z_aload_n hZ (pc := 35) dX11_walk_35 rfl ?_
      refine z_iconst hZ (pc := 36) (v := 1) dX11_walk_36 (by decide) ?_
      refine cV_i hZ (pc := 37) dX11_walk_37 lk_X11_286 mn_X11_fail mv_X11_fail (c_X11_fail) rc_M rfl rfl (Nat.le_of_ble_eq_true rfl) (by decide) (by decide) (Nat.zero_le _) (Nat.zero_le _) ?_
      refine zr_i hZ (pc := 40) dX11_walk_40 FitR.int ?_
      exact ⟨by rw [show (inI x H && inI y H) = false from by rw [bI_eq.mp c18, Bool.and_false]]; exact up_twice, rfl, by rw [show (inI x H && inI y H) = false from by rw [bI_eq.mp c18, Bool.and_false]]; rfl⟩
    · skip
      obtain ⟨k, hk, rfl⟩ := inI_t (bI_ne c10) (by omega)
      obtain ⟨q, hq, rfl⟩ := inI_t (bI_ne c18) (by omega)
      refine z_aload_n hZ (pc := 21) dX11_walk_21 rfl ?_
      refine gM_6 hZ (pc := 22) fl_X11_50 dX11_walk_22 ?_
      refine z_bipush hZ (pc := 25) (v := 10) dX11_walk_25 (by decide) ?_
      refine z_iload_n hZ (pc := 27) dX11_walk_27 rfl ?_
      refine z_imul hZ (pc := 28) dX11_walk_28 ?_
      refine z_iload_n hZ (pc := 29) dX11_walk_29 rfl ?_
      refine z_iadd hZ (pc := 30) dX11_walk_30 ?_
      refine z_top (y := nI (10 * k + q)) (by rw [show (10 : Int32) = nI 10 from rfl, pk_mul, nI_add]) ?_
      refine lMn_6 hZ (pc := 31) dX11_walk_31 (show 10 * k + q < 200 by omega) ?_
      refine z_goto hZ (pc := 32) (tgt := 40) dX11_walk_32 rfl ?_
      refine zr_i hZ (pc := 40) dX11_walk_40 FitR.int ?_
      exact ⟨by rw [show (inI (nI k) H && inI (nI q) H) = true from by rw [bI_ne c10, bI_ne c18]; rfl]; rfl, rfl, by rw [show (inI (nI k) H && inI (nI q) H) = true from by rw [bI_ne c10, bI_ne c18]; rfl, if_pos rfl]; rw [nI_clamp (by omega), nI_clamp (by omega)]⟩
theorem c_X11_move {l : Launch} {D : va_G} {cA : Nat → ClassId} {r : Nat} {a : Nat → Nat} {s0 s1 : Nat → Option Nat} {v : ZV} {g : ZG} {x y : Int32} {P H : Nat} (hP : g 3 1 = nI P) (hP6 : P ≤ 16) (hH : g 3 0 = nI H) (h10 : H ≤ 10) : MG l D cA (WM r a cA s0 s1) yX11_move cX11_move 3 none 3 [(.ref r), .int x, .int y] v g (fun v2 g2 r => v2 = va_up v 2 (if (inI x P && inI y H) = true then 0 else 1) ∧ g2 = (if (inI x P && inI y H) = true then va_up g 4 (upd (g 4) x.toNatClampNeg y) else g) ∧ r = none) := by
  refine MG.of (by decide) rfl (Nat.le_of_ble_eq_true rfl) (by simp [Value.category]) (fun Z hZ => ?_)
  refine z_aload_n hZ (pc := 0) dX11_move_0 rfl ?_
  refine z_iconst hZ (pc := 1) (v := 0) dX11_move_1 (by decide) ?_
  refine pM_2 hZ (pc := 2) fl_X11_160 dX11_move_2 ?_
  refine z_aload_n hZ (pc := 5) dX11_move_5 rfl ?_
  refine z_iload_n hZ (pc := 6) dX11_move_6 rfl ?_
  refine cV_i hZ (pc := 7) dX11_move_7 lk_X11_312 mn_X11_isPerson mv_X11_isPerson (c_X11_isPerson (n := P) hP (by omega)) rc_M rfl rfl (Nat.le_of_ble_eq_true rfl) (by decide) (by decide) (Nat.zero_le _) (Nat.zero_le _) ?_
  refine z_if_eq hZ (pc := 10) (tgt := 21) dX11_move_10 rfl (fun c10 => ?_) (fun c10 => ?_)
  · skip
    refine z_aload_n hZ (pc := 21) dX11_move_21 rfl ?_
    refine z_iconst hZ (pc := 22) (v := 1) dX11_move_22 (by decide) ?_
    refine pM_2 hZ (pc := 23) fl_X11_160 dX11_move_23 ?_
    refine zr_v hZ (pc := 26) dX11_move_26 ?_
    exact ⟨by rw [show (inI x P && inI y H) = false from by rw [bI_eq.mp c10, Bool.false_and]]; exact up_twice, by rw [show (inI x P && inI y H) = false from by rw [bI_eq.mp c10, Bool.false_and]]; rfl, rfl⟩
  · skip
    refine z_aload_n hZ (pc := 13) dX11_move_13 rfl ?_
    refine z_iload_n hZ (pc := 14) dX11_move_14 rfl ?_
    refine cV_i hZ (pc := 15) dX11_move_15 lk_X11_315 mn_X11_isHouse mv_X11_isHouse (c_X11_isHouse (n := H) hH (by omega)) rc_M rfl rfl (Nat.le_of_ble_eq_true rfl) (by decide) (by decide) (Nat.zero_le _) (Nat.zero_le _) ?_
    refine z_if_ne hZ (pc := 18) (tgt := 27) dX11_move_18 rfl (fun c18 => ?_) (fun c18 => ?_)
    · skip
      obtain ⟨k, hk, rfl⟩ := inI_t (bI_ne c10) (by omega)
      refine z_aload_n hZ (pc := 27) dX11_move_27 rfl ?_
      refine gM_4 hZ (pc := 28) fl_X11_44 dX11_move_28 ?_
      refine z_iload_n hZ (pc := 31) dX11_move_31 rfl ?_
      refine z_iload_n hZ (pc := 32) dX11_move_32 rfl ?_
      refine sMn_4 hZ (pc := 33) dX11_move_33 (show k < 32 by omega) ?_
      refine zr_v hZ (pc := 34) dX11_move_34 ?_
      exact ⟨by rw [show (inI (nI k) P && inI y H) = true from by rw [bI_ne c10, bI_ne c18]; rfl]; rfl, by rw [show (inI (nI k) P && inI y H) = true from by rw [bI_ne c10, bI_ne c18]; rfl, if_pos rfl, nI_clamp (by omega)], rfl⟩
    · skip
      refine z_aload_n hZ (pc := 21) dX11_move_21 rfl ?_
      refine z_iconst hZ (pc := 22) (v := 1) dX11_move_22 (by decide) ?_
      refine pM_2 hZ (pc := 23) fl_X11_160 dX11_move_23 ?_
      refine zr_v hZ (pc := 26) dX11_move_26 ?_
      exact ⟨by rw [show (inI x P && inI y H) = false from by rw [bI_eq.mp c18, Bool.and_false]]; exact up_twice, by rw [show (inI x P && inI y H) = false from by rw [bI_eq.mp c18, Bool.and_false]]; rfl, rfl⟩
theorem c_X11_tears {l : Launch} {D : va_G} {cA : Nat → ClassId} {r : Nat} {a : Nat → Nat} {s0 s1 : Nat → Option Nat} {v : ZV} {g : ZG} {x w : Int32} {n : Nat} (hn : v 12 = nI n) (h2 : n ≤ 200) (hco : ∀ t, t < n → g 18 t = 0 ∨ g 18 t = 1) : MG l D cA (WM r a cA s0 s1) yX11_tears cX11_tears 3 (some .int) 3 [(.ref r), .int x, .int w] v g (PF (va_up v 2 (if (inI x n && inI w 6) = true then 0 else 1)) g (some (.int (if (inI x n && inI w 6) = true then g (13 + w.toNatClampNeg) x.toNatClampNeg else 0)))) := by
  refine MG.of (by decide) rfl (Nat.le_of_ble_eq_true rfl) (by simp [Value.category]) (fun Z hZ => ?_)
  refine z_aload_n hZ (pc := 0) dX11_tears_0 rfl ?_
  refine z_iconst hZ (pc := 1) (v := 0) dX11_tears_1 (by decide) ?_
  refine pM_2 hZ (pc := 2) fl_X11_160 dX11_tears_2 ?_
  refine z_iload_n hZ (pc := 5) dX11_tears_5 rfl ?_
  refine z_iconst hZ (pc := 6) (v := 0) dX11_tears_6 (by decide) ?_
  refine z_aload_n hZ (pc := 7) dX11_tears_7 rfl ?_
  refine gM_12 hZ (pc := 8) fl_X11_296 dX11_tears_8 ?_
  refine z_iconst hZ (pc := 11) (v := 1) dX11_tears_11 (by decide) ?_
  refine z_isub hZ (pc := 12) dX11_tears_12 ?_
  refine cS_i hZ (pc := 13) dX11_tears_13 lk_X11_163 mn_X11_isIn ms_X11_isIn (c_X11_isIn) rfl rfl (Nat.le_of_ble_eq_true rfl) (by decide) (by decide) (Nat.zero_le _) (Nat.zero_le _) ?_
  refine z_top (y := bI (inI x n)) (congrArg bI (show inB x 0 (va_up v 2 0 12 - 1) = inI x n by rw [show va_up v 2 0 12 = nI n from hn]; exact inB_inI (by omega))) ?_
  refine z_if_ne hZ (pc := 16) (tgt := 25) dX11_tears_16 rfl (fun c16 => ?_) (fun c16 => ?_)
  · skip
    obtain ⟨k, hk, rfl⟩ := inI_t (bI_ne c16) (by omega)
    refine z_iload_n hZ (pc := 25) dX11_tears_25 rfl ?_
    by_cases s26_0 : w = 0
    · subst s26_0
      refine z_swIn hZ (pc := 26) (off := 38) (tgt := 64) dX11_tears_26 (by decide) (by decide) (by decide) rfl ?_
      refine z_aload_n hZ (pc := 64) dX11_tears_64 rfl ?_
      refine gM_13 hZ (pc := 65) fl_X11_69 dX11_tears_65 ?_
      refine z_iload_n hZ (pc := 68) dX11_tears_68 rfl ?_
      refine lMn_13 hZ (pc := 69) dX11_tears_69 (show k < 200 by omega) ?_
      refine zr_i hZ (pc := 70) dX11_tears_70 FitR.int ?_
      exact ⟨by rw [show (inI (nI k) n && inI 0 6) = true from by rw [bI_ne c16]; decide]; rfl, rfl, by rw [show (inI (nI k) n && inI 0 6) = true from by rw [bI_ne c16]; decide, if_pos rfl]; rw [nI_clamp (n := k) (by omega)]; rfl⟩
    by_cases s26_1 : w = 1
    · subst s26_1
      refine z_swIn hZ (pc := 26) (off := 45) (tgt := 71) dX11_tears_26 (by decide) (by decide) (by decide) rfl ?_
      refine z_aload_n hZ (pc := 71) dX11_tears_71 rfl ?_
      refine gM_14 hZ (pc := 72) fl_X11_72 dX11_tears_72 ?_
      refine z_iload_n hZ (pc := 75) dX11_tears_75 rfl ?_
      refine lMn_14 hZ (pc := 76) dX11_tears_76 (show k < 200 by omega) ?_
      refine zr_i hZ (pc := 77) dX11_tears_77 FitR.int ?_
      exact ⟨by rw [show (inI (nI k) n && inI 1 6) = true from by rw [bI_ne c16]; decide]; rfl, rfl, by rw [show (inI (nI k) n && inI 1 6) = true from by rw [bI_ne c16]; decide, if_pos rfl]; rw [nI_clamp (n := k) (by omega)]; rfl⟩
    by_cases s26_2 : w = 2
    · subst s26_2
      refine z_swIn hZ (pc := 26) (off := 52) (tgt := 78) dX11_tears_26 (by decide) (by decide) (by decide) rfl ?_
      refine z_aload_n hZ (pc := 78) dX11_tears_78 rfl ?_
      refine gM_15 hZ (pc := 79) fl_X11_75 dX11_tears_79 ?_
      refine z_iload_n hZ (pc := 82) dX11_tears_82 rfl ?_
      refine lMn_15 hZ (pc := 83) dX11_tears_83 (show k < 200 by omega) ?_
      refine zr_i hZ (pc := 84) dX11_tears_84 FitR.int ?_
      exact ⟨by rw [show (inI (nI k) n && inI 2 6) = true from by rw [bI_ne c16]; decide]; rfl, rfl, by rw [show (inI (nI k) n && inI 2 6) = true from by rw [bI_ne c16]; decide, if_pos rfl]; rw [nI_clamp (n := k) (by omega)]; rfl⟩
    by_cases s26_3 : w = 3
    · subst s26_3
      refine z_swIn hZ (pc := 26) (off := 59) (tgt := 85) dX11_tears_26 (by decide) (by decide) (by decide) rfl ?_
      refine z_aload_n hZ (pc := 85) dX11_tears_85 rfl ?_
      refine gM_16 hZ (pc := 86) fl_X11_78 dX11_tears_86 ?_
      refine z_iload_n hZ (pc := 89) dX11_tears_89 rfl ?_
      refine lMn_16 hZ (pc := 90) dX11_tears_90 (show k < 200 by omega) ?_
      refine zr_i hZ (pc := 91) dX11_tears_91 FitR.int ?_
      exact ⟨by rw [show (inI (nI k) n && inI 3 6) = true from by rw [bI_ne c16]; decide]; rfl, rfl, by rw [show (inI (nI k) n && inI 3 6) = true from by rw [bI_ne c16]; decide, if_pos rfl]; rw [nI_clamp (n := k) (by omega)]; rfl⟩
    by_cases s26_4 : w = 4
    · subst s26_4
      refine z_swIn hZ (pc := 26) (off := 66) (tgt := 92) dX11_tears_26 (by decide) (by decide) (by decide) rfl ?_
      refine z_aload_n hZ (pc := 92) dX11_tears_92 rfl ?_
      refine gM_17 hZ (pc := 93) fl_X11_80 dX11_tears_93 ?_
      refine z_iload_n hZ (pc := 96) dX11_tears_96 rfl ?_
      refine lMn_17 hZ (pc := 97) dX11_tears_97 (show k < 200 by omega) ?_
      refine zr_i hZ (pc := 98) dX11_tears_98 FitR.int ?_
      exact ⟨by rw [show (inI (nI k) n && inI 4 6) = true from by rw [bI_ne c16]; decide]; rfl, rfl, by rw [show (inI (nI k) n && inI 4 6) = true from by rw [bI_ne c16]; decide, if_pos rfl]; rw [nI_clamp (n := k) (by omega)]; rfl⟩
    by_cases s26_5 : w = 5
    · subst s26_5
      refine z_swIn hZ (pc := 26) (off := 73) (tgt := 99) dX11_tears_26 (by decide) (by decide) (by decide) rfl ?_
      refine z_aload_n hZ (pc := 99) dX11_tears_99 rfl ?_
      refine gM_18 hZ (pc := 100) fl_X11_83 dX11_tears_100 ?_
      refine z_iload_n hZ (pc := 103) dX11_tears_103 rfl ?_
      refine lMn_18 hZ (pc := 104) dX11_tears_104 (show k < 200 by omega) ?_
      refine z_if_eq hZ (pc := 105) (tgt := 112) dX11_tears_105 rfl (fun c105 => ?_) (fun c105 => ?_)
      · skip
        refine z_iconst hZ (pc := 112) (v := 0) dX11_tears_112 (by decide) ?_
        refine zr_i hZ (pc := 113) dX11_tears_113 FitR.int ?_
        exact ⟨by rw [show (inI (nI k) n && inI 5 6) = true from by rw [bI_ne c16]; decide]; rfl, rfl, by rw [show (inI (nI k) n && inI 5 6) = true from by rw [bI_ne c16]; decide, if_pos rfl]; rw [nI_clamp (n := k) (by omega)]; exact congrArg (fun z => some (Value.int z)) (show (0 : Int32) = g 18 k from (show g 18 k = 0 from c105).symm)⟩
      · skip
        refine z_iconst hZ (pc := 108) (v := 1) dX11_tears_108 (by decide) ?_
        refine z_goto hZ (pc := 109) (tgt := 113) dX11_tears_109 rfl ?_
        refine zr_i hZ (pc := 113) dX11_tears_113 FitR.int ?_
        exact ⟨by rw [show (inI (nI k) n && inI 5 6) = true from by rw [bI_ne c16]; decide]; rfl, rfl, by rw [show (inI (nI k) n && inI 5 6) = true from by rw [bI_ne c16]; decide, if_pos rfl]; rw [nI_clamp (n := k) (by omega)]; exact congrArg (fun z => some (Value.int z)) (b01 (hco k hk) c105).symm⟩
    have hout26 : w.toInt < 0 ∨ 5 < w.toInt := by
      have q0 := lv_neT s26_0 (a := 0) (by decide)
      have q1 := lv_neT s26_1 (a := 1) (by decide)
      have q2 := lv_neT s26_2 (a := 2) (by decide)
      have q3 := lv_neT s26_3 (a := 3) (by decide)
      have q4 := lv_neT s26_4 (a := 4) (by decide)
      have q5 := lv_neT s26_5 (a := 5) (by decide)
      omega
    refine z_swOut hZ (pc := 26) (tgt := 114) dX11_tears_26 hout26 rfl ?_
    refine z_aload_n hZ (pc := 114) dX11_tears_114 rfl ?_
    refine z_iconst hZ (pc := 115) (v := 1) dX11_tears_115 (by decide) ?_
    refine cV_i hZ (pc := 116) dX11_tears_116 lk_X11_286 mn_X11_fail mv_X11_fail (c_X11_fail) rc_M rfl rfl (Nat.le_of_ble_eq_true rfl) (by decide) (by decide) (Nat.zero_le _) (Nat.zero_le _) ?_
    refine zr_i hZ (pc := 119) dX11_tears_119 FitR.int ?_
    exact ⟨by rw [show (inI (nI k) n && inI w 6) = false from by rw [inI_out (n := 5) hout26, Bool.and_false]]; exact up_twice, rfl, by rw [show (inI (nI k) n && inI w 6) = false from by rw [inI_out (n := 5) hout26, Bool.and_false]]; rfl⟩
  · skip
    refine z_aload_n hZ (pc := 19) dX11_tears_19 rfl ?_
    refine z_iconst hZ (pc := 20) (v := 1) dX11_tears_20 (by decide) ?_
    refine cV_i hZ (pc := 21) dX11_tears_21 lk_X11_286 mn_X11_fail mv_X11_fail (c_X11_fail) rc_M rfl rfl (Nat.le_of_ble_eq_true rfl) (by decide) (by decide) (Nat.zero_le _) (Nat.zero_le _) ?_
    refine zr_i hZ (pc := 24) dX11_tears_24 FitR.int ?_
    exact ⟨by rw [show (inI x n && inI w 6) = false from by rw [bI_eq.mp c16, Bool.false_and]]; exact up_twice, rfl, by rw [show (inI x n && inI w 6) = false from by rw [bI_eq.mp c16, Bool.false_and]]; rfl⟩
theorem c_X11_name {l : Launch} {D : va_G} {cA : Nat → ClassId} {r : Nat} {a : Nat → Nat} {s0 s1 : Nat → Option Nat} {v : ZV} {g : ZG} {x y : Int32} {n H : Nat} (hn : v 12 = nI n) (h2 : n ≤ 200) (hco : ∀ t, t < n → g 18 t = 0 ∨ g 18 t = 1) (hH : g 3 0 = nI H) (h10 : H ≤ 10) : MG l D cA (WM r a cA s0 s1) yX11_name cX11_name 3 (some .int) 3 [(.ref r), .int x, .int y] v g (PF (va_up v 2 (if (inI x H && inI y 2400) = true then 0 else 1)) g (some (.int (if (inI x H && inI y 2400) = true then nm2 (g 13) (cbS (g 18) (g 14) (g 15) x y n) else 0)))) := by
  refine MG.of (by decide) rfl (Nat.le_of_ble_eq_true rfl) (by simp [Value.category]) (fun Z hZ => ?_)
  refine z_aload_n hZ (pc := 0) dX11_name_0 rfl ?_
  refine z_iconst hZ (pc := 1) (v := 0) dX11_name_1 (by decide) ?_
  refine pM_2 hZ (pc := 2) fl_X11_160 dX11_name_2 ?_
  refine z_aload_n hZ (pc := 5) dX11_name_5 rfl ?_
  refine z_iload_n hZ (pc := 6) dX11_name_6 rfl ?_
  refine cV_i hZ (pc := 7) dX11_name_7 lk_X11_315 mn_X11_isHouse mv_X11_isHouse (c_X11_isHouse (n := H) hH (by omega)) rc_M rfl rfl (Nat.le_of_ble_eq_true rfl) (by decide) (by decide) (Nat.zero_le _) (Nat.zero_le _) ?_
  refine z_if_eq hZ (pc := 10) (tgt := 29) dX11_name_10 rfl (fun c10 => ?_) (fun c10 => ?_)
  · skip
    refine z_aload_n hZ (pc := 29) dX11_name_29 rfl ?_
    refine z_iconst hZ (pc := 30) (v := 1) dX11_name_30 (by decide) ?_
    refine cV_i hZ (pc := 31) dX11_name_31 lk_X11_286 mn_X11_fail mv_X11_fail (c_X11_fail) rc_M rfl rfl (Nat.le_of_ble_eq_true rfl) (by decide) (by decide) (Nat.zero_le _) (Nat.zero_le _) ?_
    refine zr_i hZ (pc := 34) dX11_name_34 FitR.int ?_
    exact ⟨by rw [show (inI x H && inI y 2400) = false from by rw [bI_eq.mp c10, Bool.false_and]]; exact up_twice, rfl, by rw [show (inI x H && inI y 2400) = false from by rw [bI_eq.mp c10, Bool.false_and]]; rfl⟩
  · skip
    refine z_iload_n hZ (pc := 13) dX11_name_13 rfl ?_
    refine cS_i hZ (pc := 14) dX11_name_14 lk_X11_338 mn_X11_isHour ms_X11_isHour (c_X11_isHour) rfl rfl (Nat.le_of_ble_eq_true rfl) (by decide) (by decide) (Nat.zero_le _) (Nat.zero_le _) ?_
    refine z_if_eq hZ (pc := 17) (tgt := 29) dX11_name_17 rfl (fun c17 => ?_) (fun c17 => ?_)
    · skip
      refine z_aload_n hZ (pc := 29) dX11_name_29 rfl ?_
      refine z_iconst hZ (pc := 30) (v := 1) dX11_name_30 (by decide) ?_
      refine cV_i hZ (pc := 31) dX11_name_31 lk_X11_286 mn_X11_fail mv_X11_fail (c_X11_fail) rc_M rfl rfl (Nat.le_of_ble_eq_true rfl) (by decide) (by decide) (Nat.zero_le _) (Nat.zero_le _) ?_
      refine zr_i hZ (pc := 34) dX11_name_34 FitR.int ?_
      exact ⟨by rw [show (inI x H && inI y 2400) = false from by rw [bI_eq.mp c17, Bool.and_false]]; exact up_twice, rfl, by rw [show (inI x H && inI y 2400) = false from by rw [bI_eq.mp c17, Bool.and_false]]; rfl⟩
    · skip
      refine z_aload_n hZ (pc := 20) dX11_name_20 rfl ?_
      refine z_iload_n hZ (pc := 21) dX11_name_21 rfl ?_
      refine z_iload_n hZ (pc := 22) dX11_name_22 rfl ?_
      refine cV_i hZ (pc := 23) dX11_name_23 lk_X11_341 mn_X11_nameOf mv_X11_nameOf (c_X11_nameOf (n := n) hn h2 hco) rc_M rfl rfl (Nat.le_of_ble_eq_true rfl) (by decide) (by decide) (Nat.zero_le _) (Nat.zero_le _) ?_
      refine z_goto hZ (pc := 26) (tgt := 34) dX11_name_26 rfl ?_
      refine zr_i hZ (pc := 34) dX11_name_34 FitR.int ?_
      exact ⟨by rw [show (inI x H && inI y 2400) = true from by rw [bI_ne c10, bI_ne c17]; rfl]; rfl, rfl, by rw [show (inI x H && inI y 2400) = true from by rw [bI_ne c10, bI_ne c17]; rfl, if_pos rfl]; skip⟩
theorem c_X11_houses {l : Launch} {D : va_G} {cA : Nat → ClassId} {r : Nat} {a : Nat → Nat} {s0 s1 : Nat → Option Nat} {v : ZV} {g : ZG} {x y : Int32} {n P H : Nat} (hn : v 12 = nI n) (h2 : n ≤ 200) (hco : ∀ t, t < n → g 18 t = 0 ∨ g 18 t = 1) (hH : g 3 0 = nI H) (h10 : H ≤ 10) (hP : g 3 1 = nI P) (hP6 : P ≤ 16) : MG l D cA (WM r a cA s0 s1) yX11_houses cX11_houses 3 (some .int) 4 [(.ref r), .int x, .int y] v g (PF (va_up v 2 (if (inI x P && inI y 2400) = true then 0 else 1)) g (some (.int (if (inI x P && inI y 2400) = true then nI (hsT (g 13) (g 18) (g 14) (g 15) n x y H) else 0)))) := by
  refine MG.of (by decide) rfl (Nat.le_of_ble_eq_true rfl) (by simp [Value.category]) (fun Z hZ => ?_)
  refine z_aload_n hZ (pc := 0) dX11_houses_0 rfl ?_
  refine z_iconst hZ (pc := 1) (v := 0) dX11_houses_1 (by decide) ?_
  refine pM_2 hZ (pc := 2) fl_X11_160 dX11_houses_2 ?_
  refine z_aload_n hZ (pc := 5) dX11_houses_5 rfl ?_
  refine z_iload_n hZ (pc := 6) dX11_houses_6 rfl ?_
  refine cV_i hZ (pc := 7) dX11_houses_7 lk_X11_312 mn_X11_isPerson mv_X11_isPerson (c_X11_isPerson (n := P) hP (by omega)) rc_M rfl rfl (Nat.le_of_ble_eq_true rfl) (by decide) (by decide) (Nat.zero_le _) (Nat.zero_le _) ?_
  refine z_if_eq hZ (pc := 10) (tgt := 29) dX11_houses_10 rfl (fun c10 => ?_) (fun c10 => ?_)
  · skip
    refine z_aload_n hZ (pc := 29) dX11_houses_29 rfl ?_
    refine z_iconst hZ (pc := 30) (v := 1) dX11_houses_30 (by decide) ?_
    refine cV_i hZ (pc := 31) dX11_houses_31 lk_X11_286 mn_X11_fail mv_X11_fail (c_X11_fail) rc_M rfl rfl (Nat.le_of_ble_eq_true rfl) (by decide) (by decide) (Nat.zero_le _) (Nat.zero_le _) ?_
    refine zr_i hZ (pc := 34) dX11_houses_34 FitR.int ?_
    exact ⟨by rw [show (inI x P && inI y 2400) = false from by rw [bI_eq.mp c10, Bool.false_and]]; exact up_twice, rfl, by rw [show (inI x P && inI y 2400) = false from by rw [bI_eq.mp c10, Bool.false_and]]; rfl⟩
  · skip
    refine z_iload_n hZ (pc := 13) dX11_houses_13 rfl ?_
    refine cS_i hZ (pc := 14) dX11_houses_14 lk_X11_338 mn_X11_isHour ms_X11_isHour (c_X11_isHour) rfl rfl (Nat.le_of_ble_eq_true rfl) (by decide) (by decide) (Nat.zero_le _) (Nat.zero_le _) ?_
    refine z_if_eq hZ (pc := 17) (tgt := 29) dX11_houses_17 rfl (fun c17 => ?_) (fun c17 => ?_)
    · skip
      refine z_aload_n hZ (pc := 29) dX11_houses_29 rfl ?_
      refine z_iconst hZ (pc := 30) (v := 1) dX11_houses_30 (by decide) ?_
      refine cV_i hZ (pc := 31) dX11_houses_31 lk_X11_286 mn_X11_fail mv_X11_fail (c_X11_fail) rc_M rfl rfl (Nat.le_of_ble_eq_true rfl) (by decide) (by decide) (Nat.zero_le _) (Nat.zero_le _) ?_
      refine zr_i hZ (pc := 34) dX11_houses_34 FitR.int ?_
      exact ⟨by rw [show (inI x P && inI y 2400) = false from by rw [bI_eq.mp c17, Bool.and_false]]; exact up_twice, rfl, by rw [show (inI x P && inI y 2400) = false from by rw [bI_eq.mp c17, Bool.and_false]]; rfl⟩
    · skip
      refine z_aload_n hZ (pc := 20) dX11_houses_20 rfl ?_
      refine z_iload_n hZ (pc := 21) dX11_houses_21 rfl ?_
      refine z_iload_n hZ (pc := 22) dX11_houses_22 rfl ?_
      refine cV_i hZ (pc := 23) dX11_houses_23 lk_X11_344 mn_X11_housesOf mv_X11_housesOf (c_X11_housesOf (n := n) (H := H) hn h2 hco hH h10) rc_M rfl rfl (Nat.le_of_ble_eq_true rfl) (by decide) (by decide) (Nat.zero_le _) (Nat.zero_le _) ?_
      refine z_goto hZ (pc := 26) (tgt := 34) dX11_houses_26 rfl ?_
      refine zr_i hZ (pc := 34) dX11_houses_34 FitR.int ?_
      exact ⟨by rw [show (inI x P && inI y 2400) = true from by rw [bI_ne c10, bI_ne c17]; rfl]; rfl, rfl, by rw [show (inI x P && inI y 2400) = true from by rw [bI_ne c10, bI_ne c17]; rfl, if_pos rfl]; skip⟩
theorem c_X11_clear {l : Launch} {D : va_G} {cA : Nat → ClassId} {r : Nat} {a : Nat → Nat} {s0 s1 : Nat → Option Nat} {v : ZV} {g : ZG}   : MG l D cA (WM r a cA s0 s1) yX11_clear cX11_clear 2 (some .int) 1 [(.ref r)] v g (PF (va_up (va_up v 2 0) 20 0) g (some (.int (v 20)))) := by
  refine MG.of (by decide) rfl (Nat.le_of_ble_eq_true rfl) (by simp [Value.category]) (fun Z hZ => ?_)
  refine z_aload_n hZ (pc := 0) dX11_clear_0 rfl ?_
  refine z_iconst hZ (pc := 1) (v := 0) dX11_clear_1 (by decide) ?_
  refine pM_2 hZ (pc := 2) fl_X11_160 dX11_clear_2 ?_
  refine z_aload_n hZ (pc := 5) dX11_clear_5 rfl ?_
  refine gM_20 hZ (pc := 6) fl_X11_302 dX11_clear_6 ?_
  refine q_istore_n_2_1 hZ (pc := 9) dX11_clear_9 rfl ?_
  refine z_aload_n hZ (pc := 10) dX11_clear_10 rfl ?_
  refine z_iconst hZ (pc := 11) (v := 0) dX11_clear_11 (by decide) ?_
  refine pM_20 hZ (pc := 12) fl_X11_302 dX11_clear_12 ?_
  refine z_iload_n hZ (pc := 15) dX11_clear_15 rfl ?_
  refine zr_i hZ (pc := 16) dX11_clear_16 FitR.int ?_
  exact ⟨rfl, rfl, rfl⟩
theorem c_X11_nobody {l : Launch} {D : va_G} {cA : Nat → ClassId} {r : Nat} {a : Nat → Nat} {s0 s1 : Nat → Option Nat} {v : ZV} {g : ZG} {x : Int32} {P H : Nat} (hP : g 3 1 = nI P) (hP6 : P ≤ 16) (hH : g 3 0 = nI H) (h10 : H ≤ 10) : MG l D cA (WM r a cA s0 s1) yX11_nobody cX11_nobody 2 (some .int) 3 [(.ref r), .int x] v g (PF (va_up v 2 (if (inI x H) = true then 0 else 1)) g (some (.int (if (inI x H) = true then nobS (g 4) (g 5) x P else 0)))) := by
  refine MG.of (by decide) rfl (Nat.le_of_ble_eq_true rfl) (by simp [Value.category]) (fun Z hZ => ?_)
  refine z_aload_n hZ (pc := 0) dX11_nobody_0 rfl ?_
  refine z_iconst hZ (pc := 1) (v := 0) dX11_nobody_1 (by decide) ?_
  refine pM_2 hZ (pc := 2) fl_X11_160 dX11_nobody_2 ?_
  refine z_aload_n hZ (pc := 5) dX11_nobody_5 rfl ?_
  refine z_iload_n hZ (pc := 6) dX11_nobody_6 rfl ?_
  refine cV_i hZ (pc := 7) dX11_nobody_7 lk_X11_315 mn_X11_isHouse mv_X11_isHouse (c_X11_isHouse (n := H) hH (by omega)) rc_M rfl rfl (Nat.le_of_ble_eq_true rfl) (by decide) (by decide) (Nat.zero_le _) (Nat.zero_le _) ?_
  refine z_if_eq hZ (pc := 10) (tgt := 21) dX11_nobody_10 rfl (fun c10 => ?_) (fun c10 => ?_)
  · skip
    refine z_aload_n hZ (pc := 21) dX11_nobody_21 rfl ?_
    refine z_iconst hZ (pc := 22) (v := 1) dX11_nobody_22 (by decide) ?_
    refine cV_i hZ (pc := 23) dX11_nobody_23 lk_X11_286 mn_X11_fail mv_X11_fail (c_X11_fail) rc_M rfl rfl (Nat.le_of_ble_eq_true rfl) (by decide) (by decide) (Nat.zero_le _) (Nat.zero_le _) ?_
    refine zr_i hZ (pc := 26) dX11_nobody_26 FitR.int ?_
    exact ⟨by rw [show (inI x H) = false from bI_eq.mp c10]; exact up_twice, rfl, by rw [show (inI x H) = false from bI_eq.mp c10]; rfl⟩
  · skip
    refine z_aload_n hZ (pc := 13) dX11_nobody_13 rfl ?_
    refine z_iload_n hZ (pc := 14) dX11_nobody_14 rfl ?_
    refine cV_i hZ (pc := 15) dX11_nobody_15 lk_X11_403 mn_X11_nobodyOf mv_X11_nobodyOf (c_X11_nobodyOf (n := P) hP hP6) rc_M rfl rfl (Nat.le_of_ble_eq_true rfl) (by decide) (by decide) (Nat.zero_le _) (Nat.zero_le _) ?_
    refine z_goto hZ (pc := 18) (tgt := 26) dX11_nobody_18 rfl ?_
    refine zr_i hZ (pc := 26) dX11_nobody_26 FitR.int ?_
    exact ⟨by rw [show (inI x H) = true from bI_ne c10]; rfl, rfl, by rw [show (inI x H) = true from bI_ne c10, if_pos rfl]; skip⟩
