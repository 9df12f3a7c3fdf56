theorem c_X11_behind {l : Launch} {D : va_G} {cA : Nat → ClassId} {r : Nat} {a : Nat → Nat} {s0 s1 : Nat → Option Nat} {v : ZV} {g : ZG} {x y d : Int32} {n P H : Nat} (hn : v 12 = nI n) (h2 : n ≤ 200) (hco : ∀ t, t < n → g 18 t = 0 ∨ g 18 t = 1) (hH : g 3 0 = nI H) (h10 : H ≤ 10) (hP : g 3 1 = nI P) (hP6 : P ≤ 16) : MG l D cA (WM r a cA s0 s1) yX11_behind cX11_behind 11 (some .int) 4 [(.ref r), .int x, .int y, .int d] v g (fun v2 g2 r => v2 = va_up v 2 (if (inI x H && (decide (y = -1) || inI y P)) = true then (if inB d 0 100 = true then 0 else 2) else 1) ∧ (∀ j, j ≠ 50 → g2 j = g j) ∧ r = some (.int (if (inI x H && (decide (y = -1) || inI y P)) = true ∧ inB d 0 100 = true then (bhI (nobS (g 4) (g 5) x P).toInt64 (gainV (g 4) (g 5) P x y).toInt64 (if (nm2 (g 13) (cbS (g 18) (g 14) (g 15) x (if n = 0 then 0 else g 15 (n - 1)) n)) = y then 1000000 else 0) d.toNatClampNeg).toInt32 else 0))) := by
  refine MG.of (by decide) rfl (Nat.le_of_ble_eq_true rfl) (by simp [Value.category]) (fun Z hZ => ?_)
  refine z_aload_n hZ (pc := 0) dX11_behind_0 rfl ?_
  refine z_iconst hZ (pc := 1) (v := 0) dX11_behind_1 (by decide) ?_
  refine pM_2 hZ (pc := 2) fl_X11_160 dX11_behind_2 ?_
  refine z_aload_n hZ (pc := 5) dX11_behind_5 rfl ?_
  refine z_iload_n hZ (pc := 6) dX11_behind_6 rfl ?_
  refine cV_i hZ (pc := 7) dX11_behind_7 lk_X11_315 mn_X11_isHouse mv_X11_isHouse (c_X11_isHouse (n := H) hH (by omega)) rc_M rfl rfl (Nat.le_of_ble_eq_true rfl) (by decide) (by decide) (Nat.zero_le _) (Nat.zero_le _) ?_
  refine z_if_eq hZ (pc := 10) (tgt := 26) dX11_behind_10 rfl (fun c10 => ?_) (fun c10 => ?_)
  · skip
    refine z_aload_n hZ (pc := 26) dX11_behind_26 rfl ?_
    refine z_iconst hZ (pc := 27) (v := 1) dX11_behind_27 (by decide) ?_
    refine cV_i hZ (pc := 28) dX11_behind_28 lk_X11_286 mn_X11_fail mv_X11_fail (c_X11_fail) rc_M rfl rfl (Nat.le_of_ble_eq_true rfl) (by decide) (by decide) (Nat.zero_le _) (Nat.zero_le _) ?_
    refine zr_i hZ (pc := 31) dX11_behind_31 FitR.int ?_
    have hno : (inI x H && (decide (y = -1) || inI y P)) = false := by rw [bI_eq.mp c10, Bool.false_and]
    exact ⟨by rw [if_neg (by rw [hno]; decide)]; exact up_twice, fun _ _ => rfl, by rw [if_neg (fun z => by rw [hno] at z; cases z.1)]⟩
  · skip
    refine z_iload_n hZ (pc := 13) dX11_behind_13 rfl ?_
    refine z_iconst hZ (pc := 14) (v := (-1)) dX11_behind_14 (by decide) ?_
    refine z_icmp_eq hZ (pc := 15) (tgt := 32) dX11_behind_15 rfl (fun c15 => ?_) (fun c15 => ?_)
    · skip
      have hok : (inI x H && (decide (y = -1) || inI y P)) = true := by rw [bI_ne c10, decide_eq_true c15]; rfl
      refine z_iload_n hZ (pc := 32) dX11_behind_32 rfl ?_
      refine z_iconst hZ (pc := 33) (v := 0) dX11_behind_33 (by decide) ?_
      refine z_bipush hZ (pc := 34) (v := 100) dX11_behind_34 (by decide) ?_
      refine cS_i hZ (pc := 36) dX11_behind_36 lk_X11_163 mn_X11_isIn ms_X11_isIn (c_X11_isIn) rfl rfl (Nat.le_of_ble_eq_true rfl) (by decide) (by decide) (Nat.zero_le _) (Nat.zero_le _) ?_
      refine z_if_ne hZ (pc := 39) (tgt := 48) dX11_behind_39 rfl (fun c39 => ?_) (fun c39 => ?_)
      · skip
        have hok2 := bI_ne c39
        obtain ⟨dn, hdn, rfl⟩ : ∃ dn, dn < 2 ^ 31 ∧ d = nI dn := by
          refine nI_of (fun q => ?_)
          simp only [inB, Bool.and_eq_true, decide_eq_true_eq] at hok2
          exact Int32.not_lt.mpr hok2.1 q
        obtain ⟨c0, hc0⟩ : ∃ c0 : Int64, c0 = (if (nm2 (g 13) (cbS (g 18) (g 14) (g 15) x (if n = 0 then 0 else g 15 (n - 1)) n)) = y then 1000000 else 0) := ⟨_, rfl⟩
        refine z_aload_n hZ (pc := 48) dX11_behind_48 rfl ?_
        refine z_iload_n hZ (pc := 49) dX11_behind_49 rfl ?_
        refine z_aload_n hZ (pc := 50) dX11_behind_50 rfl ?_
        refine cV_i hZ (pc := 51) dX11_behind_51 lk_X11_309 mn_X11_now mv_X11_now (c_X11_now (n := n) hn h2) rc_M rfl rfl (Nat.le_of_ble_eq_true rfl) (by decide) (by decide) (Nat.zero_le _) (Nat.zero_le _) ?_
        refine cV_i hZ (pc := 54) dX11_behind_54 lk_X11_341 mn_X11_nameOf mv_X11_nameOf (c_X11_nameOf (n := n) hn h2 hco) rc_M rfl rfl (Nat.le_of_ble_eq_true rfl) (by decide) (by decide) (Nat.zero_le _) (Nat.zero_le _) ?_
        refine z_iload_n hZ (pc := 57) dX11_behind_57 rfl ?_
        refine z_icmp_ne hZ (pc := 58) (tgt := 67) dX11_behind_58 rfl (fun c58 => ?_) (fun c58 => ?_)
        · skip
          refine z_lconst hZ (pc := 67) (v := 0) dX11_behind_67 rfl ?_
          refine z_st (st' := [Value.long c0]) ?_ (by rw [hc0, if_neg c58])
          refine z_lstore hZ (pc := 68) (j := 4) dX11_behind_68 (by decide) rfl (Nat.le_of_ble_eq_true rfl) rfl ?_
          refine z_aload_n hZ (pc := 70) dX11_behind_70 rfl ?_
          refine z_iload_n hZ (pc := 71) dX11_behind_71 rfl ?_
          refine cV_i hZ (pc := 72) dX11_behind_72 lk_X11_403 mn_X11_nobodyOf mv_X11_nobodyOf (c_X11_nobodyOf (n := P) hP hP6) rc_M rfl rfl (Nat.le_of_ble_eq_true rfl) (by decide) (by decide) (Nat.zero_le _) (Nat.zero_le _) ?_
          refine z_i2l hZ (pc := 75) dX11_behind_75 ?_
          refine z_lstore hZ (pc := 76) (j := 6) dX11_behind_76 (by decide) rfl (Nat.le_of_ble_eq_true rfl) rfl ?_
          refine z_iload_n hZ (pc := 78) dX11_behind_78 rfl ?_
          refine z_iconst hZ (pc := 79) (v := (-1)) dX11_behind_79 (by decide) ?_
          refine z_icmp_eq hZ (pc := 80) (tgt := 102) dX11_behind_80 rfl (fun c80 => ?_) (fun c80 => ?_)
          · skip
            skip
            refine z_lconst hZ (pc := 102) (v := 0) dX11_behind_102 rfl ?_
            obtain ⟨G, hG, hGe⟩ : ∃ G : ZG, G = g ∧ ∀ j, j ≠ 50 → G j = g j := ⟨_, rfl, fun _ _ => rfl⟩
            rw [← hG]
            obtain ⟨gn, hgn⟩ : ∃ gn, gn = (gainV (g 4) (g 5) P x y) := ⟨_, rfl⟩
            have hgv : gn = 0 := by rw [hgn, gainV, if_pos c15]
            refine z_st (st' := [Value.long gn.toInt64]) ?_ (by rw [hgv]; rfl)
            refine z_lstore hZ (pc := 103) (j := 8) dX11_behind_103 (by decide) rfl (Nat.le_of_ble_eq_true rfl) rfl ?_
            refine z_iconst hZ (pc := 105) (v := 0) dX11_behind_105 (by decide) ?_
            refine q_istore_11_10 hZ (pc := 106) dX11_behind_106 rfl ?_
            have lp108 : ∀ (f i : Nat), i ≤ dn → dn - i < f → Z 0 0 (WM r a cA s0 s1 (va_up v 2 0) G) [some (.ref r), some (.int x), some (.int y), some (.int (nI dn)), some (.long (bhI (nobS (g 4) (g 5) x P).toInt64 gn.toInt64 c0 i)), none, some (.long (nobS (g 4) (g 5) x P).toInt64), none, some (.long gn.toInt64), none, some (.int (nI i))] [] 108 := by
              intro f
              induction f with
              | zero => intro i _ hf; exact absurd hf (Nat.not_lt_zero _)
              | succ f ih108 =>
                intro i hid hf
                refine z_iload hZ (pc := 108) dX11_behind_108 rfl ?_
                refine z_iload_n hZ (pc := 110) dX11_behind_110 rfl ?_
                refine z_icmp_ge hZ (pc := 111) (tgt := 134) dX11_behind_111 rfl (fun c111 => ?_) (fun c111 => ?_)
                · skip
                  have ei : i = dn := lp_ge rfl hdn hid c111
                  subst ei
                  refine z_lload hZ (pc := 134) dX11_behind_134 rfl ?_
                  refine z_l2i hZ (pc := 136) dX11_behind_136 ?_
                  refine zr_i hZ (pc := 137) dX11_behind_137 FitR.int ?_
                  exact ⟨by rw [if_pos hok, if_pos hok2], hGe, by rw [if_pos ⟨hok, hok2⟩, nI_clamp (n := i) hdn, ← hgn, ← hc0]⟩
                · skip
                  have hl : i < dn := lp_lt rfl hdn hid c111
                  refine z_lload hZ (pc := 114) dX11_behind_114 rfl ?_
                  refine z_lload hZ (pc := 116) dX11_behind_116 rfl ?_
                  refine z_lmul hZ (pc := 118) dX11_behind_118 ?_
                  refine z_ldc2 hZ (pc := 119) (v := 1000000) dX11_behind_119 (List.mem_of_getElem? (i := 1676) (by decide +kernel)) ?_
                  refine z_ldiv hZ (pc := 122) dX11_behind_122 (by decide) ?_
                  refine z_lload hZ (pc := 123) dX11_behind_123 rfl ?_
                  refine z_ladd hZ (pc := 125) dX11_behind_125 ?_
                  refine z_lstore hZ (pc := 126) (j := 4) dX11_behind_126 (by decide) rfl (Nat.le_of_ble_eq_true rfl) rfl ?_
                  refine q_iinc_11_10 hZ (pc := 128) dX11_behind_128 rfl ?_
                  refine z_goto hZ (pc := 131) (tgt := 108) dX11_behind_131 rfl ?_
                  exact z_back hZ (ih108 (i + 1) (by omega) (by omega)) rfl ⟨rfl, rfl, rfl, rfl, rfl, rfl, rfl, zi (nI_inc i), trivial⟩
            exact z_back hZ (lp108 (dn + 1) 0 (Nat.zero_le _) (by omega)) rfl ⟨rfl, rfl, rfl, rfl, rfl, (by first | rfl | rw [hGe 4 (by decide), hGe 5 (by decide)]), rfl, rfl, trivial⟩
          · skip
            exact absurd c15 c80
        · skip
          refine z_ldc2 hZ (pc := 61) (v := 1000000) dX11_behind_61 (List.mem_of_getElem? (i := 1676) (by decide +kernel)) ?_
          refine z_goto hZ (pc := 64) (tgt := 68) dX11_behind_64 rfl ?_
          refine z_st (st' := [Value.long c0]) ?_ (by rw [hc0, if_pos c58])
          refine z_lstore hZ (pc := 68) (j := 4) dX11_behind_68 (by decide) rfl (Nat.le_of_ble_eq_true rfl) rfl ?_
          refine z_aload_n hZ (pc := 70) dX11_behind_70 rfl ?_
          refine z_iload_n hZ (pc := 71) dX11_behind_71 rfl ?_
          refine cV_i hZ (pc := 72) dX11_behind_72 lk_X11_403 mn_X11_nobodyOf mv_X11_nobodyOf (c_X11_nobodyOf (n := P) hP hP6) rc_M rfl rfl (Nat.le_of_ble_eq_true rfl) (by decide) (by decide) (Nat.zero_le _) (Nat.zero_le _) ?_
          refine z_i2l hZ (pc := 75) dX11_behind_75 ?_
          refine z_lstore hZ (pc := 76) (j := 6) dX11_behind_76 (by decide) rfl (Nat.le_of_ble_eq_true rfl) rfl ?_
          refine z_iload_n hZ (pc := 78) dX11_behind_78 rfl ?_
          refine z_iconst hZ (pc := 79) (v := (-1)) dX11_behind_79 (by decide) ?_
          refine z_icmp_eq hZ (pc := 80) (tgt := 102) dX11_behind_80 rfl (fun c80 => ?_) (fun c80 => ?_)
          · skip
            skip
            refine z_lconst hZ (pc := 102) (v := 0) dX11_behind_102 rfl ?_
            obtain ⟨G, hG, hGe⟩ : ∃ G : ZG, G = g ∧ ∀ j, j ≠ 50 → G j = g j := ⟨_, rfl, fun _ _ => rfl⟩
            rw [← hG]
            obtain ⟨gn, hgn⟩ : ∃ gn, gn = (gainV (g 4) (g 5) P x y) := ⟨_, rfl⟩
            have hgv : gn = 0 := by rw [hgn, gainV, if_pos c15]
            refine z_st (st' := [Value.long gn.toInt64]) ?_ (by rw [hgv]; rfl)
            refine z_lstore hZ (pc := 103) (j := 8) dX11_behind_103 (by decide) rfl (Nat.le_of_ble_eq_true rfl) rfl ?_
            refine z_iconst hZ (pc := 105) (v := 0) dX11_behind_105 (by decide) ?_
            refine q_istore_11_10 hZ (pc := 106) dX11_behind_106 rfl ?_
            have lp108 : ∀ (f i : Nat), i ≤ dn → dn - i < f → Z 0 0 (WM r a cA s0 s1 (va_up v 2 0) G) [some (.ref r), some (.int x), some (.int y), some (.int (nI dn)), some (.long (bhI (nobS (g 4) (g 5) x P).toInt64 gn.toInt64 c0 i)), none, some (.long (nobS (g 4) (g 5) x P).toInt64), none, some (.long gn.toInt64), none, some (.int (nI i))] [] 108 := by
              intro f
              induction f with
              | zero => intro i _ hf; exact absurd hf (Nat.not_lt_zero _)
              | succ f ih108 =>
                intro i hid hf
                refine z_iload hZ (pc := 108) dX11_behind_108 rfl ?_
                refine z_iload_n hZ (pc := 110) dX11_behind_110 rfl ?_
                refine z_icmp_ge hZ (pc := 111) (tgt := 134) dX11_behind_111 rfl (fun c111 => ?_) (fun c111 => ?_)
                · skip
                  have ei : i = dn := lp_ge rfl hdn hid c111
                  subst ei
                  refine z_lload hZ (pc := 134) dX11_behind_134 rfl ?_
                  refine z_l2i hZ (pc := 136) dX11_behind_136 ?_
                  refine zr_i hZ (pc := 137) dX11_behind_137 FitR.int ?_
                  exact ⟨by rw [if_pos hok, if_pos hok2], hGe, by rw [if_pos ⟨hok, hok2⟩, nI_clamp (n := i) hdn, ← hgn, ← hc0]⟩
                · skip
                  have hl : i < dn := lp_lt rfl hdn hid c111
                  refine z_lload hZ (pc := 114) dX11_behind_114 rfl ?_
                  refine z_lload hZ (pc := 116) dX11_behind_116 rfl ?_
                  refine z_lmul hZ (pc := 118) dX11_behind_118 ?_
                  refine z_ldc2 hZ (pc := 119) (v := 1000000) dX11_behind_119 (List.mem_of_getElem? (i := 1676) (by decide +kernel)) ?_
                  refine z_ldiv hZ (pc := 122) dX11_behind_122 (by decide) ?_
                  refine z_lload hZ (pc := 123) dX11_behind_123 rfl ?_
                  refine z_ladd hZ (pc := 125) dX11_behind_125 ?_
                  refine z_lstore hZ (pc := 126) (j := 4) dX11_behind_126 (by decide) rfl (Nat.le_of_ble_eq_true rfl) rfl ?_
                  refine q_iinc_11_10 hZ (pc := 128) dX11_behind_128 rfl ?_
                  refine z_goto hZ (pc := 131) (tgt := 108) dX11_behind_131 rfl ?_
                  exact z_back hZ (ih108 (i + 1) (by omega) (by omega)) rfl ⟨rfl, rfl, rfl, rfl, rfl, rfl, rfl, zi (nI_inc i), trivial⟩
            exact z_back hZ (lp108 (dn + 1) 0 (Nat.zero_le _) (by omega)) rfl ⟨rfl, rfl, rfl, rfl, rfl, (by first | rfl | rw [hGe 4 (by decide), hGe 5 (by decide)]), rfl, rfl, trivial⟩
          · skip
            exact absurd c15 c80
      · skip
        refine z_aload_n hZ (pc := 42) dX11_behind_42 rfl ?_
        refine z_iconst hZ (pc := 43) (v := 2) dX11_behind_43 (by decide) ?_
        refine cV_i hZ (pc := 44) dX11_behind_44 lk_X11_286 mn_X11_fail mv_X11_fail (c_X11_fail) rc_M rfl rfl (Nat.le_of_ble_eq_true rfl) (by decide) (by decide) (Nat.zero_le _) (Nat.zero_le _) ?_
        refine zr_i hZ (pc := 47) dX11_behind_47 FitR.int ?_
        exact ⟨by rw [if_pos hok, if_neg (by rw [bI_eq.mp c39]; decide)]; exact up_twice, fun _ _ => rfl, by rw [if_neg (fun z => by rw [bI_eq.mp c39] at z; cases z.2)]⟩
    · skip
      refine z_aload_n hZ (pc := 18) dX11_behind_18 rfl ?_
      refine z_iload_n hZ (pc := 19) dX11_behind_19 rfl ?_
      refine cV_i hZ (pc := 20) dX11_behind_20 lk_X11_312 mn_X11_isPerson mv_X11_isPerson (c_X11_isPerson (n := P) hP (by omega)) rc_M rfl rfl (Nat.le_of_ble_eq_true rfl) (by decide) (by decide) (Nat.zero_le _) (Nat.zero_le _) ?_
      refine z_if_ne hZ (pc := 23) (tgt := 32) dX11_behind_23 rfl (fun c23 => ?_) (fun c23 => ?_)
      · skip
        have hok : (inI x H && (decide (y = -1) || inI y P)) = true := by rw [bI_ne c10, bI_ne c23, Bool.or_true]; rfl
        refine z_iload_n hZ (pc := 32) dX11_behind_32 rfl ?_
        refine z_iconst hZ (pc := 33) (v := 0) dX11_behind_33 (by decide) ?_
        refine z_bipush hZ (pc := 34) (v := 100) dX11_behind_34 (by decide) ?_
        refine cS_i hZ (pc := 36) dX11_behind_36 lk_X11_163 mn_X11_isIn ms_X11_isIn (c_X11_isIn) rfl rfl (Nat.le_of_ble_eq_true rfl) (by decide) (by decide) (Nat.zero_le _) (Nat.zero_le _) ?_
        refine z_if_ne hZ (pc := 39) (tgt := 48) dX11_behind_39 rfl (fun c39 => ?_) (fun c39 => ?_)
        · skip
          have hok2 := bI_ne c39
          obtain ⟨dn, hdn, rfl⟩ : ∃ dn, dn < 2 ^ 31 ∧ d = nI dn := by
            refine nI_of (fun q => ?_)
            simp only [inB, Bool.and_eq_true, decide_eq_true_eq] at hok2
            exact Int32.not_lt.mpr hok2.1 q
          obtain ⟨c0, hc0⟩ : ∃ c0 : Int64, c0 = (if (nm2 (g 13) (cbS (g 18) (g 14) (g 15) x (if n = 0 then 0 else g 15 (n - 1)) n)) = y then 1000000 else 0) := ⟨_, rfl⟩
          refine z_aload_n hZ (pc := 48) dX11_behind_48 rfl ?_
          refine z_iload_n hZ (pc := 49) dX11_behind_49 rfl ?_
          refine z_aload_n hZ (pc := 50) dX11_behind_50 rfl ?_
          refine cV_i hZ (pc := 51) dX11_behind_51 lk_X11_309 mn_X11_now mv_X11_now (c_X11_now (n := n) hn h2) rc_M rfl rfl (Nat.le_of_ble_eq_true rfl) (by decide) (by decide) (Nat.zero_le _) (Nat.zero_le _) ?_
          refine cV_i hZ (pc := 54) dX11_behind_54 lk_X11_341 mn_X11_nameOf mv_X11_nameOf (c_X11_nameOf (n := n) hn h2 hco) rc_M rfl rfl (Nat.le_of_ble_eq_true rfl) (by decide) (by decide) (Nat.zero_le _) (Nat.zero_le _) ?_
          refine z_iload_n hZ (pc := 57) dX11_behind_57 rfl ?_
          refine z_icmp_ne hZ (pc := 58) (tgt := 67) dX11_behind_58 rfl (fun c58 => ?_) (fun c58 => ?_)
          · skip
            refine z_lconst hZ (pc := 67) (v := 0) dX11_behind_67 rfl ?_
            refine z_st (st' := [Value.long c0]) ?_ (by rw [hc0, if_neg c58])
            refine z_lstore hZ (pc := 68) (j := 4) dX11_behind_68 (by decide) rfl (Nat.le_of_ble_eq_true rfl) rfl ?_
            refine z_aload_n hZ (pc := 70) dX11_behind_70 rfl ?_
            refine z_iload_n hZ (pc := 71) dX11_behind_71 rfl ?_
            refine cV_i hZ (pc := 72) dX11_behind_72 lk_X11_403 mn_X11_nobodyOf mv_X11_nobodyOf (c_X11_nobodyOf (n := P) hP hP6) rc_M rfl rfl (Nat.le_of_ble_eq_true rfl) (by decide) (by decide) (Nat.zero_le _) (Nat.zero_le _) ?_
            refine z_i2l hZ (pc := 75) dX11_behind_75 ?_
            refine z_lstore hZ (pc := 76) (j := 6) dX11_behind_76 (by decide) rfl (Nat.le_of_ble_eq_true rfl) rfl ?_
            refine z_iload_n hZ (pc := 78) dX11_behind_78 rfl ?_
            refine z_iconst hZ (pc := 79) (v := (-1)) dX11_behind_79 (by decide) ?_
            refine z_icmp_eq hZ (pc := 80) (tgt := 102) dX11_behind_80 rfl (fun c80 => ?_) (fun c80 => ?_)
            · skip
              exact absurd c80 c15
            · skip
              obtain ⟨p, hp, rfl⟩ := inI_t (bI_ne c23) (by omega)
              refine z_aload_n hZ (pc := 83) dX11_behind_83 rfl ?_
              refine gM_4 hZ (pc := 84) fl_X11_44 dX11_behind_84 ?_
              refine z_iload_n hZ (pc := 87) dX11_behind_87 rfl ?_
              refine lMn_4 hZ (pc := 88) dX11_behind_88 (show p < 32 by omega) ?_
              refine z_iload_n hZ (pc := 89) dX11_behind_89 rfl ?_
              refine z_icmp_ne hZ (pc := 90) (tgt := 102) dX11_behind_90 rfl (fun c90 => ?_) (fun c90 => ?_)
              · skip
                skip
                refine z_lconst hZ (pc := 102) (v := 0) dX11_behind_102 rfl ?_
                obtain ⟨G, hG, hGe⟩ : ∃ G : ZG, G = g ∧ ∀ j, j ≠ 50 → G j = g j := ⟨_, rfl, fun _ _ => rfl⟩
                rw [← hG]
                obtain ⟨gn, hgn⟩ : ∃ gn, gn = (gainV (g 4) (g 5) P x (nI p)) := ⟨_, rfl⟩
                have hgv : gn = 0 := by rw [hgn, gainV, if_neg c80, nI_clamp (by omega), if_neg c90]
                refine z_st (st' := [Value.long gn.toInt64]) ?_ (by rw [hgv]; rfl)
                refine z_lstore hZ (pc := 103) (j := 8) dX11_behind_103 (by decide) rfl (Nat.le_of_ble_eq_true rfl) rfl ?_
                refine z_iconst hZ (pc := 105) (v := 0) dX11_behind_105 (by decide) ?_
                refine q_istore_11_10 hZ (pc := 106) dX11_behind_106 rfl ?_
                have lp108 : ∀ (f i : Nat), i ≤ dn → dn - i < f → Z 0 0 (WM r a cA s0 s1 (va_up v 2 0) G) [some (.ref r), some (.int x), some (.int (nI p)), some (.int (nI dn)), some (.long (bhI (nobS (g 4) (g 5) x P).toInt64 gn.toInt64 c0 i)), none, some (.long (nobS (g 4) (g 5) x P).toInt64), none, some (.long gn.toInt64), none, some (.int (nI i))] [] 108 := by
                  intro f
                  induction f with
                  | zero => intro i _ hf; exact absurd hf (Nat.not_lt_zero _)
                  | succ f ih108 =>
                    intro i hid hf
                    refine z_iload hZ (pc := 108) dX11_behind_108 rfl ?_
                    refine z_iload_n hZ (pc := 110) dX11_behind_110 rfl ?_
                    refine z_icmp_ge hZ (pc := 111) (tgt := 134) dX11_behind_111 rfl (fun c111 => ?_) (fun c111 => ?_)
                    · skip
                      have ei : i = dn := lp_ge rfl hdn hid c111
                      subst ei
                      refine z_lload hZ (pc := 134) dX11_behind_134 rfl ?_
                      refine z_l2i hZ (pc := 136) dX11_behind_136 ?_
                      refine zr_i hZ (pc := 137) dX11_behind_137 FitR.int ?_
                      exact ⟨by rw [if_pos hok, if_pos hok2], hGe, by rw [if_pos ⟨hok, hok2⟩, nI_clamp (n := i) hdn, ← hgn, ← hc0]⟩
                    · skip
                      have hl : i < dn := lp_lt rfl hdn hid c111
                      refine z_lload hZ (pc := 114) dX11_behind_114 rfl ?_
                      refine z_lload hZ (pc := 116) dX11_behind_116 rfl ?_
                      refine z_lmul hZ (pc := 118) dX11_behind_118 ?_
                      refine z_ldc2 hZ (pc := 119) (v := 1000000) dX11_behind_119 (List.mem_of_getElem? (i := 1676) (by decide +kernel)) ?_
                      refine z_ldiv hZ (pc := 122) dX11_behind_122 (by decide) ?_
                      refine z_lload hZ (pc := 123) dX11_behind_123 rfl ?_
                      refine z_ladd hZ (pc := 125) dX11_behind_125 ?_
                      refine z_lstore hZ (pc := 126) (j := 4) dX11_behind_126 (by decide) rfl (Nat.le_of_ble_eq_true rfl) rfl ?_
                      refine q_iinc_11_10 hZ (pc := 128) dX11_behind_128 rfl ?_
                      refine z_goto hZ (pc := 131) (tgt := 108) dX11_behind_131 rfl ?_
                      exact z_back hZ (ih108 (i + 1) (by omega) (by omega)) rfl ⟨rfl, rfl, rfl, rfl, rfl, rfl, rfl, zi (nI_inc i), trivial⟩
                exact z_back hZ (lp108 (dn + 1) 0 (Nat.zero_le _) (by omega)) rfl ⟨rfl, rfl, rfl, rfl, rfl, (by first | rfl | rw [hGe 4 (by decide), hGe 5 (by decide)]), rfl, rfl, trivial⟩
              · skip
                refine z_aload_n hZ (pc := 93) dX11_behind_93 rfl ?_
                refine z_iload_n hZ (pc := 94) dX11_behind_94 rfl ?_
                refine cV hZ (pc := 95) dX11_behind_95 lk_X11_400 mn_X11_lastOf mv_X11_lastOf (c_X11_lastOf (n := P) (p := p) hP hP6 hp) rc_M rfl rfl (Nat.le_of_ble_eq_true rfl) (by decide) (by decide) (Nat.zero_le _) (Nat.zero_le _) ?_
                intro v2 g2 r h
                obtain ⟨e1, hg2, rfl⟩ := h
                subst v2
                refine z_i2l hZ (pc := 98) dX11_behind_98 ?_
                refine z_goto hZ (pc := 99) (tgt := 103) dX11_behind_99 rfl ?_
                obtain ⟨G, hG, hGe⟩ : ∃ G : ZG, G = g2 ∧ ∀ j, j ≠ 50 → G j = g j := ⟨_, rfl, hg2⟩
                rw [← hG]
                obtain ⟨gn, hgn⟩ : ∃ gn, gn = (gainV (g 4) (g 5) P x (nI p)) := ⟨_, rfl⟩
                have hgv : gn = lastS (g 4) (g 5) p P := by rw [hgn, gainV, if_neg c80, nI_clamp (by omega), if_pos c90]
                refine z_st (st' := [Value.long gn.toInt64]) ?_ (by rw [hgv]; rfl)
                refine z_lstore hZ (pc := 103) (j := 8) dX11_behind_103 (by decide) rfl (Nat.le_of_ble_eq_true rfl) rfl ?_
                refine z_iconst hZ (pc := 105) (v := 0) dX11_behind_105 (by decide) ?_
                refine q_istore_11_10 hZ (pc := 106) dX11_behind_106 rfl ?_
                have lp108 : ∀ (f i : Nat), i ≤ dn → dn - i < f → Z 0 0 (WM r a cA s0 s1 (va_up v 2 0) G) [some (.ref r), some (.int x), some (.int (nI p)), some (.int (nI dn)), some (.long (bhI (nobS (g 4) (g 5) x P).toInt64 gn.toInt64 c0 i)), none, some (.long (nobS (g 4) (g 5) x P).toInt64), none, some (.long gn.toInt64), none, some (.int (nI i))] [] 108 := by
                  intro f
                  induction f with
                  | zero => intro i _ hf; exact absurd hf (Nat.not_lt_zero _)
                  | succ f ih108 =>
                    intro i hid hf
                    refine z_iload hZ (pc := 108) dX11_behind_108 rfl ?_
                    refine z_iload_n hZ (pc := 110) dX11_behind_110 rfl ?_
                    refine z_icmp_ge hZ (pc := 111) (tgt := 134) dX11_behind_111 rfl (fun c111 => ?_) (fun c111 => ?_)
                    · skip
                      have ei : i = dn := lp_ge rfl hdn hid c111
                      subst ei
                      refine z_lload hZ (pc := 134) dX11_behind_134 rfl ?_
                      refine z_l2i hZ (pc := 136) dX11_behind_136 ?_
                      refine zr_i hZ (pc := 137) dX11_behind_137 FitR.int ?_
                      exact ⟨by rw [if_pos hok, if_pos hok2], hGe, by rw [if_pos ⟨hok, hok2⟩, nI_clamp (n := i) hdn, ← hgn, ← hc0]⟩
                    · skip
                      have hl : i < dn := lp_lt rfl hdn hid c111
                      refine z_lload hZ (pc := 114) dX11_behind_114 rfl ?_
                      refine z_lload hZ (pc := 116) dX11_behind_116 rfl ?_
                      refine z_lmul hZ (pc := 118) dX11_behind_118 ?_
                      refine z_ldc2 hZ (pc := 119) (v := 1000000) dX11_behind_119 (List.mem_of_getElem? (i := 1676) (by decide +kernel)) ?_
                      refine z_ldiv hZ (pc := 122) dX11_behind_122 (by decide) ?_
                      refine z_lload hZ (pc := 123) dX11_behind_123 rfl ?_
                      refine z_ladd hZ (pc := 125) dX11_behind_125 ?_
                      refine z_lstore hZ (pc := 126) (j := 4) dX11_behind_126 (by decide) rfl (Nat.le_of_ble_eq_true rfl) rfl ?_
                      refine q_iinc_11_10 hZ (pc := 128) dX11_behind_128 rfl ?_
                      refine z_goto hZ (pc := 131) (tgt := 108) dX11_behind_131 rfl ?_
                      exact z_back hZ (ih108 (i + 1) (by omega) (by omega)) rfl ⟨rfl, rfl, rfl, rfl, rfl, rfl, rfl, zi (nI_inc i), trivial⟩
                exact z_back hZ (lp108 (dn + 1) 0 (Nat.zero_le _) (by omega)) rfl ⟨rfl, rfl, rfl, rfl, rfl, (by first | rfl | rw [hGe 4 (by decide), hGe 5 (by decide)]), rfl, rfl, trivial⟩
          · skip
            refine z_ldc2 hZ (pc := 61) (v := 1000000) dX11_behind_61 (List.mem_of_getElem? (i := 1676) (by decide +kernel)) ?_
            refine z_goto hZ (pc := 64) (tgt := 68) dX11_behind_64 rfl ?_
            refine z_st (st' := [Value.long c0]) ?_ (by rw [hc0, if_pos c58])
            refine z_lstore hZ (pc := 68) (j := 4) dX11_behind_68 (by decide) rfl (Nat.le_of_ble_eq_true rfl) rfl ?_
            refine z_aload_n hZ (pc := 70) dX11_behind_70 rfl ?_
            refine z_iload_n hZ (pc := 71) dX11_behind_71 rfl ?_
            refine cV_i hZ (pc := 72) dX11_behind_72 lk_X11_403 mn_X11_nobodyOf mv_X11_nobodyOf (c_X11_nobodyOf (n := P) hP hP6) rc_M rfl rfl (Nat.le_of_ble_eq_true rfl) (by decide) (by decide) (Nat.zero_le _) (Nat.zero_le _) ?_
            refine z_i2l hZ (pc := 75) dX11_behind_75 ?_
            refine z_lstore hZ (pc := 76) (j := 6) dX11_behind_76 (by decide) rfl (Nat.le_of_ble_eq_true rfl) rfl ?_
            refine z_iload_n hZ (pc := 78) dX11_behind_78 rfl ?_
            refine z_iconst hZ (pc := 79) (v := (-1)) dX11_behind_79 (by decide) ?_
            refine z_icmp_eq hZ (pc := 80) (tgt := 102) dX11_behind_80 rfl (fun c80 => ?_) (fun c80 => ?_)
            · skip
              exact absurd c80 c15
            · skip
              obtain ⟨p, hp, rfl⟩ := inI_t (bI_ne c23) (by omega)
              refine z_aload_n hZ (pc := 83) dX11_behind_83 rfl ?_
              refine gM_4 hZ (pc := 84) fl_X11_44 dX11_behind_84 ?_
              refine z_iload_n hZ (pc := 87) dX11_behind_87 rfl ?_
              refine lMn_4 hZ (pc := 88) dX11_behind_88 (show p < 32 by omega) ?_
              refine z_iload_n hZ (pc := 89) dX11_behind_89 rfl ?_
              refine z_icmp_ne hZ (pc := 90) (tgt := 102) dX11_behind_90 rfl (fun c90 => ?_) (fun c90 => ?_)
              · skip
                skip
                refine z_lconst hZ (pc := 102) (v := 0) dX11_behind_102 rfl ?_
                obtain ⟨G, hG, hGe⟩ : ∃ G : ZG, G = g ∧ ∀ j, j ≠ 50 → G j = g j := ⟨_, rfl, fun _ _ => rfl⟩
                rw [← hG]
                obtain ⟨gn, hgn⟩ : ∃ gn, gn = (gainV (g 4) (g 5) P x (nI p)) := ⟨_, rfl⟩
                have hgv : gn = 0 := by rw [hgn, gainV, if_neg c80, nI_clamp (by omega), if_neg c90]
                refine z_st (st' := [Value.long gn.toInt64]) ?_ (by rw [hgv]; rfl)
                refine z_lstore hZ (pc := 103) (j := 8) dX11_behind_103 (by decide) rfl (Nat.le_of_ble_eq_true rfl) rfl ?_
                refine z_iconst hZ (pc := 105) (v := 0) dX11_behind_105 (by decide) ?_
                refine q_istore_11_10 hZ (pc := 106) dX11_behind_106 rfl ?_
                have lp108 : ∀ (f i : Nat), i ≤ dn → dn - i < f → Z 0 0 (WM r a cA s0 s1 (va_up v 2 0) G) [some (.ref r), some (.int x), some (.int (nI p)), some (.int (nI dn)), some (.long (bhI (nobS (g 4) (g 5) x P).toInt64 gn.toInt64 c0 i)), none, some (.long (nobS (g 4) (g 5) x P).toInt64), none, some (.long gn.toInt64), none, some (.int (nI i))] [] 108 := by
                  intro f
                  induction f with
                  | zero => intro i _ hf; exact absurd hf (Nat.not_lt_zero _)
                  | succ f ih108 =>
                    intro i hid hf
                    refine z_iload hZ (pc := 108) dX11_behind_108 rfl ?_
                    refine z_iload_n hZ (pc := 110) dX11_behind_110 rfl ?_
                    refine z_icmp_ge hZ (pc := 111) (tgt := 134) dX11_behind_111 rfl (fun c111 => ?_) (fun c111 => ?_)
                    · skip
                      have ei : i = dn := lp_ge rfl hdn hid c111
                      subst ei
                      refine z_lload hZ (pc := 134) dX11_behind_134 rfl ?_
                      refine z_l2i hZ (pc := 136) dX11_behind_136 ?_
                      refine zr_i hZ (pc := 137) dX11_behind_137 FitR.int ?_
                      exact ⟨by rw [if_pos hok, if_pos hok2], hGe, by rw [if_pos ⟨hok, hok2⟩, nI_clamp (n := i) hdn, ← hgn, ← hc0]⟩
                    · skip
                      have hl : i < dn := lp_lt rfl hdn hid c111
                      refine z_lload hZ (pc := 114) dX11_behind_114 rfl ?_
                      refine z_lload hZ (pc := 116) dX11_behind_116 rfl ?_
                      refine z_lmul hZ (pc := 118) dX11_behind_118 ?_
                      refine z_ldc2 hZ (pc := 119) (v := 1000000) dX11_behind_119 (List.mem_of_getElem? (i := 1676) (by decide +kernel)) ?_
                      refine z_ldiv hZ (pc := 122) dX11_behind_122 (by decide) ?_
                      refine z_lload hZ (pc := 123) dX11_behind_123 rfl ?_
                      refine z_ladd hZ (pc := 125) dX11_behind_125 ?_
                      refine z_lstore hZ (pc := 126) (j := 4) dX11_behind_126 (by decide) rfl (Nat.le_of_ble_eq_true rfl) rfl ?_
                      refine q_iinc_11_10 hZ (pc := 128) dX11_behind_128 rfl ?_
                      refine z_goto hZ (pc := 131) (tgt := 108) dX11_behind_131 rfl ?_
                      exact z_back hZ (ih108 (i + 1) (by omega) (by omega)) rfl ⟨rfl, rfl, rfl, rfl, rfl, rfl, rfl, zi (nI_inc i), trivial⟩
                exact z_back hZ (lp108 (dn + 1) 0 (Nat.zero_le _) (by omega)) rfl ⟨rfl, rfl, rfl, rfl, rfl, (by first | rfl | rw [hGe 4 (by decide), hGe 5 (by decide)]), rfl, rfl, trivial⟩
              · skip
                refine z_aload_n hZ (pc := 93) dX11_behind_93 rfl ?_
                refine z_iload_n hZ (pc := 94) dX11_behind_94 rfl ?_
                refine cV hZ (pc := 95) dX11_behind_95 lk_X11_400 mn_X11_lastOf mv_X11_lastOf (c_X11_lastOf (n := P) (p := p) hP hP6 hp) rc_M rfl rfl (Nat.le_of_ble_eq_true rfl) (by decide) (by decide) (Nat.zero_le _) (Nat.zero_le _) ?_
                intro v2 g2 r h
                obtain ⟨e1, hg2, rfl⟩ := h
                subst v2
                refine z_i2l hZ (pc := 98) dX11_behind_98 ?_
                refine z_goto hZ (pc := 99) (tgt := 103) dX11_behind_99 rfl ?_
                obtain ⟨G, hG, hGe⟩ : ∃ G : ZG, G = g2 ∧ ∀ j, j ≠ 50 → G j = g j := ⟨_, rfl, hg2⟩
                rw [← hG]
                obtain ⟨gn, hgn⟩ : ∃ gn, gn = (gainV (g 4) (g 5) P x (nI p)) := ⟨_, rfl⟩
                have hgv : gn = lastS (g 4) (g 5) p P := by rw [hgn, gainV, if_neg c80, nI_clamp (by omega), if_pos c90]
                refine z_st (st' := [Value.long gn.toInt64]) ?_ (by rw [hgv]; rfl)
                refine z_lstore hZ (pc := 103) (j := 8) dX11_behind_103 (by decide) rfl (Nat.le_of_ble_eq_true rfl) rfl ?_
                refine z_iconst hZ (pc := 105) (v := 0) dX11_behind_105 (by decide) ?_
                refine q_istore_11_10 hZ (pc := 106) dX11_behind_106 rfl ?_
                have lp108 : ∀ (f i : Nat), i ≤ dn → dn - i < f → Z 0 0 (WM r a cA s0 s1 (va_up v 2 0) G) [some (.ref r), some (.int x), some (.int (nI p)), some (.int (nI dn)), some (.long (bhI (nobS (g 4) (g 5) x P).toInt64 gn.toInt64 c0 i)), none, some (.long (nobS (g 4) (g 5) x P).toInt64), none, some (.long gn.toInt64), none, some (.int (nI i))] [] 108 := by
                  intro f
                  induction f with
                  | zero => intro i _ hf; exact absurd hf (Nat.not_lt_zero _)
                  | succ f ih108 =>
                    intro i hid hf
                    refine z_iload hZ (pc := 108) dX11_behind_108 rfl ?_
                    refine z_iload_n hZ (pc := 110) dX11_behind_110 rfl ?_
                    refine z_icmp_ge hZ (pc := 111) (tgt := 134) dX11_behind_111 rfl (fun c111 => ?_) (fun c111 => ?_)
                    · skip
                      have ei : i = dn := lp_ge rfl hdn hid c111
                      subst ei
                      refine z_lload hZ (pc := 134) dX11_behind_134 rfl ?_
                      refine z_l2i hZ (pc := 136) dX11_behind_136 ?_
                      refine zr_i hZ (pc := 137) dX11_behind_137 FitR.int ?_
                      exact ⟨by rw [if_pos hok, if_pos hok2], hGe, by rw [if_pos ⟨hok, hok2⟩, nI_clamp (n := i) hdn, ← hgn, ← hc0]⟩
                    · skip
                      have hl : i < dn := lp_lt rfl hdn hid c111
                      refine z_lload hZ (pc := 114) dX11_behind_114 rfl ?_
                      refine z_lload hZ (pc := 116) dX11_behind_116 rfl ?_
                      refine z_lmul hZ (pc := 118) dX11_behind_118 ?_
                      refine z_ldc2 hZ (pc := 119) (v := 1000000) dX11_behind_119 (List.mem_of_getElem? (i := 1676) (by decide +kernel)) ?_
                      refine z_ldiv hZ (pc := 122) dX11_behind_122 (by decide) ?_
                      refine z_lload hZ (pc := 123) dX11_behind_123 rfl ?_
                      refine z_ladd hZ (pc := 125) dX11_behind_125 ?_
                      refine z_lstore hZ (pc := 126) (j := 4) dX11_behind_126 (by decide) rfl (Nat.le_of_ble_eq_true rfl) rfl ?_
                      refine q_iinc_11_10 hZ (pc := 128) dX11_behind_128 rfl ?_
                      refine z_goto hZ (pc := 131) (tgt := 108) dX11_behind_131 rfl ?_
                      exact z_back hZ (ih108 (i + 1) (by omega) (by omega)) rfl ⟨rfl, rfl, rfl, rfl, rfl, rfl, rfl, zi (nI_inc i), trivial⟩
                exact z_back hZ (lp108 (dn + 1) 0 (Nat.zero_le _) (by omega)) rfl ⟨rfl, rfl, rfl, rfl, rfl, (by first | rfl | rw [hGe 4 (by decide), hGe 5 (by decide)]), rfl, rfl, trivial⟩
        · skip
          refine z_aload_n hZ (pc := 42) dX11_behind_42 rfl ?_
          refine z_iconst hZ (pc := 43) (v := 2) dX11_behind_43 (by decide) ?_
          refine cV_i hZ (pc := 44) dX11_behind_44 lk_X11_286 mn_X11_fail mv_X11_fail (c_X11_fail) rc_M rfl rfl (Nat.le_of_ble_eq_true rfl) (by decide) (by decide) (Nat.zero_le _) (Nat.zero_le _) ?_
          refine zr_i hZ (pc := 47) dX11_behind_47 FitR.int ?_
          exact ⟨by rw [if_pos hok, if_neg (by rw [bI_eq.mp c39]; decide)]; exact up_twice, fun _ _ => rfl, by rw [if_neg (fun z => by rw [bI_eq.mp c39] at z; cases z.2)]⟩
      · skip
        refine z_aload_n hZ (pc := 26) dX11_behind_26 rfl ?_
        refine z_iconst hZ (pc := 27) (v := 1) dX11_behind_27 (by decide) ?_
        refine cV_i hZ (pc := 28) dX11_behind_28 lk_X11_286 mn_X11_fail mv_X11_fail (c_X11_fail) rc_M rfl rfl (Nat.le_of_ble_eq_true rfl) (by decide) (by decide) (Nat.zero_le _) (Nat.zero_le _) ?_
        refine zr_i hZ (pc := 31) dX11_behind_31 FitR.int ?_
        have hno : (inI x H && (decide (y = -1) || inI y P)) = false := by rw [bI_eq.mp c23, decide_eq_false c15]; simp
        exact ⟨by rw [if_neg (by rw [hno]; decide)]; exact up_twice, fun _ _ => rfl, by rw [if_neg (fun z => by rw [hno] at z; cases z.1)]⟩
