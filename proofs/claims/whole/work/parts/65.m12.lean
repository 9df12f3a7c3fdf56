theorem inB_2 (w : Int32) (h0 : ¬ w < 0) (h1 : w ≤ 1) : inI w 2 = true := inI_in (by omega) h0 (fun q => Int32.not_lt.mpr h1 ((i32_succ_le (n := 1) (by omega)).mp q))
theorem inB_2n (w : Int32) (h1 : ¬ w ≤ 1) : inI w 2 = false := inI_big (by omega) ((i32_succ_le (n := 1) (by omega)).mpr (Int32.not_le.mp h1))
theorem c_X11_will {l : Launch} {D : va_G} {cA : Nat → ClassId} {r : Nat} {a : Nat → Nat} {s0 s1 : Nat → Option Nat} {v : ZV} {g : ZG} {x y f1 t1 w : Int32} {n P H : Nat} (hn : v 12 = nI n) (h2 : n ≤ 200) (hco : ∀ t, t < n → g 18 t = 0 ∨ g 18 t = 1) (hH : g 3 0 = nI H) (h10 : H ≤ 10) (hP : g 3 1 = nI P) (hP6 : P ≤ 16) : MG l D cA (WM r a cA s0 s1) yX11_will cX11_will 9 (some .int) 4 [(.ref r), .int x, .int y, .int f1, .int t1, .int w] v g (fun v2 g2 r => v2 = va_up v 2 (if (inI x P && inI y H && inI f1 2400 && inI t1 2400 && inI w 2) = true then (if f1 ≤ t1 then 0 else 2) else 1) ∧ g2 = g ∧ r = some (.int (if (inI x P && inI y H && inI f1 2400 && inI t1 2400 && inI w 2) = true ∧ f1 ≤ t1 then willV (hrsC (g 13) (g 18) (g 14) (g 15) n x f1.toNatClampNeg t1.toNatClampNeg) H y w else 0))) := by
  refine MG.of (by decide) rfl (Nat.le_of_ble_eq_true rfl) (by simp [Value.category]) (fun Z hZ => ?_)
  refine z_aload_n hZ (pc := 0) dX11_will_0 rfl ?_
  refine z_iconst hZ (pc := 1) (v := 0) dX11_will_1 (by decide) ?_
  refine pM_2 hZ (pc := 2) fl_X11_160 dX11_will_2 ?_
  refine z_aload_n hZ (pc := 5) dX11_will_5 rfl ?_
  refine z_iload_n hZ (pc := 6) dX11_will_6 rfl ?_
  refine cV_i hZ (pc := 7) dX11_will_7 lk_X11_312 mn_X11_isPerson mv_X11_isPerson (c_X11_isPerson (n := P) hP (by omega)) rc_M rfl rfl (Nat.le_of_ble_eq_true rfl) (by decide) (by decide) (Nat.zero_le _) (Nat.zero_le _) ?_
  refine z_if_eq hZ (pc := 10) (tgt := 47) dX11_will_10 rfl (fun c10 => ?_) (fun c10 => ?_)
  · skip
    refine z_aload_n hZ (pc := 47) dX11_will_47 rfl ?_
    refine z_iconst hZ (pc := 48) (v := 1) dX11_will_48 (by decide) ?_
    refine cV_i hZ (pc := 49) dX11_will_49 lk_X11_286 mn_X11_fail mv_X11_fail (c_X11_fail) rc_M rfl rfl (Nat.le_of_ble_eq_true rfl) (by decide) (by decide) (Nat.zero_le _) (Nat.zero_le _) ?_
    refine zr_i hZ (pc := 52) dX11_will_52 FitR.int ?_
    have hno : (inI x P && inI y H && inI f1 2400 && inI t1 2400 && inI w 2) = false := by simp [bI_eq.mp c10]
    exact ⟨by rw [if_neg (by rw [hno]; decide)]; exact up_twice, rfl, by rw [if_neg (fun z => by rw [hno] at z; cases z.1)]⟩
  · skip
    refine z_aload_n hZ (pc := 13) dX11_will_13 rfl ?_
    refine z_iload_n hZ (pc := 14) dX11_will_14 rfl ?_
    refine cV_i hZ (pc := 15) dX11_will_15 lk_X11_315 mn_X11_isHouse mv_X11_isHouse (c_X11_isHouse (n := H) hH (by omega)) rc_M rfl rfl (Nat.le_of_ble_eq_true rfl) (by decide) (by decide) (Nat.zero_le _) (Nat.zero_le _) ?_
    refine z_if_eq hZ (pc := 18) (tgt := 47) dX11_will_18 rfl (fun c18 => ?_) (fun c18 => ?_)
    · skip
      refine z_aload_n hZ (pc := 47) dX11_will_47 rfl ?_
      refine z_iconst hZ (pc := 48) (v := 1) dX11_will_48 (by decide) ?_
      refine cV_i hZ (pc := 49) dX11_will_49 lk_X11_286 mn_X11_fail mv_X11_fail (c_X11_fail) rc_M rfl rfl (Nat.le_of_ble_eq_true rfl) (by decide) (by decide) (Nat.zero_le _) (Nat.zero_le _) ?_
      refine zr_i hZ (pc := 52) dX11_will_52 FitR.int ?_
      have hno : (inI x P && inI y H && inI f1 2400 && inI t1 2400 && inI w 2) = false := by simp [bI_eq.mp c18]
      exact ⟨by rw [if_neg (by rw [hno]; decide)]; exact up_twice, rfl, by rw [if_neg (fun z => by rw [hno] at z; cases z.1)]⟩
    · skip
      refine z_iload_n hZ (pc := 21) dX11_will_21 rfl ?_
      refine cS_i hZ (pc := 22) dX11_will_22 lk_X11_338 mn_X11_isHour ms_X11_isHour (c_X11_isHour) rfl rfl (Nat.le_of_ble_eq_true rfl) (by decide) (by decide) (Nat.zero_le _) (Nat.zero_le _) ?_
      refine z_if_eq hZ (pc := 25) (tgt := 47) dX11_will_25 rfl (fun c25 => ?_) (fun c25 => ?_)
      · skip
        refine z_aload_n hZ (pc := 47) dX11_will_47 rfl ?_
        refine z_iconst hZ (pc := 48) (v := 1) dX11_will_48 (by decide) ?_
        refine cV_i hZ (pc := 49) dX11_will_49 lk_X11_286 mn_X11_fail mv_X11_fail (c_X11_fail) rc_M rfl rfl (Nat.le_of_ble_eq_true rfl) (by decide) (by decide) (Nat.zero_le _) (Nat.zero_le _) ?_
        refine zr_i hZ (pc := 52) dX11_will_52 FitR.int ?_
        have hno : (inI x P && inI y H && inI f1 2400 && inI t1 2400 && inI w 2) = false := by simp [bI_eq.mp c25]
        exact ⟨by rw [if_neg (by rw [hno]; decide)]; exact up_twice, rfl, by rw [if_neg (fun z => by rw [hno] at z; cases z.1)]⟩
      · skip
        refine z_iload hZ (pc := 28) dX11_will_28 rfl ?_
        refine cS_i hZ (pc := 30) dX11_will_30 lk_X11_338 mn_X11_isHour ms_X11_isHour (c_X11_isHour) rfl rfl (Nat.le_of_ble_eq_true rfl) (by decide) (by decide) (Nat.zero_le _) (Nat.zero_le _) ?_
        refine z_if_eq hZ (pc := 33) (tgt := 47) dX11_will_33 rfl (fun c33 => ?_) (fun c33 => ?_)
        · skip
          refine z_aload_n hZ (pc := 47) dX11_will_47 rfl ?_
          refine z_iconst hZ (pc := 48) (v := 1) dX11_will_48 (by decide) ?_
          refine cV_i hZ (pc := 49) dX11_will_49 lk_X11_286 mn_X11_fail mv_X11_fail (c_X11_fail) rc_M rfl rfl (Nat.le_of_ble_eq_true rfl) (by decide) (by decide) (Nat.zero_le _) (Nat.zero_le _) ?_
          refine zr_i hZ (pc := 52) dX11_will_52 FitR.int ?_
          have hno : (inI x P && inI y H && inI f1 2400 && inI t1 2400 && inI w 2) = false := by simp [bI_eq.mp c33]
          exact ⟨by rw [if_neg (by rw [hno]; decide)]; exact up_twice, rfl, by rw [if_neg (fun z => by rw [hno] at z; cases z.1)]⟩
        · skip
          refine z_iload hZ (pc := 36) dX11_will_36 rfl ?_
          refine z_if_lt hZ (pc := 38) (tgt := 47) dX11_will_38 rfl (fun c38 => ?_) (fun c38 => ?_)
          · skip
            refine z_aload_n hZ (pc := 47) dX11_will_47 rfl ?_
            refine z_iconst hZ (pc := 48) (v := 1) dX11_will_48 (by decide) ?_
            refine cV_i hZ (pc := 49) dX11_will_49 lk_X11_286 mn_X11_fail mv_X11_fail (c_X11_fail) rc_M rfl rfl (Nat.le_of_ble_eq_true rfl) (by decide) (by decide) (Nat.zero_le _) (Nat.zero_le _) ?_
            refine zr_i hZ (pc := 52) dX11_will_52 FitR.int ?_
            have hno : (inI x P && inI y H && inI f1 2400 && inI t1 2400 && inI w 2) = false := by simp [inI_neg c38]
            exact ⟨by rw [if_neg (by rw [hno]; decide)]; exact up_twice, rfl, by rw [if_neg (fun z => by rw [hno] at z; cases z.1)]⟩
          · skip
            refine z_iload hZ (pc := 41) dX11_will_41 rfl ?_
            refine z_iconst hZ (pc := 43) (v := 1) dX11_will_43 (by decide) ?_
            refine z_icmp_le hZ (pc := 44) (tgt := 53) dX11_will_44 rfl (fun c44 => ?_) (fun c44 => ?_)
            · skip
              have hok : (inI x P && inI y H && inI f1 2400 && inI t1 2400 && inI w 2) = true := by rw [bI_ne c10, bI_ne c18, bI_ne c25, bI_ne c33, inB_2 w c38 c44]; rfl
              refine z_iload_n hZ (pc := 53) dX11_will_53 rfl ?_
              refine z_iload hZ (pc := 54) dX11_will_54 rfl ?_
              refine z_icmp_le hZ (pc := 56) (tgt := 65) dX11_will_56 rfl (fun c56 => ?_) (fun c56 => ?_)
              · skip
                have hok2 : (inI x P && inI y H && inI f1 2400 && inI t1 2400 && inI w 2) = true ∧ f1 ≤ t1 := ⟨hok, c56⟩
                obtain ⟨A, hA, rfl⟩ := inI_t (bI_ne c25) (by omega)
                obtain ⟨B, hB, rfl⟩ := inI_t (bI_ne c33) (by omega)
                have hAB : A ≤ B := (nI_leI (by omega) (by omega)).mp c56
                obtain ⟨F, hF⟩ : ∃ F, F = (hrsC (g 13) (g 18) (g 14) (g 15) n x A B) := ⟨_, rfl⟩
                have hFl : ∀ h, F h ≤ 2400 := fun h => by rw [hF]; exact hrsC_le _ _ _ _ _ _ _ _ hB h
                have hsl := sumN_le (f := fun k => F (nI k)) (fun k => hFl (nI k))
                have hFy := hFl y
                refine z_aload_n hZ (pc := 65) dX11_will_65 rfl ?_
                refine z_iload_n hZ (pc := 66) dX11_will_66 rfl ?_
                refine z_iload_n hZ (pc := 67) dX11_will_67 rfl ?_
                refine z_iload_n hZ (pc := 68) dX11_will_68 rfl ?_
                refine z_iload hZ (pc := 69) dX11_will_69 rfl ?_
                refine cV_i hZ (pc := 71) dX11_will_71 lk_X11_395 mn_X11_hoursOf mv_X11_hoursOf (c_X11_hoursOf (n := n) (A := A) (B := B) (p := x) (h := y) hn h2 hco hAB hB) rc_M rfl rfl (Nat.le_of_ble_eq_true rfl) (by decide) (by decide) (Nat.zero_le _) (Nat.zero_le _) ?_
                refine z_top (y := nI (F y)) (by rw [hF]; rfl) ?_
                refine q_istore_9_6 hZ (pc := 74) dX11_will_74 rfl ?_
                refine z_iload hZ (pc := 76) dX11_will_76 rfl ?_
                refine z_if_ne hZ (pc := 78) (tgt := 84) dX11_will_78 rfl (fun c78 => ?_) (fun c78 => ?_)
                · skip
                  refine z_iconst hZ (pc := 84) (v := 0) dX11_will_84 (by decide) ?_
                  refine q_istore_9_7 hZ (pc := 85) dX11_will_85 rfl ?_
                  refine z_iconst hZ (pc := 87) (v := 0) dX11_will_87 (by decide) ?_
                  refine q_istore_9_8 hZ (pc := 88) dX11_will_88 rfl ?_
                  have lp90 : ∀ (f i : Nat), i ≤ H → H - i < f → Z 0 0 (WM r a cA s0 s1 (va_up v 2 0) g) [some (.ref r), some (.int x), some (.int y), some (.int (nI A)), some (.int (nI B)), some (.int w), some (.int (nI (F y))), some (.int (nI (sumN (fun k => F (nI k)) i))), some (.int (nI i))] [] 90 := by
                    intro f
                    induction f with
                    | zero => intro i _ hf; exact absurd hf (Nat.not_lt_zero _)
                    | succ f ih90 =>
                      intro i hi hf
                      refine z_iload hZ (pc := 90) dX11_will_90 rfl ?_
                      refine z_aload_n hZ (pc := 92) dX11_will_92 rfl ?_
                      refine gM_3 hZ (pc := 93) fl_X11_40 dX11_will_93 ?_
                      refine z_iconst hZ (pc := 96) (v := 0) dX11_will_96 (by decide) ?_
                      refine lMn_3 hZ (pc := 97) (q := 0) dX11_will_97 (by omega) ?_
                      refine z_top (y := nI H) hH ?_
                      refine z_icmp_ge hZ (pc := 98) (tgt := 122) dX11_will_98 rfl (fun c98 => ?_) (fun c98 => ?_)
                      · skip
                        have ei : i = H := lp_ge rfl (by omega) hi c98
                        subst ei
                        have hsl2 := hsl i
                        refine z_iload hZ (pc := 122) dX11_will_122 rfl ?_
                        refine z_if_ne hZ (pc := 124) (tgt := 131) dX11_will_124 rfl (fun c124 => ?_) (fun c124 => ?_)
                        · skip
                          have hs0 : sumN (fun k => F (nI k)) i ≠ 0 := fun q => c124 (by rw [q]; rfl)
                          refine z_sipush hZ (pc := 131) (v := 1000) dX11_will_131 (by decide) ?_
                          refine z_iload hZ (pc := 134) dX11_will_134 rfl ?_
                          refine z_imul hZ (pc := 136) dX11_will_136 ?_
                          refine z_iload hZ (pc := 137) dX11_will_137 rfl ?_
                          refine z_idiv hZ (pc := 139) dX11_will_139 (nI_ne0 (by omega) (by omega)) ?_
                          refine z_top (y := nI (F y * 1000 / sumN (fun k => F (nI k)) i)) (by rw [show (1000 : Int32) = nI 1000 from rfl, pk_mul, Nat.mul_comm]; exact pk_div (by omega) (by omega) (by omega)) ?_
                          refine zr_i hZ (pc := 140) dX11_will_140 FitR.int ?_
                          exact ⟨by rw [if_pos hok, if_pos c56], rfl, by rw [if_pos hok2, nI_clamp (by omega), nI_clamp (by omega), ← hF, willV, if_neg c78, if_neg hs0]⟩
                        · skip
                          refine z_iconst hZ (pc := 127) (v := 0) dX11_will_127 (by decide) ?_
                          refine z_goto hZ (pc := 128) (tgt := 140) dX11_will_128 rfl ?_
                          have hs0 : sumN (fun k => F (nI k)) i = 0 := by
                            rcases Nat.eq_zero_or_pos (sumN (fun k => F (nI k)) i) with q | q
                            · exact q
                            · exact absurd c124 (nI_ne0 q (by omega))
                          refine zr_i hZ (pc := 140) dX11_will_140 FitR.int ?_
                          exact ⟨by rw [if_pos hok, if_pos c56], rfl, by rw [if_pos hok2, nI_clamp (by omega), nI_clamp (by omega), ← hF, willV, if_neg c78, if_pos hs0]⟩
                      · skip
                        have hl90 : i < H := lp_lt rfl (by omega) hi c98
                        refine z_iload hZ (pc := 101) dX11_will_101 rfl ?_
                        refine z_aload_n hZ (pc := 103) dX11_will_103 rfl ?_
                        refine z_iload_n hZ (pc := 104) dX11_will_104 rfl ?_
                        refine z_iload hZ (pc := 105) dX11_will_105 rfl ?_
                        refine z_iload_n hZ (pc := 107) dX11_will_107 rfl ?_
                        refine z_iload hZ (pc := 108) dX11_will_108 rfl ?_
                        refine cV_i hZ (pc := 110) dX11_will_110 lk_X11_395 mn_X11_hoursOf mv_X11_hoursOf (c_X11_hoursOf (n := n) (A := A) (B := B) (p := x) (h := nI i) hn h2 hco hAB hB) rc_M rfl rfl (Nat.le_of_ble_eq_true rfl) (by decide) (by decide) (Nat.zero_le _) (Nat.zero_le _) ?_
                        refine z_top (y := nI (F (nI i))) (by rw [hF]; rfl) ?_
                        refine z_iadd hZ (pc := 113) dX11_will_113 ?_
                        refine z_top (y := nI (sumN (fun k => F (nI k)) (i + 1))) (nI_add _ _) ?_
                        refine q_istore_9_7 hZ (pc := 114) dX11_will_114 rfl ?_
                        refine q_iinc_9_8 hZ (pc := 116) dX11_will_116 rfl ?_
                        refine z_goto hZ (pc := 119) (tgt := 90) dX11_will_119 rfl ?_
                        exact z_back hZ (ih90 (i + 1) (by omega) (by omega)) rfl ⟨rfl, rfl, rfl, rfl, rfl, rfl, rfl, rfl, zi (nI_inc i), trivial⟩
                  exact z_back hZ (lp90 (H + 1) 0 (Nat.zero_le _) (by omega)) rfl ⟨rfl, rfl, rfl, rfl, rfl, rfl, rfl, rfl, rfl, trivial⟩
                · skip
                  refine z_iload hZ (pc := 81) dX11_will_81 rfl ?_
                  refine zr_i hZ (pc := 83) dX11_will_83 FitR.int ?_
                  exact ⟨by rw [if_pos hok, if_pos c56], rfl, by rw [if_pos hok2, nI_clamp (by omega), nI_clamp (by omega), ← hF, willV, if_pos c78]⟩
              · skip
                refine z_aload_n hZ (pc := 59) dX11_will_59 rfl ?_
                refine z_iconst hZ (pc := 60) (v := 2) dX11_will_60 (by decide) ?_
                refine cV_i hZ (pc := 61) dX11_will_61 lk_X11_286 mn_X11_fail mv_X11_fail (c_X11_fail) rc_M rfl rfl (Nat.le_of_ble_eq_true rfl) (by decide) (by decide) (Nat.zero_le _) (Nat.zero_le _) ?_
                refine zr_i hZ (pc := 64) dX11_will_64 FitR.int ?_
                exact ⟨by rw [if_pos hok, if_neg c56]; exact up_twice, rfl, by rw [if_neg (fun z => c56 z.2)]⟩
            · skip
              refine z_aload_n hZ (pc := 47) dX11_will_47 rfl ?_
              refine z_iconst hZ (pc := 48) (v := 1) dX11_will_48 (by decide) ?_
              refine cV_i hZ (pc := 49) dX11_will_49 lk_X11_286 mn_X11_fail mv_X11_fail (c_X11_fail) rc_M rfl rfl (Nat.le_of_ble_eq_true rfl) (by decide) (by decide) (Nat.zero_le _) (Nat.zero_le _) ?_
              refine zr_i hZ (pc := 52) dX11_will_52 FitR.int ?_
              have hno : (inI x P && inI y H && inI f1 2400 && inI t1 2400 && inI w 2) = false := by simp [inB_2n w c44]
              exact ⟨by rw [if_neg (by rw [hno]; decide)]; exact up_twice, rfl, by rw [if_neg (fun z => by rw [hno] at z; cases z.1)]⟩
theorem c_X11_stranger {l : Launch} {D : va_G} {cA : Nat → ClassId} {r : Nat} {a : Nat → Nat} {s0 s1 : Nat → Option Nat} {v : ZV} {g : ZG} {x w : Int32} {n H R A : Nat} {ops : Nat → Nat → Int32} {m : Nat → Nat} (hn : v 12 = nI n) (h2 : n ≤ 200) (hco : ∀ t, t < n → g 18 t = 0 ∨ g 18 t = 1) (hH : g 3 0 = nI H) (h10 : H ≤ 10) (hX : ExM g R A ops m) (hA : g 3 3 = nI A) (hA6 : A ≤ 6) (hwo : ∀ t, t < n → ∃ p, p < 16 ∧ g 13 t = nI p) (hhi : ∀ p, p < 16 → g 7 p = 0 ∨ g 7 p = 1) : MG l D cA (WM r a cA s0 s1) yX11_stranger cX11_stranger 4 (some .int) 5 [(.ref r), .int x, .int w] v g (fun v2 g2 r => v2 = va_up v 2 (if inI w 2 = true then (if inI x (2 ^ H) = true then 0 else 2) else 1) ∧ (∀ j, j ≠ 36 → j ≠ 37 → j ≠ 45 → j ≠ 46 → g2 j = g j) ∧ r = some (.int (if inI w 2 = true ∧ inI x (2 ^ H) = true then strV (ansB g n ops m H) A x.toNatClampNeg w else 0))) := by
  refine MG.of (by decide) rfl (Nat.le_of_ble_eq_true rfl) (by simp [Value.category]) (fun Z hZ => ?_)
  have h1024 : 2 ^ H ≤ 1024 := Nat.pow_le_pow_right (n := 2) (by omega) h10
  refine z_aload_n hZ (pc := 0) dX11_stranger_0 rfl ?_
  refine z_iconst hZ (pc := 1) (v := 0) dX11_stranger_1 (by decide) ?_
  refine pM_2 hZ (pc := 2) fl_X11_160 dX11_stranger_2 ?_
  refine z_iload_n hZ (pc := 5) dX11_stranger_5 rfl ?_
  refine z_if_lt hZ (pc := 6) (tgt := 14) dX11_stranger_6 rfl (fun c6 => ?_) (fun c6 => ?_)
  · skip
    refine z_aload_n hZ (pc := 14) dX11_stranger_14 rfl ?_
    refine z_iconst hZ (pc := 15) (v := 1) dX11_stranger_15 (by decide) ?_
    refine cV_i hZ (pc := 16) dX11_stranger_16 lk_X11_286 mn_X11_fail mv_X11_fail (c_X11_fail) rc_M rfl rfl (Nat.le_of_ble_eq_true rfl) (by decide) (by decide) (Nat.zero_le _) (Nat.zero_le _) ?_
    refine zr_i hZ (pc := 19) dX11_stranger_19 FitR.int ?_
    exact ⟨by rw [if_neg (by rw [inI_neg c6]; decide)]; exact up_twice, fun _ _ _ _ _ => rfl, by rw [if_neg (fun z => by rw [inI_neg c6] at z; cases z.1)]⟩
  · skip
    refine z_iload_n hZ (pc := 9) dX11_stranger_9 rfl ?_
    refine z_iconst hZ (pc := 10) (v := 1) dX11_stranger_10 (by decide) ?_
    refine z_icmp_le hZ (pc := 11) (tgt := 20) dX11_stranger_11 rfl (fun c11 => ?_) (fun c11 => ?_)
    · skip
      have hi : inI w 2 = true := inB_2 w c6 c11
      refine z_iload_n hZ (pc := 20) dX11_stranger_20 rfl ?_
      refine z_if_lt hZ (pc := 21) (tgt := 36) dX11_stranger_21 rfl (fun c21 => ?_) (fun c21 => ?_)
      · skip
        refine z_aload_n hZ (pc := 36) dX11_stranger_36 rfl ?_
        refine z_iconst hZ (pc := 37) (v := 2) dX11_stranger_37 (by decide) ?_
        refine cV_i hZ (pc := 38) dX11_stranger_38 lk_X11_286 mn_X11_fail mv_X11_fail (c_X11_fail) rc_M rfl rfl (Nat.le_of_ble_eq_true rfl) (by decide) (by decide) (Nat.zero_le _) (Nat.zero_le _) ?_
        refine zr_i hZ (pc := 41) dX11_stranger_41 FitR.int ?_
        exact ⟨by rw [if_pos hi, if_neg (by rw [inI_neg c21]; decide)]; exact up_twice, fun _ _ _ _ _ => rfl, by rw [if_neg (fun z => by rw [inI_neg c21] at z; cases z.2)]⟩
      · skip
        refine z_iload_n hZ (pc := 24) dX11_stranger_24 rfl ?_
        refine z_iconst hZ (pc := 25) (v := 1) dX11_stranger_25 (by decide) ?_
        refine z_aload_n hZ (pc := 26) dX11_stranger_26 rfl ?_
        refine gM_3 hZ (pc := 27) fl_X11_40 dX11_stranger_27 ?_
        refine z_iconst hZ (pc := 30) (v := 0) dX11_stranger_30 (by decide) ?_
        refine lMn_3 hZ (pc := 31) (q := 0) dX11_stranger_31 (by omega) ?_
        refine z_top (y := nI H) hH ?_
        refine z_ishl hZ (pc := 32) dX11_stranger_32 ?_
        refine z_top (y := nI (2 ^ H)) (sh_one H (by omega)) ?_
        refine z_icmp_lt hZ (pc := 33) (tgt := 42) dX11_stranger_33 rfl (fun c33 => ?_) (fun c33 => ?_)
        · skip
          have hi2 : inI x (2 ^ H) = true := inI_lt (by omega) c21 c33
          obtain ⟨b, hb, rfl⟩ := inI_t hi2 (by omega)
          refine z_aload_n hZ (pc := 42) dX11_stranger_42 rfl ?_
          refine cV hZ (pc := 43) dX11_stranger_43 lk_X11_388 mn_X11_tellAsks mv_X11_tellAsks (c_X11_tellAsks (n := n) (R := R) (A := A) (H := H) (ops := ops) (m := m) hn h2 hco hX hwo hhi hH h10) rc_M rfl rfl (Nat.le_of_ble_eq_true rfl) (by decide) (by decide) (Nat.zero_le _) (Nat.zero_le _) ?_
          intro v2 g2 r h
          obtain ⟨rfl, hg2, hY, hW, rfl⟩ := h
          have hA2 : g2 3 3 = nI A := by rw [hg2 3 (by decide) (by decide) (by decide) (by decide)]; exact hA
          have hWb : g2 46 b = encN (fw (ansB g n ops m H) A b) := hW b hb
          refine z_iload_n hZ (pc := 46) dX11_stranger_46 rfl ?_
          refine z_if_ne hZ (pc := 47) (tgt := 57) dX11_stranger_47 rfl (fun c47 => ?_) (fun c47 => ?_)
          · skip
            refine z_iconst hZ (pc := 57) (v := 0) dX11_stranger_57 (by decide) ?_
            refine q_istore_n_4_3 hZ (pc := 58) dX11_stranger_58 rfl ?_
            have lp59 : ∀ (f i : Nat), i ≤ A → A - i < f → (∀ k, k < i → decide (byN (ansB g n ops m H) (fw (ansB g n ops m H) A) b k = fw (ansB g n ops m H) A b) = false) → Z 0 0 (WM r a cA s0 s1 (va_up v 2 0) g2) [some (.ref r), some (.int (nI b)), some (.int w), some (.int (nI i))] [] 59 := by
              intro f
              induction f with
              | zero => intro i _ hf; exact absurd hf (Nat.not_lt_zero _)
              | succ f ih59 =>
                intro i hiA hf hno
                refine z_iload_n hZ (pc := 59) dX11_stranger_59 rfl ?_
                refine z_aload_n hZ (pc := 60) dX11_stranger_60 rfl ?_
                refine gM_3 hZ (pc := 61) fl_X11_40 dX11_stranger_61 ?_
                refine z_iconst hZ (pc := 64) (v := 3) dX11_stranger_64 (by decide) ?_
                refine lMn_3 hZ (pc := 65) (q := 3) dX11_stranger_65 (by decide) ?_
                refine z_top hA2 ?_
                refine z_icmp_ge hZ (pc := 66) (tgt := 101) dX11_stranger_66 rfl (fun c66 => ?_) (fun c66 => ?_)
                · skip
                  refine z_iconst hZ (pc := 101) (v := (-1)) dX11_stranger_101 (by decide) ?_
                  refine zr_i hZ (pc := 102) dX11_stranger_102 FitR.int ?_
                  have ei : i = A := lp_ge rfl (by omega) hiA c66
                  subst ei
                  exact ⟨by rw [if_pos hi, if_pos hi2], fun j q0 q1 q2 q3 => hg2 j q1 q0 q2 q3, by
                    rw [if_pos ⟨hi, hi2⟩, nI_clamp (by omega), strV]
                    by_cases q9 : 99 ≤ fw (ansB g n ops m H) i b
                    · rw [if_pos q9]
                    · have ef : ¬ faN (ansB g n ops m H) i b < i := by
                        have := first_ge (n := i) hno (Nat.le_refl _)
                        unfold faN
                        omega
                      rw [if_neg q9, if_neg c47, firstN, if_neg ef, ite_self]⟩
                · skip
                  have hl : i < A := lp_lt rfl (by omega) hiA c66
                  refine z_aload_n hZ (pc := 69) dX11_stranger_69 rfl ?_
                  refine gM_46 hZ (pc := 70) fl_X11_120 dX11_stranger_70 ?_
                  refine z_iload_n hZ (pc := 73) dX11_stranger_73 rfl ?_
                  refine lMn_46 hZ (pc := 74) dX11_stranger_74 (show b < 1024 by omega) ?_
                  refine z_top hWb ?_
                  refine z_if_le hZ (pc := 75) (tgt := 101) dX11_stranger_75 rfl (fun c75 => ?_) (fun c75 => ?_)
                  · skip
                    refine z_iconst hZ (pc := 101) (v := (-1)) dX11_stranger_101 (by decide) ?_
                    refine zr_i hZ (pc := 102) dX11_stranger_102 FitR.int ?_
                    exact ⟨by rw [if_pos hi, if_pos hi2], fun j q0 q1 q2 q3 => hg2 j q1 q0 q2 q3, by
                      rw [if_pos ⟨hi, hi2⟩, nI_clamp (by omega), strV]
                      by_cases q9 : 99 ≤ fw (ansB g n ops m H) A b
                      · rw [if_pos q9]
                      · rw [encN_ne (by omega)] at c75
                        rw [if_neg q9, if_neg c47, firstN, if_pos (nI_le0 c75 (by omega))]⟩
                  · skip
                    have hf99 : ¬ 99 ≤ fw (ansB g n ops m H) A b := fun z => by
                      rw [encN_no z] at c75
                      exact c75 (by decide)
                    have hf0 : fw (ansB g n ops m H) A b ≠ 0 := fun z => by
                      rw [z] at c75
                      exact c75 (by decide)
                    have hby := byN_or (ans := (ansB g n ops m H)) (A := A) (s := b) (k := i) (by omega)
                    refine z_aload_n hZ (pc := 78) dX11_stranger_78 rfl ?_
                    refine z_iload_n hZ (pc := 79) dX11_stranger_79 rfl ?_
                    refine z_iload_n hZ (pc := 80) dX11_stranger_80 rfl ?_
                    refine cV_i hZ (pc := 81) dX11_stranger_81 lk_X11_382 mn_X11_askBy mv_X11_askBy (c_X11_askBy (s := b) (k := i) (ans := (ansB g n ops m H)) (R := fw (ansB g n ops m H) A) (by omega) (by omega) (hY i hl) (fun t ht => hW t (by omega)) (fw_le _ _) (fun t ht => by
                      have h1 := fw_or (ansB g n ops m H) A t (by omega)
                      have h2 := popc_le t
                      omega)) rc_M rfl rfl (Nat.le_of_ble_eq_true rfl) (by decide) (by decide) (Nat.zero_le _) (Nat.zero_le _) ?_
                    refine z_aload_n hZ (pc := 84) dX11_stranger_84 rfl ?_
                    refine gM_46 hZ (pc := 85) fl_X11_120 dX11_stranger_85 ?_
                    refine z_iload_n hZ (pc := 88) dX11_stranger_88 rfl ?_
                    refine lMn_46 hZ (pc := 89) dX11_stranger_89 (show b < 1024 by omega) ?_
                    refine z_top hWb ?_
                    refine z_icmp_ne hZ (pc := 90) (tgt := 95) dX11_stranger_90 rfl (fun c90 => ?_) (fun c90 => ?_)
                    · skip
                      refine q_iinc_4_3 hZ (pc := 95) dX11_stranger_95 rfl ?_
                      refine z_goto hZ (pc := 98) (tgt := 59) dX11_stranger_98 rfl ?_
                      exact z_back hZ (ih59 (i + 1) (by omega) (by omega) (lt_s hno (decide_eq_false (fun q => c90 (by rw [q]))))) rfl ⟨rfl, rfl, rfl, zi (nI_inc i), trivial⟩
                    · skip
                      refine z_iload_n hZ (pc := 93) dX11_stranger_93 rfl ?_
                      refine zr_i hZ (pc := 94) dX11_stranger_94 FitR.int ?_
                      have e : byN (ansB g n ops m H) (fw (ansB g n ops m H) A) b i = fw (ansB g n ops m H) A b := by
                        rcases hby with z | z
                        · rw [encN_no z, encN_ne (by omega)] at c90
                          exact absurd c90.symm (nI_m1 (by omega))
                        · rw [encN_ne (by omega), encN_ne (by omega)] at c90
                          exact (nI_eq (by omega) (by omega)).mp c90
                      have ef : faN (ansB g n ops m H) A b = i := first_at hno hl (decide_eq_true e)
                      exact ⟨by rw [if_pos hi, if_pos hi2], fun j q0 q1 q2 q3 => hg2 j q1 q0 q2 q3, by rw [if_pos ⟨hi, hi2⟩, nI_clamp (by omega), strV, if_neg hf99, if_neg c47, firstN, if_neg hf0, ef, if_pos hl]⟩
            exact z_back hZ (lp59 (A + 1) 0 (Nat.zero_le _) (by omega) (fun k hk => absurd hk (Nat.not_lt_zero _))) rfl ⟨rfl, rfl, rfl, rfl, trivial⟩
          · skip
            refine z_aload_n hZ (pc := 50) dX11_stranger_50 rfl ?_
            refine gM_46 hZ (pc := 51) fl_X11_120 dX11_stranger_51 ?_
            refine z_iload_n hZ (pc := 54) dX11_stranger_54 rfl ?_
            refine lMn_46 hZ (pc := 55) dX11_stranger_55 (show b < 1024 by omega) ?_
            refine z_top hWb ?_
            refine zr_i hZ (pc := 56) dX11_stranger_56 FitR.int ?_
            exact ⟨by rw [if_pos hi, if_pos hi2], fun j q0 q1 q2 q3 => hg2 j q1 q0 q2 q3, by rw [if_pos ⟨hi, hi2⟩, nI_clamp (by omega), strV, encN, if_pos c47]⟩
        · skip
          refine z_aload_n hZ (pc := 36) dX11_stranger_36 rfl ?_
          refine z_iconst hZ (pc := 37) (v := 2) dX11_stranger_37 (by decide) ?_
          refine cV_i hZ (pc := 38) dX11_stranger_38 lk_X11_286 mn_X11_fail mv_X11_fail (c_X11_fail) rc_M rfl rfl (Nat.le_of_ble_eq_true rfl) (by decide) (by decide) (Nat.zero_le _) (Nat.zero_le _) ?_
          refine zr_i hZ (pc := 41) dX11_stranger_41 FitR.int ?_
          exact ⟨by rw [if_pos hi, if_neg (by rw [inI_ge (by omega) c33]; decide)]; exact up_twice, fun _ _ _ _ _ => rfl, by rw [if_neg (fun z => by rw [inI_ge (by omega) c33] at z; cases z.2)]⟩
    · skip
      refine z_aload_n hZ (pc := 14) dX11_stranger_14 rfl ?_
      refine z_iconst hZ (pc := 15) (v := 1) dX11_stranger_15 (by decide) ?_
      refine cV_i hZ (pc := 16) dX11_stranger_16 lk_X11_286 mn_X11_fail mv_X11_fail (c_X11_fail) rc_M rfl rfl (Nat.le_of_ble_eq_true rfl) (by decide) (by decide) (Nat.zero_le _) (Nat.zero_le _) ?_
      refine zr_i hZ (pc := 19) dX11_stranger_19 FitR.int ?_
      exact ⟨by rw [if_neg (by rw [inB_2n w c11]; decide)]; exact up_twice, fun _ _ _ _ _ => rfl, by rw [if_neg (fun z => by rw [inB_2n w c11] at z; cases z.1)]⟩
