theorem inB_9 {x : Int32} : inB x 0 9 = true ↔ (¬ x < 0 ∧ x ≤ 9) := by
  simp only [inB, Bool.and_eq_true, decide_eq_true_eq, Int32.not_lt]
theorem c_X11_weep {l : Launch} {D : va_G} {cA : Nat → ClassId} {r : Nat} {a : Nat → Nat} {s0 s1 : Nat → Option Nat} {v : ZV} {g : ZG} {x hr gr : Int32} {n P R A : Nat} {ops : Nat → Nat → Int32} {m : Nat → Nat} (hn : v 12 = nI n) (h2 : n ≤ 200) (hP : g 3 1 = nI P) (hP6 : P ≤ 16) (hX : ExM g R A ops m) (hhi : ∀ p, p < 32 → g 7 p = 0 ∨ g 7 p = 1) : MG l D cA (WM r a cA s0 s1) yX11_weep cX11_weep 5 (some .int) 4 [(.ref r), .int x, .int hr, .int gr] v g (fun v2 g2 r => (inI x P = false → v2 = va_up v 2 1 ∧ g2 = g ∧ r = some (.int 0)) ∧ (inI x P = true → if (n < 200 ∧ ¬ hr < (if n = 0 then 0 else g 15 (n - 1)) ∧ hr ≤ 2399 ∧ ¬ gr < 0 ∧ gr ≤ 9) then v2 = va_up (va_up v 2 0) 12 (nI (n + 1)) ∧ (∀ j, j ≠ 13 → j ≠ 14 → j ≠ 15 → j ≠ 16 → j ≠ 17 → j ≠ 18 → j ≠ 36 → j ≠ 37 → g2 j = g j) ∧ g2 13 = upd (g 13) n x ∧ g2 14 = upd (g 14) n (g 4 x.toNatClampNeg) ∧ g2 15 = upd (g 15) n hr ∧ g2 16 = upd (g 16) n gr ∧ g2 17 = upd (g 17) n (nI (fb_ct (onP (g 14) (g 15) (g 4 x.toNatClampNeg) (hr / 24)) n)) ∧ g2 18 = upd (g 18) n (bI (allB (holdE (vals7 (g 4 x.toNatClampNeg) x gr (g 7 x.toNatClampNeg) (hr / 24) (hr - hr / 24 * 24) (nI (fb_ct (onP (g 14) (g 15) (g 4 x.toNatClampNeg) (hr / 24)) n)) v0s) ops m) R)) ∧ r = some (.int (nI (n + 1))) else v2 = va_up v 2 0 ∧ g2 = va_up g 11 (upd (g 11) 1 (g 11 1 + 1)) ∧ r = some (.int (-1)))) := by
  refine MG.of (by decide) rfl (Nat.le_of_ble_eq_true rfl) (by simp [Value.category]) (fun Z hZ => ?_)
  refine z_aload_n hZ (pc := 0) dX11_weep_0 rfl ?_
  refine z_iconst hZ (pc := 1) (v := 0) dX11_weep_1 (by decide) ?_
  refine pM_2 hZ (pc := 2) fl_X11_160 dX11_weep_2 ?_
  refine z_aload_n hZ (pc := 5) dX11_weep_5 rfl ?_
  refine z_iload_n hZ (pc := 6) dX11_weep_6 rfl ?_
  refine cV_i hZ (pc := 7) dX11_weep_7 lk_X11_312 mn_X11_isPerson mv_X11_isPerson (c_X11_isPerson (n := P) hP (by omega)) rc_M rfl rfl (Nat.le_of_ble_eq_true rfl) (by decide) (by decide) (Nat.zero_le _) (Nat.zero_le _) ?_
  refine z_if_ne hZ (pc := 10) (tgt := 19) dX11_weep_10 rfl (fun c10 => ?_) (fun c10 => ?_)
  · skip
    refine z_aload_n hZ (pc := 19) dX11_weep_19 rfl ?_
    refine gM_12 hZ (pc := 20) fl_X11_296 dX11_weep_20 ?_
    refine z_top (y := nI n) hn ?_
    refine z_sipush hZ (pc := 23) (v := 200) dX11_weep_23 (by decide) ?_
    refine z_icmp_eq hZ (pc := 26) (tgt := 54) dX11_weep_26 rfl (fun c26 => ?_) (fun c26 => ?_)
    · skip
      refine z_aload_n hZ (pc := 54) dX11_weep_54 rfl ?_
      refine gM_11 hZ (pc := 55) fl_X11_66 dX11_weep_55 ?_
      refine z_iconst hZ (pc := 58) (v := 1) dX11_weep_58 (by decide) ?_
      refine z_dup2 hZ (pc := 59) dX11_weep_59 rfl rfl ?_
      refine lMn_11 hZ (pc := 60) (q := 1) dX11_weep_60 (by omega) ?_
      refine z_iconst hZ (pc := 61) (v := 1) dX11_weep_61 (by decide) ?_
      refine z_iadd hZ (pc := 62) dX11_weep_62 ?_
      refine sMn_11 hZ (pc := 63) (q := 1) dX11_weep_63 (by omega) ?_
      refine z_iconst hZ (pc := 64) (v := (-1)) dX11_weep_64 (by decide) ?_
      refine zr_i hZ (pc := 65) dX11_weep_65 FitR.int ?_
      exact ⟨fun z => absurd z (by rw [bI_ne c10]; decide), fun _ => by rw [if_neg (fun q => absurd ((nI_eq (a := n) (b := 200) (by omega) (by omega)).mp c26) (by have := q.1; omega))]; exact ⟨rfl, rfl, rfl⟩⟩
    · skip
      refine z_iload_n hZ (pc := 29) dX11_weep_29 rfl ?_
      refine z_aload_n hZ (pc := 30) dX11_weep_30 rfl ?_
      refine cV_i hZ (pc := 31) dX11_weep_31 lk_X11_309 mn_X11_now mv_X11_now (c_X11_now (n := n) hn h2) rc_M rfl rfl (Nat.le_of_ble_eq_true rfl) (by decide) (by decide) (Nat.zero_le _) (Nat.zero_le _) ?_
      refine z_icmp_lt hZ (pc := 34) (tgt := 54) dX11_weep_34 rfl (fun c34 => ?_) (fun c34 => ?_)
      · skip
        refine z_aload_n hZ (pc := 54) dX11_weep_54 rfl ?_
        refine gM_11 hZ (pc := 55) fl_X11_66 dX11_weep_55 ?_
        refine z_iconst hZ (pc := 58) (v := 1) dX11_weep_58 (by decide) ?_
        refine z_dup2 hZ (pc := 59) dX11_weep_59 rfl rfl ?_
        refine lMn_11 hZ (pc := 60) (q := 1) dX11_weep_60 (by omega) ?_
        refine z_iconst hZ (pc := 61) (v := 1) dX11_weep_61 (by decide) ?_
        refine z_iadd hZ (pc := 62) dX11_weep_62 ?_
        refine sMn_11 hZ (pc := 63) (q := 1) dX11_weep_63 (by omega) ?_
        refine z_iconst hZ (pc := 64) (v := (-1)) dX11_weep_64 (by decide) ?_
        refine zr_i hZ (pc := 65) dX11_weep_65 FitR.int ?_
        exact ⟨fun z => absurd z (by rw [bI_ne c10]; decide), fun _ => by rw [if_neg (fun q => q.2.1 c34)]; exact ⟨rfl, rfl, rfl⟩⟩
      · skip
        refine z_iload_n hZ (pc := 37) dX11_weep_37 rfl ?_
        refine z_sipush hZ (pc := 38) (v := 2399) dX11_weep_38 (by decide) ?_
        refine z_icmp_gt hZ (pc := 41) (tgt := 54) dX11_weep_41 rfl (fun c41 => ?_) (fun c41 => ?_)
        · skip
          refine z_aload_n hZ (pc := 54) dX11_weep_54 rfl ?_
          refine gM_11 hZ (pc := 55) fl_X11_66 dX11_weep_55 ?_
          refine z_iconst hZ (pc := 58) (v := 1) dX11_weep_58 (by decide) ?_
          refine z_dup2 hZ (pc := 59) dX11_weep_59 rfl rfl ?_
          refine lMn_11 hZ (pc := 60) (q := 1) dX11_weep_60 (by omega) ?_
          refine z_iconst hZ (pc := 61) (v := 1) dX11_weep_61 (by decide) ?_
          refine z_iadd hZ (pc := 62) dX11_weep_62 ?_
          refine sMn_11 hZ (pc := 63) (q := 1) dX11_weep_63 (by omega) ?_
          refine z_iconst hZ (pc := 64) (v := (-1)) dX11_weep_64 (by decide) ?_
          refine zr_i hZ (pc := 65) dX11_weep_65 FitR.int ?_
          exact ⟨fun z => absurd z (by rw [bI_ne c10]; decide), fun _ => by rw [if_neg (fun q => Int32.not_lt.mpr q.2.2.1 c41)]; exact ⟨rfl, rfl, rfl⟩⟩
        · skip
          refine z_iload_n hZ (pc := 44) dX11_weep_44 rfl ?_
          refine z_iconst hZ (pc := 45) (v := 0) dX11_weep_45 (by decide) ?_
          refine z_bipush hZ (pc := 46) (v := 9) dX11_weep_46 (by decide) ?_
          refine cS_i hZ (pc := 48) dX11_weep_48 lk_X11_163 mn_X11_isIn ms_X11_isIn (c_X11_isIn) rfl rfl (Nat.le_of_ble_eq_true rfl) (by decide) (by decide) (Nat.zero_le _) (Nat.zero_le _) ?_
          refine z_if_ne hZ (pc := 51) (tgt := 66) dX11_weep_51 rfl (fun c51 => ?_) (fun c51 => ?_)
          · skip
            have hok : (n < 200 ∧ ¬ hr < (if n = 0 then 0 else g 15 (n - 1)) ∧ hr ≤ 2399 ∧ ¬ gr < 0 ∧ gr ≤ 9) := ⟨by
              rcases Nat.lt_or_ge n 200 with q | q
              · exact q
              · exact absurd (show nI n = 200 by rw [show n = 200 by omega]; rfl) c26, c34, Int32.not_lt.mp c41, (inB_9.mp (bI_ne c51)).1, (inB_9.mp (bI_ne c51)).2⟩
            have hn2 := hok.1
            obtain ⟨k, hk, rfl⟩ := inI_t (bI_ne c10) (by omega)
            refine z_aload_n hZ (pc := 66) dX11_weep_66 rfl ?_
            refine z_aload_n hZ (pc := 67) dX11_weep_67 rfl ?_
            refine gM_4 hZ (pc := 68) fl_X11_44 dX11_weep_68 ?_
            refine z_iload_n hZ (pc := 71) dX11_weep_71 rfl ?_
            refine lMn_4 hZ (pc := 72) dX11_weep_72 (show k < 32 by omega) ?_
            refine z_iload_n hZ (pc := 73) dX11_weep_73 rfl ?_
            refine cV_i hZ (pc := 74) dX11_weep_74 lk_X11_325 mn_X11_beforeOf mv_X11_beforeOf (c_X11_beforeOf (n := n) hn h2) rc_M rfl rfl (Nat.le_of_ble_eq_true rfl) (by decide) (by decide) (Nat.zero_le _) (Nat.zero_le _) ?_
            refine q_istore_5_4 hZ (pc := 77) dX11_weep_77 rfl ?_
            refine z_aload_n hZ (pc := 79) dX11_weep_79 rfl ?_
            refine z_aload_n hZ (pc := 80) dX11_weep_80 rfl ?_
            refine gM_4 hZ (pc := 81) fl_X11_44 dX11_weep_81 ?_
            refine z_iload_n hZ (pc := 84) dX11_weep_84 rfl ?_
            refine lMn_4 hZ (pc := 85) dX11_weep_85 (show k < 32 by omega) ?_
            refine z_iload_n hZ (pc := 86) dX11_weep_86 rfl ?_
            refine z_iload_n hZ (pc := 87) dX11_weep_87 rfl ?_
            refine z_aload_n hZ (pc := 88) dX11_weep_88 rfl ?_
            refine gM_7 hZ (pc := 89) fl_X11_53 dX11_weep_89 ?_
            refine z_iload_n hZ (pc := 92) dX11_weep_92 rfl ?_
            refine lMn_7 hZ (pc := 93) dX11_weep_93 (show k < 32 by omega) ?_
            refine z_iload_n hZ (pc := 94) dX11_weep_94 rfl ?_
            refine z_iload hZ (pc := 95) dX11_weep_95 rfl ?_
            refine cV_v hZ (pc := 97) dX11_weep_97 lk_X11_328 mn_X11_ask mv_X11_ask (c_X11_ask (hhi k (by omega))) rc_M rfl rfl (Nat.le_of_ble_eq_true rfl) (by decide) (by decide) (Nat.zero_le _) (Nat.zero_le _) ?_
            refine z_aload_n hZ (pc := 100) dX11_weep_100 rfl ?_
            refine gM_13 hZ (pc := 101) fl_X11_69 dX11_weep_101 ?_
            refine z_aload_n hZ (pc := 104) dX11_weep_104 rfl ?_
            refine gM_12 hZ (pc := 105) fl_X11_296 dX11_weep_105 ?_
            refine z_top (y := nI n) hn ?_
            refine z_iload_n hZ (pc := 108) dX11_weep_108 rfl ?_
            refine sMn_13 hZ (pc := 109) dX11_weep_109 hn2 ?_
            refine z_aload_n hZ (pc := 110) dX11_weep_110 rfl ?_
            refine gM_14 hZ (pc := 111) fl_X11_72 dX11_weep_111 ?_
            refine z_aload_n hZ (pc := 114) dX11_weep_114 rfl ?_
            refine gM_12 hZ (pc := 115) fl_X11_296 dX11_weep_115 ?_
            refine z_top (y := nI n) hn ?_
            refine z_aload_n hZ (pc := 118) dX11_weep_118 rfl ?_
            refine gM_4 hZ (pc := 119) fl_X11_44 dX11_weep_119 ?_
            refine z_iload_n hZ (pc := 122) dX11_weep_122 rfl ?_
            refine lMn_4 hZ (pc := 123) dX11_weep_123 (show k < 32 by omega) ?_
            refine sMn_14 hZ (pc := 124) dX11_weep_124 hn2 ?_
            refine z_aload_n hZ (pc := 125) dX11_weep_125 rfl ?_
            refine gM_15 hZ (pc := 126) fl_X11_75 dX11_weep_126 ?_
            refine z_aload_n hZ (pc := 129) dX11_weep_129 rfl ?_
            refine gM_12 hZ (pc := 130) fl_X11_296 dX11_weep_130 ?_
            refine z_top (y := nI n) hn ?_
            refine z_iload_n hZ (pc := 133) dX11_weep_133 rfl ?_
            refine sMn_15 hZ (pc := 134) dX11_weep_134 hn2 ?_
            refine z_aload_n hZ (pc := 135) dX11_weep_135 rfl ?_
            refine gM_16 hZ (pc := 136) fl_X11_78 dX11_weep_136 ?_
            refine z_aload_n hZ (pc := 139) dX11_weep_139 rfl ?_
            refine gM_12 hZ (pc := 140) fl_X11_296 dX11_weep_140 ?_
            refine z_top (y := nI n) hn ?_
            refine z_iload_n hZ (pc := 143) dX11_weep_143 rfl ?_
            refine sMn_16 hZ (pc := 144) dX11_weep_144 hn2 ?_
            refine z_aload_n hZ (pc := 145) dX11_weep_145 rfl ?_
            refine gM_17 hZ (pc := 146) fl_X11_80 dX11_weep_146 ?_
            refine z_aload_n hZ (pc := 149) dX11_weep_149 rfl ?_
            refine gM_12 hZ (pc := 150) fl_X11_296 dX11_weep_150 ?_
            refine z_top (y := nI n) hn ?_
            refine z_iload hZ (pc := 153) dX11_weep_153 rfl ?_
            refine sMn_17 hZ (pc := 155) dX11_weep_155 hn2 ?_
            refine z_aload_n hZ (pc := 156) dX11_weep_156 rfl ?_
            refine gM_18 hZ (pc := 157) fl_X11_83 dX11_weep_157 ?_
            refine z_aload_n hZ (pc := 160) dX11_weep_160 rfl ?_
            refine gM_12 hZ (pc := 161) fl_X11_296 dX11_weep_161 ?_
            refine z_top (y := nI n) hn ?_
            refine z_aload_n hZ (pc := 164) dX11_weep_164 rfl ?_
            refine cV hZ (pc := 165) dX11_weep_165 lk_X11_331 mn_X11_allRules mv_X11_allRules (c_X11_allRules (R := R) (A := A) (ops := ops) (m := m) (ExM_mv hX rfl rfl rfl rfl)) rc_M rfl rfl (Nat.le_of_ble_eq_true rfl) (by decide) (by decide) (Nat.zero_le _) (Nat.zero_le _) ?_
            intro v2 g2 r h
            obtain ⟨e1, hg2, rfl⟩ := h
            subst v2
            refine sMn_18 hZ (pc := 168) dX11_weep_168 hn2 (nar_bI _) ?_
            refine z_aload_n hZ (pc := 169) dX11_weep_169 rfl ?_
            refine z_dup hZ (pc := 170) dX11_weep_170 rfl ?_
            refine gM_12 hZ (pc := 171) fl_X11_296 dX11_weep_171 ?_
            refine z_iconst hZ (pc := 174) (v := 1) dX11_weep_174 (by decide) ?_
            refine z_iadd hZ (pc := 175) dX11_weep_175 ?_
            refine z_top (y := nI (n + 1)) (by rw [show (va_up v 2 0) 12 = nI n from hn]; exact nI_1 n) ?_
            refine pM_12 hZ (pc := 176) fl_X11_296 dX11_weep_176 ?_
            refine z_aload_n hZ (pc := 179) dX11_weep_179 rfl ?_
            refine gM_12 hZ (pc := 180) fl_X11_296 dX11_weep_180 ?_
            refine zr_i hZ (pc := 183) dX11_weep_183 FitR.int ?_
            have ec : allB (holdE (va_up g 36 (vals7 (g 4 k) (nI k) gr (g 7 k) (hr / 24) (hr - hr / 24 * 24) (nI (fb_ct (onP (g 14) (g 15) (g 4 k) (hr / 24)) n)) (g 36)) 36) ops m) R = allB (holdE (vals7 (g 4 k) (nI k) gr (g 7 k) (hr / 24) (hr - hr / 24 * 24) (nI (fb_ct (onP (g 14) (g 15) (g 4 k) (hr / 24)) n)) v0s) ops m) R := by
              obtain ⟨b9, hR9, hA9, hR4, hA69, hE9⟩ := hX
              exact allB_cong (fun e he => holdE_cong (hE9 e (Or.inl he)).2.2.2.2 (fun j hj => by rw [up_at]; exact vals7_cong j hj))
            refine ⟨fun z => absurd z (by rw [bI_ne c10]; decide), fun _ => ?_⟩
            rw [nI_clamp (by omega), if_pos hok]
            exact ⟨rfl, fun j q3 q4 q5 q6 q7 q8 h36 h37 => (up_off q8).trans ((hg2 j h37).trans ((up_off q7).trans ((up_off q6).trans ((up_off q5).trans ((up_off q4).trans ((up_off q3).trans (up_off h36))))))), (up_off (by decide)).trans (hg2 13 (by decide)), (up_off (by decide)).trans (hg2 14 (by decide)), (up_off (by decide)).trans (hg2 15 (by decide)), (up_off (by decide)).trans (hg2 16 (by decide)), (up_off (by decide)).trans (hg2 17 (by decide)), up_at.trans (by rw [hg2 18 (by decide)]; exact congrArg (fun z => upd (g 18) n (bI z)) ec), rfl⟩
          · skip
            refine z_aload_n hZ (pc := 54) dX11_weep_54 rfl ?_
            refine gM_11 hZ (pc := 55) fl_X11_66 dX11_weep_55 ?_
            refine z_iconst hZ (pc := 58) (v := 1) dX11_weep_58 (by decide) ?_
            refine z_dup2 hZ (pc := 59) dX11_weep_59 rfl rfl ?_
            refine lMn_11 hZ (pc := 60) (q := 1) dX11_weep_60 (by omega) ?_
            refine z_iconst hZ (pc := 61) (v := 1) dX11_weep_61 (by decide) ?_
            refine z_iadd hZ (pc := 62) dX11_weep_62 ?_
            refine sMn_11 hZ (pc := 63) (q := 1) dX11_weep_63 (by omega) ?_
            refine z_iconst hZ (pc := 64) (v := (-1)) dX11_weep_64 (by decide) ?_
            refine zr_i hZ (pc := 65) dX11_weep_65 FitR.int ?_
            exact ⟨fun z => absurd z (by rw [bI_ne c10]; decide), fun _ => by rw [if_neg (fun q => absurd (bI_eq.mp c51) (by rw [inB_9.mpr q.2.2.2]; decide))]; exact ⟨rfl, rfl, rfl⟩⟩
  · skip
    refine z_aload_n hZ (pc := 13) dX11_weep_13 rfl ?_
    refine z_iconst hZ (pc := 14) (v := 1) dX11_weep_14 (by decide) ?_
    refine cV_i hZ (pc := 15) dX11_weep_15 lk_X11_286 mn_X11_fail mv_X11_fail (c_X11_fail) rc_M rfl rfl (Nat.le_of_ble_eq_true rfl) (by decide) (by decide) (Nat.zero_le _) (Nat.zero_le _) ?_
    refine zr_i hZ (pc := 18) dX11_weep_18 FitR.int ?_
    exact ⟨fun _ => ⟨up_twice, rfl, rfl⟩, fun z => absurd z (by rw [bI_eq.mp c10]; decide)⟩
