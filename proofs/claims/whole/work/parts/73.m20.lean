theorem c_X11_restore {l : Launch} {D : va_G} {cA : Nat → ClassId} {r : Nat} {a : Nat → Nat} {s0 s1 : Nat → Option Nat} {v : ZV} {g : ZG} {n : Nat} (hn : g 52 0 = nI n) (h2 : n ≤ 200) (hco : ∀ t, t < n → g 54 (6 * t + 5) = 0 ∨ g 54 (6 * t + 5) = 1) : MG l D cA (WM r a cA s0 s1) yX11_restore cX11_restore 2 (some .boolean) 1 [(.ref r)] v g (fun v2 g2 r => (v 51 = 0 → v2 = va_up v 2 0 ∧ g2 = g ∧ r = some (.int 0)) ∧ (v 51 ≠ 0 → v2 = va_up (va_up (va_up (va_up v 2 0) 12 (g 52 0)) 19 (g 52 1)) 20 (g 52 2) ∧ (∀ j, 23 < j → g2 j = g j) ∧ (∀ j, j < 13 → j ≠ 4 → j ≠ 11 → g2 j = g j) ∧ g2 4 = cpyf 32 (g 53) (g 4) ∧ (∀ t j, t < n → j < 6 → g2 (13 + j) t = g 54 (6 * t + j)) ∧ (∀ t, g2 18 t = 0 ∨ g2 18 t = 1 ∨ g2 18 t = g 18 t) ∧ g2 21 = cpyf 40 (g 55) (g 21) ∧ g2 22 = cpyf 40 (g 56) (g 22) ∧ g2 23 = cpyf 40 (g 57) (g 23) ∧ g2 11 = cpyf 4 (g 58) (g 11) ∧ r = some (.int 1))) := by
  refine MG.of (by decide) rfl (Nat.le_of_ble_eq_true rfl) (by simp [Value.category]) (fun Z hZ => ?_)
  refine z_aload_n hZ (pc := 0) dX11_restore_0 rfl ?_
  refine z_iconst hZ (pc := 1) (v := 0) dX11_restore_1 (by decide) ?_
  refine pM_2 hZ (pc := 2) fl_X11_160 dX11_restore_2 ?_
  refine z_aload_n hZ (pc := 5) dX11_restore_5 rfl ?_
  refine gM_51 hZ (pc := 6) fl_X11_305 dX11_restore_6 ?_
  refine z_if_ne hZ (pc := 9) (tgt := 14) dX11_restore_9 rfl (fun c9 => ?_) (fun c9 => ?_)
  · skip
    refine z_aload_n hZ (pc := 14) dX11_restore_14 rfl ?_
    refine z_aload_n hZ (pc := 15) dX11_restore_15 rfl ?_
    refine gM_52 hZ (pc := 16) fl_X11_135 dX11_restore_16 ?_
    refine z_iconst hZ (pc := 19) (v := 0) dX11_restore_19 (by decide) ?_
    refine lMn_52 hZ (pc := 20) (q := 0) dX11_restore_20 (by decide) ?_
    refine pM_12 hZ (pc := 21) fl_X11_296 dX11_restore_21 ?_
    refine z_aload_n hZ (pc := 24) dX11_restore_24 rfl ?_
    refine z_aload_n hZ (pc := 25) dX11_restore_25 rfl ?_
    refine gM_52 hZ (pc := 26) fl_X11_135 dX11_restore_26 ?_
    refine z_iconst hZ (pc := 29) (v := 1) dX11_restore_29 (by decide) ?_
    refine lMn_52 hZ (pc := 30) (q := 1) dX11_restore_30 (by decide) ?_
    refine pM_19 hZ (pc := 31) fl_X11_299 dX11_restore_31 ?_
    refine z_aload_n hZ (pc := 34) dX11_restore_34 rfl ?_
    refine z_aload_n hZ (pc := 35) dX11_restore_35 rfl ?_
    refine gM_52 hZ (pc := 36) fl_X11_135 dX11_restore_36 ?_
    refine z_iconst hZ (pc := 39) (v := 2) dX11_restore_39 (by decide) ?_
    refine lMn_52 hZ (pc := 40) (q := 2) dX11_restore_40 (by decide) ?_
    refine pM_20 hZ (pc := 41) fl_X11_302 dX11_restore_41 ?_
    refine z_aload_n hZ (pc := 44) dX11_restore_44 rfl ?_
    refine gM_4 hZ (pc := 45) fl_X11_44 dX11_restore_45 ?_
    refine z_aload_n hZ (pc := 48) dX11_restore_48 rfl ?_
    refine gM_53 hZ (pc := 49) fl_X11_138 dX11_restore_49 ?_
    refine cS_v hZ (pc := 52) dX11_restore_52 lk_X11_411 mn_X11_be ms_X11_be (c_X11_be_4_53) rfl rfl (Nat.le_of_ble_eq_true rfl) (by decide) (by decide) (Nat.zero_le _) (Nat.zero_le _) ?_
    refine z_iconst hZ (pc := 55) (v := 0) dX11_restore_55 (by decide) ?_
    refine q_istore_n_2_1 hZ (pc := 56) dX11_restore_56 rfl ?_
    have lp57 : ∀ (f i : Nat) (T0 T1 T2 T3 T4 T5x : Nat → Int32), i ≤ n → n - i < f → (∀ t, t < i → T0 t = g 54 (6 * t + 0) ∧ T1 t = g 54 (6 * t + 1) ∧ T2 t = g 54 (6 * t + 2) ∧ T3 t = g 54 (6 * t + 3) ∧ T4 t = g 54 (6 * t + 4) ∧ T5x t = g 54 (6 * t + 5)) → (∀ t, T5x t = 0 ∨ T5x t = 1 ∨ T5x t = g 18 t) → Z 0 0 (WM r a cA s0 s1 (va_up (va_up (va_up (va_up v 2 0) 12 (g 52 0)) 19 (g 52 1)) 20 (g 52 2)) (va_up (va_up (va_up (va_up (va_up (va_up (va_up g 4 (cpyf 32 (g 53) (g 4))) 13 T0) 14 T1) 15 T2) 16 T3) 17 T4) 18 T5x)) [some (.ref r), some (.int (nI i))] [] 57 := by
      intro f
      induction f with
      | zero => intro i _ _ _ _ _ _ _ hf; exact absurd hf (Nat.not_lt_zero _)
      | succ f ih57 =>
        intro i T0 T1 T2 T3 T4 T5x hi hf hT h18
        refine z_iload_n hZ (pc := 57) dX11_restore_57 rfl ?_
        refine z_aload_n hZ (pc := 58) dX11_restore_58 rfl ?_
        refine gM_12 hZ (pc := 59) fl_X11_296 dX11_restore_59 ?_
        refine z_top (y := nI n) hn ?_
        refine z_icmp_ge hZ (pc := 62) (tgt := 180) dX11_restore_62 rfl (fun c62 => ?_) (fun c62 => ?_)
        · skip
          have ei : i = n := lp_ge rfl (by omega) hi c62
          subst ei
          refine z_aload_n hZ (pc := 180) dX11_restore_180 rfl ?_
          refine gM_21 hZ (pc := 181) fl_X11_86 dX11_restore_181 ?_
          refine z_aload_n hZ (pc := 184) dX11_restore_184 rfl ?_
          refine gM_55 hZ (pc := 185) fl_X11_144 dX11_restore_185 ?_
          refine cS_v hZ (pc := 188) dX11_restore_188 lk_X11_411 mn_X11_be ms_X11_be (c_X11_be_21_55) rfl rfl (Nat.le_of_ble_eq_true rfl) (by decide) (by decide) (Nat.zero_le _) (Nat.zero_le _) ?_
          refine z_aload_n hZ (pc := 191) dX11_restore_191 rfl ?_
          refine gM_22 hZ (pc := 192) fl_X11_89 dX11_restore_192 ?_
          refine z_aload_n hZ (pc := 195) dX11_restore_195 rfl ?_
          refine gM_56 hZ (pc := 196) fl_X11_147 dX11_restore_196 ?_
          refine cS_v hZ (pc := 199) dX11_restore_199 lk_X11_411 mn_X11_be ms_X11_be (c_X11_be_22_56) rfl rfl (Nat.le_of_ble_eq_true rfl) (by decide) (by decide) (Nat.zero_le _) (Nat.zero_le _) ?_
          refine z_aload_n hZ (pc := 202) dX11_restore_202 rfl ?_
          refine gM_23 hZ (pc := 203) fl_X11_92 dX11_restore_203 ?_
          refine z_aload_n hZ (pc := 206) dX11_restore_206 rfl ?_
          refine gM_57 hZ (pc := 207) fl_X11_150 dX11_restore_207 ?_
          refine cS_v hZ (pc := 210) dX11_restore_210 lk_X11_411 mn_X11_be ms_X11_be (c_X11_be_23_57) rfl rfl (Nat.le_of_ble_eq_true rfl) (by decide) (by decide) (Nat.zero_le _) (Nat.zero_le _) ?_
          refine z_aload_n hZ (pc := 213) dX11_restore_213 rfl ?_
          refine gM_11 hZ (pc := 214) fl_X11_66 dX11_restore_214 ?_
          refine z_aload_n hZ (pc := 217) dX11_restore_217 rfl ?_
          refine gM_58 hZ (pc := 218) fl_X11_153 dX11_restore_218 ?_
          refine cS_v hZ (pc := 221) dX11_restore_221 lk_X11_411 mn_X11_be ms_X11_be (c_X11_be_11_58) rfl rfl (Nat.le_of_ble_eq_true rfl) (by decide) (by decide) (Nat.zero_le _) (Nat.zero_le _) ?_
          refine z_iconst hZ (pc := 224) (v := 1) dX11_restore_224 (by decide) ?_
          refine zr_i hZ (pc := 225) dX11_restore_225 FitR.b1 ?_
          exact ⟨fun z => absurd z c9, fun _ => ⟨rfl, fun j hj => by simp only [va_up, if_neg (show ¬ j = 11 by omega), if_neg (show ¬ j = 23 by omega), if_neg (show ¬ j = 22 by omega), if_neg (show ¬ j = 21 by omega), if_neg (show ¬ j = 18 by omega), if_neg (show ¬ j = 17 by omega), if_neg (show ¬ j = 16 by omega), if_neg (show ¬ j = 15 by omega), if_neg (show ¬ j = 14 by omega), if_neg (show ¬ j = 13 by omega), if_neg (show ¬ j = 4 by omega)], fun j hj h4 h11 => by simp only [va_up, if_neg h11, if_neg (show ¬ j = 23 by omega), if_neg (show ¬ j = 22 by omega), if_neg (show ¬ j = 21 by omega), if_neg (show ¬ j = 18 by omega), if_neg (show ¬ j = 17 by omega), if_neg (show ¬ j = 16 by omega), if_neg (show ¬ j = 15 by omega), if_neg (show ¬ j = 14 by omega), if_neg (show ¬ j = 13 by omega), if_neg h4], rfl, fun t j ht hj => by
            have h : j = 0 ∨ j = 1 ∨ j = 2 ∨ j = 3 ∨ j = 4 ∨ j = 5 := by omega
            rcases h with rfl | rfl | rfl | rfl | rfl | rfl
            · exact (hT t ht).1
            · exact (hT t ht).2.1
            · exact (hT t ht).2.2.1
            · exact (hT t ht).2.2.2.1
            · exact (hT t ht).2.2.2.2.1
            · exact (hT t ht).2.2.2.2.2, h18, rfl, rfl, rfl, rfl, rfl⟩⟩
        · skip
          have hl : i < n := lp_lt rfl (by omega) hi c62
          refine z_aload_n hZ (pc := 65) dX11_restore_65 rfl ?_
          refine gM_13 hZ (pc := 66) fl_X11_69 dX11_restore_66 ?_
          refine z_iload_n hZ (pc := 69) dX11_restore_69 rfl ?_
          refine z_aload_n hZ (pc := 70) dX11_restore_70 rfl ?_
          refine gM_54 hZ (pc := 71) fl_X11_141 dX11_restore_71 ?_
          refine z_bipush hZ (pc := 74) (v := 6) dX11_restore_74 (by decide) ?_
          refine z_iload_n hZ (pc := 76) dX11_restore_76 rfl ?_
          refine z_imul hZ (pc := 77) dX11_restore_77 ?_
          refine z_top (y := nI (6 * i)) (by rw [show (6 : Int32) = nI 6 from rfl, pk_mul]) ?_
          refine lMn_54 hZ (pc := 78) dX11_restore_78 (show 6 * i < 1200 by omega) ?_
          refine sMn_13 hZ (pc := 79) dX11_restore_79 (show i < 200 by omega) ?_
          refine z_aload_n hZ (pc := 80) dX11_restore_80 rfl ?_
          refine gM_14 hZ (pc := 81) fl_X11_72 dX11_restore_81 ?_
          refine z_iload_n hZ (pc := 84) dX11_restore_84 rfl ?_
          refine z_aload_n hZ (pc := 85) dX11_restore_85 rfl ?_
          refine gM_54 hZ (pc := 86) fl_X11_141 dX11_restore_86 ?_
          refine z_bipush hZ (pc := 89) (v := 6) dX11_restore_89 (by decide) ?_
          refine z_iload_n hZ (pc := 91) dX11_restore_91 rfl ?_
          refine z_imul hZ (pc := 92) dX11_restore_92 ?_
          refine z_iconst hZ (pc := 93) (v := 1) dX11_restore_93 (by decide) ?_
          refine z_iadd hZ (pc := 94) dX11_restore_94 ?_
          refine z_top (y := nI (6 * i + 1)) (by rw [show (6 : Int32) = nI 6 from rfl, pk_mul]; exact nI_add _ 1) ?_
          refine lMn_54 hZ (pc := 95) dX11_restore_95 (show 6 * i + 1 < 1200 by omega) ?_
          refine sMn_14 hZ (pc := 96) dX11_restore_96 (show i < 200 by omega) ?_
          refine z_aload_n hZ (pc := 97) dX11_restore_97 rfl ?_
          refine gM_15 hZ (pc := 98) fl_X11_75 dX11_restore_98 ?_
          refine z_iload_n hZ (pc := 101) dX11_restore_101 rfl ?_
          refine z_aload_n hZ (pc := 102) dX11_restore_102 rfl ?_
          refine gM_54 hZ (pc := 103) fl_X11_141 dX11_restore_103 ?_
          refine z_bipush hZ (pc := 106) (v := 6) dX11_restore_106 (by decide) ?_
          refine z_iload_n hZ (pc := 108) dX11_restore_108 rfl ?_
          refine z_imul hZ (pc := 109) dX11_restore_109 ?_
          refine z_iconst hZ (pc := 110) (v := 2) dX11_restore_110 (by decide) ?_
          refine z_iadd hZ (pc := 111) dX11_restore_111 ?_
          refine z_top (y := nI (6 * i + 2)) (by rw [show (6 : Int32) = nI 6 from rfl, pk_mul]; exact nI_add _ 2) ?_
          refine lMn_54 hZ (pc := 112) dX11_restore_112 (show 6 * i + 2 < 1200 by omega) ?_
          refine sMn_15 hZ (pc := 113) dX11_restore_113 (show i < 200 by omega) ?_
          refine z_aload_n hZ (pc := 114) dX11_restore_114 rfl ?_
          refine gM_16 hZ (pc := 115) fl_X11_78 dX11_restore_115 ?_
          refine z_iload_n hZ (pc := 118) dX11_restore_118 rfl ?_
          refine z_aload_n hZ (pc := 119) dX11_restore_119 rfl ?_
          refine gM_54 hZ (pc := 120) fl_X11_141 dX11_restore_120 ?_
          refine z_bipush hZ (pc := 123) (v := 6) dX11_restore_123 (by decide) ?_
          refine z_iload_n hZ (pc := 125) dX11_restore_125 rfl ?_
          refine z_imul hZ (pc := 126) dX11_restore_126 ?_
          refine z_iconst hZ (pc := 127) (v := 3) dX11_restore_127 (by decide) ?_
          refine z_iadd hZ (pc := 128) dX11_restore_128 ?_
          refine z_top (y := nI (6 * i + 3)) (by rw [show (6 : Int32) = nI 6 from rfl, pk_mul]; exact nI_add _ 3) ?_
          refine lMn_54 hZ (pc := 129) dX11_restore_129 (show 6 * i + 3 < 1200 by omega) ?_
          refine sMn_16 hZ (pc := 130) dX11_restore_130 (show i < 200 by omega) ?_
          refine z_aload_n hZ (pc := 131) dX11_restore_131 rfl ?_
          refine gM_17 hZ (pc := 132) fl_X11_80 dX11_restore_132 ?_
          refine z_iload_n hZ (pc := 135) dX11_restore_135 rfl ?_
          refine z_aload_n hZ (pc := 136) dX11_restore_136 rfl ?_
          refine gM_54 hZ (pc := 137) fl_X11_141 dX11_restore_137 ?_
          refine z_bipush hZ (pc := 140) (v := 6) dX11_restore_140 (by decide) ?_
          refine z_iload_n hZ (pc := 142) dX11_restore_142 rfl ?_
          refine z_imul hZ (pc := 143) dX11_restore_143 ?_
          refine z_iconst hZ (pc := 144) (v := 4) dX11_restore_144 (by decide) ?_
          refine z_iadd hZ (pc := 145) dX11_restore_145 ?_
          refine z_top (y := nI (6 * i + 4)) (by rw [show (6 : Int32) = nI 6 from rfl, pk_mul]; exact nI_add _ 4) ?_
          refine lMn_54 hZ (pc := 146) dX11_restore_146 (show 6 * i + 4 < 1200 by omega) ?_
          refine sMn_17 hZ (pc := 147) dX11_restore_147 (show i < 200 by omega) ?_
          refine z_aload_n hZ (pc := 148) dX11_restore_148 rfl ?_
          refine gM_18 hZ (pc := 149) fl_X11_83 dX11_restore_149 ?_
          refine z_iload_n hZ (pc := 152) dX11_restore_152 rfl ?_
          refine z_aload_n hZ (pc := 153) dX11_restore_153 rfl ?_
          refine gM_54 hZ (pc := 154) fl_X11_141 dX11_restore_154 ?_
          refine z_bipush hZ (pc := 157) (v := 6) dX11_restore_157 (by decide) ?_
          refine z_iload_n hZ (pc := 159) dX11_restore_159 rfl ?_
          refine z_imul hZ (pc := 160) dX11_restore_160 ?_
          refine z_iconst hZ (pc := 161) (v := 5) dX11_restore_161 (by decide) ?_
          refine z_iadd hZ (pc := 162) dX11_restore_162 ?_
          refine z_top (y := nI (6 * i + 5)) (by rw [show (6 : Int32) = nI 6 from rfl, pk_mul]; exact nI_add _ 5) ?_
          refine lMn_54 hZ (pc := 163) dX11_restore_163 (show 6 * i + 5 < 1200 by omega) ?_
          refine z_top (y := g 54 (6 * i + 5)) rfl ?_
          refine z_iconst hZ (pc := 164) (v := 1) dX11_restore_164 (by decide) ?_
          refine z_icmp_ne hZ (pc := 165) (tgt := 172) dX11_restore_165 rfl (fun c165 => ?_) (fun c165 => ?_)
          · skip
            refine z_iconst hZ (pc := 172) (v := 0) dX11_restore_172 (by decide) ?_
            refine z_top (y := g 54 (6 * i + 5)) ((hco i hl).resolve_right c165).symm ?_
            refine sMn_18 hZ (pc := 173) dX11_restore_173 (show i < 200 by omega) (nar_01 (hco i hl)) ?_
            refine q_iinc_2_1 hZ (pc := 174) dX11_restore_174 rfl ?_
            refine z_goto hZ (pc := 177) (tgt := 57) dX11_restore_177 rfl ?_
            exact z_back hZ (ih57 (i + 1) (upd T0 i (g 54 (6 * i))) (upd T1 i (g 54 (6 * i + 1))) (upd T2 i (g 54 (6 * i + 2))) (upd T3 i (g 54 (6 * i + 3))) (upd T4 i (g 54 (6 * i + 4))) (upd T5x i (g 54 (6 * i + 5))) (by omega) (by omega) (lt_s (fun t ht => by rw [upd_off (by omega), upd_off (by omega), upd_off (by omega), upd_off (by omega), upd_off (by omega), upd_off (by omega)]; exact hT t ht) ⟨upd_at, upd_at, upd_at, upd_at, upd_at, upd_at⟩) (fun t => by
              by_cases e : t = i
              · rw [e, upd_at]
                rcases hco i hl with z | z
                · exact Or.inl z
                · exact Or.inr (Or.inl z)
              · rw [upd_off e]; exact h18 t)) (WM_eq rfl (by
              funext j
              by_cases e18 : j = 18
              · subst e18; rfl
              by_cases e17 : j = 17
              · subst e17; rfl
              by_cases e16 : j = 16
              · subst e16; rfl
              by_cases e15 : j = 15
              · subst e15; rfl
              by_cases e14 : j = 14
              · subst e14; rfl
              by_cases e13 : j = 13
              · subst e13; rfl
              simp only [va_up, if_neg e18, if_neg e17, if_neg e16, if_neg e15, if_neg e14, if_neg e13])) ⟨rfl, zi (nI_inc i), trivial⟩
          · skip
            refine z_iconst hZ (pc := 168) (v := 1) dX11_restore_168 (by decide) ?_
            refine z_goto hZ (pc := 169) (tgt := 173) dX11_restore_169 rfl ?_
            refine z_top (y := g 54 (6 * i + 5)) (show (1 : Int32) = g 54 (6 * i + 5) from c165.symm) ?_
            refine sMn_18 hZ (pc := 173) dX11_restore_173 (show i < 200 by omega) (nar_01 (hco i hl)) ?_
            refine q_iinc_2_1 hZ (pc := 174) dX11_restore_174 rfl ?_
            refine z_goto hZ (pc := 177) (tgt := 57) dX11_restore_177 rfl ?_
            exact z_back hZ (ih57 (i + 1) (upd T0 i (g 54 (6 * i))) (upd T1 i (g 54 (6 * i + 1))) (upd T2 i (g 54 (6 * i + 2))) (upd T3 i (g 54 (6 * i + 3))) (upd T4 i (g 54 (6 * i + 4))) (upd T5x i (g 54 (6 * i + 5))) (by omega) (by omega) (lt_s (fun t ht => by rw [upd_off (by omega), upd_off (by omega), upd_off (by omega), upd_off (by omega), upd_off (by omega), upd_off (by omega)]; exact hT t ht) ⟨upd_at, upd_at, upd_at, upd_at, upd_at, upd_at⟩) (fun t => by
              by_cases e : t = i
              · rw [e, upd_at]
                rcases hco i hl with z | z
                · exact Or.inl z
                · exact Or.inr (Or.inl z)
              · rw [upd_off e]; exact h18 t)) (WM_eq rfl (by
              funext j
              by_cases e18 : j = 18
              · subst e18; rfl
              by_cases e17 : j = 17
              · subst e17; rfl
              by_cases e16 : j = 16
              · subst e16; rfl
              by_cases e15 : j = 15
              · subst e15; rfl
              by_cases e14 : j = 14
              · subst e14; rfl
              by_cases e13 : j = 13
              · subst e13; rfl
              simp only [va_up, if_neg e18, if_neg e17, if_neg e16, if_neg e15, if_neg e14, if_neg e13])) ⟨rfl, zi (nI_inc i), trivial⟩
    exact z_back hZ (lp57 (n + 1) 0 (g 13) (g 14) (g 15) (g 16) (g 17) (g 18) (Nat.zero_le _) (by omega) (fun t ht => absurd ht (Nat.not_lt_zero _)) (fun t => Or.inr (Or.inr rfl))) (WM_eq rfl (by
      funext j
      by_cases e18 : j = 18
      · subst e18; rfl
      by_cases e17 : j = 17
      · subst e17; rfl
      by_cases e16 : j = 16
      · subst e16; rfl
      by_cases e15 : j = 15
      · subst e15; rfl
      by_cases e14 : j = 14
      · subst e14; rfl
      by_cases e13 : j = 13
      · subst e13; rfl
      simp only [va_up, if_neg e18, if_neg e17, if_neg e16, if_neg e15, if_neg e14, if_neg e13])) ⟨rfl, rfl, trivial⟩
  · skip
    refine z_iconst hZ (pc := 12) (v := 0) dX11_restore_12 (by decide) ?_
    refine zr_i hZ (pc := 13) dX11_restore_13 FitR.b0 ?_
    exact ⟨fun _ => ⟨rfl, rfl, rfl⟩, fun z => absurd c9 z⟩
