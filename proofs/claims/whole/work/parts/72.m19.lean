theorem six_upd {f : Nat → Int32} {i : Nat} {x0 x1 x2 x3 x4 x5 : Int32} : ∀ t j, j < 6 → upd (upd (upd (upd (upd (upd f (6 * i) x0) (6 * i + 1) x1) (6 * i + 2) x2) (6 * i + 3) x3) (6 * i + 4) x4) (6 * i + 5) x5 (6 * t + j) = if t = i then (if j = 0 then x0 else if j = 1 then x1 else if j = 2 then x2 else if j = 3 then x3 else if j = 4 then x4 else x5) else f (6 * t + j) := by
  intro t j hj
  by_cases e : t = i
  · subst e
    have h : j = 0 ∨ j = 1 ∨ j = 2 ∨ j = 3 ∨ j = 4 ∨ j = 5 := by omega
    rcases h with rfl | rfl | rfl | rfl | rfl | rfl <;> simp [upd]
  · rw [if_neg e, upd_off (by omega), upd_off (by omega), upd_off (by omega), upd_off (by omega), upd_off (by omega), upd_off (by omega)]
theorem c_X11_image {l : Launch} {D : va_G} {cA : Nat → ClassId} {r : Nat} {a : Nat → Nat} {s0 s1 : Nat → Option Nat} {v : ZV} {g : ZG} {n : Nat} (hn : v 12 = nI n) (h2 : n ≤ 200) (hco : ∀ t, t < n → g 18 t = 0 ∨ g 18 t = 1) : MG l D cA (WM r a cA s0 s1) yX11_image cX11_image 2 none 1 [(.ref r)] v g (fun v2 g2 r => r = none ∧ v2 = va_up (va_up v 2 0) 51 1 ∧ (∀ j, j < 52 → g2 j = g j) ∧ g2 52 0 = v 12 ∧ g2 52 1 = v 19 ∧ g2 52 2 = v 20 ∧ g2 53 = cpyf 32 (g 4) (g 53) ∧ (∀ t j, t < n → j < 6 → g2 54 (6 * t + j) = g (13 + j) t) ∧ g2 55 = cpyf 40 (g 21) (g 55) ∧ g2 56 = cpyf 40 (g 22) (g 56) ∧ g2 57 = cpyf 40 (g 23) (g 57) ∧ g2 58 = cpyf 4 (g 11) (g 58)) := by
  refine MG.of (by decide) rfl (Nat.le_of_ble_eq_true rfl) (by simp [Value.category]) (fun Z hZ => ?_)
  refine z_aload_n hZ (pc := 0) dX11_image_0 rfl ?_
  refine z_iconst hZ (pc := 1) (v := 0) dX11_image_1 (by decide) ?_
  refine pM_2 hZ (pc := 2) fl_X11_160 dX11_image_2 ?_
  refine z_aload_n hZ (pc := 5) dX11_image_5 rfl ?_
  refine z_iconst hZ (pc := 6) (v := 1) dX11_image_6 (by decide) ?_
  refine pM_51 hZ (pc := 7) fl_X11_305 dX11_image_7 (by decide) (by decide) ?_
  refine z_aload_n hZ (pc := 10) dX11_image_10 rfl ?_
  refine gM_52 hZ (pc := 11) fl_X11_135 dX11_image_11 ?_
  refine z_iconst hZ (pc := 14) (v := 0) dX11_image_14 (by decide) ?_
  refine z_aload_n hZ (pc := 15) dX11_image_15 rfl ?_
  refine gM_12 hZ (pc := 16) fl_X11_296 dX11_image_16 ?_
  refine sMn_52 hZ (pc := 19) (q := 0) dX11_image_19 (by decide) ?_
  refine z_aload_n hZ (pc := 20) dX11_image_20 rfl ?_
  refine gM_52 hZ (pc := 21) fl_X11_135 dX11_image_21 ?_
  refine z_iconst hZ (pc := 24) (v := 1) dX11_image_24 (by decide) ?_
  refine z_aload_n hZ (pc := 25) dX11_image_25 rfl ?_
  refine gM_19 hZ (pc := 26) fl_X11_299 dX11_image_26 ?_
  refine sMn_52 hZ (pc := 29) (q := 1) dX11_image_29 (by decide) ?_
  refine z_aload_n hZ (pc := 30) dX11_image_30 rfl ?_
  refine gM_52 hZ (pc := 31) fl_X11_135 dX11_image_31 ?_
  refine z_iconst hZ (pc := 34) (v := 2) dX11_image_34 (by decide) ?_
  refine z_aload_n hZ (pc := 35) dX11_image_35 rfl ?_
  refine gM_20 hZ (pc := 36) fl_X11_302 dX11_image_36 ?_
  refine sMn_52 hZ (pc := 39) (q := 2) dX11_image_39 (by decide) ?_
  refine z_aload_n hZ (pc := 40) dX11_image_40 rfl ?_
  refine gM_53 hZ (pc := 41) fl_X11_138 dX11_image_41 ?_
  refine z_aload_n hZ (pc := 44) dX11_image_44 rfl ?_
  refine gM_4 hZ (pc := 45) fl_X11_44 dX11_image_45 ?_
  refine cS_v hZ (pc := 48) dX11_image_48 lk_X11_411 mn_X11_be ms_X11_be (c_X11_be_53_4) rfl rfl (Nat.le_of_ble_eq_true rfl) (by decide) (by decide) (Nat.zero_le _) (Nat.zero_le _) ?_
  refine z_iconst hZ (pc := 51) (v := 0) dX11_image_51 (by decide) ?_
  refine q_istore_n_2_1 hZ (pc := 52) dX11_image_52 rfl ?_
  have lp53 : ∀ (f i : Nat) (T : Nat → Int32), i ≤ n → n - i < f → (∀ t j, t < i → j < 6 → T (6 * t + j) = g (13 + j) t) → Z 0 0 (WM r a cA s0 s1 (va_up (va_up v 2 0) 51 1) (va_up (va_up (va_up g 52 (upd (upd (upd (g 52) 0 (v 12)) 1 (v 19)) 2 (v 20))) 53 (cpyf 32 (g 4) (g 53))) 54 T)) [some (.ref r), some (.int (nI i))] [] 53 := by
    intro f
    induction f with
    | zero => intro i _ _ hf; exact absurd hf (Nat.not_lt_zero _)
    | succ f ih53 =>
      intro i T hi hf hT
      refine z_iload_n hZ (pc := 53) dX11_image_53 rfl ?_
      refine z_aload_n hZ (pc := 54) dX11_image_54 rfl ?_
      refine gM_12 hZ (pc := 55) fl_X11_296 dX11_image_55 ?_
      refine z_top (y := nI n) hn ?_
      refine z_icmp_ge hZ (pc := 58) (tgt := 175) dX11_image_58 rfl (fun c58 => ?_) (fun c58 => ?_)
      · skip
        have ei : i = n := lp_ge rfl (by omega) hi c58
        subst ei
        refine z_aload_n hZ (pc := 175) dX11_image_175 rfl ?_
        refine gM_55 hZ (pc := 176) fl_X11_144 dX11_image_176 ?_
        refine z_aload_n hZ (pc := 179) dX11_image_179 rfl ?_
        refine gM_21 hZ (pc := 180) fl_X11_86 dX11_image_180 ?_
        refine cS_v hZ (pc := 183) dX11_image_183 lk_X11_411 mn_X11_be ms_X11_be (c_X11_be_55_21) rfl rfl (Nat.le_of_ble_eq_true rfl) (by decide) (by decide) (Nat.zero_le _) (Nat.zero_le _) ?_
        refine z_aload_n hZ (pc := 186) dX11_image_186 rfl ?_
        refine gM_56 hZ (pc := 187) fl_X11_147 dX11_image_187 ?_
        refine z_aload_n hZ (pc := 190) dX11_image_190 rfl ?_
        refine gM_22 hZ (pc := 191) fl_X11_89 dX11_image_191 ?_
        refine cS_v hZ (pc := 194) dX11_image_194 lk_X11_411 mn_X11_be ms_X11_be (c_X11_be_56_22) rfl rfl (Nat.le_of_ble_eq_true rfl) (by decide) (by decide) (Nat.zero_le _) (Nat.zero_le _) ?_
        refine z_aload_n hZ (pc := 197) dX11_image_197 rfl ?_
        refine gM_57 hZ (pc := 198) fl_X11_150 dX11_image_198 ?_
        refine z_aload_n hZ (pc := 201) dX11_image_201 rfl ?_
        refine gM_23 hZ (pc := 202) fl_X11_92 dX11_image_202 ?_
        refine cS_v hZ (pc := 205) dX11_image_205 lk_X11_411 mn_X11_be ms_X11_be (c_X11_be_57_23) rfl rfl (Nat.le_of_ble_eq_true rfl) (by decide) (by decide) (Nat.zero_le _) (Nat.zero_le _) ?_
        refine z_aload_n hZ (pc := 208) dX11_image_208 rfl ?_
        refine gM_58 hZ (pc := 209) fl_X11_153 dX11_image_209 ?_
        refine z_aload_n hZ (pc := 212) dX11_image_212 rfl ?_
        refine gM_11 hZ (pc := 213) fl_X11_66 dX11_image_213 ?_
        refine cS_v hZ (pc := 216) dX11_image_216 lk_X11_411 mn_X11_be ms_X11_be (c_X11_be_58_11) rfl rfl (Nat.le_of_ble_eq_true rfl) (by decide) (by decide) (Nat.zero_le _) (Nat.zero_le _) ?_
        refine zr_v hZ (pc := 219) dX11_image_219 ?_
        exact ⟨rfl, rfl, fun j hj => by simp only [va_up, if_neg (show ¬ j = 58 by omega), if_neg (show ¬ j = 57 by omega), if_neg (show ¬ j = 56 by omega), if_neg (show ¬ j = 55 by omega), if_neg (show ¬ j = 54 by omega), if_neg (show ¬ j = 53 by omega), if_neg (show ¬ j = 52 by omega)], rfl, rfl, rfl, rfl, fun t j ht hj => hT t j ht hj, rfl, rfl, rfl, rfl⟩
      · skip
        have hl : i < n := lp_lt rfl (by omega) hi c58
        refine z_aload_n hZ (pc := 61) dX11_image_61 rfl ?_
        refine gM_54 hZ (pc := 62) fl_X11_141 dX11_image_62 ?_
        refine z_bipush hZ (pc := 65) (v := 6) dX11_image_65 (by decide) ?_
        refine z_iload_n hZ (pc := 67) dX11_image_67 rfl ?_
        refine z_imul hZ (pc := 68) dX11_image_68 ?_
        refine z_top (y := nI (6 * i)) (by rw [show (6 : Int32) = nI 6 from rfl, pk_mul]) ?_
        refine z_aload_n hZ (pc := 69) dX11_image_69 rfl ?_
        refine gM_13 hZ (pc := 70) fl_X11_69 dX11_image_70 ?_
        refine z_iload_n hZ (pc := 73) dX11_image_73 rfl ?_
        refine lMn_13 hZ (pc := 74) dX11_image_74 (show i < 200 by omega) ?_
        refine sMn_54 hZ (pc := 75) dX11_image_75 (show 6 * i < 1200 by omega) ?_
        refine z_aload_n hZ (pc := 76) dX11_image_76 rfl ?_
        refine gM_54 hZ (pc := 77) fl_X11_141 dX11_image_77 ?_
        refine z_bipush hZ (pc := 80) (v := 6) dX11_image_80 (by decide) ?_
        refine z_iload_n hZ (pc := 82) dX11_image_82 rfl ?_
        refine z_imul hZ (pc := 83) dX11_image_83 ?_
        refine z_iconst hZ (pc := 84) (v := 1) dX11_image_84 (by decide) ?_
        refine z_iadd hZ (pc := 85) dX11_image_85 ?_
        refine z_top (y := nI (6 * i + 1)) (by rw [show (6 : Int32) = nI 6 from rfl, pk_mul]; exact nI_add _ 1) ?_
        refine z_aload_n hZ (pc := 86) dX11_image_86 rfl ?_
        refine gM_14 hZ (pc := 87) fl_X11_72 dX11_image_87 ?_
        refine z_iload_n hZ (pc := 90) dX11_image_90 rfl ?_
        refine lMn_14 hZ (pc := 91) dX11_image_91 (show i < 200 by omega) ?_
        refine sMn_54 hZ (pc := 92) dX11_image_92 (show 6 * i + 1 < 1200 by omega) ?_
        refine z_aload_n hZ (pc := 93) dX11_image_93 rfl ?_
        refine gM_54 hZ (pc := 94) fl_X11_141 dX11_image_94 ?_
        refine z_bipush hZ (pc := 97) (v := 6) dX11_image_97 (by decide) ?_
        refine z_iload_n hZ (pc := 99) dX11_image_99 rfl ?_
        refine z_imul hZ (pc := 100) dX11_image_100 ?_
        refine z_iconst hZ (pc := 101) (v := 2) dX11_image_101 (by decide) ?_
        refine z_iadd hZ (pc := 102) dX11_image_102 ?_
        refine z_top (y := nI (6 * i + 2)) (by rw [show (6 : Int32) = nI 6 from rfl, pk_mul]; exact nI_add _ 2) ?_
        refine z_aload_n hZ (pc := 103) dX11_image_103 rfl ?_
        refine gM_15 hZ (pc := 104) fl_X11_75 dX11_image_104 ?_
        refine z_iload_n hZ (pc := 107) dX11_image_107 rfl ?_
        refine lMn_15 hZ (pc := 108) dX11_image_108 (show i < 200 by omega) ?_
        refine sMn_54 hZ (pc := 109) dX11_image_109 (show 6 * i + 2 < 1200 by omega) ?_
        refine z_aload_n hZ (pc := 110) dX11_image_110 rfl ?_
        refine gM_54 hZ (pc := 111) fl_X11_141 dX11_image_111 ?_
        refine z_bipush hZ (pc := 114) (v := 6) dX11_image_114 (by decide) ?_
        refine z_iload_n hZ (pc := 116) dX11_image_116 rfl ?_
        refine z_imul hZ (pc := 117) dX11_image_117 ?_
        refine z_iconst hZ (pc := 118) (v := 3) dX11_image_118 (by decide) ?_
        refine z_iadd hZ (pc := 119) dX11_image_119 ?_
        refine z_top (y := nI (6 * i + 3)) (by rw [show (6 : Int32) = nI 6 from rfl, pk_mul]; exact nI_add _ 3) ?_
        refine z_aload_n hZ (pc := 120) dX11_image_120 rfl ?_
        refine gM_16 hZ (pc := 121) fl_X11_78 dX11_image_121 ?_
        refine z_iload_n hZ (pc := 124) dX11_image_124 rfl ?_
        refine lMn_16 hZ (pc := 125) dX11_image_125 (show i < 200 by omega) ?_
        refine sMn_54 hZ (pc := 126) dX11_image_126 (show 6 * i + 3 < 1200 by omega) ?_
        refine z_aload_n hZ (pc := 127) dX11_image_127 rfl ?_
        refine gM_54 hZ (pc := 128) fl_X11_141 dX11_image_128 ?_
        refine z_bipush hZ (pc := 131) (v := 6) dX11_image_131 (by decide) ?_
        refine z_iload_n hZ (pc := 133) dX11_image_133 rfl ?_
        refine z_imul hZ (pc := 134) dX11_image_134 ?_
        refine z_iconst hZ (pc := 135) (v := 4) dX11_image_135 (by decide) ?_
        refine z_iadd hZ (pc := 136) dX11_image_136 ?_
        refine z_top (y := nI (6 * i + 4)) (by rw [show (6 : Int32) = nI 6 from rfl, pk_mul]; exact nI_add _ 4) ?_
        refine z_aload_n hZ (pc := 137) dX11_image_137 rfl ?_
        refine gM_17 hZ (pc := 138) fl_X11_80 dX11_image_138 ?_
        refine z_iload_n hZ (pc := 141) dX11_image_141 rfl ?_
        refine lMn_17 hZ (pc := 142) dX11_image_142 (show i < 200 by omega) ?_
        refine sMn_54 hZ (pc := 143) dX11_image_143 (show 6 * i + 4 < 1200 by omega) ?_
        refine z_aload_n hZ (pc := 144) dX11_image_144 rfl ?_
        refine gM_54 hZ (pc := 145) fl_X11_141 dX11_image_145 ?_
        refine z_bipush hZ (pc := 148) (v := 6) dX11_image_148 (by decide) ?_
        refine z_iload_n hZ (pc := 150) dX11_image_150 rfl ?_
        refine z_imul hZ (pc := 151) dX11_image_151 ?_
        refine z_iconst hZ (pc := 152) (v := 5) dX11_image_152 (by decide) ?_
        refine z_iadd hZ (pc := 153) dX11_image_153 ?_
        refine z_top (y := nI (6 * i + 5)) (by rw [show (6 : Int32) = nI 6 from rfl, pk_mul]; exact nI_add _ 5) ?_
        refine z_aload_n hZ (pc := 154) dX11_image_154 rfl ?_
        refine gM_18 hZ (pc := 155) fl_X11_83 dX11_image_155 ?_
        refine z_iload_n hZ (pc := 158) dX11_image_158 rfl ?_
        refine lMn_18 hZ (pc := 159) dX11_image_159 (show i < 200 by omega) ?_
        refine z_if_eq hZ (pc := 160) (tgt := 167) dX11_image_160 rfl (fun c160 => ?_) (fun c160 => ?_)
        · skip
          refine z_iconst hZ (pc := 167) (v := 0) dX11_image_167 (by decide) ?_
          refine z_top (y := g 18 i) ((show g 18 i = 0 from c160).symm) ?_
          refine sMn_54 hZ (pc := 168) dX11_image_168 (show 6 * i + 5 < 1200 by omega) ?_
          refine q_iinc_2_1 hZ (pc := 169) dX11_image_169 rfl ?_
          refine z_goto hZ (pc := 172) (tgt := 53) dX11_image_172 rfl ?_
          exact z_back hZ (ih53 (i + 1) (upd (upd (upd (upd (upd (upd T (6 * i) (g 13 i)) (6 * i + 1) (g 14 i)) (6 * i + 2) (g 15 i)) (6 * i + 3) (g 16 i)) (6 * i + 4) (g 17 i)) (6 * i + 5) (g 18 i)) (by omega) (by omega) (fun t j ht hj => by
            rw [six_upd t j hj]
            by_cases e : t = i
            · rw [if_pos e, e]
              have h : j = 0 ∨ j = 1 ∨ j = 2 ∨ j = 3 ∨ j = 4 ∨ j = 5 := by omega
              rcases h with rfl | rfl | rfl | rfl | rfl | rfl <;> rfl
            · rw [if_neg e]; exact hT t j (by omega) hj)) (WM_eq rfl (by simp only [up_twice, up_at]; rfl)) ⟨rfl, zi (nI_inc i), trivial⟩
        · skip
          refine z_iconst hZ (pc := 163) (v := 1) dX11_image_163 (by decide) ?_
          refine z_goto hZ (pc := 164) (tgt := 168) dX11_image_164 rfl ?_
          refine z_top (y := g 18 i) ((hco i hl).resolve_left c160).symm ?_
          refine sMn_54 hZ (pc := 168) dX11_image_168 (show 6 * i + 5 < 1200 by omega) ?_
          refine q_iinc_2_1 hZ (pc := 169) dX11_image_169 rfl ?_
          refine z_goto hZ (pc := 172) (tgt := 53) dX11_image_172 rfl ?_
          exact z_back hZ (ih53 (i + 1) (upd (upd (upd (upd (upd (upd T (6 * i) (g 13 i)) (6 * i + 1) (g 14 i)) (6 * i + 2) (g 15 i)) (6 * i + 3) (g 16 i)) (6 * i + 4) (g 17 i)) (6 * i + 5) (g 18 i)) (by omega) (by omega) (fun t j ht hj => by
            rw [six_upd t j hj]
            by_cases e : t = i
            · rw [if_pos e, e]
              have h : j = 0 ∨ j = 1 ∨ j = 2 ∨ j = 3 ∨ j = 4 ∨ j = 5 := by omega
              rcases h with rfl | rfl | rfl | rfl | rfl | rfl <;> rfl
            · rw [if_neg e]; exact hT t j (by omega) hj)) (WM_eq rfl (by simp only [up_twice, up_at]; rfl)) ⟨rfl, zi (nI_inc i), trivial⟩
  exact z_back hZ (lp53 (n + 1) 0 (g 54) (Nat.zero_le _) (by omega) (fun t j ht => absurd ht (Nat.not_lt_zero _))) (WM_eq rfl (by simp only [up_twice, up_at]; exact (up_self (k := 54)).symm)) ⟨rfl, rfl, trivial⟩
