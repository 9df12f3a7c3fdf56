theorem c_X11_lastOf {l : Launch} {D : va_G} {cA : Nat → ClassId} {r : Nat} {a : Nat → Nat} {s0 s1 : Nat → Option Nat} {v : ZV} {g : ZG} {n p : Nat} (hn : g 3 1 = nI n) (h16 : n ≤ 16) (hp : p < n) : MG l D cA (WM r a cA s0 s1) yX11_lastOf cX11_lastOf 5 (some .int) 0 [(.ref r), .int (nI p)] v g (fun v2 g2 r => v2 = v ∧ (∀ j, j ≠ 50 → g2 j = g j) ∧ r = some (.int (lastS (g 4) (g 5) p n))) := by
  refine MG.of (by decide) rfl (Nat.le_of_ble_eq_true rfl) (by simp [Value.category]) (fun Z hZ => ?_)
  have hO : ∀ i, i ≤ n → lsO (g 4) p i ≤ 16 := fun i hi => Nat.le_trans (lsO_le _ _ _) (by omega)
  have hOn : lsO (g 4) p n < n := lsO_lt hp
  refine z_iconst hZ (pc := 0) (v := 0) dX11_lastOf_0 (by decide) ?_
  refine q_istore_n_5_2 hZ (pc := 1) dX11_lastOf_1 rfl ?_
  have lp2 : ∀ (f k : Nat) (T : Nat → Int32), k ≤ 17 → 17 - k < f → (∀ j, j < k → T j = row0 j) → Z 0 0 (WM r a cA s0 s1 v (va_up g 50 T)) [some (.ref r), some (.int (nI p)), some (.int (nI k)), none, none] [] 2 := by
    intro f
    induction f with
    | zero => intro k _ _ hf; exact absurd hf (Nat.not_lt_zero _)
    | succ f ih2 =>
      intro k T hk17 hf hT
      refine z_iload_n hZ (pc := 2) dX11_lastOf_2 rfl ?_
      refine z_bipush hZ (pc := 3) (v := 16) dX11_lastOf_3 (by decide) ?_
      refine z_icmp_gt hZ (pc := 5) (tgt := 31) dX11_lastOf_5 rfl (fun c5 => ?_) (fun c5 => ?_)
      · skip
        have ek : k = 17 := by
          have := (nI_ltI (a := 16) (b := k) (by omega) (by omega)).mp c5
          omega
        subst ek
        refine z_iconst hZ (pc := 31) (v := 0) dX11_lastOf_31 (by decide) ?_
        refine q_istore_n_5_2 hZ (pc := 32) dX11_lastOf_32 rfl ?_
        refine z_iconst hZ (pc := 33) (v := 0) dX11_lastOf_33 (by decide) ?_
        refine q_istore_n_5_3 hZ (pc := 34) dX11_lastOf_34 rfl ?_
        have lp35 : ∀ (f i : Nat), i ≤ n → n - i < f → Z 0 0 (WM r a cA s0 s1 v (va_up g 50 (lsR (g 4) (g 5) p T i))) [some (.ref r), some (.int (nI p)), some (.int (nI (lsO (g 4) p i))), some (.int (nI i)), none] [] 35 := by
          intro f
          induction f with
          | zero => intro i _ hf; exact absurd hf (Nat.not_lt_zero _)
          | succ f ih35 =>
            intro i hi hf
            refine z_iload_n hZ (pc := 35) dX11_lastOf_35 rfl ?_
            refine z_aload_n hZ (pc := 36) dX11_lastOf_36 rfl ?_
            refine gM_3 hZ (pc := 37) fl_X11_40 dX11_lastOf_37 ?_
            refine z_iconst hZ (pc := 40) (v := 1) dX11_lastOf_40 (by decide) ?_
            refine lMn_3 hZ (pc := 41) (q := 1) dX11_lastOf_41 (by decide) ?_
            refine z_top (y := nI n) hn ?_
            refine z_icmp_ge hZ (pc := 42) (tgt := 146) dX11_lastOf_42 rfl (fun c42 => ?_) (fun c42 => ?_)
            · skip
              have ei : i = n := lp_ge rfl (by omega) hi c42
              subst ei
              refine z_iconst hZ (pc := 146) (v := 0) dX11_lastOf_146 (by decide) ?_
              refine q_istore_n_5_3 hZ (pc := 147) dX11_lastOf_147 rfl ?_
              refine z_iconst hZ (pc := 148) (v := 0) dX11_lastOf_148 (by decide) ?_
              refine q_istore_5_4 hZ (pc := 149) dX11_lastOf_149 rfl ?_
              have lp151 : ∀ (f k : Nat), k ≤ lsO (g 4) p i + 1 → lsO (g 4) p i + 1 - k < f → Z 0 0 (WM r a cA s0 s1 v (va_up g 50 (lsR (g 4) (g 5) p T i))) [some (.ref r), some (.int (nI p)), some (.int (nI (lsO (g 4) p i))), some (.int (sumS (lsR (g 4) (g 5) p T i) (g 5 p) k)), some (.int (nI k))] [] 151 := by
                intro f
                induction f with
                | zero => intro k _ hf; exact absurd hf (Nat.not_lt_zero _)
                | succ f ih151 =>
                  intro k hk1 hfk
                  refine z_iload hZ (pc := 151) dX11_lastOf_151 rfl ?_
                  refine z_iload_n hZ (pc := 153) dX11_lastOf_153 rfl ?_
                  refine z_icmp_gt hZ (pc := 154) (tgt := 189) dX11_lastOf_154 rfl (fun c154 => ?_) (fun c154 => ?_)
                  · skip
                    have ek : k = lsO (g 4) p i + 1 := by
                      have := (nI_ltI (a := lsO (g 4) p i) (b := k) (by omega) (by omega)).mp c154
                      omega
                    subst ek
                    refine z_iload_n hZ (pc := 189) dX11_lastOf_189 rfl ?_
                    refine zr_i hZ (pc := 190) dX11_lastOf_190 FitR.int ?_
                    exact ⟨rfl, fun j hj => up_off hj, by rw [lastS]; exact congrArg (fun z => some (Value.int z)) (sumS_cong (fun j hj => lsR_cong (N := 17) (fun k hk => hT k hk) i j (by omega)))⟩
                  · skip
                    have hk : k ≤ lsO (g 4) p i := by
                      rcases Nat.lt_or_ge (lsO (g 4) p i) k with z | z
                      · exact absurd (nI_lt z (by omega)) c154
                      · exact z
                    refine z_iload_n hZ (pc := 157) dX11_lastOf_157 rfl ?_
                    refine z_aload_n hZ (pc := 158) dX11_lastOf_158 rfl ?_
                    refine gM_50 hZ (pc := 159) fl_X11_132 dX11_lastOf_159 ?_
                    refine z_iload hZ (pc := 162) dX11_lastOf_162 rfl ?_
                    refine lMn_50 hZ (pc := 164) dX11_lastOf_164 (show k < 17 by omega) ?_
                    refine z_top (y := lsR (g 4) (g 5) p T i k) (congrFun up_at k) ?_
                    refine z_aload_n hZ (pc := 165) dX11_lastOf_165 rfl ?_
                    refine gM_5 hZ (pc := 166) fl_X11_47 dX11_lastOf_166 ?_
                    refine z_iload_n hZ (pc := 169) dX11_lastOf_169 rfl ?_
                    refine lMn_5 hZ (pc := 170) dX11_lastOf_170 (show p < 32 by omega) ?_
                    refine z_top (y := g 5 p) rfl ?_
                    refine z_imul hZ (pc := 171) dX11_lastOf_171 ?_
                    refine z_sipush hZ (pc := 172) (v := 1000) dX11_lastOf_172 (by decide) ?_
                    refine z_idiv hZ (pc := 175) dX11_lastOf_175 (by decide) ?_
                    refine z_iload hZ (pc := 176) dX11_lastOf_176 rfl ?_
                    refine z_iconst hZ (pc := 178) (v := 1) dX11_lastOf_178 (by decide) ?_
                    refine z_iadd hZ (pc := 179) dX11_lastOf_179 ?_
                    refine z_idiv hZ (pc := 180) dX11_lastOf_180 (by rw [nI_1]; exact nI_ne0 (by omega) (by omega)) ?_
                    refine z_iadd hZ (pc := 181) dX11_lastOf_181 ?_
                    refine q_istore_n_5_3 hZ (pc := 182) dX11_lastOf_182 rfl ?_
                    refine q_iinc_5_4 hZ (pc := 183) dX11_lastOf_183 rfl ?_
                    refine z_goto hZ (pc := 186) (tgt := 151) dX11_lastOf_186 rfl ?_
                    exact z_back hZ (ih151 (k + 1) (by omega) (by omega)) rfl ⟨rfl, rfl, rfl, rfl, zi (nI_inc k), trivial⟩
              exact z_back hZ (lp151 (lsO (g 4) p i + 2) 0 (Nat.zero_le _) (by omega)) rfl ⟨rfl, rfl, rfl, rfl, rfl, trivial⟩
            · skip
              have hl : i < n := lp_lt rfl (by omega) hi c42
              refine z_iload_n hZ (pc := 45) dX11_lastOf_45 rfl ?_
              refine z_iload_n hZ (pc := 46) dX11_lastOf_46 rfl ?_
              refine z_icmp_eq hZ (pc := 47) (tgt := 140) dX11_lastOf_47 rfl (fun c47 => ?_) (fun c47 => ?_)
              · skip
                skip
                refine q_iinc_5_3 hZ (pc := 140) dX11_lastOf_140 rfl ?_
                refine z_goto hZ (pc := 143) (tgt := 35) dX11_lastOf_143 rfl ?_
                exact z_back hZ (ih35 (i + 1) (by omega) (by omega)) (WM_eq rfl (by rw [lsR, if_neg (fun z => z.1 ((nI_eq (by omega) (by omega)).mp c47))])) ⟨rfl, rfl, zi (by rw [lsO_s, if_neg (fun z => z.1 ((nI_eq (by omega) (by omega)).mp c47))]; rfl), zi (nI_inc i), trivial⟩
              · skip
                refine z_aload_n hZ (pc := 50) dX11_lastOf_50 rfl ?_
                refine gM_4 hZ (pc := 51) fl_X11_44 dX11_lastOf_51 ?_
                refine z_iload_n hZ (pc := 54) dX11_lastOf_54 rfl ?_
                refine lMn_4 hZ (pc := 55) dX11_lastOf_55 (show i < 32 by omega) ?_
                refine z_top (y := g 4 i) rfl ?_
                refine z_aload_n hZ (pc := 56) dX11_lastOf_56 rfl ?_
                refine gM_4 hZ (pc := 57) fl_X11_44 dX11_lastOf_57 ?_
                refine z_iload_n hZ (pc := 60) dX11_lastOf_60 rfl ?_
                refine lMn_4 hZ (pc := 61) dX11_lastOf_61 (show p < 32 by omega) ?_
                refine z_top (y := g 4 p) rfl ?_
                refine z_icmp_eq hZ (pc := 62) (tgt := 68) dX11_lastOf_62 rfl (fun c62 => ?_) (fun c62 => ?_)
                · skip
                  have hne : i ≠ p := fun z => c47 (by rw [z])
                  obtain ⟨C, hC⟩ : ∃ C, C = lsR (g 4) (g 5) p T i := ⟨_, rfl⟩
                  obtain ⟨O, hO2⟩ : ∃ O, O = lsO (g 4) p (i + 1) := ⟨_, rfl⟩
                  have hO16 : O ≤ 16 := by rw [hO2]; exact hO (i + 1) hl
                  rw [← hC]
                  refine q_iinc_5_2 hZ (pc := 68) dX11_lastOf_68 rfl ?_
                  refine z_drop hZ (L' := [some (.ref r), some (.int (nI p)), some (.int (nI O)), some (.int (nI i)), none]) ⟨rfl, rfl, zi (by rw [hO2, lsO_s, if_pos ⟨hne, c62⟩]; exact nI_1 _), rfl, trivial⟩ ?_
                  refine z_iload_n hZ (pc := 71) dX11_lastOf_71 rfl ?_
                  refine q_istore_5_4 hZ (pc := 72) dX11_lastOf_72 rfl ?_
                  have lp74 : ∀ f m : Nat, m ≤ O + 1 → m < f → Z 0 0 (WM r a cA s0 s1 v (va_up g 50 (addRm C O (g 5 i) m))) [some (.ref r), some (.int (nI p)), some (.int (nI O)), some (.int (nI i)), some (.int (nI m + Int32.ofInt (-1)))] [] 74 := by
                    intro f
                    induction f with
                    | zero => intro m _ hf; exact absurd hf (Nat.not_lt_zero _)
                    | succ f ih74 =>
                      intro m hm1 hfm
                      refine z_iload hZ (pc := 74) dX11_lastOf_74 rfl ?_
                      refine z_if_lt hZ (pc := 76) (tgt := 140) dX11_lastOf_76 rfl (fun c76 => ?_) (fun c76 => ?_)
                      · skip
                        have em : m = 0 := by
                          rcases Nat.eq_zero_or_pos m with h | h
                          · exact h
                          · obtain ⟨q, rfl⟩ : ∃ q, m = q + 1 := ⟨m - 1, by omega⟩
                            rw [nI_dec] at c76
                            exact absurd c76 (nI_pos (by omega))
                        subst em
                        rw [addRm_0]
                        refine q_iinc_5_3 hZ (pc := 140) dX11_lastOf_140 rfl ?_
                        refine z_goto hZ (pc := 143) (tgt := 35) dX11_lastOf_143 rfl ?_
                        exact z_back hZ (ih35 (i + 1) (by omega) (by omega)) (WM_eq rfl (by rw [lsR, if_pos ⟨hne, c62⟩, ← hC, ← hO2])) ⟨rfl, rfl, zi (by rw [hO2]), zi (nI_inc i), trivial⟩
                      · skip
                        obtain ⟨q, rfl⟩ : ∃ q, m = q + 1 := ⟨m - 1, by
                          rcases Nat.eq_zero_or_pos m with h | h
                          · subst h; exact absurd m1_neg c76
                          · omega⟩
                        rw [nI_dec]
                        refine z_aload_n hZ (pc := 79) dX11_lastOf_79 rfl ?_
                        refine gM_50 hZ (pc := 80) fl_X11_132 dX11_lastOf_80 ?_
                        refine z_iload hZ (pc := 83) dX11_lastOf_83 rfl ?_
                        refine z_aload_n hZ (pc := 85) dX11_lastOf_85 rfl ?_
                        refine gM_50 hZ (pc := 86) fl_X11_132 dX11_lastOf_86 ?_
                        refine z_iload hZ (pc := 89) dX11_lastOf_89 rfl ?_
                        refine lMn_50 hZ (pc := 91) dX11_lastOf_91 (show q < 17 by omega) ?_
                        refine z_sipush hZ (pc := 92) (v := 1000) dX11_lastOf_92 (by decide) ?_
                        refine z_aload_n hZ (pc := 95) dX11_lastOf_95 rfl ?_
                        refine gM_5 hZ (pc := 96) fl_X11_47 dX11_lastOf_96 ?_
                        refine z_iload_n hZ (pc := 99) dX11_lastOf_99 rfl ?_
                        refine lMn_5 hZ (pc := 100) dX11_lastOf_100 (show i < 32 by omega) ?_
                        refine z_top (y := g 5 i) rfl ?_
                        refine z_isub hZ (pc := 101) dX11_lastOf_101 ?_
                        refine z_imul hZ (pc := 102) dX11_lastOf_102 ?_
                        refine z_iload hZ (pc := 103) dX11_lastOf_103 rfl ?_
                        refine z_if_le hZ (pc := 105) (tgt := 127) dX11_lastOf_105 rfl (fun c105 => ?_) (fun c105 => ?_)
                        · skip
                          refine z_iconst hZ (pc := 127) (v := 0) dX11_lastOf_127 (by decide) ?_
                          refine z_iadd hZ (pc := 128) dX11_lastOf_128 ?_
                          refine z_sipush hZ (pc := 129) (v := 1000) dX11_lastOf_129 (by decide) ?_
                          refine z_idiv hZ (pc := 132) dX11_lastOf_132 (by decide) ?_
                          refine sMn_50 hZ (pc := 133) dX11_lastOf_133 (show q < 17 by omega) ?_
                          refine q_iinc_5_4 hZ (pc := 134) dX11_lastOf_134 rfl ?_
                          refine z_goto hZ (pc := 137) (tgt := 74) dX11_lastOf_137 rfl ?_
                          exact z_back hZ (ih74 q (by omega) (by omega)) (WM_eq rfl (by
                            rw [up_twice]
                            refine congrArg _ ?_
                            rw [← addRm_s C O (g 5 i) q (by omega)]
                            have h0 : q = 0 := nI_le0 c105 (by omega)
                            subst h0
                            simp [up_at])) ⟨rfl, rfl, rfl, rfl, rfl, trivial⟩
                        · skip
                          have hq0 : q ≠ 0 := nI_gt0 c105
                          refine z_aload_n hZ (pc := 108) dX11_lastOf_108 rfl ?_
                          refine gM_50 hZ (pc := 109) fl_X11_132 dX11_lastOf_109 ?_
                          refine z_iload hZ (pc := 112) dX11_lastOf_112 rfl ?_
                          refine z_iconst hZ (pc := 114) (v := 1) dX11_lastOf_114 (by decide) ?_
                          refine z_isub hZ (pc := 115) dX11_lastOf_115 ?_
                          refine z_top (y := nI (q - 1)) (nI_sub1 (by omega)) ?_
                          refine lMn_50 hZ (pc := 116) dX11_lastOf_116 (show q - 1 < 17 by omega) ?_
                          refine z_aload_n hZ (pc := 117) dX11_lastOf_117 rfl ?_
                          refine gM_5 hZ (pc := 118) fl_X11_47 dX11_lastOf_118 ?_
                          refine z_iload_n hZ (pc := 121) dX11_lastOf_121 rfl ?_
                          refine lMn_5 hZ (pc := 122) dX11_lastOf_122 (show i < 32 by omega) ?_
                          refine z_top (y := g 5 i) rfl ?_
                          refine z_imul hZ (pc := 123) dX11_lastOf_123 ?_
                          refine z_goto hZ (pc := 124) (tgt := 128) dX11_lastOf_124 rfl ?_
                          refine z_iadd hZ (pc := 128) dX11_lastOf_128 ?_
                          refine z_sipush hZ (pc := 129) (v := 1000) dX11_lastOf_129 (by decide) ?_
                          refine z_idiv hZ (pc := 132) dX11_lastOf_132 (by decide) ?_
                          refine sMn_50 hZ (pc := 133) dX11_lastOf_133 (show q < 17 by omega) ?_
                          refine q_iinc_5_4 hZ (pc := 134) dX11_lastOf_134 rfl ?_
                          refine z_goto hZ (pc := 137) (tgt := 74) dX11_lastOf_137 rfl ?_
                          exact z_back hZ (ih74 q (by omega) (by omega)) (WM_eq rfl (by
                            rw [up_twice]
                            refine congrArg _ ?_
                            rw [← addRm_s C O (g 5 i) q (by omega)]
                            simp [up_at, hq0])) ⟨rfl, rfl, rfl, rfl, rfl, trivial⟩
                  exact z_back hZ (lp74 (O + 2) (O + 1) (Nat.le_refl _) (by omega)) (WM_eq rfl (by rw [addRm_top])) ⟨rfl, rfl, rfl, rfl, zi (nI_dec O).symm, trivial⟩
                · skip
                  refine z_goto hZ (pc := 65) (tgt := 140) dX11_lastOf_65 rfl ?_
                  skip
                  refine q_iinc_5_3 hZ (pc := 140) dX11_lastOf_140 rfl ?_
                  refine z_goto hZ (pc := 143) (tgt := 35) dX11_lastOf_143 rfl ?_
                  exact z_back hZ (ih35 (i + 1) (by omega) (by omega)) (WM_eq rfl (by rw [lsR, if_neg (fun z => c62 z.2)])) ⟨rfl, rfl, zi (by rw [lsO_s, if_neg (fun z => c62 z.2)]; rfl), zi (nI_inc i), trivial⟩
        exact z_back hZ (lp35 (n + 1) 0 (Nat.zero_le _) (by omega)) (WM_eq rfl rfl) ⟨rfl, rfl, rfl, rfl, trivial⟩
      · skip
        have hk : k < 17 := by
          rcases Nat.lt_or_ge 16 k with z | z
          · exact absurd (nI_lt (a := 16) z (by omega)) c5
          · omega
        refine z_aload_n hZ (pc := 8) dX11_lastOf_8 rfl ?_
        refine gM_50 hZ (pc := 9) fl_X11_132 dX11_lastOf_9 ?_
        refine z_iload_n hZ (pc := 12) dX11_lastOf_12 rfl ?_
        refine z_iload_n hZ (pc := 13) dX11_lastOf_13 rfl ?_
        refine z_if_ne hZ (pc := 14) (tgt := 23) dX11_lastOf_14 rfl (fun c14 => ?_) (fun c14 => ?_)
        · skip
          refine z_iconst hZ (pc := 23) (v := 0) dX11_lastOf_23 (by decide) ?_
          refine z_top (y := row0 k) (by rw [row0, if_neg (fun z => c14 (by rw [z]; rfl))]) ?_
          refine sMn_50 hZ (pc := 24) dX11_lastOf_24 (show k < 17 by omega) ?_
          refine q_iinc_5_2 hZ (pc := 25) dX11_lastOf_25 rfl ?_
          refine z_goto hZ (pc := 28) (tgt := 2) dX11_lastOf_28 rfl ?_
          exact z_back hZ (ih2 (k + 1) (upd T k (row0 k)) (by omega) (by omega) (lt_s (fun j hj => by rw [upd_off (by omega)]; exact hT j hj) upd_at)) (WM_eq rfl (by rw [up_twice, up_at])) ⟨rfl, rfl, zi (nI_inc k), trivial⟩
        · skip
          refine z_ldcw hZ (pc := 17) (v := 1000000) dX11_lastOf_17 (List.mem_of_getElem? (i := 1663) (by decide +kernel)) ?_
          refine z_goto hZ (pc := 20) (tgt := 24) dX11_lastOf_20 rfl ?_
          refine z_top (y := row0 k) (by rw [row0, if_pos (by
            rcases Nat.eq_zero_or_pos k with z | z
            · exact z
            · exact absurd c14 (fun e => nI_ne0 z (by omega) e))]) ?_
          refine sMn_50 hZ (pc := 24) dX11_lastOf_24 (show k < 17 by omega) ?_
          refine q_iinc_5_2 hZ (pc := 25) dX11_lastOf_25 rfl ?_
          refine z_goto hZ (pc := 28) (tgt := 2) dX11_lastOf_28 rfl ?_
          exact z_back hZ (ih2 (k + 1) (upd T k (row0 k)) (by omega) (by omega) (lt_s (fun j hj => by rw [upd_off (by omega)]; exact hT j hj) upd_at)) (WM_eq rfl (by rw [up_twice, up_at])) ⟨rfl, rfl, zi (nI_inc k), trivial⟩
  exact z_back hZ (lp2 18 0 (g 50) (by omega) (by omega) (fun k hk => absurd hk (Nat.not_lt_zero _))) (WM_eq rfl up_self.symm) ⟨rfl, rfl, rfl, trivial⟩
theorem c_X11_last {l : Launch} {D : va_G} {cA : Nat → ClassId} {r : Nat} {a : Nat → Nat} {s0 s1 : Nat → Option Nat} {v : ZV} {g : ZG} {x : Int32} {P : Nat} (hP : g 3 1 = nI P) (hP6 : P ≤ 16) : MG l D cA (WM r a cA s0 s1) yX11_last cX11_last 2 (some .int) 2 [(.ref r), .int x] v g (fun v2 g2 r => v2 = va_up v 2 (if (inI x P) = true then 0 else 1) ∧ (∀ j, j ≠ 50 → g2 j = g j) ∧ r = some (.int (if (inI x P) = true then lastS (g 4) (g 5) x.toNatClampNeg P else 0))) := by
  refine MG.of (by decide) rfl (Nat.le_of_ble_eq_true rfl) (by simp [Value.category]) (fun Z hZ => ?_)
  refine z_aload_n hZ (pc := 0) dX11_last_0 rfl ?_
  refine z_iconst hZ (pc := 1) (v := 0) dX11_last_1 (by decide) ?_
  refine pM_2 hZ (pc := 2) fl_X11_160 dX11_last_2 ?_
  refine z_aload_n hZ (pc := 5) dX11_last_5 rfl ?_
  refine z_iload_n hZ (pc := 6) dX11_last_6 rfl ?_
  refine cV_i hZ (pc := 7) dX11_last_7 lk_X11_312 mn_X11_isPerson mv_X11_isPerson (c_X11_isPerson (n := P) hP (by omega)) rc_M rfl rfl (Nat.le_of_ble_eq_true rfl) (by decide) (by decide) (Nat.zero_le _) (Nat.zero_le _) ?_
  refine z_if_eq hZ (pc := 10) (tgt := 21) dX11_last_10 rfl (fun c10 => ?_) (fun c10 => ?_)
  · skip
    refine z_aload_n hZ (pc := 21) dX11_last_21 rfl ?_
    refine z_iconst hZ (pc := 22) (v := 1) dX11_last_22 (by decide) ?_
    refine cV_i hZ (pc := 23) dX11_last_23 lk_X11_286 mn_X11_fail mv_X11_fail (c_X11_fail) rc_M rfl rfl (Nat.le_of_ble_eq_true rfl) (by decide) (by decide) (Nat.zero_le _) (Nat.zero_le _) ?_
    refine zr_i hZ (pc := 26) dX11_last_26 FitR.int ?_
    exact ⟨by rw [bI_eq.mp c10]; exact up_twice, fun _ _ => rfl, by rw [bI_eq.mp c10]; rfl⟩
  · skip
    obtain ⟨k, hk, rfl⟩ := inI_t (bI_ne c10) (by omega)
    refine z_aload_n hZ (pc := 13) dX11_last_13 rfl ?_
    refine z_iload_n hZ (pc := 14) dX11_last_14 rfl ?_
    refine cV hZ (pc := 15) dX11_last_15 lk_X11_400 mn_X11_lastOf mv_X11_lastOf (c_X11_lastOf (n := P) (p := k) hP hP6 hk) rc_M rfl rfl (Nat.le_of_ble_eq_true rfl) (by decide) (by decide) (Nat.zero_le _) (Nat.zero_le _) ?_
    intro v2 g2 r h
    obtain ⟨rfl, hg2, rfl⟩ := h
    refine z_goto hZ (pc := 18) (tgt := 26) dX11_last_18 rfl ?_
    refine zr_i hZ (pc := 26) dX11_last_26 FitR.int ?_
    exact ⟨by rw [bI_ne c10]; rfl, hg2, by rw [bI_ne c10, if_pos rfl, nI_clamp (by omega)]⟩
