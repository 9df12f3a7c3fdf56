section LawCases
variable {l : Launch} {D : va_G} {cA : Nat → ClassId} {aK aV : Nat → Nat} {b n : Nat} {xs : Nat → Int32} {E : Nat → Nat → va_W → Option Value → Prop} {Z : ZT}
variable {u w t x0 r q : Nat} {o a a' : Nat → Nat} {v mv : ZV} {g mg : ZG} {f : Nat → Int64} {s0 s1 : Nat → Option Nat} {L5 L6 : Option Value}
theorem clamp0 : (0 : Int32).toNatClampNeg = 0 := by decide
theorem mw_city : Cond.codeWith yL_city cL_city 4 (some .int) [(0, 9, 12, 13)] ∈ lw_tbl ∧ Cond.initialized yL_city.cls ∈ lw_tbl ∧ yL_city.cls ≠ "java/lang/invoke/MethodHandle" ∧ yL_city.cls ≠ "java/lang/invoke/VarHandle" ∧ (parseMethodDescriptor yL_city.desc).map (fun d => d.parameters.length) = some 3 := ⟨(List.mem_of_getElem? (i := 511) (by decide +kernel)), (List.mem_of_getElem? (i := 113) (by decide +kernel)), by decide +kernel, by decide +kernel, by decide +kernel⟩
theorem mws_city : MIs yL_city := (List.mem_of_getElem? (i := 510) (by decide +kernel))
theorem mw_count : Cond.codeWith yL_count cL_count 4 (some .int) [(0, 9, 12, 18)] ∈ lw_tbl ∧ Cond.initialized yL_count.cls ∈ lw_tbl ∧ yL_count.cls ≠ "java/lang/invoke/MethodHandle" ∧ yL_count.cls ≠ "java/lang/invoke/VarHandle" ∧ (parseMethodDescriptor yL_count.desc).map (fun d => d.parameters.length) = some 3 := ⟨(List.mem_of_getElem? (i := 790) (by decide +kernel)), (List.mem_of_getElem? (i := 113) (by decide +kernel)), by decide +kernel, by decide +kernel, by decide +kernel⟩
theorem mws_count : MIs yL_count := (List.mem_of_getElem? (i := 789) (by decide +kernel))
theorem mw_person : Cond.codeWith yL_person cL_person 5 (some .int) [(0, 10, 13, 18)] ∈ lw_tbl ∧ Cond.initialized yL_person.cls ∈ lw_tbl ∧ yL_person.cls ≠ "java/lang/invoke/MethodHandle" ∧ yL_person.cls ≠ "java/lang/invoke/VarHandle" ∧ (parseMethodDescriptor yL_person.desc).map (fun d => d.parameters.length) = some 4 := ⟨(List.mem_of_getElem? (i := 826) (by decide +kernel)), (List.mem_of_getElem? (i := 113) (by decide +kernel)), by decide +kernel, by decide +kernel, by decide +kernel⟩
theorem mws_person : MIs yL_person := (List.mem_of_getElem? (i := 825) (by decide +kernel))
theorem mw_walk : Cond.codeWith yL_walk cL_walk 5 (some .int) [(0, 10, 13, 18)] ∈ lw_tbl ∧ Cond.initialized yL_walk.cls ∈ lw_tbl ∧ yL_walk.cls ≠ "java/lang/invoke/MethodHandle" ∧ yL_walk.cls ≠ "java/lang/invoke/VarHandle" ∧ (parseMethodDescriptor yL_walk.desc).map (fun d => d.parameters.length) = some 4 := ⟨(List.mem_of_getElem? (i := 838) (by decide +kernel)), (List.mem_of_getElem? (i := 113) (by decide +kernel)), by decide +kernel, by decide +kernel, by decide +kernel⟩
theorem mws_walk : MIs yL_walk := (List.mem_of_getElem? (i := 837) (by decide +kernel))
theorem mw_move : Cond.codeWith yL_move cL_move 4 (some .int) [(0, 6, 9, 18)] ∈ lw_tbl ∧ Cond.initialized yL_move.cls ∈ lw_tbl ∧ yL_move.cls ≠ "java/lang/invoke/MethodHandle" ∧ yL_move.cls ≠ "java/lang/invoke/VarHandle" ∧ (parseMethodDescriptor yL_move.desc).map (fun d => d.parameters.length) = some 3 := ⟨(List.mem_of_getElem? (i := 855) (by decide +kernel)), (List.mem_of_getElem? (i := 113) (by decide +kernel)), by decide +kernel, by decide +kernel, by decide +kernel⟩
theorem mws_move : MIs yL_move := (List.mem_of_getElem? (i := 854) (by decide +kernel))
theorem mw_weep : Cond.codeWith yL_weep cL_weep 6 (some .int) [(0, 12, 15, 18)] ∈ lw_tbl ∧ Cond.initialized yL_weep.cls ∈ lw_tbl ∧ yL_weep.cls ≠ "java/lang/invoke/MethodHandle" ∧ yL_weep.cls ≠ "java/lang/invoke/VarHandle" ∧ (parseMethodDescriptor yL_weep.desc).map (fun d => d.parameters.length) = some 5 := ⟨(List.mem_of_getElem? (i := 863) (by decide +kernel)), (List.mem_of_getElem? (i := 113) (by decide +kernel)), by decide +kernel, by decide +kernel, by decide +kernel⟩
theorem mws_weep : MIs yL_weep := (List.mem_of_getElem? (i := 862) (by decide +kernel))
theorem mw_tears : Cond.codeWith yL_tears cL_tears 5 (some .int) [(0, 10, 13, 18)] ∈ lw_tbl ∧ Cond.initialized yL_tears.cls ∈ lw_tbl ∧ yL_tears.cls ≠ "java/lang/invoke/MethodHandle" ∧ yL_tears.cls ≠ "java/lang/invoke/VarHandle" ∧ (parseMethodDescriptor yL_tears.desc).map (fun d => d.parameters.length) = some 4 := ⟨(List.mem_of_getElem? (i := 897) (by decide +kernel)), (List.mem_of_getElem? (i := 113) (by decide +kernel)), by decide +kernel, by decide +kernel, by decide +kernel⟩
theorem mws_tears : MIs yL_tears := (List.mem_of_getElem? (i := 896) (by decide +kernel))
theorem mw_name : Cond.codeWith yL_name cL_name 5 (some .int) [(0, 10, 13, 18)] ∈ lw_tbl ∧ Cond.initialized yL_name.cls ∈ lw_tbl ∧ yL_name.cls ≠ "java/lang/invoke/MethodHandle" ∧ yL_name.cls ≠ "java/lang/invoke/VarHandle" ∧ (parseMethodDescriptor yL_name.desc).map (fun d => d.parameters.length) = some 4 := ⟨(List.mem_of_getElem? (i := 906) (by decide +kernel)), (List.mem_of_getElem? (i := 113) (by decide +kernel)), by decide +kernel, by decide +kernel, by decide +kernel⟩
theorem mws_name : MIs yL_name := (List.mem_of_getElem? (i := 905) (by decide +kernel))
theorem mw_houses : Cond.codeWith yL_houses cL_houses 5 (some .int) [(0, 10, 13, 18)] ∈ lw_tbl ∧ Cond.initialized yL_houses.cls ∈ lw_tbl ∧ yL_houses.cls ≠ "java/lang/invoke/MethodHandle" ∧ yL_houses.cls ≠ "java/lang/invoke/VarHandle" ∧ (parseMethodDescriptor yL_houses.desc).map (fun d => d.parameters.length) = some 4 := ⟨(List.mem_of_getElem? (i := 933) (by decide +kernel)), (List.mem_of_getElem? (i := 113) (by decide +kernel)), by decide +kernel, by decide +kernel, by decide +kernel⟩
theorem mws_houses : MIs yL_houses := (List.mem_of_getElem? (i := 932) (by decide +kernel))
theorem mw_letter : Cond.codeWith yL_letter cL_letter 5 (some .int) [(0, 10, 13, 18)] ∈ lw_tbl ∧ Cond.initialized yL_letter.cls ∈ lw_tbl ∧ yL_letter.cls ≠ "java/lang/invoke/MethodHandle" ∧ yL_letter.cls ≠ "java/lang/invoke/VarHandle" ∧ (parseMethodDescriptor yL_letter.desc).map (fun d => d.parameters.length) = some 4 := ⟨(List.mem_of_getElem? (i := 945) (by decide +kernel)), (List.mem_of_getElem? (i := 113) (by decide +kernel)), by decide +kernel, by decide +kernel, by decide +kernel⟩
theorem mws_letter : MIs yL_letter := (List.mem_of_getElem? (i := 944) (by decide +kernel))
theorem mw_post : Cond.codeWith yL_post cL_post 5 (some .int) [(0, 10, 13, 18)] ∈ lw_tbl ∧ Cond.initialized yL_post.cls ∈ lw_tbl ∧ yL_post.cls ≠ "java/lang/invoke/MethodHandle" ∧ yL_post.cls ≠ "java/lang/invoke/VarHandle" ∧ (parseMethodDescriptor yL_post.desc).map (fun d => d.parameters.length) = some 4 := ⟨(List.mem_of_getElem? (i := 956) (by decide +kernel)), (List.mem_of_getElem? (i := 113) (by decide +kernel)), by decide +kernel, by decide +kernel, by decide +kernel⟩
theorem mws_post : MIs yL_post := (List.mem_of_getElem? (i := 955) (by decide +kernel))
theorem mw_round : Cond.codeWith yL_round cL_round 4 (some .int) [(0, 9, 12, 18)] ∈ lw_tbl ∧ Cond.initialized yL_round.cls ∈ lw_tbl ∧ yL_round.cls ≠ "java/lang/invoke/MethodHandle" ∧ yL_round.cls ≠ "java/lang/invoke/VarHandle" ∧ (parseMethodDescriptor yL_round.desc).map (fun d => d.parameters.length) = some 3 := ⟨(List.mem_of_getElem? (i := 984) (by decide +kernel)), (List.mem_of_getElem? (i := 113) (by decide +kernel)), by decide +kernel, by decide +kernel, by decide +kernel⟩
theorem mws_round : MIs yL_round := (List.mem_of_getElem? (i := 983) (by decide +kernel))
theorem mw_rounded : Cond.codeWith yL_rounded cL_rounded 4 (some .int) [(0, 9, 12, 18)] ∈ lw_tbl ∧ Cond.initialized yL_rounded.cls ∈ lw_tbl ∧ yL_rounded.cls ≠ "java/lang/invoke/MethodHandle" ∧ yL_rounded.cls ≠ "java/lang/invoke/VarHandle" ∧ (parseMethodDescriptor yL_rounded.desc).map (fun d => d.parameters.length) = some 3 := ⟨(List.mem_of_getElem? (i := 1017) (by decide +kernel)), (List.mem_of_getElem? (i := 113) (by decide +kernel)), by decide +kernel, by decide +kernel, by decide +kernel⟩
theorem mws_rounded : MIs yL_rounded := (List.mem_of_getElem? (i := 1016) (by decide +kernel))
theorem mw_holds : Cond.codeWith yL_holds cL_holds 5 (some .int) [(0, 17, 20, 18)] ∈ lw_tbl ∧ Cond.initialized yL_holds.cls ∈ lw_tbl ∧ yL_holds.cls ≠ "java/lang/invoke/MethodHandle" ∧ yL_holds.cls ≠ "java/lang/invoke/VarHandle" ∧ (parseMethodDescriptor yL_holds.desc).map (fun d => d.parameters.length) = some 4 := ⟨(List.mem_of_getElem? (i := 1025) (by decide +kernel)), (List.mem_of_getElem? (i := 113) (by decide +kernel)), by decide +kernel, by decide +kernel, by decide +kernel⟩
theorem mws_holds : MIs yL_holds := (List.mem_of_getElem? (i := 1024) (by decide +kernel))
theorem mw_stranger : Cond.codeWith yL_stranger cL_stranger 5 (some .int) [(0, 10, 13, 18), (0, 10, 17, 13)] ∈ lw_tbl ∧ Cond.initialized yL_stranger.cls ∈ lw_tbl ∧ yL_stranger.cls ≠ "java/lang/invoke/MethodHandle" ∧ yL_stranger.cls ≠ "java/lang/invoke/VarHandle" ∧ (parseMethodDescriptor yL_stranger.desc).map (fun d => d.parameters.length) = some 4 := ⟨(List.mem_of_getElem? (i := 1041) (by decide +kernel)), (List.mem_of_getElem? (i := 113) (by decide +kernel)), by decide +kernel, by decide +kernel, by decide +kernel⟩
theorem mws_stranger : MIs yL_stranger := (List.mem_of_getElem? (i := 1040) (by decide +kernel))
theorem mw_write : Cond.codeWith yL_write cL_write 4 (some .int) [(0, 9, 12, 18)] ∈ lw_tbl ∧ Cond.initialized yL_write.cls ∈ lw_tbl ∧ yL_write.cls ≠ "java/lang/invoke/MethodHandle" ∧ yL_write.cls ≠ "java/lang/invoke/VarHandle" ∧ (parseMethodDescriptor yL_write.desc).map (fun d => d.parameters.length) = some 3 := ⟨(List.mem_of_getElem? (i := 1076) (by decide +kernel)), (List.mem_of_getElem? (i := 113) (by decide +kernel)), by decide +kernel, by decide +kernel, by decide +kernel⟩
theorem mws_write : MIs yL_write := (List.mem_of_getElem? (i := 1075) (by decide +kernel))
theorem mw_register : Cond.codeWith yL_register cL_register 5 (some .int) [(0, 10, 13, 18)] ∈ lw_tbl ∧ Cond.initialized yL_register.cls ∈ lw_tbl ∧ yL_register.cls ≠ "java/lang/invoke/MethodHandle" ∧ yL_register.cls ≠ "java/lang/invoke/VarHandle" ∧ (parseMethodDescriptor yL_register.desc).map (fun d => d.parameters.length) = some 4 := ⟨(List.mem_of_getElem? (i := 1083) (by decide +kernel)), (List.mem_of_getElem? (i := 113) (by decide +kernel)), by decide +kernel, by decide +kernel, by decide +kernel⟩
theorem mws_register : MIs yL_register := (List.mem_of_getElem? (i := 1082) (by decide +kernel))
theorem mw_will : Cond.codeWith yL_will cL_will 8 (some .int) [(0, 16, 19, 18), (0, 16, 23, 13)] ∈ lw_tbl ∧ Cond.initialized yL_will.cls ∈ lw_tbl ∧ yL_will.cls ≠ "java/lang/invoke/MethodHandle" ∧ yL_will.cls ≠ "java/lang/invoke/VarHandle" ∧ (parseMethodDescriptor yL_will.desc).map (fun d => d.parameters.length) = some 7 := ⟨(List.mem_of_getElem? (i := 1103) (by decide +kernel)), (List.mem_of_getElem? (i := 113) (by decide +kernel)), by decide +kernel, by decide +kernel, by decide +kernel⟩
theorem mws_will : MIs yL_will := (List.mem_of_getElem? (i := 1102) (by decide +kernel))
theorem mw_last : Cond.codeWith yL_last cL_last 4 (some .int) [(0, 9, 12, 18)] ∈ lw_tbl ∧ Cond.initialized yL_last.cls ∈ lw_tbl ∧ yL_last.cls ≠ "java/lang/invoke/MethodHandle" ∧ yL_last.cls ≠ "java/lang/invoke/VarHandle" ∧ (parseMethodDescriptor yL_last.desc).map (fun d => d.parameters.length) = some 3 := ⟨(List.mem_of_getElem? (i := 1116) (by decide +kernel)), (List.mem_of_getElem? (i := 113) (by decide +kernel)), by decide +kernel, by decide +kernel, by decide +kernel⟩
theorem mws_last : MIs yL_last := (List.mem_of_getElem? (i := 1115) (by decide +kernel))
theorem mw_nobody : Cond.codeWith yL_nobody cL_nobody 4 (some .int) [(0, 9, 12, 18)] ∈ lw_tbl ∧ Cond.initialized yL_nobody.cls ∈ lw_tbl ∧ yL_nobody.cls ≠ "java/lang/invoke/MethodHandle" ∧ yL_nobody.cls ≠ "java/lang/invoke/VarHandle" ∧ (parseMethodDescriptor yL_nobody.desc).map (fun d => d.parameters.length) = some 3 := ⟨(List.mem_of_getElem? (i := 1135) (by decide +kernel)), (List.mem_of_getElem? (i := 113) (by decide +kernel)), by decide +kernel, by decide +kernel, by decide +kernel⟩
theorem mws_nobody : MIs yL_nobody := (List.mem_of_getElem? (i := 1134) (by decide +kernel))
theorem mw_behind : Cond.codeWith yL_behind cL_behind 6 (some .int) [(0, 12, 15, 18), (0, 12, 19, 13)] ∈ lw_tbl ∧ Cond.initialized yL_behind.cls ∈ lw_tbl ∧ yL_behind.cls ≠ "java/lang/invoke/MethodHandle" ∧ yL_behind.cls ≠ "java/lang/invoke/VarHandle" ∧ (parseMethodDescriptor yL_behind.desc).map (fun d => d.parameters.length) = some 5 := ⟨(List.mem_of_getElem? (i := 1146) (by decide +kernel)), (List.mem_of_getElem? (i := 113) (by decide +kernel)), by decide +kernel, by decide +kernel, by decide +kernel⟩
theorem mws_behind : MIs yL_behind := (List.mem_of_getElem? (i := 1145) (by decide +kernel))
theorem mw_dry : Cond.codeWith yL_dry cL_dry 4 (some .int) [(0, 9, 12, 13)] ∈ lw_tbl ∧ Cond.initialized yL_dry.cls ∈ lw_tbl ∧ yL_dry.cls ≠ "java/lang/invoke/MethodHandle" ∧ yL_dry.cls ≠ "java/lang/invoke/VarHandle" ∧ (parseMethodDescriptor yL_dry.desc).map (fun d => d.parameters.length) = some 3 := ⟨(List.mem_of_getElem? (i := 1155) (by decide +kernel)), (List.mem_of_getElem? (i := 113) (by decide +kernel)), by decide +kernel, by decide +kernel, by decide +kernel⟩
theorem mws_dry : MIs yL_dry := (List.mem_of_getElem? (i := 1154) (by decide +kernel))
theorem mw_mourner : Cond.codeWith yL_mourner cL_mourner 4 (some .int) [(0, 9, 12, 18)] ∈ lw_tbl ∧ Cond.initialized yL_mourner.cls ∈ lw_tbl ∧ yL_mourner.cls ≠ "java/lang/invoke/MethodHandle" ∧ yL_mourner.cls ≠ "java/lang/invoke/VarHandle" ∧ (parseMethodDescriptor yL_mourner.desc).map (fun d => d.parameters.length) = some 3 := ⟨(List.mem_of_getElem? (i := 1167) (by decide +kernel)), (List.mem_of_getElem? (i := 113) (by decide +kernel)), by decide +kernel, by decide +kernel, by decide +kernel⟩
theorem mws_mourner : MIs yL_mourner := (List.mem_of_getElem? (i := 1166) (by decide +kernel))
theorem lw_c0 (hW : ZW l D cA (LSX l aK aV b n xs) RL cL_law 7 2048 601024 7293034 E Z) (hE : SimE v g mv mg) (ho : o 0 = x0) (hs0 : ∀ k, k < 5 → s0 k = some (aK (clN k))) (hs1 : ∀ k, k < 7 → s1 k = some (aK k)) (ht : 6 * t + 6 ≤ n) (hn : n ≤ 3072) (hu : u + 6 ≤ 601024) (hw : w + 36 ≤ 7293034) (hN : LNext Z cA b x0 r q a' s0 s1 (nI (6 * t)) u w) : Z u w (WL o a cA v g r a' s0 s1 mv mg q f) [some (.ref b), some (.ref x0), some (.ref r), some (.ref q), some (.int (nI (6 * t))), L5, L6] [] 168 := by
  subst ho
  have hZ := hW.toZR
  obtain ⟨P, Pm, hM, hMm, hA⟩ := k_feed (l := l) (D := D) (cA := cA) (o := o) (a := a) (a' := a') (r0 := r) (s0 := s0) (s1 := s1) (A1 := xs (6 * t + 1)) (B1 := xs (6 * t + 2)) (C1 := xs (6 * t + 3)) (D1 := xs (6 * t + 4)) (E1 := xs (6 * t + 5)) hE
  refine z_aload_n hZ (pc := 168) dL_law_168 rfl ?_
  refine zl_arg hW (pc := 169) (j := 1) dL_law_169 dL_law_170 dL_law_172 dL_law_173 dL_law_174 (by decide) rfl rfl (by omega) hn ?_
  refine zl_arg hW (pc := 175) (j := 2) dL_law_175 dL_law_176 dL_law_178 dL_law_179 dL_law_180 (by decide) rfl rfl (by omega) hn ?_
  refine zl_arg hW (pc := 181) (j := 3) dL_law_181 dL_law_182 dL_law_184 dL_law_185 dL_law_186 (by decide) rfl rfl (by omega) hn ?_
  refine zl_arg hW (pc := 187) (j := 4) dL_law_187 dL_law_188 dL_law_190 dL_law_191 dL_law_192 (by decide) rfl rfl (by omega) hn ?_
  refine zl_arg hW (pc := 193) (j := 5) dL_law_193 dL_law_194 dL_law_196 dL_law_197 dL_law_198 (by decide) rfl rfl (by omega) hn ?_
  refine zl_cls hZ (pc := 199) (st := []) dL_law_199 lk_L_92 mn_X10_feed mv_X10_feed rfl hM rfl rfl (by simp) (by decide) (by decide) (by omega) (by omega) (fun v2 g2 r2 h2 => ?_)
  obtain ⟨y2, rfl⟩ := hA.1 _ _ _ h2
  refine z_st (st' := [.int y2]) ?_ rfl
  refine z_aload_n hZ (pc := 202) dL_law_202 rfl ?_
  refine zl_arg hW (pc := 203) (j := 1) dL_law_203 dL_law_204 dL_law_206 dL_law_207 dL_law_208 (by decide) rfl rfl (by omega) hn ?_
  refine zl_arg hW (pc := 209) (j := 2) dL_law_209 dL_law_210 dL_law_212 dL_law_213 dL_law_214 (by decide) rfl rfl (by omega) hn ?_
  refine zl_arg hW (pc := 215) (j := 3) dL_law_215 dL_law_216 dL_law_218 dL_law_219 dL_law_220 (by decide) rfl rfl (by omega) hn ?_
  refine zl_arg hW (pc := 221) (j := 4) dL_law_221 dL_law_222 dL_law_224 dL_law_225 dL_law_226 (by decide) rfl rfl (by omega) hn ?_
  refine zl_arg hW (pc := 227) (j := 5) dL_law_227 dL_law_228 dL_law_230 dL_law_231 dL_law_232 (by decide) rfl rfl (by omega) hn ?_
  refine zl_ref hZ (pc := 233) (st := [.int y2]) dL_law_233 lk_L_95 mn_X11_feed mv_X11_feed rfl hMm rfl rfl (by simp [Value.category]) (by decide) (by decide) (by omega) (by omega) (fun v3 g3 r3 h3 => ?_)
  obtain ⟨e1, e2⟩ := hA.2 _ _ _ _ _ _ h2 h3
  subst e2
  refine z_st (st' := [.int y2, .int y2]) ?_ rfl
  refine z_icmp_eq hZ (pc := 236) (tgt := 1794) dL_law_236 rfl (fun _ => ?_) (fun c => absurd rfl c)
  exact hN _ _ _ _ _ _ _ _ _ _ _ e1 (by omega) (by omega) rfl
theorem lw_c1 (hW : ZW l D cA (LSX l aK aV b n xs) RL cL_law 7 2048 601024 7293034 E Z) (hE : SimE v g mv mg) (ho : o 0 = x0) (hs0 : ∀ k, k < 5 → s0 k = some (aK (clN k))) (hs1 : ∀ k, k < 7 → s1 k = some (aK k)) (ht : 6 * t + 6 ≤ n) (hn : n ≤ 3072) (hu : u + 6 ≤ 601024) (hw : w + 36 ≤ 7293034) (hN : LNext Z cA b x0 r q a' s0 s1 (nI (6 * t)) u w) : Z u w (WL o a cA v g r a' s0 s1 mv mg q f) [some (.ref b), some (.ref x0), some (.ref r), some (.ref q), some (.int (nI (6 * t))), L5, L6] [] 241 := by
  subst ho
  have hZ := hW.toZR
  obtain ⟨PW, hM, hA⟩ := w_city (l := l) (D := D) (cA := cA) (o := o) (a := a) (a' := a') (r0 := r) (q := q) (f := f) (s0 := s0) (s1 := s1) (aK := aK) (aV := aV) (x := xs (6 * t + 1)) hE hs0 hs1
  refine z_aload_n hZ (pc := 241) dL_law_241 rfl ?_
  refine zl_arg hW (pc := 242) (j := 1) dL_law_242 dL_law_243 dL_law_245 dL_law_246 dL_law_247 (by decide) rfl rfl (by omega) hn ?_
  refine z_aload_n hZ (pc := 248) dL_law_248 rfl ?_
  refine zl_wr hW LSX.ok (fun _ _ _ h => h.1) (pc := 249) dL_law_249 (List.mem_of_getElem? (i := 509) (by decide +kernel)) mw_city mws_city hM rfl rfl (by decide) (by decide) (by omega) (by omega) (fun r9 ws9 h9 => ?_)
  obtain ⟨k9, o2, a2, v2, g2, f2, rfl, ho2, rfl, kk, Pm, hkk, hMm, hB⟩ := hA _ _ h9
  refine z_st (st' := [.int k9]) ?_ rfl
  refine q_istore_7_5 hZ (pc := 252) dL_law_252 rfl ?_
  refine z_aload_n hZ (pc := 254) dL_law_254 rfl ?_
  refine zl_arg hW (pc := 255) (j := 1) dL_law_255 dL_law_256 dL_law_258 dL_law_259 dL_law_260 (by decide) rfl rfl (by omega) hn ?_
  refine zl_refY hW LSX.ok (fun _ _ _ h => h.1.1) (pc := 261) (st := []) dL_law_261 lk_L_101 mn_X11_city mv_X11_city rfl hMm rfl rfl (by simp) (by omega) (by decide) (by omega) (by omega) (fun v3 g3 r3 h3 => ?_)
  obtain ⟨e1, e2, y3, rfl, e3⟩ := hB _ _ _ h3
  refine z_st (st' := [.int y3]) ?_ rfl
  refine q_istore_7_6 hZ (pc := 264) dL_law_264 rfl ?_
  refine z_aload_n hZ (pc := 266) dL_law_266 rfl ?_
  refine zl_ref hZ (pc := 267) (st := []) dL_law_267 lk_L_102 mn_X11_thrown mv_X11_thrown rfl c_X11_thrown rfl rfl (by simp) (by decide) (by decide) (by omega) (by omega) (fun v4 g4 r4 h4 => ?_)
  obtain ⟨ev, eg, rfl⟩ := h4
  rw [ev, eg]
  refine z_st (st' := [.int (v3 2)]) ?_ rfl
  refine z_iload hZ (pc := 270) dL_law_270 rfl ?_
  refine z_icmp_eq hZ (pc := 272) (tgt := 277) dL_law_272 rfl (fun _ => ?_) (fun c => absurd e2 c)
  refine z_iload hZ (pc := 277) dL_law_277 rfl ?_
  refine z_if_ne hZ (pc := 279) (tgt := 294) dL_law_279 rfl (fun _ => ?_) (fun c0 => ?_)
  · skip
    refine z_goto hZ (pc := 294) (tgt := 1794) dL_law_294 rfl ?_
    exact hN _ _ _ _ _ _ _ _ _ _ _ e1 (by omega) (by omega) ho2
  · skip
    refine z_aload_n hZ (pc := 282) dL_law_282 rfl ?_
    refine z_iconst hZ (pc := 283) (v := 0) dL_law_283 (by decide) ?_
    refine z_lald hZ (pc := 284) (q0 := (WC o2 a2 cA v2 g2).length) dL_law_284 (WL_at _ _) vin01 ?_
    refine z_iload hZ (pc := 285) dL_law_285 rfl ?_
    refine z_i2l hZ (pc := 287) dL_law_287 ?_
    refine z_lcmp hZ (pc := 288) dL_law_288 ?_
    refine z_if_eq hZ (pc := 289) (tgt := 294) dL_law_289 rfl (fun _ => ?_) (fun c => (c (lg_self (by rw [clamp0]; exact e3 c0))).elim)
    refine z_goto hZ (pc := 294) (tgt := 1794) dL_law_294 rfl ?_
    exact hN _ _ _ _ _ _ _ _ _ _ _ e1 (by omega) (by omega) ho2
theorem lw_c2 (hW : ZW l D cA (LSX l aK aV b n xs) RL cL_law 7 2048 601024 7293034 E Z) (hE : SimE v g mv mg) (ho : o 0 = x0) (hs0 : ∀ k, k < 5 → s0 k = some (aK (clN k))) (hs1 : ∀ k, k < 7 → s1 k = some (aK k)) (ht : 6 * t + 6 ≤ n) (hn : n ≤ 3072) (hu : u + 6 ≤ 601024) (hw : w + 36 ≤ 7293034) (hN : LNext Z cA b x0 r q a' s0 s1 (nI (6 * t)) u w) : Z u w (WL o a cA v g r a' s0 s1 mv mg q f) [some (.ref b), some (.ref x0), some (.ref r), some (.ref q), some (.int (nI (6 * t))), L5, L6] [] 297 := by
  subst ho
  have hZ := hW.toZR
  obtain ⟨P, Pm, hM, hMm, hA⟩ := k_fault (l := l) (D := D) (cA := cA) (o := o) (a := a) (a' := a') (r0 := r) (s0 := s0) (s1 := s1)  hE
  refine z_aload_n hZ (pc := 297) dL_law_297 rfl ?_
  refine zl_cls hZ (pc := 298) (st := []) dL_law_298 lk_L_106 mn_X10_fault mv_X10_fault rfl hM rfl rfl (by simp) (by decide) (by decide) (by omega) (by omega) (fun v2 g2 r2 h2 => ?_)
  obtain ⟨y2, rfl⟩ := hA.1 _ _ _ h2
  refine z_st (st' := [.int y2]) ?_ rfl
  refine z_aload_n hZ (pc := 301) dL_law_301 rfl ?_
  refine zl_ref hZ (pc := 302) (st := [.int y2]) dL_law_302 lk_L_109 mn_X11_fault mv_X11_fault rfl hMm rfl rfl (by simp [Value.category]) (by decide) (by decide) (by omega) (by omega) (fun v3 g3 r3 h3 => ?_)
  obtain ⟨e1, e2⟩ := hA.2 _ _ _ _ _ _ h2 h3
  subst e2
  refine z_st (st' := [.int y2, .int y2]) ?_ rfl
  refine z_icmp_eq hZ (pc := 305) (tgt := 1794) dL_law_305 rfl (fun _ => ?_) (fun c => absurd rfl c)
  exact hN _ _ _ _ _ _ _ _ _ _ _ e1 (by omega) (by omega) rfl
theorem lw_c3 (hW : ZW l D cA (LSX l aK aV b n xs) RL cL_law 7 2048 601024 7293034 E Z) (hE : SimE v g mv mg) (ho : o 0 = x0) (hs0 : ∀ k, k < 5 → s0 k = some (aK (clN k))) (hs1 : ∀ k, k < 7 → s1 k = some (aK k)) (ht : 6 * t + 6 ≤ n) (hn : n ≤ 3072) (hu : u + 6 ≤ 601024) (hw : w + 36 ≤ 7293034) (hN : LNext Z cA b x0 r q a' s0 s1 (nI (6 * t)) u w) : Z u w (WL o a cA v g r a' s0 s1 mv mg q f) [some (.ref b), some (.ref x0), some (.ref r), some (.ref q), some (.int (nI (6 * t))), L5, L6] [] 310 := by
  subst ho
  have hZ := hW.toZR
  obtain ⟨PW, Pm, hM, hMm, hA⟩ := w_count (l := l) (D := D) (cA := cA) (o := o) (a := a) (a' := a') (r0 := r) (q := q) (f := f) (s0 := s0) (s1 := s1) (aK := aK) (aV := aV) (w := xs (6 * t + 1)) hE
  refine z_aload_n hZ (pc := 310) dL_law_310 rfl ?_
  refine zl_arg hW (pc := 311) (j := 1) dL_law_311 dL_law_312 dL_law_314 dL_law_315 dL_law_316 (by decide) rfl rfl (by omega) hn ?_
  refine z_aload_n hZ (pc := 317) dL_law_317 rfl ?_
  refine zl_wr hW LSX.ok (fun _ _ _ h => h.1) (pc := 318) dL_law_318 (List.mem_of_getElem? (i := 788) (by decide +kernel)) mw_count mws_count hM rfl rfl (by decide) (by decide) (by omega) (by omega) (fun r9 ws9 h9 => ?_)
  obtain ⟨k9, v2, g2, f2, rfl, rfl, hB⟩ := hA _ _ h9
  refine z_st (st' := [.int k9]) ?_ rfl
  refine q_istore_7_5 hZ (pc := 321) dL_law_321 rfl ?_
  refine z_aload_n hZ (pc := 323) dL_law_323 rfl ?_
  refine zl_arg hW (pc := 324) (j := 1) dL_law_324 dL_law_325 dL_law_327 dL_law_328 dL_law_329 (by decide) rfl rfl (by omega) hn ?_
  refine zl_ref hZ (pc := 330) (st := []) dL_law_330 lk_L_112 mn_X11_count mv_X11_count rfl hMm rfl rfl (by simp [Value.category]) (by decide) (by decide) (by omega) (by omega) (fun v3 g3 r3 h3 => ?_)
  obtain ⟨e1, e2, y3, rfl, e3⟩ := hB _ _ _ h3
  refine z_st (st' := [.int y3]) ?_ rfl
  refine q_istore_7_6 hZ (pc := 333) dL_law_333 rfl ?_
  refine z_aload_n hZ (pc := 335) dL_law_335 rfl ?_
  refine zl_ref hZ (pc := 336) (st := []) dL_law_336 lk_L_102 mn_X11_thrown mv_X11_thrown rfl c_X11_thrown rfl rfl (by simp) (by decide) (by decide) (by omega) (by omega) (fun v4 g4 r4 h4 => ?_)
  obtain ⟨ev, eg, rfl⟩ := h4
  rw [ev, eg]
  refine z_st (st' := [.int (v3 2)]) ?_ rfl
  refine z_iload hZ (pc := 339) dL_law_339 rfl ?_
  refine z_icmp_eq hZ (pc := 341) (tgt := 346) dL_law_341 rfl (fun _ => ?_) (fun c => absurd e2 c)
  refine z_iload hZ (pc := 346) dL_law_346 rfl ?_
  refine z_if_ne hZ (pc := 348) (tgt := 363) dL_law_348 rfl (fun _ => ?_) (fun c0 => ?_)
  · skip
    refine z_goto hZ (pc := 363) (tgt := 1794) dL_law_363 rfl ?_
    exact hN _ _ _ _ _ _ _ _ _ _ _ e1 (by omega) (by omega) rfl
  · skip
    refine z_aload_n hZ (pc := 351) dL_law_351 rfl ?_
    refine z_iconst hZ (pc := 352) (v := 0) dL_law_352 (by decide) ?_
    refine z_lald hZ (pc := 353) (q0 := (WC o a cA v2 g2).length) dL_law_353 (WL_at _ _) vin01 ?_
    refine z_iload hZ (pc := 354) dL_law_354 rfl ?_
    refine z_i2l hZ (pc := 356) dL_law_356 ?_
    refine z_lcmp hZ (pc := 357) dL_law_357 ?_
    refine z_if_eq hZ (pc := 358) (tgt := 363) dL_law_358 rfl (fun _ => ?_) (fun c => (c (lg_self (by rw [clamp0]; exact e3 c0))).elim)
    refine z_goto hZ (pc := 363) (tgt := 1794) dL_law_363 rfl ?_
    exact hN _ _ _ _ _ _ _ _ _ _ _ e1 (by omega) (by omega) rfl
theorem lw_c4 (hW : ZW l D cA (LSX l aK aV b n xs) RL cL_law 7 2048 601024 7293034 E Z) (hE : SimE v g mv mg) (ho : o 0 = x0) (hs0 : ∀ k, k < 5 → s0 k = some (aK (clN k))) (hs1 : ∀ k, k < 7 → s1 k = some (aK k)) (ht : 6 * t + 6 ≤ n) (hn : n ≤ 3072) (hu : u + 6 ≤ 601024) (hw : w + 36 ≤ 7293034) (hN : LNext Z cA b x0 r q a' s0 s1 (nI (6 * t)) u w) : Z u w (WL o a cA v g r a' s0 s1 mv mg q f) [some (.ref b), some (.ref x0), some (.ref r), some (.ref q), some (.int (nI (6 * t))), L5, L6] [] 366 := by
  subst ho
  have hZ := hW.toZR
  obtain ⟨PW, Pm, hM, hMm, hA⟩ := w_person (l := l) (D := D) (cA := cA) (o := o) (a := a) (a' := a') (r0 := r) (q := q) (f := f) (s0 := s0) (s1 := s1) (aK := aK) (aV := aV) (x := xs (6 * t + 1)) (w := xs (6 * t + 2)) hE
  refine z_aload_n hZ (pc := 366) dL_law_366 rfl ?_
  refine zl_arg hW (pc := 367) (j := 1) dL_law_367 dL_law_368 dL_law_370 dL_law_371 dL_law_372 (by decide) rfl rfl (by omega) hn ?_
  refine zl_arg hW (pc := 373) (j := 2) dL_law_373 dL_law_374 dL_law_376 dL_law_377 dL_law_378 (by decide) rfl rfl (by omega) hn ?_
  refine z_aload_n hZ (pc := 379) dL_law_379 rfl ?_
  refine zl_wr hW LSX.ok (fun _ _ _ h => h.1) (pc := 380) dL_law_380 (List.mem_of_getElem? (i := 824) (by decide +kernel)) mw_person mws_person hM rfl rfl (by decide) (by decide) (by omega) (by omega) (fun r9 ws9 h9 => ?_)
  obtain ⟨k9, v2, g2, f2, rfl, rfl, hB⟩ := hA _ _ h9
  refine z_st (st' := [.int k9]) ?_ rfl
  refine q_istore_7_5 hZ (pc := 383) dL_law_383 rfl ?_
  refine z_aload_n hZ (pc := 385) dL_law_385 rfl ?_
  refine zl_arg hW (pc := 386) (j := 1) dL_law_386 dL_law_387 dL_law_389 dL_law_390 dL_law_391 (by decide) rfl rfl (by omega) hn ?_
  refine zl_arg hW (pc := 392) (j := 2) dL_law_392 dL_law_393 dL_law_395 dL_law_396 dL_law_397 (by decide) rfl rfl (by omega) hn ?_
  refine zl_ref hZ (pc := 398) (st := []) dL_law_398 lk_L_116 mn_X11_person mv_X11_person rfl hMm rfl rfl (by simp [Value.category]) (by decide) (by decide) (by omega) (by omega) (fun v3 g3 r3 h3 => ?_)
  obtain ⟨e1, e2, y3, rfl, e3⟩ := hB _ _ _ h3
  refine z_st (st' := [.int y3]) ?_ rfl
  refine q_istore_7_6 hZ (pc := 401) dL_law_401 rfl ?_
  refine z_aload_n hZ (pc := 403) dL_law_403 rfl ?_
  refine zl_ref hZ (pc := 404) (st := []) dL_law_404 lk_L_102 mn_X11_thrown mv_X11_thrown rfl c_X11_thrown rfl rfl (by simp) (by decide) (by decide) (by omega) (by omega) (fun v4 g4 r4 h4 => ?_)
  obtain ⟨ev, eg, rfl⟩ := h4
  rw [ev, eg]
  refine z_st (st' := [.int (v3 2)]) ?_ rfl
  refine z_iload hZ (pc := 407) dL_law_407 rfl ?_
  refine z_icmp_eq hZ (pc := 409) (tgt := 414) dL_law_409 rfl (fun _ => ?_) (fun c => absurd e2 c)
  refine z_iload hZ (pc := 414) dL_law_414 rfl ?_
  refine z_if_ne hZ (pc := 416) (tgt := 431) dL_law_416 rfl (fun _ => ?_) (fun c0 => ?_)
  · skip
    refine z_goto hZ (pc := 431) (tgt := 1794) dL_law_431 rfl ?_
    exact hN _ _ _ _ _ _ _ _ _ _ _ e1 (by omega) (by omega) rfl
  · skip
    refine z_aload_n hZ (pc := 419) dL_law_419 rfl ?_
    refine z_iconst hZ (pc := 420) (v := 0) dL_law_420 (by decide) ?_
    refine z_lald hZ (pc := 421) (q0 := (WC o a cA v2 g2).length) dL_law_421 (WL_at _ _) vin01 ?_
    refine z_iload hZ (pc := 422) dL_law_422 rfl ?_
    refine z_i2l hZ (pc := 424) dL_law_424 ?_
    refine z_lcmp hZ (pc := 425) dL_law_425 ?_
    refine z_if_eq hZ (pc := 426) (tgt := 431) dL_law_426 rfl (fun _ => ?_) (fun c => (c (lg_self (by rw [clamp0]; exact e3 c0))).elim)
    refine z_goto hZ (pc := 431) (tgt := 1794) dL_law_431 rfl ?_
    exact hN _ _ _ _ _ _ _ _ _ _ _ e1 (by omega) (by omega) rfl
theorem lw_c5 (hW : ZW l D cA (LSX l aK aV b n xs) RL cL_law 7 2048 601024 7293034 E Z) (hE : SimE v g mv mg) (ho : o 0 = x0) (hs0 : ∀ k, k < 5 → s0 k = some (aK (clN k))) (hs1 : ∀ k, k < 7 → s1 k = some (aK k)) (ht : 6 * t + 6 ≤ n) (hn : n ≤ 3072) (hu : u + 6 ≤ 601024) (hw : w + 36 ≤ 7293034) (hN : LNext Z cA b x0 r q a' s0 s1 (nI (6 * t)) u w) : Z u w (WL o a cA v g r a' s0 s1 mv mg q f) [some (.ref b), some (.ref x0), some (.ref r), some (.ref q), some (.int (nI (6 * t))), L5, L6] [] 434 := by
  subst ho
  have hZ := hW.toZR
  obtain ⟨PW, Pm, hM, hMm, hA⟩ := w_walk (l := l) (D := D) (cA := cA) (o := o) (a := a) (a' := a') (r0 := r) (q := q) (f := f) (s0 := s0) (s1 := s1) (aK := aK) (aV := aV) (x := xs (6 * t + 1)) (y := xs (6 * t + 2)) hE
  refine z_aload_n hZ (pc := 434) dL_law_434 rfl ?_
  refine zl_arg hW (pc := 435) (j := 1) dL_law_435 dL_law_436 dL_law_438 dL_law_439 dL_law_440 (by decide) rfl rfl (by omega) hn ?_
  refine zl_arg hW (pc := 441) (j := 2) dL_law_441 dL_law_442 dL_law_444 dL_law_445 dL_law_446 (by decide) rfl rfl (by omega) hn ?_
  refine z_aload_n hZ (pc := 447) dL_law_447 rfl ?_
  refine zl_wr hW LSX.ok (fun _ _ _ h => h.1) (pc := 448) dL_law_448 (List.mem_of_getElem? (i := 836) (by decide +kernel)) mw_walk mws_walk hM rfl rfl (by decide) (by decide) (by omega) (by omega) (fun r9 ws9 h9 => ?_)
  obtain ⟨k9, v2, g2, f2, rfl, rfl, hB⟩ := hA _ _ h9
  refine z_st (st' := [.int k9]) ?_ rfl
  refine q_istore_7_5 hZ (pc := 451) dL_law_451 rfl ?_
  refine z_aload_n hZ (pc := 453) dL_law_453 rfl ?_
  refine zl_arg hW (pc := 454) (j := 1) dL_law_454 dL_law_455 dL_law_457 dL_law_458 dL_law_459 (by decide) rfl rfl (by omega) hn ?_
  refine zl_arg hW (pc := 460) (j := 2) dL_law_460 dL_law_461 dL_law_463 dL_law_464 dL_law_465 (by decide) rfl rfl (by omega) hn ?_
  refine zl_ref hZ (pc := 466) (st := []) dL_law_466 lk_L_119 mn_X11_walk mv_X11_walk rfl hMm rfl rfl (by simp [Value.category]) (by decide) (by decide) (by omega) (by omega) (fun v3 g3 r3 h3 => ?_)
  obtain ⟨e1, e2, y3, rfl, e3⟩ := hB _ _ _ h3
  refine z_st (st' := [.int y3]) ?_ rfl
  refine q_istore_7_6 hZ (pc := 469) dL_law_469 rfl ?_
  refine z_aload_n hZ (pc := 471) dL_law_471 rfl ?_
  refine zl_ref hZ (pc := 472) (st := []) dL_law_472 lk_L_102 mn_X11_thrown mv_X11_thrown rfl c_X11_thrown rfl rfl (by simp) (by decide) (by decide) (by omega) (by omega) (fun v4 g4 r4 h4 => ?_)
  obtain ⟨ev, eg, rfl⟩ := h4
  rw [ev, eg]
  refine z_st (st' := [.int (v3 2)]) ?_ rfl
  refine z_iload hZ (pc := 475) dL_law_475 rfl ?_
  refine z_icmp_eq hZ (pc := 477) (tgt := 482) dL_law_477 rfl (fun _ => ?_) (fun c => absurd e2 c)
  refine z_iload hZ (pc := 482) dL_law_482 rfl ?_
  refine z_if_ne hZ (pc := 484) (tgt := 499) dL_law_484 rfl (fun _ => ?_) (fun c0 => ?_)
  · skip
    refine z_goto hZ (pc := 499) (tgt := 1794) dL_law_499 rfl ?_
    exact hN _ _ _ _ _ _ _ _ _ _ _ e1 (by omega) (by omega) rfl
  · skip
    refine z_aload_n hZ (pc := 487) dL_law_487 rfl ?_
    refine z_iconst hZ (pc := 488) (v := 0) dL_law_488 (by decide) ?_
    refine z_lald hZ (pc := 489) (q0 := (WC o a cA v2 g2).length) dL_law_489 (WL_at _ _) vin01 ?_
    refine z_iload hZ (pc := 490) dL_law_490 rfl ?_
    refine z_i2l hZ (pc := 492) dL_law_492 ?_
    refine z_lcmp hZ (pc := 493) dL_law_493 ?_
    refine z_if_eq hZ (pc := 494) (tgt := 499) dL_law_494 rfl (fun _ => ?_) (fun c => (c (lg_self (by rw [clamp0]; exact e3 c0))).elim)
    refine z_goto hZ (pc := 499) (tgt := 1794) dL_law_499 rfl ?_
    exact hN _ _ _ _ _ _ _ _ _ _ _ e1 (by omega) (by omega) rfl
theorem lw_c6 (hW : ZW l D cA (LSX l aK aV b n xs) RL cL_law 7 2048 601024 7293034 E Z) (hE : SimE v g mv mg) (ho : o 0 = x0) (hs0 : ∀ k, k < 5 → s0 k = some (aK (clN k))) (hs1 : ∀ k, k < 7 → s1 k = some (aK k)) (ht : 6 * t + 6 ≤ n) (hn : n ≤ 3072) (hu : u + 6 ≤ 601024) (hw : w + 36 ≤ 7293034) (hN : LNext Z cA b x0 r q a' s0 s1 (nI (6 * t)) u w) : Z u w (WL o a cA v g r a' s0 s1 mv mg q f) [some (.ref b), some (.ref x0), some (.ref r), some (.ref q), some (.int (nI (6 * t))), L5, L6] [] 502 := by
  subst ho
  have hZ := hW.toZR
  obtain ⟨PW, Pm, hM, hMm, hA⟩ := w_move (l := l) (D := D) (cA := cA) (o := o) (a := a) (a' := a') (r0 := r) (s0 := s0) (s1 := s1) (aK := aK) (aV := aV) (x := xs (6 * t + 1)) (y := xs (6 * t + 2)) hE
  refine z_aload_n hZ (pc := 502) dL_law_502 rfl ?_
  refine zl_arg hW (pc := 503) (j := 1) dL_law_503 dL_law_504 dL_law_506 dL_law_507 dL_law_508 (by decide) rfl rfl (by omega) hn ?_
  refine zl_arg hW (pc := 509) (j := 2) dL_law_509 dL_law_510 dL_law_512 dL_law_513 dL_law_514 (by decide) rfl rfl (by omega) hn ?_
  refine zl_wrm hW LSX.ok (fun _ _ _ h => h.1) (pc := 515) dL_law_515 (List.mem_of_getElem? (i := 853) (by decide +kernel)) mw_move mws_move hM rfl rfl (by decide) (by decide) (by omega) (by omega) (fun r9 ws9 h9 => ?_)
  obtain ⟨k9, v2, g2, rfl, rfl, hB⟩ := hA _ _ h9
  refine z_st (st' := [.int k9]) ?_ rfl
  refine q_istore_7_5 hZ (pc := 518) dL_law_518 rfl ?_
  refine z_aload_n hZ (pc := 520) dL_law_520 rfl ?_
  refine zl_arg hW (pc := 521) (j := 1) dL_law_521 dL_law_522 dL_law_524 dL_law_525 dL_law_526 (by decide) rfl rfl (by omega) hn ?_
  refine zl_arg hW (pc := 527) (j := 2) dL_law_527 dL_law_528 dL_law_530 dL_law_531 dL_law_532 (by decide) rfl rfl (by omega) hn ?_
  refine zl_ref hZ (pc := 533) (st := []) dL_law_533 lk_L_123 mn_X11_move mv_X11_move rfl hMm rfl rfl (by simp [Value.category]) (by decide) (by decide) (by omega) (by omega) (fun v3 g3 r3 h3 => ?_)
  obtain ⟨e1, e2, rfl⟩ := hB _ _ _ h3
  refine z_st (st' := []) ?_ rfl
  refine z_aload_n hZ (pc := 536) dL_law_536 rfl ?_
  refine zl_ref hZ (pc := 537) (st := []) dL_law_537 lk_L_102 mn_X11_thrown mv_X11_thrown rfl c_X11_thrown rfl rfl (by simp) (by decide) (by decide) (by omega) (by omega) (fun v4 g4 r4 h4 => ?_)
  obtain ⟨ev, eg, rfl⟩ := h4
  rw [ev, eg]
  refine z_st (st' := [.int (v3 2)]) ?_ rfl
  refine z_iload hZ (pc := 540) dL_law_540 rfl ?_
  refine z_icmp_eq hZ (pc := 542) (tgt := 547) dL_law_542 rfl (fun _ => ?_) (fun c => absurd e2 c)
  refine z_goto hZ (pc := 547) (tgt := 1794) dL_law_547 rfl ?_
  exact hN _ _ _ _ _ _ _ _ _ _ _ e1 (by omega) (by omega) rfl
theorem lw_c7 (hW : ZW l D cA (LSX l aK aV b n xs) RL cL_law 7 2048 601024 7293034 E Z) (hE : SimE v g mv mg) (ho : o 0 = x0) (hs0 : ∀ k, k < 5 → s0 k = some (aK (clN k))) (hs1 : ∀ k, k < 7 → s1 k = some (aK k)) (ht : 6 * t + 6 ≤ n) (hn : n ≤ 3072) (hu : u + 6 ≤ 601024) (hw : w + 36 ≤ 7293034) (hN : LNext Z cA b x0 r q a' s0 s1 (nI (6 * t)) u w) : Z u w (WL o a cA v g r a' s0 s1 mv mg q f) [some (.ref b), some (.ref x0), some (.ref r), some (.ref q), some (.int (nI (6 * t))), L5, L6] [] 550 := by
  subst ho
  have hZ := hW.toZR
  obtain ⟨PW, Pm, hM, hMm, hA⟩ := w_weep (l := l) (D := D) (cA := cA) (o := o) (a := a) (a' := a') (r0 := r) (q := q) (f := f) (s0 := s0) (s1 := s1) (aK := aK) (aV := aV) (x := xs (6 * t + 1)) (y := xs (6 * t + 2)) (z := xs (6 * t + 3)) hE
  refine z_aload_n hZ (pc := 550) dL_law_550 rfl ?_
  refine zl_arg hW (pc := 551) (j := 1) dL_law_551 dL_law_552 dL_law_554 dL_law_555 dL_law_556 (by decide) rfl rfl (by omega) hn ?_
  refine zl_arg hW (pc := 557) (j := 2) dL_law_557 dL_law_558 dL_law_560 dL_law_561 dL_law_562 (by decide) rfl rfl (by omega) hn ?_
  refine zl_arg hW (pc := 563) (j := 3) dL_law_563 dL_law_564 dL_law_566 dL_law_567 dL_law_568 (by decide) rfl rfl (by omega) hn ?_
  refine z_aload_n hZ (pc := 569) dL_law_569 rfl ?_
  refine zl_wr hW LSX.ok (fun _ _ _ h => h.1) (pc := 570) dL_law_570 (List.mem_of_getElem? (i := 861) (by decide +kernel)) mw_weep mws_weep hM rfl rfl (by decide) (by decide) (by omega) (by omega) (fun r9 ws9 h9 => ?_)
  obtain ⟨k9, v2, g2, f2, rfl, rfl, hB⟩ := hA _ _ h9
  refine z_st (st' := [.int k9]) ?_ rfl
  refine q_istore_7_5 hZ (pc := 573) dL_law_573 rfl ?_
  refine z_aload_n hZ (pc := 575) dL_law_575 rfl ?_
  refine zl_arg hW (pc := 576) (j := 1) dL_law_576 dL_law_577 dL_law_579 dL_law_580 dL_law_581 (by decide) rfl rfl (by omega) hn ?_
  refine zl_arg hW (pc := 582) (j := 2) dL_law_582 dL_law_583 dL_law_585 dL_law_586 dL_law_587 (by decide) rfl rfl (by omega) hn ?_
  refine zl_arg hW (pc := 588) (j := 3) dL_law_588 dL_law_589 dL_law_591 dL_law_592 dL_law_593 (by decide) rfl rfl (by omega) hn ?_
  refine zl_ref hZ (pc := 594) (st := []) dL_law_594 lk_L_127 mn_X11_weep mv_X11_weep rfl hMm rfl rfl (by simp [Value.category]) (by decide) (by decide) (by omega) (by omega) (fun v3 g3 r3 h3 => ?_)
  obtain ⟨e1, e2, y3, rfl, e3⟩ := hB _ _ _ h3
  refine z_st (st' := [.int y3]) ?_ rfl
  refine q_istore_7_6 hZ (pc := 597) dL_law_597 rfl ?_
  refine z_aload_n hZ (pc := 599) dL_law_599 rfl ?_
  refine zl_ref hZ (pc := 600) (st := []) dL_law_600 lk_L_102 mn_X11_thrown mv_X11_thrown rfl c_X11_thrown rfl rfl (by simp) (by decide) (by decide) (by omega) (by omega) (fun v4 g4 r4 h4 => ?_)
  obtain ⟨ev, eg, rfl⟩ := h4
  rw [ev, eg]
  refine z_st (st' := [.int (v3 2)]) ?_ rfl
  refine z_iload hZ (pc := 603) dL_law_603 rfl ?_
  refine z_icmp_eq hZ (pc := 605) (tgt := 610) dL_law_605 rfl (fun _ => ?_) (fun c => absurd e2 c)
  refine z_iload hZ (pc := 610) dL_law_610 rfl ?_
  refine z_if_ne hZ (pc := 612) (tgt := 627) dL_law_612 rfl (fun _ => ?_) (fun c0 => ?_)
  · skip
    refine z_goto hZ (pc := 627) (tgt := 1794) dL_law_627 rfl ?_
    exact hN _ _ _ _ _ _ _ _ _ _ _ e1 (by omega) (by omega) rfl
  · skip
    refine z_aload_n hZ (pc := 615) dL_law_615 rfl ?_
    refine z_iconst hZ (pc := 616) (v := 0) dL_law_616 (by decide) ?_
    refine z_lald hZ (pc := 617) (q0 := (WC o a cA v2 g2).length) dL_law_617 (WL_at _ _) vin01 ?_
    refine z_iload hZ (pc := 618) dL_law_618 rfl ?_
    refine z_i2l hZ (pc := 620) dL_law_620 ?_
    refine z_lcmp hZ (pc := 621) dL_law_621 ?_
    refine z_if_eq hZ (pc := 622) (tgt := 627) dL_law_622 rfl (fun _ => ?_) (fun c => (c (lg_self (by rw [clamp0]; exact e3 c0))).elim)
    refine z_goto hZ (pc := 627) (tgt := 1794) dL_law_627 rfl ?_
    exact hN _ _ _ _ _ _ _ _ _ _ _ e1 (by omega) (by omega) rfl
theorem lw_c8 (hW : ZW l D cA (LSX l aK aV b n xs) RL cL_law 7 2048 601024 7293034 E Z) (hE : SimE v g mv mg) (ho : o 0 = x0) (hs0 : ∀ k, k < 5 → s0 k = some (aK (clN k))) (hs1 : ∀ k, k < 7 → s1 k = some (aK k)) (ht : 6 * t + 6 ≤ n) (hn : n ≤ 3072) (hu : u + 6 ≤ 601024) (hw : w + 36 ≤ 7293034) (hN : LNext Z cA b x0 r q a' s0 s1 (nI (6 * t)) u w) : Z u w (WL o a cA v g r a' s0 s1 mv mg q f) [some (.ref b), some (.ref x0), some (.ref r), some (.ref q), some (.int (nI (6 * t))), L5, L6] [] 630 := by
  subst ho
  have hZ := hW.toZR
  obtain ⟨PW, Pm, hM, hMm, hA⟩ := w_tears (l := l) (D := D) (cA := cA) (o := o) (a := a) (a' := a') (r0 := r) (q := q) (f := f) (s0 := s0) (s1 := s1) (aK := aK) (aV := aV) (x := xs (6 * t + 1)) (w := xs (6 * t + 2)) hE
  refine z_aload_n hZ (pc := 630) dL_law_630 rfl ?_
  refine zl_arg hW (pc := 631) (j := 1) dL_law_631 dL_law_632 dL_law_634 dL_law_635 dL_law_636 (by decide) rfl rfl (by omega) hn ?_
  refine zl_arg hW (pc := 637) (j := 2) dL_law_637 dL_law_638 dL_law_640 dL_law_641 dL_law_642 (by decide) rfl rfl (by omega) hn ?_
  refine z_aload_n hZ (pc := 643) dL_law_643 rfl ?_
  refine zl_wr hW LSX.ok (fun _ _ _ h => h.1) (pc := 644) dL_law_644 (List.mem_of_getElem? (i := 895) (by decide +kernel)) mw_tears mws_tears hM rfl rfl (by decide) (by decide) (by omega) (by omega) (fun r9 ws9 h9 => ?_)
  obtain ⟨k9, v2, g2, f2, rfl, rfl, hB⟩ := hA _ _ h9
  refine z_st (st' := [.int k9]) ?_ rfl
  refine q_istore_7_5 hZ (pc := 647) dL_law_647 rfl ?_
  refine z_aload_n hZ (pc := 649) dL_law_649 rfl ?_
  refine zl_arg hW (pc := 650) (j := 1) dL_law_650 dL_law_651 dL_law_653 dL_law_654 dL_law_655 (by decide) rfl rfl (by omega) hn ?_
  refine zl_arg hW (pc := 656) (j := 2) dL_law_656 dL_law_657 dL_law_659 dL_law_660 dL_law_661 (by decide) rfl rfl (by omega) hn ?_
  refine zl_ref hZ (pc := 662) (st := []) dL_law_662 lk_L_130 mn_X11_tears mv_X11_tears rfl hMm rfl rfl (by simp [Value.category]) (by decide) (by decide) (by omega) (by omega) (fun v3 g3 r3 h3 => ?_)
  obtain ⟨e1, e2, y3, rfl, e3⟩ := hB _ _ _ h3
  refine z_st (st' := [.int y3]) ?_ rfl
  refine q_istore_7_6 hZ (pc := 665) dL_law_665 rfl ?_
  refine z_aload_n hZ (pc := 667) dL_law_667 rfl ?_
  refine zl_ref hZ (pc := 668) (st := []) dL_law_668 lk_L_102 mn_X11_thrown mv_X11_thrown rfl c_X11_thrown rfl rfl (by simp) (by decide) (by decide) (by omega) (by omega) (fun v4 g4 r4 h4 => ?_)
  obtain ⟨ev, eg, rfl⟩ := h4
  rw [ev, eg]
  refine z_st (st' := [.int (v3 2)]) ?_ rfl
  refine z_iload hZ (pc := 671) dL_law_671 rfl ?_
  refine z_icmp_eq hZ (pc := 673) (tgt := 678) dL_law_673 rfl (fun _ => ?_) (fun c => absurd e2 c)
  refine z_iload hZ (pc := 678) dL_law_678 rfl ?_
  refine z_if_ne hZ (pc := 680) (tgt := 695) dL_law_680 rfl (fun _ => ?_) (fun c0 => ?_)
  · skip
    refine z_goto hZ (pc := 695) (tgt := 1794) dL_law_695 rfl ?_
    exact hN _ _ _ _ _ _ _ _ _ _ _ e1 (by omega) (by omega) rfl
  · skip
    refine z_aload_n hZ (pc := 683) dL_law_683 rfl ?_
    refine z_iconst hZ (pc := 684) (v := 0) dL_law_684 (by decide) ?_
    refine z_lald hZ (pc := 685) (q0 := (WC o a cA v2 g2).length) dL_law_685 (WL_at _ _) vin01 ?_
    refine z_iload hZ (pc := 686) dL_law_686 rfl ?_
    refine z_i2l hZ (pc := 688) dL_law_688 ?_
    refine z_lcmp hZ (pc := 689) dL_law_689 ?_
    refine z_if_eq hZ (pc := 690) (tgt := 695) dL_law_690 rfl (fun _ => ?_) (fun c => (c (lg_self (by rw [clamp0]; exact e3 c0))).elim)
    refine z_goto hZ (pc := 695) (tgt := 1794) dL_law_695 rfl ?_
    exact hN _ _ _ _ _ _ _ _ _ _ _ e1 (by omega) (by omega) rfl
theorem lw_c9 (hW : ZW l D cA (LSX l aK aV b n xs) RL cL_law 7 2048 601024 7293034 E Z) (hE : SimE v g mv mg) (ho : o 0 = x0) (hs0 : ∀ k, k < 5 → s0 k = some (aK (clN k))) (hs1 : ∀ k, k < 7 → s1 k = some (aK k)) (ht : 6 * t + 6 ≤ n) (hn : n ≤ 3072) (hu : u + 6 ≤ 601024) (hw : w + 36 ≤ 7293034) (hN : LNext Z cA b x0 r q a' s0 s1 (nI (6 * t)) u w) : Z u w (WL o a cA v g r a' s0 s1 mv mg q f) [some (.ref b), some (.ref x0), some (.ref r), some (.ref q), some (.int (nI (6 * t))), L5, L6] [] 698 := by
  subst ho
  have hZ := hW.toZR
  obtain ⟨PW, Pm, hM, hMm, hA⟩ := w_name (l := l) (D := D) (cA := cA) (o := o) (a := a) (a' := a') (r0 := r) (q := q) (f := f) (s0 := s0) (s1 := s1) (aK := aK) (aV := aV) (x := xs (6 * t + 1)) (y := xs (6 * t + 2)) hE
  refine z_aload_n hZ (pc := 698) dL_law_698 rfl ?_
  refine zl_arg hW (pc := 699) (j := 1) dL_law_699 dL_law_700 dL_law_702 dL_law_703 dL_law_704 (by decide) rfl rfl (by omega) hn ?_
  refine zl_arg hW (pc := 705) (j := 2) dL_law_705 dL_law_706 dL_law_708 dL_law_709 dL_law_710 (by decide) rfl rfl (by omega) hn ?_
  refine z_aload_n hZ (pc := 711) dL_law_711 rfl ?_
  refine zl_wr hW LSX.ok (fun _ _ _ h => h.1) (pc := 712) dL_law_712 (List.mem_of_getElem? (i := 904) (by decide +kernel)) mw_name mws_name hM rfl rfl (by decide) (by decide) (by omega) (by omega) (fun r9 ws9 h9 => ?_)
  obtain ⟨k9, v2, g2, f2, rfl, rfl, hB⟩ := hA _ _ h9
  refine z_st (st' := [.int k9]) ?_ rfl
  refine q_istore_7_5 hZ (pc := 715) dL_law_715 rfl ?_
  refine z_aload_n hZ (pc := 717) dL_law_717 rfl ?_
  refine zl_arg hW (pc := 718) (j := 1) dL_law_718 dL_law_719 dL_law_721 dL_law_722 dL_law_723 (by decide) rfl rfl (by omega) hn ?_
  refine zl_arg hW (pc := 724) (j := 2) dL_law_724 dL_law_725 dL_law_727 dL_law_728 dL_law_729 (by decide) rfl rfl (by omega) hn ?_
  refine zl_ref hZ (pc := 730) (st := []) dL_law_730 lk_L_133 mn_X11_name mv_X11_name rfl hMm rfl rfl (by simp [Value.category]) (by decide) (by decide) (by omega) (by omega) (fun v3 g3 r3 h3 => ?_)
  obtain ⟨e1, e2, y3, rfl, e3⟩ := hB _ _ _ h3
  refine z_st (st' := [.int y3]) ?_ rfl
  refine q_istore_7_6 hZ (pc := 733) dL_law_733 rfl ?_
  refine z_aload_n hZ (pc := 735) dL_law_735 rfl ?_
  refine zl_ref hZ (pc := 736) (st := []) dL_law_736 lk_L_102 mn_X11_thrown mv_X11_thrown rfl c_X11_thrown rfl rfl (by simp) (by decide) (by decide) (by omega) (by omega) (fun v4 g4 r4 h4 => ?_)
  obtain ⟨ev, eg, rfl⟩ := h4
  rw [ev, eg]
  refine z_st (st' := [.int (v3 2)]) ?_ rfl
  refine z_iload hZ (pc := 739) dL_law_739 rfl ?_
  refine z_icmp_eq hZ (pc := 741) (tgt := 746) dL_law_741 rfl (fun _ => ?_) (fun c => absurd e2 c)
  refine z_iload hZ (pc := 746) dL_law_746 rfl ?_
  refine z_if_ne hZ (pc := 748) (tgt := 763) dL_law_748 rfl (fun _ => ?_) (fun c0 => ?_)
  · skip
    refine z_goto hZ (pc := 763) (tgt := 1794) dL_law_763 rfl ?_
    exact hN _ _ _ _ _ _ _ _ _ _ _ e1 (by omega) (by omega) rfl
  · skip
    refine z_aload_n hZ (pc := 751) dL_law_751 rfl ?_
    refine z_iconst hZ (pc := 752) (v := 0) dL_law_752 (by decide) ?_
    refine z_lald hZ (pc := 753) (q0 := (WC o a cA v2 g2).length) dL_law_753 (WL_at _ _) vin01 ?_
    refine z_iload hZ (pc := 754) dL_law_754 rfl ?_
    refine z_i2l hZ (pc := 756) dL_law_756 ?_
    refine z_lcmp hZ (pc := 757) dL_law_757 ?_
    refine z_if_eq hZ (pc := 758) (tgt := 763) dL_law_758 rfl (fun _ => ?_) (fun c => (c (lg_self (by rw [clamp0]; exact e3 c0))).elim)
    refine z_goto hZ (pc := 763) (tgt := 1794) dL_law_763 rfl ?_
    exact hN _ _ _ _ _ _ _ _ _ _ _ e1 (by omega) (by omega) rfl
theorem lw_c10 (hW : ZW l D cA (LSX l aK aV b n xs) RL cL_law 7 2048 601024 7293034 E Z) (hE : SimE v g mv mg) (ho : o 0 = x0) (hs0 : ∀ k, k < 5 → s0 k = some (aK (clN k))) (hs1 : ∀ k, k < 7 → s1 k = some (aK k)) (ht : 6 * t + 6 ≤ n) (hn : n ≤ 3072) (hu : u + 6 ≤ 601024) (hw : w + 36 ≤ 7293034) (hN : LNext Z cA b x0 r q a' s0 s1 (nI (6 * t)) u w) : Z u w (WL o a cA v g r a' s0 s1 mv mg q f) [some (.ref b), some (.ref x0), some (.ref r), some (.ref q), some (.int (nI (6 * t))), L5, L6] [] 766 := by
  subst ho
  have hZ := hW.toZR
  obtain ⟨PW, Pm, hM, hMm, hA⟩ := w_houses (l := l) (D := D) (cA := cA) (o := o) (a := a) (a' := a') (r0 := r) (q := q) (f := f) (s0 := s0) (s1 := s1) (aK := aK) (aV := aV) (x := xs (6 * t + 1)) (y := xs (6 * t + 2)) hE
  refine z_aload_n hZ (pc := 766) dL_law_766 rfl ?_
  refine zl_arg hW (pc := 767) (j := 1) dL_law_767 dL_law_768 dL_law_770 dL_law_771 dL_law_772 (by decide) rfl rfl (by omega) hn ?_
  refine zl_arg hW (pc := 773) (j := 2) dL_law_773 dL_law_774 dL_law_776 dL_law_777 dL_law_778 (by decide) rfl rfl (by omega) hn ?_
  refine z_aload_n hZ (pc := 779) dL_law_779 rfl ?_
  refine zl_wr hW LSX.ok (fun _ _ _ h => h.1) (pc := 780) dL_law_780 (List.mem_of_getElem? (i := 931) (by decide +kernel)) mw_houses mws_houses hM rfl rfl (by decide) (by decide) (by omega) (by omega) (fun r9 ws9 h9 => ?_)
  obtain ⟨k9, v2, g2, f2, rfl, rfl, hB⟩ := hA _ _ h9
  refine z_st (st' := [.int k9]) ?_ rfl
  refine q_istore_7_5 hZ (pc := 783) dL_law_783 rfl ?_
  refine z_aload_n hZ (pc := 785) dL_law_785 rfl ?_
  refine zl_arg hW (pc := 786) (j := 1) dL_law_786 dL_law_787 dL_law_789 dL_law_790 dL_law_791 (by decide) rfl rfl (by omega) hn ?_
  refine zl_arg hW (pc := 792) (j := 2) dL_law_792 dL_law_793 dL_law_795 dL_law_796 dL_law_797 (by decide) rfl rfl (by omega) hn ?_
  refine zl_ref hZ (pc := 798) (st := []) dL_law_798 lk_L_136 mn_X11_houses mv_X11_houses rfl hMm rfl rfl (by simp [Value.category]) (by decide) (by decide) (by omega) (by omega) (fun v3 g3 r3 h3 => ?_)
  obtain ⟨e1, e2, y3, rfl, e3⟩ := hB _ _ _ h3
  refine z_st (st' := [.int y3]) ?_ rfl
  refine q_istore_7_6 hZ (pc := 801) dL_law_801 rfl ?_
  refine z_aload_n hZ (pc := 803) dL_law_803 rfl ?_
  refine zl_ref hZ (pc := 804) (st := []) dL_law_804 lk_L_102 mn_X11_thrown mv_X11_thrown rfl c_X11_thrown rfl rfl (by simp) (by decide) (by decide) (by omega) (by omega) (fun v4 g4 r4 h4 => ?_)
  obtain ⟨ev, eg, rfl⟩ := h4
  rw [ev, eg]
  refine z_st (st' := [.int (v3 2)]) ?_ rfl
  refine z_iload hZ (pc := 807) dL_law_807 rfl ?_
  refine z_icmp_eq hZ (pc := 809) (tgt := 814) dL_law_809 rfl (fun _ => ?_) (fun c => absurd e2 c)
  refine z_iload hZ (pc := 814) dL_law_814 rfl ?_
  refine z_if_ne hZ (pc := 816) (tgt := 831) dL_law_816 rfl (fun _ => ?_) (fun c0 => ?_)
  · skip
    refine z_goto hZ (pc := 831) (tgt := 1794) dL_law_831 rfl ?_
    exact hN _ _ _ _ _ _ _ _ _ _ _ e1 (by omega) (by omega) rfl
  · skip
    refine z_aload_n hZ (pc := 819) dL_law_819 rfl ?_
    refine z_iconst hZ (pc := 820) (v := 0) dL_law_820 (by decide) ?_
    refine z_lald hZ (pc := 821) (q0 := (WC o a cA v2 g2).length) dL_law_821 (WL_at _ _) vin01 ?_
    refine z_iload hZ (pc := 822) dL_law_822 rfl ?_
    refine z_i2l hZ (pc := 824) dL_law_824 ?_
    refine z_lcmp hZ (pc := 825) dL_law_825 ?_
    refine z_if_eq hZ (pc := 826) (tgt := 831) dL_law_826 rfl (fun _ => ?_) (fun c => (c (lg_self (by rw [clamp0]; exact e3 c0))).elim)
    refine z_goto hZ (pc := 831) (tgt := 1794) dL_law_831 rfl ?_
    exact hN _ _ _ _ _ _ _ _ _ _ _ e1 (by omega) (by omega) rfl
theorem lw_c11 (hW : ZW l D cA (LSX l aK aV b n xs) RL cL_law 7 2048 601024 7293034 E Z) (hE : SimE v g mv mg) (ho : o 0 = x0) (hs0 : ∀ k, k < 5 → s0 k = some (aK (clN k))) (hs1 : ∀ k, k < 7 → s1 k = some (aK k)) (ht : 6 * t + 6 ≤ n) (hn : n ≤ 3072) (hu : u + 6 ≤ 601024) (hw : w + 36 ≤ 7293034) (hN : LNext Z cA b x0 r q a' s0 s1 (nI (6 * t)) u w) : Z u w (WL o a cA v g r a' s0 s1 mv mg q f) [some (.ref b), some (.ref x0), some (.ref r), some (.ref q), some (.int (nI (6 * t))), L5, L6] [] 834 := by
  subst ho
  have hZ := hW.toZR
  obtain ⟨PW, Pm, hM, hMm, hA⟩ := w_letter (l := l) (D := D) (cA := cA) (o := o) (a := a) (a' := a') (r0 := r) (q := q) (f := f) (s0 := s0) (s1 := s1) (aK := aK) (aV := aV) (x := xs (6 * t + 1)) (y := xs (6 * t + 2)) hE
  refine z_aload_n hZ (pc := 834) dL_law_834 rfl ?_
  refine zl_arg hW (pc := 835) (j := 1) dL_law_835 dL_law_836 dL_law_838 dL_law_839 dL_law_840 (by decide) rfl rfl (by omega) hn ?_
  refine zl_arg hW (pc := 841) (j := 2) dL_law_841 dL_law_842 dL_law_844 dL_law_845 dL_law_846 (by decide) rfl rfl (by omega) hn ?_
  refine z_aload_n hZ (pc := 847) dL_law_847 rfl ?_
  refine zl_wr hW LSX.ok (fun _ _ _ h => h.1) (pc := 848) dL_law_848 (List.mem_of_getElem? (i := 943) (by decide +kernel)) mw_letter mws_letter hM rfl rfl (by decide) (by decide) (by omega) (by omega) (fun r9 ws9 h9 => ?_)
  obtain ⟨k9, v2, g2, f2, rfl, rfl, hB⟩ := hA _ _ h9
  refine z_st (st' := [.int k9]) ?_ rfl
  refine q_istore_7_5 hZ (pc := 851) dL_law_851 rfl ?_
  refine z_aload_n hZ (pc := 853) dL_law_853 rfl ?_
  refine zl_arg hW (pc := 854) (j := 1) dL_law_854 dL_law_855 dL_law_857 dL_law_858 dL_law_859 (by decide) rfl rfl (by omega) hn ?_
  refine zl_arg hW (pc := 860) (j := 2) dL_law_860 dL_law_861 dL_law_863 dL_law_864 dL_law_865 (by decide) rfl rfl (by omega) hn ?_
  refine zl_ref hZ (pc := 866) (st := []) dL_law_866 lk_L_139 mn_X11_letter mv_X11_letter rfl hMm rfl rfl (by simp [Value.category]) (by decide) (by decide) (by omega) (by omega) (fun v3 g3 r3 h3 => ?_)
  obtain ⟨e1, e2, y3, rfl, e3⟩ := hB _ _ _ h3
  refine z_st (st' := [.int y3]) ?_ rfl
  refine q_istore_7_6 hZ (pc := 869) dL_law_869 rfl ?_
  refine z_aload_n hZ (pc := 871) dL_law_871 rfl ?_
  refine zl_ref hZ (pc := 872) (st := []) dL_law_872 lk_L_102 mn_X11_thrown mv_X11_thrown rfl c_X11_thrown rfl rfl (by simp) (by decide) (by decide) (by omega) (by omega) (fun v4 g4 r4 h4 => ?_)
  obtain ⟨ev, eg, rfl⟩ := h4
  rw [ev, eg]
  refine z_st (st' := [.int (v3 2)]) ?_ rfl
  refine z_iload hZ (pc := 875) dL_law_875 rfl ?_
  refine z_icmp_eq hZ (pc := 877) (tgt := 882) dL_law_877 rfl (fun _ => ?_) (fun c => absurd e2 c)
  refine z_iload hZ (pc := 882) dL_law_882 rfl ?_
  refine z_if_ne hZ (pc := 884) (tgt := 899) dL_law_884 rfl (fun _ => ?_) (fun c0 => ?_)
  · skip
    refine z_goto hZ (pc := 899) (tgt := 1794) dL_law_899 rfl ?_
    exact hN _ _ _ _ _ _ _ _ _ _ _ e1 (by omega) (by omega) rfl
  · skip
    refine z_aload_n hZ (pc := 887) dL_law_887 rfl ?_
    refine z_iconst hZ (pc := 888) (v := 0) dL_law_888 (by decide) ?_
    refine z_lald hZ (pc := 889) (q0 := (WC o a cA v2 g2).length) dL_law_889 (WL_at _ _) vin01 ?_
    refine z_iload hZ (pc := 890) dL_law_890 rfl ?_
    refine z_i2l hZ (pc := 892) dL_law_892 ?_
    refine z_lcmp hZ (pc := 893) dL_law_893 ?_
    refine z_if_eq hZ (pc := 894) (tgt := 899) dL_law_894 rfl (fun _ => ?_) (fun c => (c (lg_self (by rw [clamp0]; exact e3 c0))).elim)
    refine z_goto hZ (pc := 899) (tgt := 1794) dL_law_899 rfl ?_
    exact hN _ _ _ _ _ _ _ _ _ _ _ e1 (by omega) (by omega) rfl
theorem lw_c12 (hW : ZW l D cA (LSX l aK aV b n xs) RL cL_law 7 2048 601024 7293034 E Z) (hE : SimE v g mv mg) (ho : o 0 = x0) (hs0 : ∀ k, k < 5 → s0 k = some (aK (clN k))) (hs1 : ∀ k, k < 7 → s1 k = some (aK k)) (ht : 6 * t + 6 ≤ n) (hn : n ≤ 3072) (hu : u + 6 ≤ 601024) (hw : w + 36 ≤ 7293034) (hN : LNext Z cA b x0 r q a' s0 s1 (nI (6 * t)) u w) : Z u w (WL o a cA v g r a' s0 s1 mv mg q f) [some (.ref b), some (.ref x0), some (.ref r), some (.ref q), some (.int (nI (6 * t))), L5, L6] [] 902 := by
  subst ho
  have hZ := hW.toZR
  obtain ⟨PW, Pm, hM, hMm, hA⟩ := w_post (l := l) (D := D) (cA := cA) (o := o) (a := a) (a' := a') (r0 := r) (q := q) (f := f) (s0 := s0) (s1 := s1) (aK := aK) (aV := aV) (x := xs (6 * t + 1)) (w := xs (6 * t + 2)) hE
  refine z_aload_n hZ (pc := 902) dL_law_902 rfl ?_
  refine zl_arg hW (pc := 903) (j := 1) dL_law_903 dL_law_904 dL_law_906 dL_law_907 dL_law_908 (by decide) rfl rfl (by omega) hn ?_
  refine zl_arg hW (pc := 909) (j := 2) dL_law_909 dL_law_910 dL_law_912 dL_law_913 dL_law_914 (by decide) rfl rfl (by omega) hn ?_
  refine z_aload_n hZ (pc := 915) dL_law_915 rfl ?_
  refine zl_wr hW LSX.ok (fun _ _ _ h => h.1) (pc := 916) dL_law_916 (List.mem_of_getElem? (i := 954) (by decide +kernel)) mw_post mws_post hM rfl rfl (by decide) (by decide) (by omega) (by omega) (fun r9 ws9 h9 => ?_)
  obtain ⟨k9, v2, g2, f2, rfl, rfl, hB⟩ := hA _ _ h9
  refine z_st (st' := [.int k9]) ?_ rfl
  refine q_istore_7_5 hZ (pc := 919) dL_law_919 rfl ?_
  refine z_aload_n hZ (pc := 921) dL_law_921 rfl ?_
  refine zl_arg hW (pc := 922) (j := 1) dL_law_922 dL_law_923 dL_law_925 dL_law_926 dL_law_927 (by decide) rfl rfl (by omega) hn ?_
  refine zl_arg hW (pc := 928) (j := 2) dL_law_928 dL_law_929 dL_law_931 dL_law_932 dL_law_933 (by decide) rfl rfl (by omega) hn ?_
  refine zl_ref hZ (pc := 934) (st := []) dL_law_934 lk_L_142 mn_X11_post mv_X11_post rfl hMm rfl rfl (by simp [Value.category]) (by decide) (by decide) (by omega) (by omega) (fun v3 g3 r3 h3 => ?_)
  obtain ⟨e1, e2, y3, rfl, e3⟩ := hB _ _ _ h3
  refine z_st (st' := [.int y3]) ?_ rfl
  refine q_istore_7_6 hZ (pc := 937) dL_law_937 rfl ?_
  refine z_aload_n hZ (pc := 939) dL_law_939 rfl ?_
  refine zl_ref hZ (pc := 940) (st := []) dL_law_940 lk_L_102 mn_X11_thrown mv_X11_thrown rfl c_X11_thrown rfl rfl (by simp) (by decide) (by decide) (by omega) (by omega) (fun v4 g4 r4 h4 => ?_)
  obtain ⟨ev, eg, rfl⟩ := h4
  rw [ev, eg]
  refine z_st (st' := [.int (v3 2)]) ?_ rfl
  refine z_iload hZ (pc := 943) dL_law_943 rfl ?_
  refine z_icmp_eq hZ (pc := 945) (tgt := 950) dL_law_945 rfl (fun _ => ?_) (fun c => absurd e2 c)
  refine z_iload hZ (pc := 950) dL_law_950 rfl ?_
  refine z_if_ne hZ (pc := 952) (tgt := 967) dL_law_952 rfl (fun _ => ?_) (fun c0 => ?_)
  · skip
    refine z_goto hZ (pc := 967) (tgt := 1794) dL_law_967 rfl ?_
    exact hN _ _ _ _ _ _ _ _ _ _ _ e1 (by omega) (by omega) rfl
  · skip
    refine z_aload_n hZ (pc := 955) dL_law_955 rfl ?_
    refine z_iconst hZ (pc := 956) (v := 0) dL_law_956 (by decide) ?_
    refine z_lald hZ (pc := 957) (q0 := (WC o a cA v2 g2).length) dL_law_957 (WL_at _ _) vin01 ?_
    refine z_iload hZ (pc := 958) dL_law_958 rfl ?_
    refine z_i2l hZ (pc := 960) dL_law_960 ?_
    refine z_lcmp hZ (pc := 961) dL_law_961 ?_
    refine z_if_eq hZ (pc := 962) (tgt := 967) dL_law_962 rfl (fun _ => ?_) (fun c => (c (lg_self (by rw [clamp0]; exact e3 c0))).elim)
    refine z_goto hZ (pc := 967) (tgt := 1794) dL_law_967 rfl ?_
    exact hN _ _ _ _ _ _ _ _ _ _ _ e1 (by omega) (by omega) rfl
theorem lw_c13 (hW : ZW l D cA (LSX l aK aV b n xs) RL cL_law 7 2048 601024 7293034 E Z) (hE : SimE v g mv mg) (ho : o 0 = x0) (hs0 : ∀ k, k < 5 → s0 k = some (aK (clN k))) (hs1 : ∀ k, k < 7 → s1 k = some (aK k)) (ht : 6 * t + 6 ≤ n) (hn : n ≤ 3072) (hu : u + 6 ≤ 601024) (hw : w + 36 ≤ 7293034) (hN : LNext Z cA b x0 r q a' s0 s1 (nI (6 * t)) u w) : Z u w (WL o a cA v g r a' s0 s1 mv mg q f) [some (.ref b), some (.ref x0), some (.ref r), some (.ref q), some (.int (nI (6 * t))), L5, L6] [] 970 := by
  subst ho
  have hZ := hW.toZR
  obtain ⟨PW, Pm, hM, hMm, hA⟩ := w_round (l := l) (D := D) (cA := cA) (o := o) (a := a) (a' := a') (r0 := r) (q := q) (f := f) (s0 := s0) (s1 := s1) (aK := aK) (aV := aV) (x := xs (6 * t + 1)) hE
  refine z_aload_n hZ (pc := 970) dL_law_970 rfl ?_
  refine zl_arg hW (pc := 971) (j := 1) dL_law_971 dL_law_972 dL_law_974 dL_law_975 dL_law_976 (by decide) rfl rfl (by omega) hn ?_
  refine z_aload_n hZ (pc := 977) dL_law_977 rfl ?_
  refine zl_wr hW LSX.ok (fun _ _ _ h => h.1) (pc := 978) dL_law_978 (List.mem_of_getElem? (i := 982) (by decide +kernel)) mw_round mws_round hM rfl rfl (by decide) (by decide) (by omega) (by omega) (fun r9 ws9 h9 => ?_)
  obtain ⟨k9, v2, g2, f2, rfl, rfl, hB⟩ := hA _ _ h9
  refine z_st (st' := [.int k9]) ?_ rfl
  refine q_istore_7_5 hZ (pc := 981) dL_law_981 rfl ?_
  refine z_aload_n hZ (pc := 983) dL_law_983 rfl ?_
  refine zl_arg hW (pc := 984) (j := 1) dL_law_984 dL_law_985 dL_law_987 dL_law_988 dL_law_989 (by decide) rfl rfl (by omega) hn ?_
  refine zl_ref hZ (pc := 990) (st := []) dL_law_990 lk_L_145 mn_X11_round mv_X11_round rfl hMm rfl rfl (by simp [Value.category]) (by decide) (by decide) (by omega) (by omega) (fun v3 g3 r3 h3 => ?_)
  obtain ⟨e1, e2, y3, rfl, e3⟩ := hB _ _ _ h3
  refine z_st (st' := [.int y3]) ?_ rfl
  refine q_istore_7_6 hZ (pc := 993) dL_law_993 rfl ?_
  refine z_aload_n hZ (pc := 995) dL_law_995 rfl ?_
  refine zl_ref hZ (pc := 996) (st := []) dL_law_996 lk_L_102 mn_X11_thrown mv_X11_thrown rfl c_X11_thrown rfl rfl (by simp) (by decide) (by decide) (by omega) (by omega) (fun v4 g4 r4 h4 => ?_)
  obtain ⟨ev, eg, rfl⟩ := h4
  rw [ev, eg]
  refine z_st (st' := [.int (v3 2)]) ?_ rfl
  refine z_iload hZ (pc := 999) dL_law_999 rfl ?_
  refine z_icmp_eq hZ (pc := 1001) (tgt := 1006) dL_law_1001 rfl (fun _ => ?_) (fun c => absurd e2 c)
  refine z_iload hZ (pc := 1006) dL_law_1006 rfl ?_
  refine z_if_ne hZ (pc := 1008) (tgt := 1023) dL_law_1008 rfl (fun _ => ?_) (fun c0 => ?_)
  · skip
    refine z_goto hZ (pc := 1023) (tgt := 1794) dL_law_1023 rfl ?_
    exact hN _ _ _ _ _ _ _ _ _ _ _ e1 (by omega) (by omega) rfl
  · skip
    refine z_aload_n hZ (pc := 1011) dL_law_1011 rfl ?_
    refine z_iconst hZ (pc := 1012) (v := 0) dL_law_1012 (by decide) ?_
    refine z_lald hZ (pc := 1013) (q0 := (WC o a cA v2 g2).length) dL_law_1013 (WL_at _ _) vin01 ?_
    refine z_iload hZ (pc := 1014) dL_law_1014 rfl ?_
    refine z_i2l hZ (pc := 1016) dL_law_1016 ?_
    refine z_lcmp hZ (pc := 1017) dL_law_1017 ?_
    refine z_if_eq hZ (pc := 1018) (tgt := 1023) dL_law_1018 rfl (fun _ => ?_) (fun c => (c (lg_self (by rw [clamp0]; exact e3 c0))).elim)
    refine z_goto hZ (pc := 1023) (tgt := 1794) dL_law_1023 rfl ?_
    exact hN _ _ _ _ _ _ _ _ _ _ _ e1 (by omega) (by omega) rfl
theorem lw_c14 (hW : ZW l D cA (LSX l aK aV b n xs) RL cL_law 7 2048 601024 7293034 E Z) (hE : SimE v g mv mg) (ho : o 0 = x0) (hs0 : ∀ k, k < 5 → s0 k = some (aK (clN k))) (hs1 : ∀ k, k < 7 → s1 k = some (aK k)) (ht : 6 * t + 6 ≤ n) (hn : n ≤ 3072) (hu : u + 6 ≤ 601024) (hw : w + 36 ≤ 7293034) (hN : LNext Z cA b x0 r q a' s0 s1 (nI (6 * t)) u w) : Z u w (WL o a cA v g r a' s0 s1 mv mg q f) [some (.ref b), some (.ref x0), some (.ref r), some (.ref q), some (.int (nI (6 * t))), L5, L6] [] 1026 := by
  subst ho
  have hZ := hW.toZR
  obtain ⟨PW, Pm, hM, hMm, hA⟩ := w_rounded (l := l) (D := D) (cA := cA) (o := o) (a := a) (a' := a') (r0 := r) (q := q) (f := f) (s0 := s0) (s1 := s1) (aK := aK) (aV := aV) (x := xs (6 * t + 1)) hE
  refine z_aload_n hZ (pc := 1026) dL_law_1026 rfl ?_
  refine zl_arg hW (pc := 1027) (j := 1) dL_law_1027 dL_law_1028 dL_law_1030 dL_law_1031 dL_law_1032 (by decide) rfl rfl (by omega) hn ?_
  refine z_aload_n hZ (pc := 1033) dL_law_1033 rfl ?_
  refine zl_wr hW LSX.ok (fun _ _ _ h => h.1) (pc := 1034) dL_law_1034 (List.mem_of_getElem? (i := 1015) (by decide +kernel)) mw_rounded mws_rounded hM rfl rfl (by decide) (by decide) (by omega) (by omega) (fun r9 ws9 h9 => ?_)
  obtain ⟨k9, v2, g2, f2, rfl, rfl, hB⟩ := hA _ _ h9
  refine z_st (st' := [.int k9]) ?_ rfl
  refine q_istore_7_5 hZ (pc := 1037) dL_law_1037 rfl ?_
  refine z_aload_n hZ (pc := 1039) dL_law_1039 rfl ?_
  refine zl_arg hW (pc := 1040) (j := 1) dL_law_1040 dL_law_1041 dL_law_1043 dL_law_1044 dL_law_1045 (by decide) rfl rfl (by omega) hn ?_
  refine zl_ref hZ (pc := 1046) (st := []) dL_law_1046 lk_L_148 mn_X11_rounded mv_X11_rounded rfl hMm rfl rfl (by simp [Value.category]) (by decide) (by decide) (by omega) (by omega) (fun v3 g3 r3 h3 => ?_)
  obtain ⟨e1, e2, y3, rfl, e3⟩ := hB _ _ _ h3
  refine z_st (st' := [.int y3]) ?_ rfl
  refine q_istore_7_6 hZ (pc := 1049) dL_law_1049 rfl ?_
  refine z_aload_n hZ (pc := 1051) dL_law_1051 rfl ?_
  refine zl_ref hZ (pc := 1052) (st := []) dL_law_1052 lk_L_102 mn_X11_thrown mv_X11_thrown rfl c_X11_thrown rfl rfl (by simp) (by decide) (by decide) (by omega) (by omega) (fun v4 g4 r4 h4 => ?_)
  obtain ⟨ev, eg, rfl⟩ := h4
  rw [ev, eg]
  refine z_st (st' := [.int (v3 2)]) ?_ rfl
  refine z_iload hZ (pc := 1055) dL_law_1055 rfl ?_
  refine z_icmp_eq hZ (pc := 1057) (tgt := 1062) dL_law_1057 rfl (fun _ => ?_) (fun c => absurd e2 c)
  refine z_iload hZ (pc := 1062) dL_law_1062 rfl ?_
  refine z_if_ne hZ (pc := 1064) (tgt := 1079) dL_law_1064 rfl (fun _ => ?_) (fun c0 => ?_)
  · skip
    refine z_goto hZ (pc := 1079) (tgt := 1794) dL_law_1079 rfl ?_
    exact hN _ _ _ _ _ _ _ _ _ _ _ e1 (by omega) (by omega) rfl
  · skip
    refine z_aload_n hZ (pc := 1067) dL_law_1067 rfl ?_
    refine z_iconst hZ (pc := 1068) (v := 0) dL_law_1068 (by decide) ?_
    refine z_lald hZ (pc := 1069) (q0 := (WC o a cA v2 g2).length) dL_law_1069 (WL_at _ _) vin01 ?_
    refine z_iload hZ (pc := 1070) dL_law_1070 rfl ?_
    refine z_i2l hZ (pc := 1072) dL_law_1072 ?_
    refine z_lcmp hZ (pc := 1073) dL_law_1073 ?_
    refine z_if_eq hZ (pc := 1074) (tgt := 1079) dL_law_1074 rfl (fun _ => ?_) (fun c => (c (lg_self (by rw [clamp0]; exact e3 c0))).elim)
    refine z_goto hZ (pc := 1079) (tgt := 1794) dL_law_1079 rfl ?_
    exact hN _ _ _ _ _ _ _ _ _ _ _ e1 (by omega) (by omega) rfl
theorem lw_c15 (hW : ZW l D cA (LSX l aK aV b n xs) RL cL_law 7 2048 601024 7293034 E Z) (hE : SimE v g mv mg) (ho : o 0 = x0) (hs0 : ∀ k, k < 5 → s0 k = some (aK (clN k))) (hs1 : ∀ k, k < 7 → s1 k = some (aK k)) (ht : 6 * t + 6 ≤ n) (hn : n ≤ 3072) (hu : u + 6 ≤ 601024) (hw : w + 36 ≤ 7293034) (hN : LNext Z cA b x0 r q a' s0 s1 (nI (6 * t)) u w) : Z u w (WL o a cA v g r a' s0 s1 mv mg q f) [some (.ref b), some (.ref x0), some (.ref r), some (.ref q), some (.int (nI (6 * t))), L5, L6] [] 1082 := by
  subst ho
  have hZ := hW.toZR
  obtain ⟨PW, Pm, hM, hMm, hA⟩ := w_holds (l := l) (D := D) (cA := cA) (o := o) (a := a) (a' := a') (r0 := r) (q := q) (f := f) (s0 := s0) (s1 := s1) (aK := aK) (aV := aV) (x := xs (6 * t + 1)) (y := xs (6 * t + 2)) hE
  refine z_aload_n hZ (pc := 1082) dL_law_1082 rfl ?_
  refine zl_arg hW (pc := 1083) (j := 1) dL_law_1083 dL_law_1084 dL_law_1086 dL_law_1087 dL_law_1088 (by decide) rfl rfl (by omega) hn ?_
  refine zl_arg hW (pc := 1089) (j := 2) dL_law_1089 dL_law_1090 dL_law_1092 dL_law_1093 dL_law_1094 (by decide) rfl rfl (by omega) hn ?_
  refine z_aload_n hZ (pc := 1095) dL_law_1095 rfl ?_
  refine zl_wr hW LSX.ok (fun _ _ _ h => h.1) (pc := 1096) dL_law_1096 (List.mem_of_getElem? (i := 1023) (by decide +kernel)) mw_holds mws_holds hM rfl rfl (by decide) (by decide) (by omega) (by omega) (fun r9 ws9 h9 => ?_)
  obtain ⟨k9, v2, g2, f2, rfl, rfl, hB⟩ := hA _ _ h9
  refine z_st (st' := [.int k9]) ?_ rfl
  refine q_istore_7_5 hZ (pc := 1099) dL_law_1099 rfl ?_
  refine z_aload_n hZ (pc := 1101) dL_law_1101 rfl ?_
  refine zl_arg hW (pc := 1102) (j := 1) dL_law_1102 dL_law_1103 dL_law_1105 dL_law_1106 dL_law_1107 (by decide) rfl rfl (by omega) hn ?_
  refine zl_arg hW (pc := 1108) (j := 2) dL_law_1108 dL_law_1109 dL_law_1111 dL_law_1112 dL_law_1113 (by decide) rfl rfl (by omega) hn ?_
  refine zl_ref hZ (pc := 1114) (st := []) dL_law_1114 lk_L_151 mn_X11_holds mv_X11_holds rfl hMm rfl rfl (by simp [Value.category]) (by decide) (by decide) (by omega) (by omega) (fun v3 g3 r3 h3 => ?_)
  obtain ⟨e1, e2, y3, rfl, e3⟩ := hB _ _ _ h3
  refine z_st (st' := [.int y3]) ?_ rfl
  refine q_istore_7_6 hZ (pc := 1117) dL_law_1117 rfl ?_
  refine z_aload_n hZ (pc := 1119) dL_law_1119 rfl ?_
  refine zl_ref hZ (pc := 1120) (st := []) dL_law_1120 lk_L_102 mn_X11_thrown mv_X11_thrown rfl c_X11_thrown rfl rfl (by simp) (by decide) (by decide) (by omega) (by omega) (fun v4 g4 r4 h4 => ?_)
  obtain ⟨ev, eg, rfl⟩ := h4
  rw [ev, eg]
  refine z_st (st' := [.int (v3 2)]) ?_ rfl
  refine z_iload hZ (pc := 1123) dL_law_1123 rfl ?_
  refine z_icmp_eq hZ (pc := 1125) (tgt := 1130) dL_law_1125 rfl (fun _ => ?_) (fun c => absurd e2 c)
  refine z_iload hZ (pc := 1130) dL_law_1130 rfl ?_
  refine z_if_ne hZ (pc := 1132) (tgt := 1154) dL_law_1132 rfl (fun _ => ?_) (fun c0 => ?_)
  · skip
    refine z_goto hZ (pc := 1154) (tgt := 1794) dL_law_1154 rfl ?_
    exact hN _ _ _ _ _ _ _ _ _ _ _ e1 (by omega) (by omega) rfl
  · skip
    refine z_aload_n hZ (pc := 1135) dL_law_1135 rfl ?_
    refine z_iconst hZ (pc := 1136) (v := 0) dL_law_1136 (by decide) ?_
    refine z_lald hZ (pc := 1137) (q0 := (WC o a cA v2 g2).length) dL_law_1137 (WL_at _ _) vin01 ?_
    refine z_iload hZ (pc := 1138) dL_law_1138 rfl ?_
    refine z_if_eq hZ (pc := 1140) (tgt := 1147) dL_law_1140 rfl (fun c1 => ?_) (fun c1 => ?_)
    · skip
      refine z_lconst hZ (pc := 1147) (v := 0) dL_law_1147 rfl ?_
      refine z_lcmp hZ (pc := 1148) dL_law_1148 ?_
      refine z_if_eq hZ (pc := 1149) (tgt := 1154) dL_law_1149 rfl (fun _ => ?_) (fun c => (c (lg_self (by rw [clamp0]; exact (e3 c0).trans (if_pos c1)))).elim)
      refine z_goto hZ (pc := 1154) (tgt := 1794) dL_law_1154 rfl ?_
      exact hN _ _ _ _ _ _ _ _ _ _ _ e1 (by omega) (by omega) rfl
    · skip
      refine z_lconst hZ (pc := 1143) (v := 1) dL_law_1143 rfl ?_
      refine z_goto hZ (pc := 1144) (tgt := 1148) dL_law_1144 rfl ?_
      refine z_lcmp hZ (pc := 1148) dL_law_1148 ?_
      refine z_if_eq hZ (pc := 1149) (tgt := 1154) dL_law_1149 rfl (fun _ => ?_) (fun c => (c (lg_self (by rw [clamp0]; exact (e3 c0).trans (if_neg c1)))).elim)
      refine z_goto hZ (pc := 1154) (tgt := 1794) dL_law_1154 rfl ?_
      exact hN _ _ _ _ _ _ _ _ _ _ _ e1 (by omega) (by omega) rfl
theorem lw_c16 (hW : ZW l D cA (LSX l aK aV b n xs) RL cL_law 7 2048 601024 7293034 E Z) (hE : SimE v g mv mg) (ho : o 0 = x0) (hs0 : ∀ k, k < 5 → s0 k = some (aK (clN k))) (hs1 : ∀ k, k < 7 → s1 k = some (aK k)) (ht : 6 * t + 6 ≤ n) (hn : n ≤ 3072) (hu : u + 6 ≤ 601024) (hw : w + 36 ≤ 7293034) (hN : LNext Z cA b x0 r q a' s0 s1 (nI (6 * t)) u w) : Z u w (WL o a cA v g r a' s0 s1 mv mg q f) [some (.ref b), some (.ref x0), some (.ref r), some (.ref q), some (.int (nI (6 * t))), L5, L6] [] 1157 := by
  subst ho
  have hZ := hW.toZR
  obtain ⟨PW, Pm, hM, hMm, hA⟩ := w_stranger (l := l) (D := D) (cA := cA) (o := o) (a := a) (a' := a') (r0 := r) (q := q) (f := f) (s0 := s0) (s1 := s1) (aK := aK) (aV := aV) (x := xs (6 * t + 1)) (w := xs (6 * t + 2)) hE
  refine z_aload_n hZ (pc := 1157) dL_law_1157 rfl ?_
  refine zl_arg hW (pc := 1158) (j := 1) dL_law_1158 dL_law_1159 dL_law_1161 dL_law_1162 dL_law_1163 (by decide) rfl rfl (by omega) hn ?_
  refine zl_arg hW (pc := 1164) (j := 2) dL_law_1164 dL_law_1165 dL_law_1167 dL_law_1168 dL_law_1169 (by decide) rfl rfl (by omega) hn ?_
  refine z_aload_n hZ (pc := 1170) dL_law_1170 rfl ?_
  refine zl_wr hW LSX.ok (fun _ _ _ h => h.1) (pc := 1171) dL_law_1171 (List.mem_of_getElem? (i := 1039) (by decide +kernel)) mw_stranger mws_stranger hM rfl rfl (by decide) (by decide) (by omega) (by omega) (fun r9 ws9 h9 => ?_)
  obtain ⟨k9, v2, g2, f2, rfl, rfl, hB⟩ := hA _ _ h9
  refine z_st (st' := [.int k9]) ?_ rfl
  refine q_istore_7_5 hZ (pc := 1174) dL_law_1174 rfl ?_
  refine z_aload_n hZ (pc := 1176) dL_law_1176 rfl ?_
  refine zl_arg hW (pc := 1177) (j := 1) dL_law_1177 dL_law_1178 dL_law_1180 dL_law_1181 dL_law_1182 (by decide) rfl rfl (by omega) hn ?_
  refine zl_arg hW (pc := 1183) (j := 2) dL_law_1183 dL_law_1184 dL_law_1186 dL_law_1187 dL_law_1188 (by decide) rfl rfl (by omega) hn ?_
  refine zl_ref hZ (pc := 1189) (st := []) dL_law_1189 lk_L_154 mn_X11_stranger mv_X11_stranger rfl hMm rfl rfl (by simp [Value.category]) (by decide) (by decide) (by omega) (by omega) (fun v3 g3 r3 h3 => ?_)
  obtain ⟨e1, e2, y3, rfl, e3⟩ := hB _ _ _ h3
  refine z_st (st' := [.int y3]) ?_ rfl
  refine q_istore_7_6 hZ (pc := 1192) dL_law_1192 rfl ?_
  refine z_aload_n hZ (pc := 1194) dL_law_1194 rfl ?_
  refine zl_ref hZ (pc := 1195) (st := []) dL_law_1195 lk_L_102 mn_X11_thrown mv_X11_thrown rfl c_X11_thrown rfl rfl (by simp) (by decide) (by decide) (by omega) (by omega) (fun v4 g4 r4 h4 => ?_)
  obtain ⟨ev, eg, rfl⟩ := h4
  rw [ev, eg]
  refine z_st (st' := [.int (v3 2)]) ?_ rfl
  refine z_iload hZ (pc := 1198) dL_law_1198 rfl ?_
  refine z_icmp_eq hZ (pc := 1200) (tgt := 1205) dL_law_1200 rfl (fun _ => ?_) (fun c => absurd e2 c)
  refine z_iload hZ (pc := 1205) dL_law_1205 rfl ?_
  refine z_if_ne hZ (pc := 1207) (tgt := 1222) dL_law_1207 rfl (fun _ => ?_) (fun c0 => ?_)
  · skip
    refine z_goto hZ (pc := 1222) (tgt := 1794) dL_law_1222 rfl ?_
    exact hN _ _ _ _ _ _ _ _ _ _ _ e1 (by omega) (by omega) rfl
  · skip
    refine z_aload_n hZ (pc := 1210) dL_law_1210 rfl ?_
    refine z_iconst hZ (pc := 1211) (v := 0) dL_law_1211 (by decide) ?_
    refine z_lald hZ (pc := 1212) (q0 := (WC o a cA v2 g2).length) dL_law_1212 (WL_at _ _) vin01 ?_
    refine z_iload hZ (pc := 1213) dL_law_1213 rfl ?_
    refine z_i2l hZ (pc := 1215) dL_law_1215 ?_
    refine z_lcmp hZ (pc := 1216) dL_law_1216 ?_
    refine z_if_eq hZ (pc := 1217) (tgt := 1222) dL_law_1217 rfl (fun _ => ?_) (fun c => (c (lg_self (by rw [clamp0]; exact e3 c0))).elim)
    refine z_goto hZ (pc := 1222) (tgt := 1794) dL_law_1222 rfl ?_
    exact hN _ _ _ _ _ _ _ _ _ _ _ e1 (by omega) (by omega) rfl
theorem lw_c17 (hW : ZW l D cA (LSX l aK aV b n xs) RL cL_law 7 2048 601024 7293034 E Z) (hE : SimE v g mv mg) (ho : o 0 = x0) (hs0 : ∀ k, k < 5 → s0 k = some (aK (clN k))) (hs1 : ∀ k, k < 7 → s1 k = some (aK k)) (ht : 6 * t + 6 ≤ n) (hn : n ≤ 3072) (hu : u + 6 ≤ 601024) (hw : w + 36 ≤ 7293034) (hN : LNext Z cA b x0 r q a' s0 s1 (nI (6 * t)) u w) : Z u w (WL o a cA v g r a' s0 s1 mv mg q f) [some (.ref b), some (.ref x0), some (.ref r), some (.ref q), some (.int (nI (6 * t))), L5, L6] [] 1225 := by
  subst ho
  have hZ := hW.toZR
  obtain ⟨PW, Pm, hM, hMm, hA⟩ := w_write (l := l) (D := D) (cA := cA) (o := o) (a := a) (a' := a') (r0 := r) (q := q) (f := f) (s0 := s0) (s1 := s1) (aK := aK) (aV := aV) (x := xs (6 * t + 1)) hE
  refine z_aload_n hZ (pc := 1225) dL_law_1225 rfl ?_
  refine zl_arg hW (pc := 1226) (j := 1) dL_law_1226 dL_law_1227 dL_law_1229 dL_law_1230 dL_law_1231 (by decide) rfl rfl (by omega) hn ?_
  refine z_aload_n hZ (pc := 1232) dL_law_1232 rfl ?_
  refine zl_wr hW LSX.ok (fun _ _ _ h => h.1) (pc := 1233) dL_law_1233 (List.mem_of_getElem? (i := 1074) (by decide +kernel)) mw_write mws_write hM rfl rfl (by decide) (by decide) (by omega) (by omega) (fun r9 ws9 h9 => ?_)
  obtain ⟨k9, v2, g2, f2, rfl, rfl, hB⟩ := hA _ _ h9
  refine z_st (st' := [.int k9]) ?_ rfl
  refine q_istore_7_5 hZ (pc := 1236) dL_law_1236 rfl ?_
  refine z_aload_n hZ (pc := 1238) dL_law_1238 rfl ?_
  refine zl_arg hW (pc := 1239) (j := 1) dL_law_1239 dL_law_1240 dL_law_1242 dL_law_1243 dL_law_1244 (by decide) rfl rfl (by omega) hn ?_
  refine zl_ref hZ (pc := 1245) (st := []) dL_law_1245 lk_L_157 mn_X11_write mv_X11_write rfl hMm rfl rfl (by simp [Value.category]) (by decide) (by decide) (by omega) (by omega) (fun v3 g3 r3 h3 => ?_)
  obtain ⟨e1, e2, y3, rfl, e3⟩ := hB _ _ _ h3
  refine z_st (st' := [.int y3]) ?_ rfl
  refine q_istore_7_6 hZ (pc := 1248) dL_law_1248 rfl ?_
  refine z_aload_n hZ (pc := 1250) dL_law_1250 rfl ?_
  refine zl_ref hZ (pc := 1251) (st := []) dL_law_1251 lk_L_102 mn_X11_thrown mv_X11_thrown rfl c_X11_thrown rfl rfl (by simp) (by decide) (by decide) (by omega) (by omega) (fun v4 g4 r4 h4 => ?_)
  obtain ⟨ev, eg, rfl⟩ := h4
  rw [ev, eg]
  refine z_st (st' := [.int (v3 2)]) ?_ rfl
  refine z_iload hZ (pc := 1254) dL_law_1254 rfl ?_
  refine z_icmp_eq hZ (pc := 1256) (tgt := 1261) dL_law_1256 rfl (fun _ => ?_) (fun c => absurd e2 c)
  refine z_iload hZ (pc := 1261) dL_law_1261 rfl ?_
  refine z_if_ne hZ (pc := 1263) (tgt := 1278) dL_law_1263 rfl (fun _ => ?_) (fun c0 => ?_)
  · skip
    refine z_goto hZ (pc := 1278) (tgt := 1794) dL_law_1278 rfl ?_
    exact hN _ _ _ _ _ _ _ _ _ _ _ e1 (by omega) (by omega) rfl
  · skip
    refine z_aload_n hZ (pc := 1266) dL_law_1266 rfl ?_
    refine z_iconst hZ (pc := 1267) (v := 0) dL_law_1267 (by decide) ?_
    refine z_lald hZ (pc := 1268) (q0 := (WC o a cA v2 g2).length) dL_law_1268 (WL_at _ _) vin01 ?_
    refine z_iload hZ (pc := 1269) dL_law_1269 rfl ?_
    refine z_i2l hZ (pc := 1271) dL_law_1271 ?_
    refine z_lcmp hZ (pc := 1272) dL_law_1272 ?_
    refine z_if_eq hZ (pc := 1273) (tgt := 1278) dL_law_1273 rfl (fun _ => ?_) (fun c => (c (lg_self (by rw [clamp0]; exact e3 c0))).elim)
    refine z_goto hZ (pc := 1278) (tgt := 1794) dL_law_1278 rfl ?_
    exact hN _ _ _ _ _ _ _ _ _ _ _ e1 (by omega) (by omega) rfl
theorem lw_c18 (hW : ZW l D cA (LSX l aK aV b n xs) RL cL_law 7 2048 601024 7293034 E Z) (hE : SimE v g mv mg) (ho : o 0 = x0) (hs0 : ∀ k, k < 5 → s0 k = some (aK (clN k))) (hs1 : ∀ k, k < 7 → s1 k = some (aK k)) (ht : 6 * t + 6 ≤ n) (hn : n ≤ 3072) (hu : u + 6 ≤ 601024) (hw : w + 36 ≤ 7293034) (hN : LNext Z cA b x0 r q a' s0 s1 (nI (6 * t)) u w) : Z u w (WL o a cA v g r a' s0 s1 mv mg q f) [some (.ref b), some (.ref x0), some (.ref r), some (.ref q), some (.int (nI (6 * t))), L5, L6] [] 1281 := by
  subst ho
  have hZ := hW.toZR
  obtain ⟨P, Pm, hM, hMm, hA⟩ := k_clear (l := l) (D := D) (cA := cA) (o := o) (a := a) (a' := a') (r0 := r) (s0 := s0) (s1 := s1)  hE
  refine z_aload_n hZ (pc := 1281) dL_law_1281 rfl ?_
  refine zl_cls hZ (pc := 1282) (st := []) dL_law_1282 lk_L_158 mn_X10_clear mv_X10_clear rfl hM rfl rfl (by simp) (by decide) (by decide) (by omega) (by omega) (fun v2 g2 r2 h2 => ?_)
  obtain ⟨y2, rfl⟩ := hA.1 _ _ _ h2
  refine z_st (st' := [.int y2]) ?_ rfl
  refine z_aload_n hZ (pc := 1285) dL_law_1285 rfl ?_
  refine zl_ref hZ (pc := 1286) (st := [.int y2]) dL_law_1286 lk_L_161 mn_X11_clear mv_X11_clear rfl hMm rfl rfl (by simp [Value.category]) (by decide) (by decide) (by omega) (by omega) (fun v3 g3 r3 h3 => ?_)
  obtain ⟨e1, e2⟩ := hA.2 _ _ _ _ _ _ h2 h3
  subst e2
  refine z_st (st' := [.int y2, .int y2]) ?_ rfl
  refine z_icmp_eq hZ (pc := 1289) (tgt := 1794) dL_law_1289 rfl (fun _ => ?_) (fun c => absurd rfl c)
  exact hN _ _ _ _ _ _ _ _ _ _ _ e1 (by omega) (by omega) rfl
theorem lw_c19 (hW : ZW l D cA (LSX l aK aV b n xs) RL cL_law 7 2048 601024 7293034 E Z) (hE : SimE v g mv mg) (ho : o 0 = x0) (hs0 : ∀ k, k < 5 → s0 k = some (aK (clN k))) (hs1 : ∀ k, k < 7 → s1 k = some (aK k)) (ht : 6 * t + 6 ≤ n) (hn : n ≤ 3072) (hu : u + 6 ≤ 601024) (hw : w + 36 ≤ 7293034) (hN : LNext Z cA b x0 r q a' s0 s1 (nI (6 * t)) u w) : Z u w (WL o a cA v g r a' s0 s1 mv mg q f) [some (.ref b), some (.ref x0), some (.ref r), some (.ref q), some (.int (nI (6 * t))), L5, L6] [] 1294 := by
  subst ho
  have hZ := hW.toZR
  obtain ⟨PW, Pm, hM, hMm, hA⟩ := w_register (l := l) (D := D) (cA := cA) (o := o) (a := a) (a' := a') (r0 := r) (q := q) (f := f) (s0 := s0) (s1 := s1) (aK := aK) (aV := aV) (x := xs (6 * t + 1)) (w := xs (6 * t + 2)) hE
  refine z_aload_n hZ (pc := 1294) dL_law_1294 rfl ?_
  refine zl_arg hW (pc := 1295) (j := 1) dL_law_1295 dL_law_1296 dL_law_1298 dL_law_1299 dL_law_1300 (by decide) rfl rfl (by omega) hn ?_
  refine zl_arg hW (pc := 1301) (j := 2) dL_law_1301 dL_law_1302 dL_law_1304 dL_law_1305 dL_law_1306 (by decide) rfl rfl (by omega) hn ?_
  refine z_aload_n hZ (pc := 1307) dL_law_1307 rfl ?_
  refine zl_wr hW LSX.ok (fun _ _ _ h => h.1) (pc := 1308) dL_law_1308 (List.mem_of_getElem? (i := 1081) (by decide +kernel)) mw_register mws_register hM rfl rfl (by decide) (by decide) (by omega) (by omega) (fun r9 ws9 h9 => ?_)
  obtain ⟨k9, v2, g2, f2, rfl, rfl, hB⟩ := hA _ _ h9
  refine z_st (st' := [.int k9]) ?_ rfl
  refine q_istore_7_5 hZ (pc := 1311) dL_law_1311 rfl ?_
  refine z_aload_n hZ (pc := 1313) dL_law_1313 rfl ?_
  refine zl_arg hW (pc := 1314) (j := 1) dL_law_1314 dL_law_1315 dL_law_1317 dL_law_1318 dL_law_1319 (by decide) rfl rfl (by omega) hn ?_
  refine zl_arg hW (pc := 1320) (j := 2) dL_law_1320 dL_law_1321 dL_law_1323 dL_law_1324 dL_law_1325 (by decide) rfl rfl (by omega) hn ?_
  refine zl_ref hZ (pc := 1326) (st := []) dL_law_1326 lk_L_164 mn_X11_register mv_X11_register rfl hMm rfl rfl (by simp [Value.category]) (by decide) (by decide) (by omega) (by omega) (fun v3 g3 r3 h3 => ?_)
  obtain ⟨e1, e2, y3, rfl, e3⟩ := hB _ _ _ h3
  refine z_st (st' := [.int y3]) ?_ rfl
  refine q_istore_7_6 hZ (pc := 1329) dL_law_1329 rfl ?_
  refine z_aload_n hZ (pc := 1331) dL_law_1331 rfl ?_
  refine zl_ref hZ (pc := 1332) (st := []) dL_law_1332 lk_L_102 mn_X11_thrown mv_X11_thrown rfl c_X11_thrown rfl rfl (by simp) (by decide) (by decide) (by omega) (by omega) (fun v4 g4 r4 h4 => ?_)
  obtain ⟨ev, eg, rfl⟩ := h4
  rw [ev, eg]
  refine z_st (st' := [.int (v3 2)]) ?_ rfl
  refine z_iload hZ (pc := 1335) dL_law_1335 rfl ?_
  refine z_icmp_eq hZ (pc := 1337) (tgt := 1342) dL_law_1337 rfl (fun _ => ?_) (fun c => absurd e2 c)
  refine z_iload hZ (pc := 1342) dL_law_1342 rfl ?_
  refine z_if_ne hZ (pc := 1344) (tgt := 1359) dL_law_1344 rfl (fun _ => ?_) (fun c0 => ?_)
  · skip
    refine z_goto hZ (pc := 1359) (tgt := 1794) dL_law_1359 rfl ?_
    exact hN _ _ _ _ _ _ _ _ _ _ _ e1 (by omega) (by omega) rfl
  · skip
    refine z_aload_n hZ (pc := 1347) dL_law_1347 rfl ?_
    refine z_iconst hZ (pc := 1348) (v := 0) dL_law_1348 (by decide) ?_
    refine z_lald hZ (pc := 1349) (q0 := (WC o a cA v2 g2).length) dL_law_1349 (WL_at _ _) vin01 ?_
    refine z_iload hZ (pc := 1350) dL_law_1350 rfl ?_
    refine z_i2l hZ (pc := 1352) dL_law_1352 ?_
    refine z_lcmp hZ (pc := 1353) dL_law_1353 ?_
    refine z_if_eq hZ (pc := 1354) (tgt := 1359) dL_law_1354 rfl (fun _ => ?_) (fun c => (c (lg_self (by rw [clamp0]; exact e3 c0))).elim)
    refine z_goto hZ (pc := 1359) (tgt := 1794) dL_law_1359 rfl ?_
    exact hN _ _ _ _ _ _ _ _ _ _ _ e1 (by omega) (by omega) rfl
theorem lw_c20 (hW : ZW l D cA (LSX l aK aV b n xs) RL cL_law 7 2048 601024 7293034 E Z) (hE : SimE v g mv mg) (ho : o 0 = x0) (hs0 : ∀ k, k < 5 → s0 k = some (aK (clN k))) (hs1 : ∀ k, k < 7 → s1 k = some (aK k)) (ht : 6 * t + 6 ≤ n) (hn : n ≤ 3072) (hu : u + 6 ≤ 601024) (hw : w + 36 ≤ 7293034) (hN : LNext Z cA b x0 r q a' s0 s1 (nI (6 * t)) u w) : Z u w (WL o a cA v g r a' s0 s1 mv mg q f) [some (.ref b), some (.ref x0), some (.ref r), some (.ref q), some (.int (nI (6 * t))), L5, L6] [] 1362 := by
  subst ho
  have hZ := hW.toZR
  obtain ⟨PW, Pm, hM, hMm, hA⟩ := w_will (l := l) (D := D) (cA := cA) (o := o) (a := a) (a' := a') (r0 := r) (q := q) (f := f) (s0 := s0) (s1 := s1) (aK := aK) (aV := aV) (x := xs (6 * t + 1)) (y := xs (6 * t + 2)) (f1 := xs (6 * t + 3)) (t1 := xs (6 * t + 4)) (w := xs (6 * t + 5)) hE
  refine z_aload_n hZ (pc := 1362) dL_law_1362 rfl ?_
  refine zl_arg hW (pc := 1363) (j := 1) dL_law_1363 dL_law_1364 dL_law_1366 dL_law_1367 dL_law_1368 (by decide) rfl rfl (by omega) hn ?_
  refine zl_arg hW (pc := 1369) (j := 2) dL_law_1369 dL_law_1370 dL_law_1372 dL_law_1373 dL_law_1374 (by decide) rfl rfl (by omega) hn ?_
  refine zl_arg hW (pc := 1375) (j := 3) dL_law_1375 dL_law_1376 dL_law_1378 dL_law_1379 dL_law_1380 (by decide) rfl rfl (by omega) hn ?_
  refine zl_arg hW (pc := 1381) (j := 4) dL_law_1381 dL_law_1382 dL_law_1384 dL_law_1385 dL_law_1386 (by decide) rfl rfl (by omega) hn ?_
  refine zl_arg hW (pc := 1387) (j := 5) dL_law_1387 dL_law_1388 dL_law_1390 dL_law_1391 dL_law_1392 (by decide) rfl rfl (by omega) hn ?_
  refine z_aload_n hZ (pc := 1393) dL_law_1393 rfl ?_
  refine zl_wr hW LSX.ok (fun _ _ _ h => h.1) (pc := 1394) dL_law_1394 (List.mem_of_getElem? (i := 1101) (by decide +kernel)) mw_will mws_will hM rfl rfl (by decide) (by decide) (by omega) (by omega) (fun r9 ws9 h9 => ?_)
  obtain ⟨k9, v2, g2, f2, rfl, rfl, hB⟩ := hA _ _ h9
  refine z_st (st' := [.int k9]) ?_ rfl
  refine q_istore_7_5 hZ (pc := 1397) dL_law_1397 rfl ?_
  refine z_aload_n hZ (pc := 1399) dL_law_1399 rfl ?_
  refine zl_arg hW (pc := 1400) (j := 1) dL_law_1400 dL_law_1401 dL_law_1403 dL_law_1404 dL_law_1405 (by decide) rfl rfl (by omega) hn ?_
  refine zl_arg hW (pc := 1406) (j := 2) dL_law_1406 dL_law_1407 dL_law_1409 dL_law_1410 dL_law_1411 (by decide) rfl rfl (by omega) hn ?_
  refine zl_arg hW (pc := 1412) (j := 3) dL_law_1412 dL_law_1413 dL_law_1415 dL_law_1416 dL_law_1417 (by decide) rfl rfl (by omega) hn ?_
  refine zl_arg hW (pc := 1418) (j := 4) dL_law_1418 dL_law_1419 dL_law_1421 dL_law_1422 dL_law_1423 (by decide) rfl rfl (by omega) hn ?_
  refine zl_arg hW (pc := 1424) (j := 5) dL_law_1424 dL_law_1425 dL_law_1427 dL_law_1428 dL_law_1429 (by decide) rfl rfl (by omega) hn ?_
  refine zl_ref hZ (pc := 1430) (st := []) dL_law_1430 lk_L_168 mn_X11_will mv_X11_will rfl hMm rfl rfl (by simp [Value.category]) (by decide) (by decide) (by omega) (by omega) (fun v3 g3 r3 h3 => ?_)
  obtain ⟨e1, e2, y3, rfl, e3⟩ := hB _ _ _ h3
  refine z_st (st' := [.int y3]) ?_ rfl
  refine q_istore_7_6 hZ (pc := 1433) dL_law_1433 rfl ?_
  refine z_aload_n hZ (pc := 1435) dL_law_1435 rfl ?_
  refine zl_ref hZ (pc := 1436) (st := []) dL_law_1436 lk_L_102 mn_X11_thrown mv_X11_thrown rfl c_X11_thrown rfl rfl (by simp) (by decide) (by decide) (by omega) (by omega) (fun v4 g4 r4 h4 => ?_)
  obtain ⟨ev, eg, rfl⟩ := h4
  rw [ev, eg]
  refine z_st (st' := [.int (v3 2)]) ?_ rfl
  refine z_iload hZ (pc := 1439) dL_law_1439 rfl ?_
  refine z_icmp_eq hZ (pc := 1441) (tgt := 1446) dL_law_1441 rfl (fun _ => ?_) (fun c => absurd e2 c)
  refine z_iload hZ (pc := 1446) dL_law_1446 rfl ?_
  refine z_if_ne hZ (pc := 1448) (tgt := 1463) dL_law_1448 rfl (fun _ => ?_) (fun c0 => ?_)
  · skip
    refine z_goto hZ (pc := 1463) (tgt := 1794) dL_law_1463 rfl ?_
    exact hN _ _ _ _ _ _ _ _ _ _ _ e1 (by omega) (by omega) rfl
  · skip
    refine z_aload_n hZ (pc := 1451) dL_law_1451 rfl ?_
    refine z_iconst hZ (pc := 1452) (v := 0) dL_law_1452 (by decide) ?_
    refine z_lald hZ (pc := 1453) (q0 := (WC o a cA v2 g2).length) dL_law_1453 (WL_at _ _) vin01 ?_
    refine z_iload hZ (pc := 1454) dL_law_1454 rfl ?_
    refine z_i2l hZ (pc := 1456) dL_law_1456 ?_
    refine z_lcmp hZ (pc := 1457) dL_law_1457 ?_
    refine z_if_eq hZ (pc := 1458) (tgt := 1463) dL_law_1458 rfl (fun _ => ?_) (fun c => (c (lg_self (by rw [clamp0]; exact e3 c0))).elim)
    refine z_goto hZ (pc := 1463) (tgt := 1794) dL_law_1463 rfl ?_
    exact hN _ _ _ _ _ _ _ _ _ _ _ e1 (by omega) (by omega) rfl
theorem lw_c21 (hW : ZW l D cA (LSX l aK aV b n xs) RL cL_law 7 2048 601024 7293034 E Z) (hE : SimE v g mv mg) (ho : o 0 = x0) (hs0 : ∀ k, k < 5 → s0 k = some (aK (clN k))) (hs1 : ∀ k, k < 7 → s1 k = some (aK k)) (ht : 6 * t + 6 ≤ n) (hn : n ≤ 3072) (hu : u + 6 ≤ 601024) (hw : w + 36 ≤ 7293034) (hN : LNext Z cA b x0 r q a' s0 s1 (nI (6 * t)) u w) : Z u w (WL o a cA v g r a' s0 s1 mv mg q f) [some (.ref b), some (.ref x0), some (.ref r), some (.ref q), some (.int (nI (6 * t))), L5, L6] [] 1466 := by
  subst ho
  have hZ := hW.toZR
  obtain ⟨PW, Pm, hM, hMm, hA⟩ := w_last (l := l) (D := D) (cA := cA) (o := o) (a := a) (a' := a') (r0 := r) (q := q) (f := f) (s0 := s0) (s1 := s1) (aK := aK) (aV := aV) (x := xs (6 * t + 1)) hE
  refine z_aload_n hZ (pc := 1466) dL_law_1466 rfl ?_
  refine zl_arg hW (pc := 1467) (j := 1) dL_law_1467 dL_law_1468 dL_law_1470 dL_law_1471 dL_law_1472 (by decide) rfl rfl (by omega) hn ?_
  refine z_aload_n hZ (pc := 1473) dL_law_1473 rfl ?_
  refine zl_wr hW LSX.ok (fun _ _ _ h => h.1) (pc := 1474) dL_law_1474 (List.mem_of_getElem? (i := 1114) (by decide +kernel)) mw_last mws_last hM rfl rfl (by decide) (by decide) (by omega) (by omega) (fun r9 ws9 h9 => ?_)
  obtain ⟨k9, v2, g2, f2, rfl, rfl, hB⟩ := hA _ _ h9
  refine z_st (st' := [.int k9]) ?_ rfl
  refine q_istore_7_5 hZ (pc := 1477) dL_law_1477 rfl ?_
  refine z_aload_n hZ (pc := 1479) dL_law_1479 rfl ?_
  refine zl_arg hW (pc := 1480) (j := 1) dL_law_1480 dL_law_1481 dL_law_1483 dL_law_1484 dL_law_1485 (by decide) rfl rfl (by omega) hn ?_
  refine zl_ref hZ (pc := 1486) (st := []) dL_law_1486 lk_L_171 mn_X11_last mv_X11_last rfl hMm rfl rfl (by simp [Value.category]) (by decide) (by decide) (by omega) (by omega) (fun v3 g3 r3 h3 => ?_)
  obtain ⟨e1, e2, y3, rfl, e3⟩ := hB _ _ _ h3
  refine z_st (st' := [.int y3]) ?_ rfl
  refine q_istore_7_6 hZ (pc := 1489) dL_law_1489 rfl ?_
  refine z_aload_n hZ (pc := 1491) dL_law_1491 rfl ?_
  refine zl_ref hZ (pc := 1492) (st := []) dL_law_1492 lk_L_102 mn_X11_thrown mv_X11_thrown rfl c_X11_thrown rfl rfl (by simp) (by decide) (by decide) (by omega) (by omega) (fun v4 g4 r4 h4 => ?_)
  obtain ⟨ev, eg, rfl⟩ := h4
  rw [ev, eg]
  refine z_st (st' := [.int (v3 2)]) ?_ rfl
  refine z_iload hZ (pc := 1495) dL_law_1495 rfl ?_
  refine z_icmp_eq hZ (pc := 1497) (tgt := 1502) dL_law_1497 rfl (fun _ => ?_) (fun c => absurd e2 c)
  refine z_iload hZ (pc := 1502) dL_law_1502 rfl ?_
  refine z_if_ne hZ (pc := 1504) (tgt := 1519) dL_law_1504 rfl (fun _ => ?_) (fun c0 => ?_)
  · skip
    refine z_goto hZ (pc := 1519) (tgt := 1794) dL_law_1519 rfl ?_
    exact hN _ _ _ _ _ _ _ _ _ _ _ e1 (by omega) (by omega) rfl
  · skip
    refine z_aload_n hZ (pc := 1507) dL_law_1507 rfl ?_
    refine z_iconst hZ (pc := 1508) (v := 0) dL_law_1508 (by decide) ?_
    refine z_lald hZ (pc := 1509) (q0 := (WC o a cA v2 g2).length) dL_law_1509 (WL_at _ _) vin01 ?_
    refine z_iload hZ (pc := 1510) dL_law_1510 rfl ?_
    refine z_i2l hZ (pc := 1512) dL_law_1512 ?_
    refine z_lcmp hZ (pc := 1513) dL_law_1513 ?_
    refine z_if_eq hZ (pc := 1514) (tgt := 1519) dL_law_1514 rfl (fun _ => ?_) (fun c => (c (lg_self (by rw [clamp0]; exact e3 c0))).elim)
    refine z_goto hZ (pc := 1519) (tgt := 1794) dL_law_1519 rfl ?_
    exact hN _ _ _ _ _ _ _ _ _ _ _ e1 (by omega) (by omega) rfl
theorem lw_c22 (hW : ZW l D cA (LSX l aK aV b n xs) RL cL_law 7 2048 601024 7293034 E Z) (hE : SimE v g mv mg) (ho : o 0 = x0) (hs0 : ∀ k, k < 5 → s0 k = some (aK (clN k))) (hs1 : ∀ k, k < 7 → s1 k = some (aK k)) (ht : 6 * t + 6 ≤ n) (hn : n ≤ 3072) (hu : u + 6 ≤ 601024) (hw : w + 36 ≤ 7293034) (hN : LNext Z cA b x0 r q a' s0 s1 (nI (6 * t)) u w) : Z u w (WL o a cA v g r a' s0 s1 mv mg q f) [some (.ref b), some (.ref x0), some (.ref r), some (.ref q), some (.int (nI (6 * t))), L5, L6] [] 1522 := by
  subst ho
  have hZ := hW.toZR
  obtain ⟨PW, Pm, hM, hMm, hA⟩ := w_nobody (l := l) (D := D) (cA := cA) (o := o) (a := a) (a' := a') (r0 := r) (q := q) (f := f) (s0 := s0) (s1 := s1) (aK := aK) (aV := aV) (x := xs (6 * t + 1)) hE
  refine z_aload_n hZ (pc := 1522) dL_law_1522 rfl ?_
  refine zl_arg hW (pc := 1523) (j := 1) dL_law_1523 dL_law_1524 dL_law_1526 dL_law_1527 dL_law_1528 (by decide) rfl rfl (by omega) hn ?_
  refine z_aload_n hZ (pc := 1529) dL_law_1529 rfl ?_
  refine zl_wr hW LSX.ok (fun _ _ _ h => h.1) (pc := 1530) dL_law_1530 (List.mem_of_getElem? (i := 1133) (by decide +kernel)) mw_nobody mws_nobody hM rfl rfl (by decide) (by decide) (by omega) (by omega) (fun r9 ws9 h9 => ?_)
  obtain ⟨k9, v2, g2, f2, rfl, rfl, hB⟩ := hA _ _ h9
  refine z_st (st' := [.int k9]) ?_ rfl
  refine q_istore_7_5 hZ (pc := 1533) dL_law_1533 rfl ?_
  refine z_aload_n hZ (pc := 1535) dL_law_1535 rfl ?_
  refine zl_arg hW (pc := 1536) (j := 1) dL_law_1536 dL_law_1537 dL_law_1539 dL_law_1540 dL_law_1541 (by decide) rfl rfl (by omega) hn ?_
  refine zl_ref hZ (pc := 1542) (st := []) dL_law_1542 lk_L_174 mn_X11_nobody mv_X11_nobody rfl hMm rfl rfl (by simp [Value.category]) (by decide) (by decide) (by omega) (by omega) (fun v3 g3 r3 h3 => ?_)
  obtain ⟨e1, e2, y3, rfl, e3⟩ := hB _ _ _ h3
  refine z_st (st' := [.int y3]) ?_ rfl
  refine q_istore_7_6 hZ (pc := 1545) dL_law_1545 rfl ?_
  refine z_aload_n hZ (pc := 1547) dL_law_1547 rfl ?_
  refine zl_ref hZ (pc := 1548) (st := []) dL_law_1548 lk_L_102 mn_X11_thrown mv_X11_thrown rfl c_X11_thrown rfl rfl (by simp) (by decide) (by decide) (by omega) (by omega) (fun v4 g4 r4 h4 => ?_)
  obtain ⟨ev, eg, rfl⟩ := h4
  rw [ev, eg]
  refine z_st (st' := [.int (v3 2)]) ?_ rfl
  refine z_iload hZ (pc := 1551) dL_law_1551 rfl ?_
  refine z_icmp_eq hZ (pc := 1553) (tgt := 1558) dL_law_1553 rfl (fun _ => ?_) (fun c => absurd e2 c)
  refine z_iload hZ (pc := 1558) dL_law_1558 rfl ?_
  refine z_if_ne hZ (pc := 1560) (tgt := 1575) dL_law_1560 rfl (fun _ => ?_) (fun c0 => ?_)
  · skip
    refine z_goto hZ (pc := 1575) (tgt := 1794) dL_law_1575 rfl ?_
    exact hN _ _ _ _ _ _ _ _ _ _ _ e1 (by omega) (by omega) rfl
  · skip
    refine z_aload_n hZ (pc := 1563) dL_law_1563 rfl ?_
    refine z_iconst hZ (pc := 1564) (v := 0) dL_law_1564 (by decide) ?_
    refine z_lald hZ (pc := 1565) (q0 := (WC o a cA v2 g2).length) dL_law_1565 (WL_at _ _) vin01 ?_
    refine z_iload hZ (pc := 1566) dL_law_1566 rfl ?_
    refine z_i2l hZ (pc := 1568) dL_law_1568 ?_
    refine z_lcmp hZ (pc := 1569) dL_law_1569 ?_
    refine z_if_eq hZ (pc := 1570) (tgt := 1575) dL_law_1570 rfl (fun _ => ?_) (fun c => (c (lg_self (by rw [clamp0]; exact e3 c0))).elim)
    refine z_goto hZ (pc := 1575) (tgt := 1794) dL_law_1575 rfl ?_
    exact hN _ _ _ _ _ _ _ _ _ _ _ e1 (by omega) (by omega) rfl
theorem lw_c23 (hW : ZW l D cA (LSX l aK aV b n xs) RL cL_law 7 2048 601024 7293034 E Z) (hE : SimE v g mv mg) (ho : o 0 = x0) (hs0 : ∀ k, k < 5 → s0 k = some (aK (clN k))) (hs1 : ∀ k, k < 7 → s1 k = some (aK k)) (ht : 6 * t + 6 ≤ n) (hn : n ≤ 3072) (hu : u + 6 ≤ 601024) (hw : w + 36 ≤ 7293034) (hN : LNext Z cA b x0 r q a' s0 s1 (nI (6 * t)) u w) : Z u w (WL o a cA v g r a' s0 s1 mv mg q f) [some (.ref b), some (.ref x0), some (.ref r), some (.ref q), some (.int (nI (6 * t))), L5, L6] [] 1578 := by
  subst ho
  have hZ := hW.toZR
  obtain ⟨PW, Pm, hM, hMm, hA⟩ := w_behind (l := l) (D := D) (cA := cA) (o := o) (a := a) (a' := a') (r0 := r) (q := q) (f := f) (s0 := s0) (s1 := s1) (aK := aK) (aV := aV) (x := xs (6 * t + 1)) (y := xs (6 * t + 2)) (d := xs (6 * t + 3)) hE
  refine z_aload_n hZ (pc := 1578) dL_law_1578 rfl ?_
  refine zl_arg hW (pc := 1579) (j := 1) dL_law_1579 dL_law_1580 dL_law_1582 dL_law_1583 dL_law_1584 (by decide) rfl rfl (by omega) hn ?_
  refine zl_arg hW (pc := 1585) (j := 2) dL_law_1585 dL_law_1586 dL_law_1588 dL_law_1589 dL_law_1590 (by decide) rfl rfl (by omega) hn ?_
  refine zl_arg hW (pc := 1591) (j := 3) dL_law_1591 dL_law_1592 dL_law_1594 dL_law_1595 dL_law_1596 (by decide) rfl rfl (by omega) hn ?_
  refine z_aload_n hZ (pc := 1597) dL_law_1597 rfl ?_
  refine zl_wr hW LSX.ok (fun _ _ _ h => h.1) (pc := 1598) dL_law_1598 (List.mem_of_getElem? (i := 1144) (by decide +kernel)) mw_behind mws_behind hM rfl rfl (by decide) (by decide) (by omega) (by omega) (fun r9 ws9 h9 => ?_)
  obtain ⟨k9, v2, g2, f2, rfl, rfl, hB⟩ := hA _ _ h9
  refine z_st (st' := [.int k9]) ?_ rfl
  refine q_istore_7_5 hZ (pc := 1601) dL_law_1601 rfl ?_
  refine z_aload_n hZ (pc := 1603) dL_law_1603 rfl ?_
  refine zl_arg hW (pc := 1604) (j := 1) dL_law_1604 dL_law_1605 dL_law_1607 dL_law_1608 dL_law_1609 (by decide) rfl rfl (by omega) hn ?_
  refine zl_arg hW (pc := 1610) (j := 2) dL_law_1610 dL_law_1611 dL_law_1613 dL_law_1614 dL_law_1615 (by decide) rfl rfl (by omega) hn ?_
  refine zl_arg hW (pc := 1616) (j := 3) dL_law_1616 dL_law_1617 dL_law_1619 dL_law_1620 dL_law_1621 (by decide) rfl rfl (by omega) hn ?_
  refine zl_ref hZ (pc := 1622) (st := []) dL_law_1622 lk_L_177 mn_X11_behind mv_X11_behind rfl hMm rfl rfl (by simp [Value.category]) (by decide) (by decide) (by omega) (by omega) (fun v3 g3 r3 h3 => ?_)
  obtain ⟨e1, e2, y3, rfl, e3⟩ := hB _ _ _ h3
  refine z_st (st' := [.int y3]) ?_ rfl
  refine q_istore_7_6 hZ (pc := 1625) dL_law_1625 rfl ?_
  refine z_aload_n hZ (pc := 1627) dL_law_1627 rfl ?_
  refine zl_ref hZ (pc := 1628) (st := []) dL_law_1628 lk_L_102 mn_X11_thrown mv_X11_thrown rfl c_X11_thrown rfl rfl (by simp) (by decide) (by decide) (by omega) (by omega) (fun v4 g4 r4 h4 => ?_)
  obtain ⟨ev, eg, rfl⟩ := h4
  rw [ev, eg]
  refine z_st (st' := [.int (v3 2)]) ?_ rfl
  refine z_iload hZ (pc := 1631) dL_law_1631 rfl ?_
  refine z_icmp_eq hZ (pc := 1633) (tgt := 1638) dL_law_1633 rfl (fun _ => ?_) (fun c => absurd e2 c)
  refine z_iload hZ (pc := 1638) dL_law_1638 rfl ?_
  refine z_if_ne hZ (pc := 1640) (tgt := 1655) dL_law_1640 rfl (fun _ => ?_) (fun c0 => ?_)
  · skip
    refine z_goto hZ (pc := 1655) (tgt := 1794) dL_law_1655 rfl ?_
    exact hN _ _ _ _ _ _ _ _ _ _ _ e1 (by omega) (by omega) rfl
  · skip
    refine z_aload_n hZ (pc := 1643) dL_law_1643 rfl ?_
    refine z_iconst hZ (pc := 1644) (v := 0) dL_law_1644 (by decide) ?_
    refine z_lald hZ (pc := 1645) (q0 := (WC o a cA v2 g2).length) dL_law_1645 (WL_at _ _) vin01 ?_
    refine z_iload hZ (pc := 1646) dL_law_1646 rfl ?_
    refine z_i2l hZ (pc := 1648) dL_law_1648 ?_
    refine z_lcmp hZ (pc := 1649) dL_law_1649 ?_
    refine z_if_eq hZ (pc := 1650) (tgt := 1655) dL_law_1650 rfl (fun _ => ?_) (fun c => (c (lg_self (by rw [clamp0]; exact e3 c0))).elim)
    refine z_goto hZ (pc := 1655) (tgt := 1794) dL_law_1655 rfl ?_
    exact hN _ _ _ _ _ _ _ _ _ _ _ e1 (by omega) (by omega) rfl
theorem lw_c24 (hW : ZW l D cA (LSX l aK aV b n xs) RL cL_law 7 2048 601024 7293034 E Z) (hE : SimE v g mv mg) (ho : o 0 = x0) (hs0 : ∀ k, k < 5 → s0 k = some (aK (clN k))) (hs1 : ∀ k, k < 7 → s1 k = some (aK k)) (ht : 6 * t + 6 ≤ n) (hn : n ≤ 3072) (hu : u + 6 ≤ 601024) (hw : w + 36 ≤ 7293034) (hN : LNext Z cA b x0 r q a' s0 s1 (nI (6 * t)) u w) : Z u w (WL o a cA v g r a' s0 s1 mv mg q f) [some (.ref b), some (.ref x0), some (.ref r), some (.ref q), some (.int (nI (6 * t))), L5, L6] [] 1658 := by
  subst ho
  have hZ := hW.toZR
  obtain ⟨PW, Pm, hM, hMm, hA⟩ := w_dry (l := l) (D := D) (cA := cA) (o := o) (a := a) (a' := a') (r0 := r) (q := q) (f := f) (s0 := s0) (s1 := s1) (aK := aK) (aV := aV) (x := xs (6 * t + 1)) hE
  refine z_aload_n hZ (pc := 1658) dL_law_1658 rfl ?_
  refine zl_arg hW (pc := 1659) (j := 1) dL_law_1659 dL_law_1660 dL_law_1662 dL_law_1663 dL_law_1664 (by decide) rfl rfl (by omega) hn ?_
  refine z_aload_n hZ (pc := 1665) dL_law_1665 rfl ?_
  refine zl_wr hW LSX.ok (fun _ _ _ h => h.1) (pc := 1666) dL_law_1666 (List.mem_of_getElem? (i := 1153) (by decide +kernel)) mw_dry mws_dry hM rfl rfl (by decide) (by decide) (by omega) (by omega) (fun r9 ws9 h9 => ?_)
  obtain ⟨k9, v2, g2, f2, rfl, rfl, hB⟩ := hA _ _ h9
  refine z_st (st' := [.int k9]) ?_ rfl
  refine q_istore_7_5 hZ (pc := 1669) dL_law_1669 rfl ?_
  refine z_aload_n hZ (pc := 1671) dL_law_1671 rfl ?_
  refine zl_arg hW (pc := 1672) (j := 1) dL_law_1672 dL_law_1673 dL_law_1675 dL_law_1676 dL_law_1677 (by decide) rfl rfl (by omega) hn ?_
  refine zl_ref hZ (pc := 1678) (st := []) dL_law_1678 lk_L_180 mn_X11_dry mv_X11_dry rfl hMm rfl rfl (by simp [Value.category]) (by decide) (by decide) (by omega) (by omega) (fun v3 g3 r3 h3 => ?_)
  obtain ⟨e1, e2, y3, rfl, e3⟩ := hB _ _ _ h3
  refine z_st (st' := [.int y3]) ?_ rfl
  refine q_istore_7_6 hZ (pc := 1681) dL_law_1681 rfl ?_
  refine z_aload_n hZ (pc := 1683) dL_law_1683 rfl ?_
  refine zl_ref hZ (pc := 1684) (st := []) dL_law_1684 lk_L_102 mn_X11_thrown mv_X11_thrown rfl c_X11_thrown rfl rfl (by simp) (by decide) (by decide) (by omega) (by omega) (fun v4 g4 r4 h4 => ?_)
  obtain ⟨ev, eg, rfl⟩ := h4
  rw [ev, eg]
  refine z_st (st' := [.int (v3 2)]) ?_ rfl
  refine z_iload hZ (pc := 1687) dL_law_1687 rfl ?_
  refine z_icmp_eq hZ (pc := 1689) (tgt := 1694) dL_law_1689 rfl (fun _ => ?_) (fun c => absurd e2 c)
  refine z_iload hZ (pc := 1694) dL_law_1694 rfl ?_
  refine z_if_ne hZ (pc := 1696) (tgt := 1711) dL_law_1696 rfl (fun _ => ?_) (fun c0 => ?_)
  · skip
    refine z_goto hZ (pc := 1711) (tgt := 1794) dL_law_1711 rfl ?_
    exact hN _ _ _ _ _ _ _ _ _ _ _ e1 (by omega) (by omega) rfl
  · skip
    refine z_aload_n hZ (pc := 1699) dL_law_1699 rfl ?_
    refine z_iconst hZ (pc := 1700) (v := 0) dL_law_1700 (by decide) ?_
    refine z_lald hZ (pc := 1701) (q0 := (WC o a cA v2 g2).length) dL_law_1701 (WL_at _ _) vin01 ?_
    refine z_iload hZ (pc := 1702) dL_law_1702 rfl ?_
    refine z_i2l hZ (pc := 1704) dL_law_1704 ?_
    refine z_lcmp hZ (pc := 1705) dL_law_1705 ?_
    refine z_if_eq hZ (pc := 1706) (tgt := 1711) dL_law_1706 rfl (fun _ => ?_) (fun c => (c (lg_self (by rw [clamp0]; exact e3 c0))).elim)
    refine z_goto hZ (pc := 1711) (tgt := 1794) dL_law_1711 rfl ?_
    exact hN _ _ _ _ _ _ _ _ _ _ _ e1 (by omega) (by omega) rfl
theorem lw_c25 (hW : ZW l D cA (LSX l aK aV b n xs) RL cL_law 7 2048 601024 7293034 E Z) (hE : SimE v g mv mg) (ho : o 0 = x0) (hs0 : ∀ k, k < 5 → s0 k = some (aK (clN k))) (hs1 : ∀ k, k < 7 → s1 k = some (aK k)) (ht : 6 * t + 6 ≤ n) (hn : n ≤ 3072) (hu : u + 6 ≤ 601024) (hw : w + 36 ≤ 7293034) (hN : LNext Z cA b x0 r q a' s0 s1 (nI (6 * t)) u w) : Z u w (WL o a cA v g r a' s0 s1 mv mg q f) [some (.ref b), some (.ref x0), some (.ref r), some (.ref q), some (.int (nI (6 * t))), L5, L6] [] 1714 := by
  subst ho
  have hZ := hW.toZR
  obtain ⟨PW, Pm, hM, hMm, hA⟩ := w_mourner (l := l) (D := D) (cA := cA) (o := o) (a := a) (a' := a') (r0 := r) (q := q) (f := f) (s0 := s0) (s1 := s1) (aK := aK) (aV := aV) (x := xs (6 * t + 1)) hE
  refine z_aload_n hZ (pc := 1714) dL_law_1714 rfl ?_
  refine zl_arg hW (pc := 1715) (j := 1) dL_law_1715 dL_law_1716 dL_law_1718 dL_law_1719 dL_law_1720 (by decide) rfl rfl (by omega) hn ?_
  refine z_aload_n hZ (pc := 1721) dL_law_1721 rfl ?_
  refine zl_wr hW LSX.ok (fun _ _ _ h => h.1) (pc := 1722) dL_law_1722 (List.mem_of_getElem? (i := 1165) (by decide +kernel)) mw_mourner mws_mourner hM rfl rfl (by decide) (by decide) (by omega) (by omega) (fun r9 ws9 h9 => ?_)
  obtain ⟨k9, v2, g2, f2, rfl, rfl, hB⟩ := hA _ _ h9
  refine z_st (st' := [.int k9]) ?_ rfl
  refine q_istore_7_5 hZ (pc := 1725) dL_law_1725 rfl ?_
  refine z_aload_n hZ (pc := 1727) dL_law_1727 rfl ?_
  refine zl_arg hW (pc := 1728) (j := 1) dL_law_1728 dL_law_1729 dL_law_1731 dL_law_1732 dL_law_1733 (by decide) rfl rfl (by omega) hn ?_
  refine zl_ref hZ (pc := 1734) (st := []) dL_law_1734 lk_L_183 mn_X11_mourner mv_X11_mourner rfl hMm rfl rfl (by simp [Value.category]) (by decide) (by decide) (by omega) (by omega) (fun v3 g3 r3 h3 => ?_)
  obtain ⟨e1, e2, y3, rfl, e3⟩ := hB _ _ _ h3
  refine z_st (st' := [.int y3]) ?_ rfl
  refine q_istore_7_6 hZ (pc := 1737) dL_law_1737 rfl ?_
  refine z_aload_n hZ (pc := 1739) dL_law_1739 rfl ?_
  refine zl_ref hZ (pc := 1740) (st := []) dL_law_1740 lk_L_102 mn_X11_thrown mv_X11_thrown rfl c_X11_thrown rfl rfl (by simp) (by decide) (by decide) (by omega) (by omega) (fun v4 g4 r4 h4 => ?_)
  obtain ⟨ev, eg, rfl⟩ := h4
  rw [ev, eg]
  refine z_st (st' := [.int (v3 2)]) ?_ rfl
  refine z_iload hZ (pc := 1743) dL_law_1743 rfl ?_
  refine z_icmp_eq hZ (pc := 1745) (tgt := 1750) dL_law_1745 rfl (fun _ => ?_) (fun c => absurd e2 c)
  refine z_iload hZ (pc := 1750) dL_law_1750 rfl ?_
  refine z_if_ne hZ (pc := 1752) (tgt := 1767) dL_law_1752 rfl (fun _ => ?_) (fun c0 => ?_)
  · skip
    refine z_goto hZ (pc := 1767) (tgt := 1794) dL_law_1767 rfl ?_
    exact hN _ _ _ _ _ _ _ _ _ _ _ e1 (by omega) (by omega) rfl
  · skip
    refine z_aload_n hZ (pc := 1755) dL_law_1755 rfl ?_
    refine z_iconst hZ (pc := 1756) (v := 0) dL_law_1756 (by decide) ?_
    refine z_lald hZ (pc := 1757) (q0 := (WC o a cA v2 g2).length) dL_law_1757 (WL_at _ _) vin01 ?_
    refine z_iload hZ (pc := 1758) dL_law_1758 rfl ?_
    refine z_i2l hZ (pc := 1760) dL_law_1760 ?_
    refine z_lcmp hZ (pc := 1761) dL_law_1761 ?_
    refine z_if_eq hZ (pc := 1762) (tgt := 1767) dL_law_1762 rfl (fun _ => ?_) (fun c => (c (lg_self (by rw [clamp0]; exact e3 c0))).elim)
    refine z_goto hZ (pc := 1767) (tgt := 1794) dL_law_1767 rfl ?_
    exact hN _ _ _ _ _ _ _ _ _ _ _ e1 (by omega) (by omega) rfl
theorem lw_c26 (hW : ZW l D cA (LSX l aK aV b n xs) RL cL_law 7 2048 601024 7293034 E Z) (hE : SimE v g mv mg) (ho : o 0 = x0) (hs0 : ∀ k, k < 5 → s0 k = some (aK (clN k))) (hs1 : ∀ k, k < 7 → s1 k = some (aK k)) (ht : 6 * t + 6 ≤ n) (hn : n ≤ 3072) (hu : u + 6 ≤ 601024) (hw : w + 36 ≤ 7293034) (hN : LNext Z cA b x0 r q a' s0 s1 (nI (6 * t)) u w) : Z u w (WL o a cA v g r a' s0 s1 mv mg q f) [some (.ref b), some (.ref x0), some (.ref r), some (.ref q), some (.int (nI (6 * t))), L5, L6] [] 1770 := by
  subst ho
  have hZ := hW.toZR
  obtain ⟨P, Pm, hM, hMm, hA⟩ := k_image (l := l) (D := D) (cA := cA) (o := o) (a := a) (a' := a') (r0 := r) (s0 := s0) (s1 := s1)  hE
  refine z_aload_n hZ (pc := 1770) dL_law_1770 rfl ?_
  refine zl_cls hZ (pc := 1771) (st := []) dL_law_1771 lk_L_184 mn_X10_image mv_X10_image rfl hM rfl rfl (by simp) (by decide) (by decide) (by omega) (by omega) (fun v2 g2 r2 h2 => ?_)
  obtain rfl := hA.1 _ _ _ h2
  refine z_st (st' := []) ?_ rfl
  refine z_aload_n hZ (pc := 1774) dL_law_1774 rfl ?_
  refine zl_ref hZ (pc := 1775) (st := []) dL_law_1775 lk_L_187 mn_X11_image mv_X11_image rfl hMm rfl rfl (by simp [Value.category]) (by decide) (by decide) (by omega) (by omega) (fun v3 g3 r3 h3 => ?_)
  obtain ⟨e1, e2⟩ := hA.2 _ _ _ _ _ _ h2 h3
  subst e2
  refine z_st (st' := []) ?_ rfl
  refine z_goto hZ (pc := 1778) (tgt := 1794) dL_law_1778 rfl ?_
  exact hN _ _ _ _ _ _ _ _ _ _ _ e1 (by omega) (by omega) rfl
theorem lw_c27 (hW : ZW l D cA (LSX l aK aV b n xs) RL cL_law 7 2048 601024 7293034 E Z) (hE : SimE v g mv mg) (ho : o 0 = x0) (hs0 : ∀ k, k < 5 → s0 k = some (aK (clN k))) (hs1 : ∀ k, k < 7 → s1 k = some (aK k)) (ht : 6 * t + 6 ≤ n) (hn : n ≤ 3072) (hu : u + 6 ≤ 601024) (hw : w + 36 ≤ 7293034) (hN : LNext Z cA b x0 r q a' s0 s1 (nI (6 * t)) u w) : Z u w (WL o a cA v g r a' s0 s1 mv mg q f) [some (.ref b), some (.ref x0), some (.ref r), some (.ref q), some (.int (nI (6 * t))), L5, L6] [] 1781 := by
  subst ho
  have hZ := hW.toZR
  obtain ⟨P, Pm, hM, hMm, hA⟩ := k_restore (l := l) (D := D) (cA := cA) (o := o) (a := a) (a' := a') (r0 := r) (s0 := s0) (s1 := s1)  hE
  refine z_aload_n hZ (pc := 1781) dL_law_1781 rfl ?_
  refine zl_cls hZ (pc := 1782) (st := []) dL_law_1782 lk_L_188 mn_X10_restore mv_X10_restore rfl hM rfl rfl (by simp) (by decide) (by decide) (by omega) (by omega) (fun v2 g2 r2 h2 => ?_)
  obtain ⟨y2, rfl⟩ := hA.1 _ _ _ h2
  refine z_st (st' := [.int y2]) ?_ rfl
  refine z_aload_n hZ (pc := 1785) dL_law_1785 rfl ?_
  refine zl_ref hZ (pc := 1786) (st := [.int y2]) dL_law_1786 lk_L_192 mn_X11_restore mv_X11_restore rfl hMm rfl rfl (by simp [Value.category]) (by decide) (by decide) (by omega) (by omega) (fun v3 g3 r3 h3 => ?_)
  obtain ⟨e1, e2⟩ := hA.2 _ _ _ _ _ _ h2 h3
  subst e2
  refine z_st (st' := [.int y2, .int y2]) ?_ rfl
  refine z_icmp_eq hZ (pc := 1789) (tgt := 1794) dL_law_1789 rfl (fun _ => ?_) (fun c => absurd rfl c)
  exact hN _ _ _ _ _ _ _ _ _ _ _ e1 (by omega) (by omega) rfl
end LawCases
