theorem DrA.rule {d : Dr} {L l : List Int32} {v v2 : ZV} {g g2 : ZG} (hD : DrA d L v g) (h20 : v2 20 = v 20) (h21 : v2 21 = v 21) (h22 : v2 22 = nI (d.R + 1)) (h23 : v2 23 = v 23) (g29 : g2 29 = upd (g 29) d.R (nI L.length)) (hg : ∀ k, 25 ≤ k → k ≤ 30 → k ≠ 29 → g2 k = g k) : DrA (d.sR (d.R + 1) (upL d.rs d.R l)) (L ++ l ++ [-17]) v2 g2 := by
  obtain ⟨h1, h2, h3, h4, h5, h6, h7, h8⟩ := hD
  refine ⟨by rw [h20]; exact h1, by rw [h21]; exact h2, h22, by rw [h23]; exact h4, by rw [hg 25 (by decide) (by decide) (by decide), hg 26 (by decide) (by decide) (by decide), hg 27 (by decide) (by decide) (by decide)]; exact h5, by rw [hg 28 (by decide) (by decide) (by decide)]; exact h6, fun e he => ?_, fun e he => by rw [hg 30 (by decide) (by decide) (by decide)]; obtain ⟨b, b1, b2⟩ := h8 e he; exact ⟨b, b1, by rw [List.append_assoc]; exact b2.app⟩⟩
  show ∃ b, g2 29 e = nI b ∧ Seg (L ++ l ++ [-17]) b (upL d.rs d.R l e)
  rw [g29]
  rcases Nat.lt_or_ge e d.R with q | q
  · obtain ⟨b, b1, b2⟩ := h7 e q
    refine ⟨b, by rw [upd_off (by omega)]; exact b1, ?_⟩
    rw [show upL d.rs d.R l e = d.rs e from if_neg (by omega), List.append_assoc]
    exact b2.app
  · have e1 : e = d.R := by have : e < d.R + 1 := he; omega
    subst e1
    refine ⟨L.length, by rw [upd_at], ?_⟩
    rw [show upL d.rs d.R l d.R = l from if_pos rfl]
    exact Seg.new
theorem DrA.ask {d : Dr} {L l : List Int32} {v v2 : ZV} {g g2 : ZG} (hD : DrA d L v g) (h20 : v2 20 = v 20) (h21 : v2 21 = v 21) (h22 : v2 22 = v 22) (h23 : v2 23 = nI (d.A + 1)) (g30 : g2 30 = upd (g 30) d.A (nI L.length)) (hg : ∀ k, 25 ≤ k → k ≤ 30 → k ≠ 30 → g2 k = g k) : DrA (d.sA (d.A + 1) (upL d.as d.A l)) (L ++ l ++ [-17]) v2 g2 := by
  obtain ⟨h1, h2, h3, h4, h5, h6, h7, h8⟩ := hD
  refine ⟨by rw [h20]; exact h1, by rw [h21]; exact h2, by rw [h22]; exact h3, h23, by rw [hg 25 (by decide) (by decide) (by decide), hg 26 (by decide) (by decide) (by decide), hg 27 (by decide) (by decide) (by decide)]; exact h5, by rw [hg 28 (by decide) (by decide) (by decide)]; exact h6, fun e he => by rw [hg 29 (by decide) (by decide) (by decide)]; obtain ⟨b, b1, b2⟩ := h7 e he; exact ⟨b, b1, by rw [List.append_assoc]; exact b2.app⟩, fun e he => ?_⟩
  show ∃ b, g2 30 e = nI b ∧ Seg (L ++ l ++ [-17]) b (upL d.as d.A l e)
  rw [g30]
  rcases Nat.lt_or_ge e d.A with q | q
  · obtain ⟨b, b1, b2⟩ := h8 e q
    refine ⟨b, by rw [upd_off (by omega)]; exact b1, ?_⟩
    rw [show upL d.as d.A l e = d.as e from if_neg (by omega), List.append_assoc]
    exact b2.app
  · have e1 : e = d.A := by have : e < d.A + 1 := he; omega
    subst e1
    refine ⟨L.length, by rw [upd_at], ?_⟩
    rw [show upL d.as d.A l d.A = l from if_pos rfl]
    exact Seg.new
theorem CP_of {v v2 : ZV} {g g2 : ZG} {m : Nat} {L : List Int32} {res res' : PC} {r : Option Value} (he : res' = res) (h : CP v g m L res v2 g2 r) : CP v g m L res' v2 g2 r := by rw [he]; exact h
theorem c_X5_readClause {l : Launch} {D : va_G} {cA : Nat → ClassId} {o a : Nat → Nat} {v : ZV} {g : ZG} {i m : Nat} {d : Dr} {L : List Int32} {K : Nat} {b : Bool} (hI : RdI v g i m L) (hD : DrA d L v g) (hK : DrK d) (hKl : 80 ≤ K) (hN : ∀ j, j ≤ m → g 2 j = 1 → 0 ≤ g 4 j) : MG l D cA (WC o a cA) yX5_readClause cX5_readClause 2 (some .boolean) K [(.ref (o 1)), .int (bI b)] v g ((CP v g m L (pClause (g 2) (g 4) b d i))) := by
  refine MG.of (by decide) rfl (Nat.le_of_ble_eq_true rfl) (by simp [Value.category]) (fun Z hZ => ?_)
  have e2 : v 2 = nI i := hI.2.2.2.1
  have e3 : v 3 = g 2 i := hI.2.2.2.2.1
  have h7 : m ≤ 700 := hI.2.1
  have hL : L.length ≤ i := hI.2.2.2.2.2.2.2
  have hlt : ¬ g 2 i = 0 → i < m := hI.lt
  refine z_aload_n hZ (pc := 0) dX5_readClause_0 rfl ?_
  refine gC_1_3 hZ (pc := 1) fl_X5_29 dX5_readClause_1 ?_
  generalize hkk : v 3 = kd
  rw [hkk] at e3
  by_cases s4_0 : kd = (-2)
  · subst s4_0
    refine z_swIn hZ (pc := 4) (off := 81) (tgt := 85) dX5_readClause_4 (by decide) (by decide) (by decide) rfl ?_
    refine z_aload_n hZ (pc := 85) dX5_readClause_85 rfl ?_
    refine cV hZ (pc := 86) dX5_readClause_86 lk_X5_83 mn_X5_readPerson mv_X5_readPerson (c_X5_readPerson (K := 3) hI hD hK e3.symm (by decide)) rc_1 rfl rfl (Nat.le_of_ble_eq_true rfl) (by omega) (by decide) (Nat.zero_le _) (Nat.zero_le _) ?_
    intro v2 g2 r h
    have h0 := h
    obtain ⟨f1, f2, rfl, h⟩ := h
    refine zr_i hZ (pc := 89) dX5_readClause_89 FitR.bI ?_
    exact CP_of (by rw [pClause, if_neg (by rw [← e3]; decide), if_pos e3.symm]) h0
  by_cases s4_1 : kd = (-1)
  · subst s4_1
    refine z_swIn hZ (pc := 4) (off := 135) (tgt := 139) dX5_readClause_4 (by decide) (by decide) (by decide) rfl ?_
    refine z_aload_n hZ (pc := 139) dX5_readClause_139 rfl ?_
    refine z_iconst hZ (pc := 140) (v := 1) dX5_readClause_140 (by decide) ?_
    refine cV_i hZ (pc := 141) dX5_readClause_141 lk_X5_80 mn_X5_refuse mv_X5_refuse (c_X5_refuse) rc_1 rfl rfl (Nat.le_of_ble_eq_true rfl) (by omega) (by decide) (Nat.zero_le _) (Nat.zero_le _) ?_
    refine zr_i hZ (pc := 144) dX5_readClause_144 FitR.b0 ?_
    exact CP_er (q := i) (by rw [pClause, if_neg (by rw [← e3]; decide), if_neg (by rw [← e3]; decide), if_neg (by rw [← e3]; decide), if_neg (by rw [← e3]; decide), if_neg (by rw [← e3]; decide)]) FrV2.rf FrG2.rf rfl e2
  by_cases s4_2 : kd = 0
  · subst s4_2
    refine z_swIn hZ (pc := 4) (off := 135) (tgt := 139) dX5_readClause_4 (by decide) (by decide) (by decide) rfl ?_
    refine z_aload_n hZ (pc := 139) dX5_readClause_139 rfl ?_
    refine z_iconst hZ (pc := 140) (v := 1) dX5_readClause_140 (by decide) ?_
    refine cV_i hZ (pc := 141) dX5_readClause_141 lk_X5_80 mn_X5_refuse mv_X5_refuse (c_X5_refuse) rc_1 rfl rfl (Nat.le_of_ble_eq_true rfl) (by omega) (by decide) (Nat.zero_le _) (Nat.zero_le _) ?_
    refine zr_i hZ (pc := 144) dX5_readClause_144 FitR.b0 ?_
    exact CP_er (q := i) (by rw [pClause, if_neg (by rw [← e3]; decide), if_neg (by rw [← e3]; decide), if_neg (by rw [← e3]; decide), if_neg (by rw [← e3]; decide), if_neg (by rw [← e3]; decide)]) FrV2.rf FrG2.rf rfl e2
  by_cases s4_3 : kd = 1
  · subst s4_3
    refine z_swIn hZ (pc := 4) (off := 135) (tgt := 139) dX5_readClause_4 (by decide) (by decide) (by decide) rfl ?_
    refine z_aload_n hZ (pc := 139) dX5_readClause_139 rfl ?_
    refine z_iconst hZ (pc := 140) (v := 1) dX5_readClause_140 (by decide) ?_
    refine cV_i hZ (pc := 141) dX5_readClause_141 lk_X5_80 mn_X5_refuse mv_X5_refuse (c_X5_refuse) rc_1 rfl rfl (Nat.le_of_ble_eq_true rfl) (by omega) (by decide) (Nat.zero_le _) (Nat.zero_le _) ?_
    refine zr_i hZ (pc := 144) dX5_readClause_144 FitR.b0 ?_
    exact CP_er (q := i) (by rw [pClause, if_neg (by rw [← e3]; decide), if_neg (by rw [← e3]; decide), if_neg (by rw [← e3]; decide), if_neg (by rw [← e3]; decide), if_neg (by rw [← e3]; decide)]) FrV2.rf FrG2.rf rfl e2
  by_cases s4_4 : kd = 2
  · subst s4_4
    refine z_swIn hZ (pc := 4) (off := 135) (tgt := 139) dX5_readClause_4 (by decide) (by decide) (by decide) rfl ?_
    refine z_aload_n hZ (pc := 139) dX5_readClause_139 rfl ?_
    refine z_iconst hZ (pc := 140) (v := 1) dX5_readClause_140 (by decide) ?_
    refine cV_i hZ (pc := 141) dX5_readClause_141 lk_X5_80 mn_X5_refuse mv_X5_refuse (c_X5_refuse) rc_1 rfl rfl (Nat.le_of_ble_eq_true rfl) (by omega) (by decide) (Nat.zero_le _) (Nat.zero_le _) ?_
    refine zr_i hZ (pc := 144) dX5_readClause_144 FitR.b0 ?_
    exact CP_er (q := i) (by rw [pClause, if_neg (by rw [← e3]; decide), if_neg (by rw [← e3]; decide), if_neg (by rw [← e3]; decide), if_neg (by rw [← e3]; decide), if_neg (by rw [← e3]; decide)]) FrV2.rf FrG2.rf rfl e2
  by_cases s4_5 : kd = 3
  · subst s4_5
    refine z_swIn hZ (pc := 4) (off := 135) (tgt := 139) dX5_readClause_4 (by decide) (by decide) (by decide) rfl ?_
    refine z_aload_n hZ (pc := 139) dX5_readClause_139 rfl ?_
    refine z_iconst hZ (pc := 140) (v := 1) dX5_readClause_140 (by decide) ?_
    refine cV_i hZ (pc := 141) dX5_readClause_141 lk_X5_80 mn_X5_refuse mv_X5_refuse (c_X5_refuse) rc_1 rfl rfl (Nat.le_of_ble_eq_true rfl) (by omega) (by decide) (Nat.zero_le _) (Nat.zero_le _) ?_
    refine zr_i hZ (pc := 144) dX5_readClause_144 FitR.b0 ?_
    exact CP_er (q := i) (by rw [pClause, if_neg (by rw [← e3]; decide), if_neg (by rw [← e3]; decide), if_neg (by rw [← e3]; decide), if_neg (by rw [← e3]; decide), if_neg (by rw [← e3]; decide)]) FrV2.rf FrG2.rf rfl e2
  by_cases s4_6 : kd = 4
  · subst s4_6
    refine z_swIn hZ (pc := 4) (off := 135) (tgt := 139) dX5_readClause_4 (by decide) (by decide) (by decide) rfl ?_
    refine z_aload_n hZ (pc := 139) dX5_readClause_139 rfl ?_
    refine z_iconst hZ (pc := 140) (v := 1) dX5_readClause_140 (by decide) ?_
    refine cV_i hZ (pc := 141) dX5_readClause_141 lk_X5_80 mn_X5_refuse mv_X5_refuse (c_X5_refuse) rc_1 rfl rfl (Nat.le_of_ble_eq_true rfl) (by omega) (by decide) (Nat.zero_le _) (Nat.zero_le _) ?_
    refine zr_i hZ (pc := 144) dX5_readClause_144 FitR.b0 ?_
    exact CP_er (q := i) (by rw [pClause, if_neg (by rw [← e3]; decide), if_neg (by rw [← e3]; decide), if_neg (by rw [← e3]; decide), if_neg (by rw [← e3]; decide), if_neg (by rw [← e3]; decide)]) FrV2.rf FrG2.rf rfl e2
  by_cases s4_7 : kd = 5
  · subst s4_7
    refine z_swIn hZ (pc := 4) (off := 135) (tgt := 139) dX5_readClause_4 (by decide) (by decide) (by decide) rfl ?_
    refine z_aload_n hZ (pc := 139) dX5_readClause_139 rfl ?_
    refine z_iconst hZ (pc := 140) (v := 1) dX5_readClause_140 (by decide) ?_
    refine cV_i hZ (pc := 141) dX5_readClause_141 lk_X5_80 mn_X5_refuse mv_X5_refuse (c_X5_refuse) rc_1 rfl rfl (Nat.le_of_ble_eq_true rfl) (by omega) (by decide) (Nat.zero_le _) (Nat.zero_le _) ?_
    refine zr_i hZ (pc := 144) dX5_readClause_144 FitR.b0 ?_
    exact CP_er (q := i) (by rw [pClause, if_neg (by rw [← e3]; decide), if_neg (by rw [← e3]; decide), if_neg (by rw [← e3]; decide), if_neg (by rw [← e3]; decide), if_neg (by rw [← e3]; decide)]) FrV2.rf FrG2.rf rfl e2
  by_cases s4_8 : kd = 6
  · subst s4_8
    refine z_swIn hZ (pc := 4) (off := 64) (tgt := 68) dX5_readClause_4 (by decide) (by decide) (by decide) rfl ?_
    refine z_iload_n hZ (pc := 68) dX5_readClause_68 rfl ?_
    refine z_if_eq hZ (pc := 69) (tgt := 79) dX5_readClause_69 rfl (fun c69 => ?_) (fun c69 => ?_)
    · skip
      refine z_aload_n hZ (pc := 79) dX5_readClause_79 rfl ?_
      refine z_iconst hZ (pc := 80) (v := 5) dX5_readClause_80 (by decide) ?_
      refine cV_i hZ (pc := 81) dX5_readClause_81 lk_X5_80 mn_X5_refuse mv_X5_refuse (c_X5_refuse) rc_1 rfl rfl (Nat.le_of_ble_eq_true rfl) (by omega) (by decide) (Nat.zero_le _) (Nat.zero_le _) ?_
      refine zr_i hZ (pc := 84) dX5_readClause_84 FitR.b0 ?_
      exact CP_er (q := i) (by rw [pClause, if_pos e3.symm, if_neg (by rw [bI_eq.mp c69]; decide)]) FrV2.rf FrG2.rf rfl e2
    · skip
      have hb : b = true := bI_ne c69
      refine z_aload_n hZ (pc := 72) dX5_readClause_72 rfl ?_
      refine cV hZ (pc := 73) dX5_readClause_73 lk_X5_76 mn_X5_readHouses mv_X5_readHouses (c_X5_readHouses (K := 3) hI hD hK e3.symm (by decide)) rc_1 rfl rfl (Nat.le_of_ble_eq_true rfl) (by omega) (by decide) (Nat.zero_le _) (Nat.zero_le _) ?_
      intro v2 g2 r h
      have h0 := h
      obtain ⟨f1, f2, rfl, h⟩ := h
      refine z_goto hZ (pc := 76) (tgt := 84) dX5_readClause_76 rfl ?_
      refine zr_i hZ (pc := 84) dX5_readClause_84 FitR.bI ?_
      exact CP_of (by rw [pClause, if_pos e3.symm, if_pos hb]) h0
  by_cases s4_9 : kd = 7
  · subst s4_9
    refine z_swIn hZ (pc := 4) (off := 86) (tgt := 90) dX5_readClause_4 (by decide) (by decide) (by decide) rfl ?_
    refine z_aload_n hZ (pc := 90) dX5_readClause_90 rfl ?_
    refine cV hZ (pc := 91) dX5_readClause_91 lk_X5_86 mn_X5_readWalk mv_X5_readWalk (c_X5_readWalk (K := 3) hI hD hK e3.symm (by decide) hN) rc_1 rfl rfl (Nat.le_of_ble_eq_true rfl) (by omega) (by decide) (Nat.zero_le _) (Nat.zero_le _) ?_
    intro v2 g2 r h
    have h0 := h
    obtain ⟨f1, f2, rfl, h⟩ := h
    refine zr_i hZ (pc := 94) dX5_readClause_94 FitR.bI ?_
    exact CP_of (by rw [pClause, if_neg (by rw [← e3]; decide), if_neg (by rw [← e3]; decide), if_pos e3.symm]) h0
  by_cases s4_10 : kd = 8
  · subst s4_10
    refine z_swIn hZ (pc := 4) (off := 91) (tgt := 95) dX5_readClause_4 (by decide) (by decide) (by decide) rfl ?_
    refine z_aload_n hZ (pc := 95) dX5_readClause_95 rfl ?_
    refine cV hZ (pc := 96) dX5_readClause_96 lk_X5_89 mn_X5_beginRule mv_X5_beginRule (c_X5_beginRule (K := 3) (n := d.R) e2 hD.2.2.1 (by have := hlt (by rw [← e3]; decide); omega) (by have := hK.2.2.2.1; omega) (by decide)) rc_1 rfl rfl (Nat.le_of_ble_eq_true rfl) (by omega) (by decide) (Nat.zero_le _) (Nat.zero_le _) ?_
    intro v2 g2 r h
    obtain ⟨rfl, h1, h2⟩ := h
    skip
    refine z_if_eq hZ (pc := 99) (tgt := 115) dX5_readClause_99 rfl (fun c99 => ?_) (fun c99 => ?_)
    · skip
      refine z_iconst hZ (pc := 115) (v := 0) dX5_readClause_115 (by decide) ?_
      refine zr_i hZ (pc := 116) dX5_readClause_116 FitR.b0 ?_
      have hc : ¬ d.R < 4 := of_decide_eq_false (bI_eq.mp c99)
      obtain ⟨rfl, rfl⟩ := h2 hc
      exact CP_er (q := i) (by rw [pClause, if_neg (by rw [← e3]; decide), if_neg (by rw [← e3]; decide), if_neg (by rw [← e3]; decide), if_pos e3.symm, pRule, if_pos (Nat.not_lt.mp hc)]) FrV2.rf FrG2.rf rfl e2
    · skip
      have hc : d.R < 4 := of_decide_eq_true (bI_ne c99)
      obtain ⟨rfl, rfl⟩ := h1 hc
      refine z_aload_n hZ (pc := 102) dX5_readClause_102 rfl ?_
      refine z_iconst hZ (pc := 103) (v := 0) dX5_readClause_103 (by decide) ?_
      refine z_iconst hZ (pc := 104) (v := 0) dX5_readClause_104 (by decide) ?_
      refine cV hZ (pc := 105) dX5_readClause_105 lk_X5_92 mn_X5_readLevel mv_X5_readLevel (readLevel_all (l := l) (D := D) (cA := cA) (o := o) (a := a) 35 0 0 (by decide) (by decide) (by decide) _ _ (i + 1) m L (RdI.fr (v := goV v g (i + 1)) (g := g) (hI.go (by omega) (hlt (by rw [← e3]; decide))) rfl rfl rfl rfl rfl rfl rfl)) rc_1 rfl rfl (Nat.le_of_ble_eq_true rfl) (by omega) (by decide) (Nat.zero_le _) (Nat.zero_le _) ?_
      intro v3 g3 r3 h
      obtain ⟨f3, f4, rfl, h⟩ := h
      refine z_if_eq hZ (pc := 108) (tgt := 115) dX5_readClause_108 rfl (fun c108 => ?_) (fun c108 => ?_)
      · skip
        refine z_iconst hZ (pc := 115) (v := 0) dX5_readClause_115 (by decide) ?_
        refine zr_i hZ (pc := 116) dX5_readClause_116 FitR.b0 ?_
        obtain ⟨c, q, hr⟩ := PR.of_er (bI_eq.mp c108)
        have hr1 : pP (g 2) (g 4) 35 (i + 1) = .er c q := hr
        simp only [hr] at h
        exact ⟨(FrV2.trans (show FrV2 v _ from (fun k hk => by simp only [goV, va_up, show ¬ k = 2 by omega, show ¬ k = 3 by omega, show ¬ k = 4 by omega, show ¬ k = 5 by omega, show ¬ k = 20 by omega, show ¬ k = 21 by omega, show ¬ k = 22 by omega, show ¬ k = 23 by omega, if_false])) f3.two), (FrG2.trans (FrG2.up (by decide)) f4.two), by rw [show pClause (g 2) (g 4) b d i = .er (nI c) q from by rw [pClause, if_neg (by rw [← e3]; decide), if_neg (by rw [← e3]; decide), if_neg (by rw [← e3]; decide), if_pos e3.symm, pRule, if_neg (by omega), hr1]; rfl]; rfl, by rw [show pClause (g 2) (g 4) b d i = .er (nI c) q from by rw [pClause, if_neg (by rw [← e3]; decide), if_neg (by rw [← e3]; decide), if_neg (by rw [← e3]; decide), if_pos e3.symm, pRule, if_neg (by omega), hr1]; rfl]; exact h⟩
      · skip
        refine z_iconst hZ (pc := 111) (v := 1) dX5_readClause_111 (by decide) ?_
        refine z_goto hZ (pc := 112) (tgt := 116) dX5_readClause_112 rfl ?_
        refine zr_i hZ (pc := 116) dX5_readClause_116 FitR.b1 ?_
        obtain ⟨j, ll, hr⟩ := PR.of_ok (bI_ne c108)
        have hr1 : pP (g 2) (g 4) 35 (i + 1) = .ok j ll := hr
        simp only [hr] at h
        obtain ⟨h6, hJ⟩ := h
        exact CP_ok2 (j := j) (l := ll) (by rw [pClause, if_neg (by rw [← e3]; decide), if_neg (by rw [← e3]; decide), if_neg (by rw [← e3]; decide), if_pos e3.symm, pRule, if_neg (by omega), hr1]; rfl) (FrV2.trans (show FrV2 v _ from (fun k hk => by simp only [goV, va_up, show ¬ k = 2 by omega, show ¬ k = 3 by omega, show ¬ k = 4 by omega, show ¬ k = 5 by omega, show ¬ k = 20 by omega, show ¬ k = 21 by omega, show ¬ k = 22 by omega, show ¬ k = 23 by omega, if_false])) f3.two) (FrG2.trans (FrG2.up (by decide)) f4.two) (h6.trans rfl) hJ (DrA.rule hD (f3 20 (by decide) (by decide)) (f3 21 (by decide) (by decide)) (f3 22 (by decide) (by decide)) (f3 23 (by decide) (by decide)) ((f4 29 (by decide)).trans (by rw [up_at, hI.2.2.2.2.2.2.1.1])) (fun k h1 h2 h3 => (f4 k (by omega)).trans (up_off h3)))
  by_cases s4_11 : kd = 9
  · subst s4_11
    refine z_swIn hZ (pc := 4) (off := 113) (tgt := 117) dX5_readClause_4 (by decide) (by decide) (by decide) rfl ?_
    refine z_aload_n hZ (pc := 117) dX5_readClause_117 rfl ?_
    refine cV hZ (pc := 118) dX5_readClause_118 lk_X5_96 mn_X5_beginAsk mv_X5_beginAsk (c_X5_beginAsk (K := 3) (n := d.A) e2 hD.2.2.2.1 (by have := hlt (by rw [← e3]; decide); omega) (by have := hK.2.2.2.2; omega) (by decide)) rc_1 rfl rfl (Nat.le_of_ble_eq_true rfl) (by omega) (by decide) (Nat.zero_le _) (Nat.zero_le _) ?_
    intro v2 g2 r h
    obtain ⟨rfl, h1, h2⟩ := h
    refine z_if_eq hZ (pc := 121) (tgt := 137) dX5_readClause_121 rfl (fun c121 => ?_) (fun c121 => ?_)
    · skip
      refine z_iconst hZ (pc := 137) (v := 0) dX5_readClause_137 (by decide) ?_
      refine zr_i hZ (pc := 138) dX5_readClause_138 FitR.b0 ?_
      have hc : ¬ d.A < 6 := of_decide_eq_false (bI_eq.mp c121)
      obtain ⟨rfl, rfl⟩ := h2 hc
      exact CP_er (q := i) (by rw [pClause, if_neg (by rw [← e3]; decide), if_neg (by rw [← e3]; decide), if_neg (by rw [← e3]; decide), if_neg (by rw [← e3]; decide), if_pos e3.symm, pAsk, if_pos (Nat.not_lt.mp hc)]) FrV2.rf FrG2.rf rfl e2
    · skip
      have hc : d.A < 6 := of_decide_eq_true (bI_ne c121)
      obtain ⟨rfl, rfl⟩ := h1 hc
      refine z_aload_n hZ (pc := 124) dX5_readClause_124 rfl ?_
      refine z_iconst hZ (pc := 125) (v := 0) dX5_readClause_125 (by decide) ?_
      refine z_iconst hZ (pc := 126) (v := 0) dX5_readClause_126 (by decide) ?_
      refine cV hZ (pc := 127) dX5_readClause_127 lk_X5_92 mn_X5_readLevel mv_X5_readLevel (readLevel_all (l := l) (D := D) (cA := cA) (o := o) (a := a) 35 0 0 (by decide) (by decide) (by decide) _ _ (i + 1) m L (RdI.fr (v := goV v g (i + 1)) (g := g) (hI.go (by omega) (hlt (by rw [← e3]; decide))) rfl rfl rfl rfl rfl rfl rfl)) rc_1 rfl rfl (Nat.le_of_ble_eq_true rfl) (by omega) (by decide) (Nat.zero_le _) (Nat.zero_le _) ?_
      intro v3 g3 r3 h
      obtain ⟨f3, f4, rfl, h⟩ := h
      refine z_if_eq hZ (pc := 130) (tgt := 137) dX5_readClause_130 rfl (fun c130 => ?_) (fun c130 => ?_)
      · skip
        refine z_iconst hZ (pc := 137) (v := 0) dX5_readClause_137 (by decide) ?_
        refine zr_i hZ (pc := 138) dX5_readClause_138 FitR.b0 ?_
        obtain ⟨c, q, hr⟩ := PR.of_er (bI_eq.mp c130)
        have hr1 : pP (g 2) (g 4) 35 (i + 1) = .er c q := hr
        simp only [hr] at h
        exact ⟨(FrV2.trans (show FrV2 v _ from (fun k hk => by simp only [goV, va_up, show ¬ k = 2 by omega, show ¬ k = 3 by omega, show ¬ k = 4 by omega, show ¬ k = 5 by omega, show ¬ k = 20 by omega, show ¬ k = 21 by omega, show ¬ k = 22 by omega, show ¬ k = 23 by omega, if_false])) f3.two), (FrG2.trans (FrG2.up (by decide)) f4.two), by rw [show pClause (g 2) (g 4) b d i = .er (nI c) q from by rw [pClause, if_neg (by rw [← e3]; decide), if_neg (by rw [← e3]; decide), if_neg (by rw [← e3]; decide), if_neg (by rw [← e3]; decide), if_pos e3.symm, pAsk, if_neg (by omega), hr1]; rfl]; rfl, by rw [show pClause (g 2) (g 4) b d i = .er (nI c) q from by rw [pClause, if_neg (by rw [← e3]; decide), if_neg (by rw [← e3]; decide), if_neg (by rw [← e3]; decide), if_neg (by rw [← e3]; decide), if_pos e3.symm, pAsk, if_neg (by omega), hr1]; rfl]; exact h⟩
      · skip
        refine z_iconst hZ (pc := 133) (v := 1) dX5_readClause_133 (by decide) ?_
        refine z_goto hZ (pc := 134) (tgt := 138) dX5_readClause_134 rfl ?_
        refine zr_i hZ (pc := 138) dX5_readClause_138 FitR.b1 ?_
        obtain ⟨j, ll, hr⟩ := PR.of_ok (bI_ne c130)
        have hr1 : pP (g 2) (g 4) 35 (i + 1) = .ok j ll := hr
        simp only [hr] at h
        obtain ⟨h6, hJ⟩ := h
        exact CP_ok2 (j := j) (l := ll) (by rw [pClause, if_neg (by rw [← e3]; decide), if_neg (by rw [← e3]; decide), if_neg (by rw [← e3]; decide), if_neg (by rw [← e3]; decide), if_pos e3.symm, pAsk, if_neg (by omega), hr1]; rfl) (FrV2.trans (show FrV2 v _ from (fun k hk => by simp only [goV, va_up, show ¬ k = 2 by omega, show ¬ k = 3 by omega, show ¬ k = 4 by omega, show ¬ k = 5 by omega, show ¬ k = 20 by omega, show ¬ k = 21 by omega, show ¬ k = 22 by omega, show ¬ k = 23 by omega, if_false])) f3.two) (FrG2.trans (FrG2.up (by decide)) f4.two) (h6.trans rfl) hJ (DrA.ask hD (f3 20 (by decide) (by decide)) (f3 21 (by decide) (by decide)) (f3 22 (by decide) (by decide)) (f3 23 (by decide) (by decide)) ((f4 30 (by decide)).trans (by rw [up_at, hI.2.2.2.2.2.2.1.1])) (fun k h1 h2 h3 => (f4 k (by omega)).trans (up_off h3)))
  have hout4 : kd.toInt < -2 ∨ 9 < kd.toInt := by
    have q0 := lv_neT s4_0 (a := -2) (by decide)
    have q1 := lv_neT s4_1 (a := -1) (by decide)
    have q2 := lv_neT s4_2 (a := 0) (by decide)
    have q3 := lv_neT s4_3 (a := 1) (by decide)
    have q4 := lv_neT s4_4 (a := 2) (by decide)
    have q5 := lv_neT s4_5 (a := 3) (by decide)
    have q6 := lv_neT s4_6 (a := 4) (by decide)
    have q7 := lv_neT s4_7 (a := 5) (by decide)
    have q8 := lv_neT s4_8 (a := 6) (by decide)
    have q9 := lv_neT s4_9 (a := 7) (by decide)
    have q10 := lv_neT s4_10 (a := 8) (by decide)
    have q11 := lv_neT s4_11 (a := 9) (by decide)
    omega
  refine z_swOut hZ (pc := 4) (tgt := 139) dX5_readClause_4 hout4 rfl ?_
  refine z_aload_n hZ (pc := 139) dX5_readClause_139 rfl ?_
  refine z_iconst hZ (pc := 140) (v := 1) dX5_readClause_140 (by decide) ?_
  refine cV_i hZ (pc := 141) dX5_readClause_141 lk_X5_80 mn_X5_refuse mv_X5_refuse (c_X5_refuse) rc_1 rfl rfl (Nat.le_of_ble_eq_true rfl) (by omega) (by decide) (Nat.zero_le _) (Nat.zero_le _) ?_
  refine zr_i hZ (pc := 144) dX5_readClause_144 FitR.b0 ?_
  exact CP_er (q := i) (by rw [pClause, if_neg (by rw [← e3]; exact s4_8), if_neg (by rw [← e3]; exact s4_0), if_neg (by rw [← e3]; exact s4_9), if_neg (by rw [← e3]; exact s4_10), if_neg (by rw [← e3]; exact s4_11)]) FrV2.rf FrG2.rf rfl e2
