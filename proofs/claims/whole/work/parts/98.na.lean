def pCl2 (K N : Nat → Int32) (b : Bool) (d : Dr) (i : Nat) : PC := match pClause K N b d i with
  | Sum.inl (c, q) => .er c q
  | Sum.inr (j, d') => if K j = 3 then .ok (j + 1) d' else .er 1 j
theorem pCl2_er {K N : Nat → Int32} {b : Bool} {d : Dr} {i q : Nat} {c : Int32} (h : pClause K N b d i = .er c q) : pCl2 K N b d i = .er c q := by rw [pCl2, h]; rfl
theorem pCl2_y {K N : Nat → Int32} {b : Bool} {d d' : Dr} {i j : Nat} (h : pClause K N b d i = .ok j d') (h3 : K j = 3) : pCl2 K N b d i = .ok (j + 1) d' := by rw [pCl2, h]; exact if_pos h3
theorem pCl2_n {K N : Nat → Int32} {b : Bool} {d d' : Dr} {i j : Nat} (h : pClause K N b d i = .ok j d') (h3 : ¬ K j = 3) : pCl2 K N b d i = .er 1 j := by rw [pCl2, h]; exact if_neg h3
theorem wh_c {K : Nat → Int32} {i k0 : Nat} {x : Int32} (h : (∃ k, k < 5 ∧ x = nI k ∧ K i = kcN (clN k)) ∨ (x = -1 ∧ ∀ k, k < 5 → ¬ K i = kcN (clN k))) (h0 : k0 < 5) (hk : K i = kcN (clN k0)) : x = nI k0 := by
  rcases h with ⟨k, h1, h2, h3⟩ | ⟨-, h2⟩
  · have hinj : ∀ a, a < 5 → ∀ b, b < 5 → kcN (clN a) = kcN (clN b) → a = b := by decide +kernel
    rw [h2, hinj k h1 k0 h0 (h3.symm.trans hk)]
  · exact absurd hk (h2 k0 h0)
theorem wh_n {K : Nat → Int32} {i : Nat} {x : Int32} (h : (∃ k, k < 5 ∧ x = nI k ∧ K i = kcN (clN k)) ∨ (x = -1 ∧ ∀ k, k < 5 → ¬ K i = kcN (clN k))) (hk : ∀ k, k < 5 → ¬ K i = kcN (clN k)) : x = -1 := by
  rcases h with ⟨k, h1, -, h3⟩ | ⟨h, -⟩
  · exact absurd h3 (hk k h1)
  · exact h
theorem PC.cs (r : PC) : (∃ c q, r = .er c q) ∨ ∃ j d, r = .ok j d := by
  induction r using PC.el with
  | er c q => exact Or.inl ⟨c, q, rfl⟩
  | ok j d => exact Or.inr ⟨j, d, rfl⟩
theorem DrM.houses {d : Dr} {LL : List Int32} {g g2 : ZG} {x : Int32} (hD : DrM d LL g) (h3 : g2 3 = upd (g 3) 4 x) (hg : ∀ k, k ≠ 3 → g2 k = g k) : DrM (d.sH x) LL g2 := by
  obtain ⟨a1, a2, a3, a4, a5, a6, a7, a8⟩ := hD
  exact ⟨by rw [h3, upd_at]; rfl, by rw [h3, upd_off (by decide)]; exact a2, by rw [h3, upd_off (by decide)]; exact a3, by rw [h3, upd_off (by decide)]; exact a4, by rw [hg 4 (by decide), hg 5 (by decide), hg 7 (by decide)]; exact a5, by rw [hg 6 (by decide)]; exact a6, by rw [hg 8 (by decide), hg 9 (by decide)]; exact a7, by rw [hg 8 (by decide), hg 9 (by decide)]; exact a8⟩
theorem DrM.rule {d : Dr} {L l : List Int32} {g g2 : ZG} (hD : DrM d L g) (hR : d.R < 4) (h3 : g2 3 = upd (g 3) 6 (nI (d.R + 1))) (h8 : g2 8 = upd (g 8) (10 + d.R) (nI L.length)) (h9 : g2 9 = upd (g 9) (10 + d.R) (nI (L ++ l.map trE).length)) (hg : ∀ k, 4 ≤ k → k ≤ 7 → g2 k = g k) : DrM (d.sR (d.R + 1) (upL d.rs d.R l)) (L ++ l.map trE) g2 := by
  obtain ⟨a1, a2, a3, a4, a5, a6, a7, a8⟩ := hD
  refine ⟨by rw [h3, upd_off (by decide)]; exact a1, by rw [h3, upd_off (by decide)]; exact a2, by rw [h3, upd_at]; rfl, by rw [h3, upd_off (by decide)]; exact a4, by rw [hg 4 (by decide) (by decide), hg 5 (by decide) (by decide), hg 7 (by decide) (by decide)]; exact a5, by rw [hg 6 (by decide) (by decide)]; exact a6, fun e he => ?_, fun e he => ?_⟩
  · show ∃ b, g2 8 (10 + e) = nI b ∧ g2 9 (10 + e) = nI (b + (upL d.rs d.R l e).length) ∧ SegM (L ++ l.map trE) b (upL d.rs d.R l e)
    rw [h8, h9]
    rcases Nat.lt_or_ge e d.R with q | q
    · rw [upd_off (by omega), upd_off (by omega), show upL d.rs d.R l e = d.rs e from if_neg (by omega)]
      obtain ⟨b, b1, b2, b3⟩ := a7 e q
      exact ⟨b, b1, b2, b3.app⟩
    · have e1 : e = d.R := by have : e < d.R + 1 := he; omega
      subst e1
      rw [upd_at, upd_at, show upL d.rs d.R l d.R = l from if_pos rfl]
      exact ⟨L.length, rfl, by rw [List.length_append, List.length_map], SegM.new⟩
  · have he4 : e < d.A := he
    rw [h8, h9, upd_off (by omega), upd_off (by omega)]
    obtain ⟨b, b1, b2, b3⟩ := a8 e he4
    exact ⟨b, b1, b2, b3.app⟩
theorem DrM.ask {d : Dr} {L l : List Int32} {g g2 : ZG} (hD : DrM d L g) (hR : d.R ≤ 4) (h3 : g2 3 = upd (g 3) 7 (nI (d.A + 1))) (h8 : g2 8 = upd (g 8) (14 + d.A) (nI L.length)) (h9 : g2 9 = upd (g 9) (14 + d.A) (nI (L ++ l.map trE).length)) (hg : ∀ k, 4 ≤ k → k ≤ 7 → g2 k = g k) : DrM (d.sA (d.A + 1) (upL d.as d.A l)) (L ++ l.map trE) g2 := by
  obtain ⟨a1, a2, a3, a4, a5, a6, a7, a8⟩ := hD
  refine ⟨by rw [h3, upd_off (by decide)]; exact a1, by rw [h3, upd_off (by decide)]; exact a2, by rw [h3, upd_off (by decide)]; exact a3, by rw [h3, upd_at]; rfl, by rw [hg 4 (by decide) (by decide), hg 5 (by decide) (by decide), hg 7 (by decide) (by decide)]; exact a5, by rw [hg 6 (by decide) (by decide)]; exact a6, fun e he => ?_, fun e he => ?_⟩
  · have he4 : e < d.R := he
    rw [h8, h9, upd_off (by omega), upd_off (by omega)]
    obtain ⟨b, b1, b2, b3⟩ := a7 e he4
    exact ⟨b, b1, b2, b3.app⟩
  · show ∃ b, g2 8 (14 + e) = nI b ∧ g2 9 (14 + e) = nI (b + (upL d.as d.A l e).length) ∧ SegM (L ++ l.map trE) b (upL d.as d.A l e)
    rw [h8, h9]
    rcases Nat.lt_or_ge e d.A with q | q
    · rw [upd_off (by omega), upd_off (by omega), show upL d.as d.A l e = d.as e from if_neg (by omega)]
      obtain ⟨b, b1, b2, b3⟩ := a8 e q
      exact ⟨b, b1, b2, b3.app⟩
    · have e1 : e = d.A := by have : e < d.A + 1 := he; omega
      subst e1
      rw [upd_at, upd_at, show upL d.as d.A l d.A = l from if_pos rfl]
      exact ⟨L.length, rfl, by rw [List.length_append, List.length_map], SegM.new⟩
theorem c_X11_readClause_0 {l : Launch} {D : va_G} {cA : Nat → ClassId} {r : Nat} {a : Nat → Nat} {s0 s1 : Nat → Option Nat} {v : ZV} {g : ZG} {aK aV : Nat → Nat} {t : Nat → Int32} {n m i : Nat} {K N : Nat → Int32} {L : List Int32} {d : Dr} {Kl : Nat} {b : Bool} (hG : GM t n m K N) (hM : MI t n m v g i L) (hD : DrM d L g) (hK : DrK d) (hs0 : ∀ k, k < 5 → s0 k = some (aK (clN k))) (hs1 : ∀ k, k < 7 → s1 k = some (aK k)) (hN : ∀ j, j ≤ m → K j = 1 → 0 ≤ N j) (hKl : 80 ≤ Kl) (hk : K i = kcN (clN 0)) : MGY l D cA aK aV (WM r a cA s0 s1) yX11_readClause cX11_readClause 4 none Kl [(.ref r), .int (bI b)] v g ((CMp t n m v g L (pCl2 K N b d i))) := by
  refine MGY.of (by decide) rfl (Nat.le_of_ble_eq_true rfl) (by simp [Value.category]) (fun Z hY => ?_)
  have hZ := hY.toZR
  have h24 : g 24 = t := hM.1
  have hb : v 32 = 0 := hM.2.2.2.1
  have h30 : v 30 = nI (tokS t n i) := hM.2.2.2.2.1.1
  have h31 : v 31 = nI (eNd t n (tokS t n i)) := hM.2.2.2.2.1.2.2.1
  have h28 : v 28 = tcM t n (tokS t n i) := hM.2.2.2.2.1.2.2.2.1
  have h26 : v 26 = nI (eNd t n (tokS t n i)) := hM.2.2.2.2.1.2.1
  have hi : i ≤ m := hM.2.2.1
  have hn7 : n ≤ 700 := hG.2.1
  have htok : ¬ K i = 0 → tokS t n i < n := tok_in hG.1 hi
  have hm7 := hG.m7
  have him : i < m := TK_lt hG.1 hi (by rw [hk]; decide)
  have hP5 : g 3 5 = nI d.P := hD.2.1
  have hR6 : g 3 6 = nI d.R := hD.2.2.1
  have hA7 : g 3 7 = nI d.A := hD.2.2.2.1
  refine z_aload_n hZ (pc := 0) dX11_readClause_0 rfl ?_
  refine z_aload_n hZ (pc := 1) dX11_readClause_1 rfl ?_
  refine gM_0 hZ (pc := 2) fl_X11_19 dX11_readClause_2 ?_
  refine cVY hY (pc := 5) dX11_readClause_5 lk_X11_245 mn_X11_which mv_X11_which (c_X11_which_c hG hM hs0) rc_M rfl rfl (Nat.le_of_ble_eq_true rfl) (by omega) (by decide) (Nat.zero_le _) (Nat.zero_le _) (fun v2 g2 r h => ?_)
  obtain ⟨e1, e2, x, rfl, h⟩ := h
  subst v2
  subst g2
  have hx : x = 0 := wh_c h (k0 := 0) (by decide) hk
  subst hx
  refine q_istore_n_4_2 hZ (pc := 8) dX11_readClause_8 rfl ?_
  refine z_iload_n hZ (pc := 9) dX11_readClause_9 rfl ?_
  refine z_iconst hZ (pc := 10) (v := (-1)) dX11_readClause_10 (by decide) ?_
  refine z_icmp_ne hZ (pc := 11) (tgt := 22) dX11_readClause_11 rfl (fun _ => ?_) (fun c11 => absurd c11 (by decide))
  refine z_iload_n hZ (pc := 22) dX11_readClause_22 rfl ?_
  refine z_if_ne hZ (pc := 23) (tgt := 38) dX11_readClause_23 rfl (fun c23 => absurd c23 (by decide)) (fun _ => ?_)
  refine z_iload_n hZ (pc := 26) dX11_readClause_26 rfl ?_
  refine z_if_ne hZ (pc := 27) (tgt := 38) dX11_readClause_27 rfl (fun c27 => ?_) (fun c27 => ?_)
  · skip
    have hbt : b = true := bI_ne c27
    refine z_iload_n hZ (pc := 38) dX11_readClause_38 rfl ?_
    refine z_iconst hZ (pc := 39) (v := 1) dX11_readClause_39 (by decide) ?_
    refine z_icmp_ne hZ (pc := 40) (tgt := 54) dX11_readClause_40 rfl (fun _ => ?_) (fun c40 => absurd c40 (by decide))
    refine z_iload_n hZ (pc := 54) dX11_readClause_54 rfl ?_
    refine z_iconst hZ (pc := 55) (v := 3) dX11_readClause_55 (by decide) ?_
    refine z_icmp_ne hZ (pc := 56) (tgt := 70) dX11_readClause_56 rfl (fun _ => ?_) (fun c56 => absurd c56 (by decide))
    refine z_iload_n hZ (pc := 70) dX11_readClause_70 rfl ?_
    refine z_iconst hZ (pc := 71) (v := 4) dX11_readClause_71 (by decide) ?_
    refine z_icmp_ne hZ (pc := 72) (tgt := 92) dX11_readClause_72 rfl (fun _ => ?_) (fun c72 => absurd c72 (by decide))
    refine z_aload_n hZ (pc := 92) dX11_readClause_92 rfl ?_
    refine gM_32 hZ (pc := 93) fl_X11_209 dX11_readClause_93 ?_
    refine z_if_eq hZ (pc := 96) (tgt := 100) dX11_readClause_96 rfl (fun c96 => ?_) (fun c96 => ?_)
    · skip
      refine z_aload_n hZ (pc := 100) dX11_readClause_100 rfl ?_
      refine cV hZ (pc := 101) dX11_readClause_101 lk_X11_233 mn_X11_stepOn mv_X11_stepOn (c_X11_stepOn (p := eNd t n (tokS t n i)) hM.h26 hM.2.1 eNd_le hn7 (by rw [h24]; exact hG.2.2)) rc_M rfl rfl (Nat.le_of_ble_eq_true rfl) (by omega) (by decide) (Nat.zero_le _) (Nat.zero_le _) ?_
      intro v1 g1 r h1
      obtain ⟨rfl, e1, f1, h1⟩ := h1
      subst g1
      have hM2 := hM.next hG.1 him f1 h1
      refine z_iload_n hZ (pc := 104) dX11_readClause_104 rfl ?_
      refine z_if_ne hZ (pc := 105) (tgt := 124) dX11_readClause_105 rfl (fun c105 => absurd c105 (by decide)) (fun _ => ?_)
      refine z_aload_n hZ (pc := 108) dX11_readClause_108 rfl ?_
      refine gM_3 hZ (pc := 109) fl_X11_40 dX11_readClause_109 ?_
      refine z_iconst hZ (pc := 112) (v := 4) dX11_readClause_112 (by decide) ?_
      refine z_aload_n hZ (pc := 113) dX11_readClause_113 rfl ?_
      refine z_iconst hZ (pc := 114) (v := 1) dX11_readClause_114 (by decide) ?_
      refine z_bipush hZ (pc := 115) (v := 10) dX11_readClause_115 (by decide) ?_
      refine cV hZ (pc := 117) dX11_readClause_117 lk_X11_239 mn_X11_readNumber mv_X11_readNumber (c_X11_readNumber (p := 1) (q := 10) hG hM2 (by decide)) rc_M rfl rfl (Nat.le_of_ble_eq_true rfl) (by omega) (by decide) (Nat.zero_le _) (Nat.zero_le _) ?_
      intro v3 g3 r h
      obtain ⟨e3, x, rfl, h⟩ := h
      subst g3
      rcases h.symm with ⟨hc, e3⟩ | ⟨hc, hx, f3, hM3⟩
      · skip
        subst v3
        have hbad := bad33 (v := v1) (x := v1 30) hc
        refine sMn_3 hZ (pc := 120) (q := 4) dX11_readClause_120 (by omega) ?_
        refine z_goto hZ (pc := 121) (tgt := 213) dX11_readClause_121 rfl ?_
        refine z_aload_n hZ (pc := 213) dX11_readClause_213 rfl ?_
        refine z_bipush hZ (pc := 214) (v := 59) dX11_readClause_214 (by decide) ?_
        refine cV_v hZ (pc := 216) dX11_readClause_216 lk_X11_249 mn_X11_mark mv_X11_mark (c_X11_mark_b hbad) rc_M rfl rfl (Nat.le_of_ble_eq_true rfl) (by omega) (by decide) (Nat.zero_le _) (Nat.zero_le _) ?_
        refine zr_v hZ (pc := 219) dX11_readClause_219 ?_
        exact CMp_er (pCl2_er (by rw [pClause, if_pos (show K i = 6 from hk), if_pos hbt, pHouses, if_neg hc])) (f1.fm.trans ((FM.up (by omega)).trans (FM.up (by omega)))) (FH.rf.trans (FH.u3 (by decide))) (by rw [up_off (by decide), up_at]) (by rw [up_at]; exact hM2.2.2.2.2.1.1)
      subst hx
      refine sMn_3 hZ (pc := 120) (q := 4) dX11_readClause_120 (by omega) ?_
      refine z_goto hZ (pc := 121) (tgt := 213) dX11_readClause_121 rfl ?_
      refine z_aload_n hZ (pc := 213) dX11_readClause_213 rfl ?_
      refine z_bipush hZ (pc := 214) (v := 59) dX11_readClause_214 (by decide) ?_
      refine cV hZ (pc := 216) dX11_readClause_216 lk_X11_249 mn_X11_mark mv_X11_mark (c_X11_mark (j := 0) hG (hM3.fr rfl rfl) (by decide)) rc_M rfl rfl (Nat.le_of_ble_eq_true rfl) (by omega) (by decide) (Nat.zero_le _) (Nat.zero_le _) ?_
      intro v9 g9 r h9
      obtain ⟨rfl, e9, h9⟩ := h9
      subst g9
      refine zr_v hZ (pc := 219) dX11_readClause_219 ?_
      have hcl : pClause K N b d i = .ok (i + 2) (d.sH (N (i + 1))) := by rw [pClause, if_pos (show K i = 6 from hk), if_pos hbt, pHouses, if_pos hc]
      rcases h9 with ⟨hk3, f9, hM9⟩ | ⟨hk3, e9⟩
      · exact CMp_ok (l := []) (pCl2_y hcl hk3) ((f1.fm.trans f3).trans f9) (FH.rf.trans (FH.u3 (by decide))) (by rw [List.append_nil]; exact hM9) (by rw [List.append_nil]; exact hD.houses (by rw [up_at]) (fun k hk => up_off hk))
      · subst v9
        exact CMp_er (c := 1) (q := i + 2) (pCl2_n hcl hk3) ((f1.fm.trans f3).trans ((FM.up (by omega)).trans (FM.up (by omega)))) (FH.rf.trans (FH.u3 (by decide))) (by rw [up_off (by decide), up_at]) (by rw [up_at]; exact hM3.2.2.2.2.1.1)
    · skip
      exact absurd hb c96
  · skip
    skip
    refine z_aload_n hZ (pc := 30) dX11_readClause_30 rfl ?_
    refine z_iconst hZ (pc := 31) (v := 5) dX11_readClause_31 (by decide) ?_
    refine cV_v hZ (pc := 32) dX11_readClause_32 lk_X11_230 mn_X11_wrong mv_X11_wrong (c_X11_wrong hb) rc_M rfl rfl (Nat.le_of_ble_eq_true rfl) (by omega) (by decide) (Nat.zero_le _) (Nat.zero_le _) ?_
    have hbad := bad33 (v := v) (c := 5) (x := v 30) (by decide)
    refine z_goto hZ (pc := 35) (tgt := 92) dX11_readClause_35 rfl ?_
    refine z_aload_n hZ (pc := 92) dX11_readClause_92 rfl ?_
    refine gM_32 hZ (pc := 93) fl_X11_209 dX11_readClause_93 ?_
    refine z_if_eq hZ (pc := 96) (tgt := 100) dX11_readClause_96 rfl (fun c96 => absurd c96 hbad) (fun _ => ?_)
    refine zr_v hZ (pc := 99) dX11_readClause_99 ?_
    exact CMp_er (c := 5) (q := i) (pCl2_er (by rw [pClause, if_pos (show K i = 6 from hk), if_neg (by rw [bI_eq.mp c27]; decide)])) ((FM.up (by omega)).trans (FM.up (by omega))) FH.rf (by rw [up_off (by decide), up_at]) (by rw [up_at]; exact h30)
theorem c_X11_readClause_1 {l : Launch} {D : va_G} {cA : Nat → ClassId} {r : Nat} {a : Nat → Nat} {s0 s1 : Nat → Option Nat} {v : ZV} {g : ZG} {aK aV : Nat → Nat} {t : Nat → Int32} {n m i : Nat} {K N : Nat → Int32} {L : List Int32} {d : Dr} {Kl : Nat} {b : Bool} (hG : GM t n m K N) (hM : MI t n m v g i L) (hD : DrM d L g) (hK : DrK d) (hs0 : ∀ k, k < 5 → s0 k = some (aK (clN k))) (hs1 : ∀ k, k < 7 → s1 k = some (aK k)) (hN : ∀ j, j ≤ m → K j = 1 → 0 ≤ N j) (hKl : 80 ≤ Kl) (hk : K i = kcN (clN 1)) : MGY l D cA aK aV (WM r a cA s0 s1) yX11_readClause cX11_readClause 4 none Kl [(.ref r), .int (bI b)] v g ((CMp t n m v g L (pCl2 K N b d i))) := by
  refine MGY.of (by decide) rfl (Nat.le_of_ble_eq_true rfl) (by simp [Value.category]) (fun Z hY => ?_)
  have hZ := hY.toZR
  have h24 : g 24 = t := hM.1
  have hb : v 32 = 0 := hM.2.2.2.1
  have h30 : v 30 = nI (tokS t n i) := hM.2.2.2.2.1.1
  have h31 : v 31 = nI (eNd t n (tokS t n i)) := hM.2.2.2.2.1.2.2.1
  have h28 : v 28 = tcM t n (tokS t n i) := hM.2.2.2.2.1.2.2.2.1
  have h26 : v 26 = nI (eNd t n (tokS t n i)) := hM.2.2.2.2.1.2.1
  have hi : i ≤ m := hM.2.2.1
  have hn7 : n ≤ 700 := hG.2.1
  have htok : ¬ K i = 0 → tokS t n i < n := tok_in hG.1 hi
  have hm7 := hG.m7
  have him : i < m := TK_lt hG.1 hi (by rw [hk]; decide)
  have hP5 : g 3 5 = nI d.P := hD.2.1
  have hR6 : g 3 6 = nI d.R := hD.2.2.1
  have hA7 : g 3 7 = nI d.A := hD.2.2.2.1
  refine z_aload_n hZ (pc := 0) dX11_readClause_0 rfl ?_
  refine z_aload_n hZ (pc := 1) dX11_readClause_1 rfl ?_
  refine gM_0 hZ (pc := 2) fl_X11_19 dX11_readClause_2 ?_
  refine cVY hY (pc := 5) dX11_readClause_5 lk_X11_245 mn_X11_which mv_X11_which (c_X11_which_c hG hM hs0) rc_M rfl rfl (Nat.le_of_ble_eq_true rfl) (by omega) (by decide) (Nat.zero_le _) (Nat.zero_le _) (fun v2 g2 r h => ?_)
  obtain ⟨e1, e2, x, rfl, h⟩ := h
  subst v2
  subst g2
  have hx : x = 1 := wh_c h (k0 := 1) (by decide) hk
  subst hx
  refine q_istore_n_4_2 hZ (pc := 8) dX11_readClause_8 rfl ?_
  refine z_iload_n hZ (pc := 9) dX11_readClause_9 rfl ?_
  refine z_iconst hZ (pc := 10) (v := (-1)) dX11_readClause_10 (by decide) ?_
  refine z_icmp_ne hZ (pc := 11) (tgt := 22) dX11_readClause_11 rfl (fun _ => ?_) (fun c11 => absurd c11 (by decide))
  refine z_iload_n hZ (pc := 22) dX11_readClause_22 rfl ?_
  refine z_if_ne hZ (pc := 23) (tgt := 38) dX11_readClause_23 rfl (fun _ => ?_) (fun c23 => absurd c23 (by decide))
  refine z_iload_n hZ (pc := 38) dX11_readClause_38 rfl ?_
  refine z_iconst hZ (pc := 39) (v := 1) dX11_readClause_39 (by decide) ?_
  refine z_icmp_ne hZ (pc := 40) (tgt := 54) dX11_readClause_40 rfl (fun c40 => absurd c40 (by decide)) (fun _ => ?_)
  refine z_aload_n hZ (pc := 43) dX11_readClause_43 rfl ?_
  refine gM_3 hZ (pc := 44) fl_X11_40 dX11_readClause_44 ?_
  refine z_iconst hZ (pc := 47) (v := 5) dX11_readClause_47 (by decide) ?_
  refine lMn_3 hZ (pc := 48) (q := 5) dX11_readClause_48 (by omega) ?_
  refine z_top hP5 ?_
  refine z_bipush hZ (pc := 49) (v := 16) dX11_readClause_49 (by decide) ?_
  refine z_icmp_eq hZ (pc := 51) (tgt := 87) dX11_readClause_51 rfl (fun c51 => ?_) (fun c51 => ?_)
  · skip
    have hP6 : 16 ≤ d.P := by rw [(nI_eq (a := d.P) (b := 16) (by have := hK.2.2.1; omega) (by decide)).mp c51]; exact Nat.le_refl _
    refine z_aload_n hZ (pc := 87) dX11_readClause_87 rfl ?_
    refine z_iconst hZ (pc := 88) (v := 2) dX11_readClause_88 (by decide) ?_
    refine cV_v hZ (pc := 89) dX11_readClause_89 lk_X11_230 mn_X11_wrong mv_X11_wrong (c_X11_wrong hb) rc_M rfl rfl (Nat.le_of_ble_eq_true rfl) (by omega) (by decide) (Nat.zero_le _) (Nat.zero_le _) ?_
    have hbad := bad33 (v := v) (c := 2) (x := v 30) (by decide)
    refine z_aload_n hZ (pc := 92) dX11_readClause_92 rfl ?_
    refine gM_32 hZ (pc := 93) fl_X11_209 dX11_readClause_93 ?_
    refine z_if_eq hZ (pc := 96) (tgt := 100) dX11_readClause_96 rfl (fun c96 => absurd c96 hbad) (fun _ => ?_)
    refine zr_v hZ (pc := 99) dX11_readClause_99 ?_
    exact CMp_er (c := 2) (q := i) (pCl2_er (by rw [pClause, if_neg (show ¬ K i = 6 from by rw [hk]; decide), if_pos (show K i = -2 from hk), pPerson, if_pos hP6])) ((FM.up (by omega)).trans (FM.up (by omega))) FH.rf (by rw [up_off (by decide), up_at]) (by rw [up_at]; exact h30)
  · skip
    have hP6 : ¬ 16 ≤ d.P := fun z => c51 (by rw [show d.P = 16 by have := hK.2.2.1; omega]; rfl)
    refine z_iload_n hZ (pc := 54) dX11_readClause_54 rfl ?_
    refine z_iconst hZ (pc := 55) (v := 3) dX11_readClause_55 (by decide) ?_
    refine z_icmp_ne hZ (pc := 56) (tgt := 70) dX11_readClause_56 rfl (fun _ => ?_) (fun c56 => absurd c56 (by decide))
    refine z_iload_n hZ (pc := 70) dX11_readClause_70 rfl ?_
    refine z_iconst hZ (pc := 71) (v := 4) dX11_readClause_71 (by decide) ?_
    refine z_icmp_ne hZ (pc := 72) (tgt := 92) dX11_readClause_72 rfl (fun _ => ?_) (fun c72 => absurd c72 (by decide))
    refine z_aload_n hZ (pc := 92) dX11_readClause_92 rfl ?_
    refine gM_32 hZ (pc := 93) fl_X11_209 dX11_readClause_93 ?_
    refine z_if_eq hZ (pc := 96) (tgt := 100) dX11_readClause_96 rfl (fun c96 => ?_) (fun c96 => ?_)
    · skip
      refine z_aload_n hZ (pc := 100) dX11_readClause_100 rfl ?_
      refine cV hZ (pc := 101) dX11_readClause_101 lk_X11_233 mn_X11_stepOn mv_X11_stepOn (c_X11_stepOn (p := eNd t n (tokS t n i)) hM.h26 hM.2.1 eNd_le hn7 (by rw [h24]; exact hG.2.2)) rc_M rfl rfl (Nat.le_of_ble_eq_true rfl) (by omega) (by decide) (Nat.zero_le _) (Nat.zero_le _) ?_
      intro v1 g1 r h1
      obtain ⟨rfl, e1, f1, h1⟩ := h1
      subst g1
      have hM2 := hM.next hG.1 him f1 h1
      refine z_iload_n hZ (pc := 104) dX11_readClause_104 rfl ?_
      refine z_if_ne hZ (pc := 105) (tgt := 124) dX11_readClause_105 rfl (fun _ => ?_) (fun c105 => absurd c105 (by decide))
      refine z_iload_n hZ (pc := 124) dX11_readClause_124 rfl ?_
      refine z_iconst hZ (pc := 125) (v := 1) dX11_readClause_125 (by decide) ?_
      refine z_icmp_ne hZ (pc := 126) (tgt := 136) dX11_readClause_126 rfl (fun c126 => absurd c126 (by decide)) (fun _ => ?_)
      refine z_aload_n hZ (pc := 129) dX11_readClause_129 rfl ?_
      refine cVY hY (pc := 130) dX11_readClause_130 lk_X11_280 mn_X11_readPerson mv_X11_readPerson (c_X11_readPerson (Kl := 30) hG hM2 hD hK rfl hP6 (by decide)) rc_M rfl rfl (Nat.le_of_ble_eq_true rfl) (by omega) (by decide) (Nat.zero_le _) (Nat.zero_le _) (fun v2 g2 r h => ?_)
      obtain ⟨rfl, f3, f4, h⟩ := h
      rcases PC.cs (pPerson K N d i) with ⟨c, q, hr⟩ | ⟨j, d', hr⟩
      · skip
        rw [hr] at h
        have hpr := pPerson_prg (N := N) (TK_0 hG.1) him hK
        rw [hr] at hpr
        have hbad : ¬ v2 32 = 0 := fun z => hpr.2 (h.1.symm.trans z)
        refine z_goto hZ (pc := 133) (tgt := 213) dX11_readClause_133 rfl ?_
        refine z_aload_n hZ (pc := 213) dX11_readClause_213 rfl ?_
        refine z_bipush hZ (pc := 214) (v := 59) dX11_readClause_214 (by decide) ?_
        refine cV_v hZ (pc := 216) dX11_readClause_216 lk_X11_249 mn_X11_mark mv_X11_mark (c_X11_mark_b hbad) rc_M rfl rfl (Nat.le_of_ble_eq_true rfl) (by omega) (by decide) (Nat.zero_le _) (Nat.zero_le _) ?_
        refine zr_v hZ (pc := 219) dX11_readClause_219 ?_
        exact CMp_er (pCl2_er (by rw [pClause, if_neg (show ¬ K i = 6 from by rw [hk]; decide), if_pos (show K i = -2 from hk), hr])) (f1.fm.trans f3) f4 h.1 h.2
      rw [hr] at h
      obtain ⟨l, hM3, hD3⟩ := h
      refine z_goto hZ (pc := 133) (tgt := 213) dX11_readClause_133 rfl ?_
      refine z_aload_n hZ (pc := 213) dX11_readClause_213 rfl ?_
      refine z_bipush hZ (pc := 214) (v := 59) dX11_readClause_214 (by decide) ?_
      refine cV hZ (pc := 216) dX11_readClause_216 lk_X11_249 mn_X11_mark mv_X11_mark (c_X11_mark (j := 0) hG (hM3) (by decide)) rc_M rfl rfl (Nat.le_of_ble_eq_true rfl) (by omega) (by decide) (Nat.zero_le _) (Nat.zero_le _) ?_
      intro v9 g9 r h9
      obtain ⟨rfl, e9, h9⟩ := h9
      subst g9
      refine zr_v hZ (pc := 219) dX11_readClause_219 ?_
      have hcl : pClause K N b d i = .ok (j) (d') := by rw [pClause, if_neg (show ¬ K i = 6 from by rw [hk]; decide), if_pos (show K i = -2 from hk), hr]
      rcases h9 with ⟨hk3, f9, hM9⟩ | ⟨hk3, e9⟩
      · exact CMp_ok (l := l) (pCl2_y hcl hk3) ((f1.fm.trans f3).trans f9) f4 hM9 hD3
      · subst v9
        exact CMp_er (c := 1) (q := j) (pCl2_n hcl hk3) ((f1.fm.trans f3).trans ((FM.up (by omega)).trans (FM.up (by omega)))) f4 (by rw [up_off (by decide), up_at]) (by rw [up_at]; exact hM3.2.2.2.2.1.1)
    · skip
      exact absurd hb c96
theorem c_X11_readClause_2 {l : Launch} {D : va_G} {cA : Nat → ClassId} {r : Nat} {a : Nat → Nat} {s0 s1 : Nat → Option Nat} {v : ZV} {g : ZG} {aK aV : Nat → Nat} {t : Nat → Int32} {n m i : Nat} {K N : Nat → Int32} {L : List Int32} {d : Dr} {Kl : Nat} {b : Bool} (hG : GM t n m K N) (hM : MI t n m v g i L) (hD : DrM d L g) (hK : DrK d) (hs0 : ∀ k, k < 5 → s0 k = some (aK (clN k))) (hs1 : ∀ k, k < 7 → s1 k = some (aK k)) (hN : ∀ j, j ≤ m → K j = 1 → 0 ≤ N j) (hKl : 80 ≤ Kl) (hk : K i = kcN (clN 2)) : MGY l D cA aK aV (WM r a cA s0 s1) yX11_readClause cX11_readClause 4 none Kl [(.ref r), .int (bI b)] v g ((CMp t n m v g L (pCl2 K N b d i))) := by
  refine MGY.of (by decide) rfl (Nat.le_of_ble_eq_true rfl) (by simp [Value.category]) (fun Z hY => ?_)
  have hZ := hY.toZR
  have h24 : g 24 = t := hM.1
  have hb : v 32 = 0 := hM.2.2.2.1
  have h30 : v 30 = nI (tokS t n i) := hM.2.2.2.2.1.1
  have h31 : v 31 = nI (eNd t n (tokS t n i)) := hM.2.2.2.2.1.2.2.1
  have h28 : v 28 = tcM t n (tokS t n i) := hM.2.2.2.2.1.2.2.2.1
  have h26 : v 26 = nI (eNd t n (tokS t n i)) := hM.2.2.2.2.1.2.1
  have hi : i ≤ m := hM.2.2.1
  have hn7 : n ≤ 700 := hG.2.1
  have htok : ¬ K i = 0 → tokS t n i < n := tok_in hG.1 hi
  have hm7 := hG.m7
  have him : i < m := TK_lt hG.1 hi (by rw [hk]; decide)
  have hP5 : g 3 5 = nI d.P := hD.2.1
  have hR6 : g 3 6 = nI d.R := hD.2.2.1
  have hA7 : g 3 7 = nI d.A := hD.2.2.2.1
  refine z_aload_n hZ (pc := 0) dX11_readClause_0 rfl ?_
  refine z_aload_n hZ (pc := 1) dX11_readClause_1 rfl ?_
  refine gM_0 hZ (pc := 2) fl_X11_19 dX11_readClause_2 ?_
  refine cVY hY (pc := 5) dX11_readClause_5 lk_X11_245 mn_X11_which mv_X11_which (c_X11_which_c hG hM hs0) rc_M rfl rfl (Nat.le_of_ble_eq_true rfl) (by omega) (by decide) (Nat.zero_le _) (Nat.zero_le _) (fun v2 g2 r h => ?_)
  obtain ⟨e1, e2, x, rfl, h⟩ := h
  subst v2
  subst g2
  have hx : x = 2 := wh_c h (k0 := 2) (by decide) hk
  subst hx
  refine q_istore_n_4_2 hZ (pc := 8) dX11_readClause_8 rfl ?_
  refine z_iload_n hZ (pc := 9) dX11_readClause_9 rfl ?_
  refine z_iconst hZ (pc := 10) (v := (-1)) dX11_readClause_10 (by decide) ?_
  refine z_icmp_ne hZ (pc := 11) (tgt := 22) dX11_readClause_11 rfl (fun _ => ?_) (fun c11 => absurd c11 (by decide))
  refine z_iload_n hZ (pc := 22) dX11_readClause_22 rfl ?_
  refine z_if_ne hZ (pc := 23) (tgt := 38) dX11_readClause_23 rfl (fun _ => ?_) (fun c23 => absurd c23 (by decide))
  refine z_iload_n hZ (pc := 38) dX11_readClause_38 rfl ?_
  refine z_iconst hZ (pc := 39) (v := 1) dX11_readClause_39 (by decide) ?_
  refine z_icmp_ne hZ (pc := 40) (tgt := 54) dX11_readClause_40 rfl (fun _ => ?_) (fun c40 => absurd c40 (by decide))
  refine z_iload_n hZ (pc := 54) dX11_readClause_54 rfl ?_
  refine z_iconst hZ (pc := 55) (v := 3) dX11_readClause_55 (by decide) ?_
  refine z_icmp_ne hZ (pc := 56) (tgt := 70) dX11_readClause_56 rfl (fun _ => ?_) (fun c56 => absurd c56 (by decide))
  refine z_iload_n hZ (pc := 70) dX11_readClause_70 rfl ?_
  refine z_iconst hZ (pc := 71) (v := 4) dX11_readClause_71 (by decide) ?_
  refine z_icmp_ne hZ (pc := 72) (tgt := 92) dX11_readClause_72 rfl (fun _ => ?_) (fun c72 => absurd c72 (by decide))
  refine z_aload_n hZ (pc := 92) dX11_readClause_92 rfl ?_
  refine gM_32 hZ (pc := 93) fl_X11_209 dX11_readClause_93 ?_
  refine z_if_eq hZ (pc := 96) (tgt := 100) dX11_readClause_96 rfl (fun c96 => ?_) (fun c96 => ?_)
  · skip
    refine z_aload_n hZ (pc := 100) dX11_readClause_100 rfl ?_
    refine cV hZ (pc := 101) dX11_readClause_101 lk_X11_233 mn_X11_stepOn mv_X11_stepOn (c_X11_stepOn (p := eNd t n (tokS t n i)) hM.h26 hM.2.1 eNd_le hn7 (by rw [h24]; exact hG.2.2)) rc_M rfl rfl (Nat.le_of_ble_eq_true rfl) (by omega) (by decide) (Nat.zero_le _) (Nat.zero_le _) ?_
    intro v1 g1 r h1
    obtain ⟨rfl, e1, f1, h1⟩ := h1
    subst g1
    have hM2 := hM.next hG.1 him f1 h1
    refine z_iload_n hZ (pc := 104) dX11_readClause_104 rfl ?_
    refine z_if_ne hZ (pc := 105) (tgt := 124) dX11_readClause_105 rfl (fun _ => ?_) (fun c105 => absurd c105 (by decide))
    refine z_iload_n hZ (pc := 124) dX11_readClause_124 rfl ?_
    refine z_iconst hZ (pc := 125) (v := 1) dX11_readClause_125 (by decide) ?_
    refine z_icmp_ne hZ (pc := 126) (tgt := 136) dX11_readClause_126 rfl (fun _ => ?_) (fun c126 => absurd c126 (by decide))
    refine z_iload_n hZ (pc := 136) dX11_readClause_136 rfl ?_
    refine z_iconst hZ (pc := 137) (v := 2) dX11_readClause_137 (by decide) ?_
    refine z_icmp_ne hZ (pc := 138) (tgt := 148) dX11_readClause_138 rfl (fun c138 => absurd c138 (by decide)) (fun _ => ?_)
    refine z_aload_n hZ (pc := 141) dX11_readClause_141 rfl ?_
    refine cV hZ (pc := 142) dX11_readClause_142 lk_X11_283 mn_X11_readWalk mv_X11_readWalk (c_X11_readWalk (Kl := 30) hG hM2 hD hK rfl hN (by decide)) rc_M rfl rfl (Nat.le_of_ble_eq_true rfl) (by omega) (by decide) (Nat.zero_le _) (Nat.zero_le _) ?_
    intro v2 g2 r h
    obtain ⟨rfl, f3, f4, h⟩ := h
    rcases PC.cs (pWalk K N d i) with ⟨c, q, hr⟩ | ⟨j, d', hr⟩
    · skip
      rw [hr] at h
      have hpr := pWalk_prg (N := N) (TK_0 hG.1) him hK
      rw [hr] at hpr
      have hbad : ¬ v2 32 = 0 := fun z => hpr.2 (h.1.symm.trans z)
      refine z_goto hZ (pc := 145) (tgt := 213) dX11_readClause_145 rfl ?_
      refine z_aload_n hZ (pc := 213) dX11_readClause_213 rfl ?_
      refine z_bipush hZ (pc := 214) (v := 59) dX11_readClause_214 (by decide) ?_
      refine cV_v hZ (pc := 216) dX11_readClause_216 lk_X11_249 mn_X11_mark mv_X11_mark (c_X11_mark_b hbad) rc_M rfl rfl (Nat.le_of_ble_eq_true rfl) (by omega) (by decide) (Nat.zero_le _) (Nat.zero_le _) ?_
      refine zr_v hZ (pc := 219) dX11_readClause_219 ?_
      exact CMp_er (pCl2_er (by rw [pClause, if_neg (show ¬ K i = 6 from by rw [hk]; decide), if_neg (show ¬ K i = -2 from by rw [hk]; decide), if_pos (show K i = 7 from hk), hr])) (f1.fm.trans f3) f4 h.1 h.2
    rw [hr] at h
    obtain ⟨l, hM3, hD3⟩ := h
    refine z_goto hZ (pc := 145) (tgt := 213) dX11_readClause_145 rfl ?_
    refine z_aload_n hZ (pc := 213) dX11_readClause_213 rfl ?_
    refine z_bipush hZ (pc := 214) (v := 59) dX11_readClause_214 (by decide) ?_
    refine cV hZ (pc := 216) dX11_readClause_216 lk_X11_249 mn_X11_mark mv_X11_mark (c_X11_mark (j := 0) hG (hM3) (by decide)) rc_M rfl rfl (Nat.le_of_ble_eq_true rfl) (by omega) (by decide) (Nat.zero_le _) (Nat.zero_le _) ?_
    intro v9 g9 r h9
    obtain ⟨rfl, e9, h9⟩ := h9
    subst g9
    refine zr_v hZ (pc := 219) dX11_readClause_219 ?_
    have hcl : pClause K N b d i = .ok (j) (d') := by rw [pClause, if_neg (show ¬ K i = 6 from by rw [hk]; decide), if_neg (show ¬ K i = -2 from by rw [hk]; decide), if_pos (show K i = 7 from hk), hr]
    rcases h9 with ⟨hk3, f9, hM9⟩ | ⟨hk3, e9⟩
    · exact CMp_ok (l := l) (pCl2_y hcl hk3) ((f1.fm.trans f3).trans f9) f4 hM9 hD3
    · subst v9
      exact CMp_er (c := 1) (q := j) (pCl2_n hcl hk3) ((f1.fm.trans f3).trans ((FM.up (by omega)).trans (FM.up (by omega)))) f4 (by rw [up_off (by decide), up_at]) (by rw [up_at]; exact hM3.2.2.2.2.1.1)
  · skip
    exact absurd hb c96
theorem c_X11_readClause_3 {l : Launch} {D : va_G} {cA : Nat → ClassId} {r : Nat} {a : Nat → Nat} {s0 s1 : Nat → Option Nat} {v : ZV} {g : ZG} {aK aV : Nat → Nat} {t : Nat → Int32} {n m i : Nat} {K N : Nat → Int32} {L : List Int32} {d : Dr} {Kl : Nat} {b : Bool} (hG : GM t n m K N) (hM : MI t n m v g i L) (hD : DrM d L g) (hK : DrK d) (hs0 : ∀ k, k < 5 → s0 k = some (aK (clN k))) (hs1 : ∀ k, k < 7 → s1 k = some (aK k)) (hN : ∀ j, j ≤ m → K j = 1 → 0 ≤ N j) (hKl : 80 ≤ Kl) (hk : K i = kcN (clN 3)) : MGY l D cA aK aV (WM r a cA s0 s1) yX11_readClause cX11_readClause 4 none Kl [(.ref r), .int (bI b)] v g ((CMp t n m v g L (pCl2 K N b d i))) := by
  refine MGY.of (by decide) rfl (Nat.le_of_ble_eq_true rfl) (by simp [Value.category]) (fun Z hY => ?_)
  have hZ := hY.toZR
  have h24 : g 24 = t := hM.1
  have hb : v 32 = 0 := hM.2.2.2.1
  have h30 : v 30 = nI (tokS t n i) := hM.2.2.2.2.1.1
  have h31 : v 31 = nI (eNd t n (tokS t n i)) := hM.2.2.2.2.1.2.2.1
  have h28 : v 28 = tcM t n (tokS t n i) := hM.2.2.2.2.1.2.2.2.1
  have h26 : v 26 = nI (eNd t n (tokS t n i)) := hM.2.2.2.2.1.2.1
  have hi : i ≤ m := hM.2.2.1
  have hn7 : n ≤ 700 := hG.2.1
  have htok : ¬ K i = 0 → tokS t n i < n := tok_in hG.1 hi
  have hm7 := hG.m7
  have him : i < m := TK_lt hG.1 hi (by rw [hk]; decide)
  have hP5 : g 3 5 = nI d.P := hD.2.1
  have hR6 : g 3 6 = nI d.R := hD.2.2.1
  have hA7 : g 3 7 = nI d.A := hD.2.2.2.1
  refine z_aload_n hZ (pc := 0) dX11_readClause_0 rfl ?_
  refine z_aload_n hZ (pc := 1) dX11_readClause_1 rfl ?_
  refine gM_0 hZ (pc := 2) fl_X11_19 dX11_readClause_2 ?_
  refine cVY hY (pc := 5) dX11_readClause_5 lk_X11_245 mn_X11_which mv_X11_which (c_X11_which_c hG hM hs0) rc_M rfl rfl (Nat.le_of_ble_eq_true rfl) (by omega) (by decide) (Nat.zero_le _) (Nat.zero_le _) (fun v2 g2 r h => ?_)
  obtain ⟨e1, e2, x, rfl, h⟩ := h
  subst v2
  subst g2
  have hx : x = 3 := wh_c h (k0 := 3) (by decide) hk
  subst hx
  refine q_istore_n_4_2 hZ (pc := 8) dX11_readClause_8 rfl ?_
  refine z_iload_n hZ (pc := 9) dX11_readClause_9 rfl ?_
  refine z_iconst hZ (pc := 10) (v := (-1)) dX11_readClause_10 (by decide) ?_
  refine z_icmp_ne hZ (pc := 11) (tgt := 22) dX11_readClause_11 rfl (fun _ => ?_) (fun c11 => absurd c11 (by decide))
  refine z_iload_n hZ (pc := 22) dX11_readClause_22 rfl ?_
  refine z_if_ne hZ (pc := 23) (tgt := 38) dX11_readClause_23 rfl (fun _ => ?_) (fun c23 => absurd c23 (by decide))
  refine z_iload_n hZ (pc := 38) dX11_readClause_38 rfl ?_
  refine z_iconst hZ (pc := 39) (v := 1) dX11_readClause_39 (by decide) ?_
  refine z_icmp_ne hZ (pc := 40) (tgt := 54) dX11_readClause_40 rfl (fun _ => ?_) (fun c40 => absurd c40 (by decide))
  refine z_iload_n hZ (pc := 54) dX11_readClause_54 rfl ?_
  refine z_iconst hZ (pc := 55) (v := 3) dX11_readClause_55 (by decide) ?_
  refine z_icmp_ne hZ (pc := 56) (tgt := 70) dX11_readClause_56 rfl (fun c56 => absurd c56 (by decide)) (fun _ => ?_)
  refine z_aload_n hZ (pc := 59) dX11_readClause_59 rfl ?_
  refine gM_3 hZ (pc := 60) fl_X11_40 dX11_readClause_60 ?_
  refine z_bipush hZ (pc := 63) (v := 6) dX11_readClause_63 (by decide) ?_
  refine lMn_3 hZ (pc := 65) (q := 6) dX11_readClause_65 (by omega) ?_
  refine z_top hR6 ?_
  refine z_iconst hZ (pc := 66) (v := 4) dX11_readClause_66 (by decide) ?_
  refine z_icmp_eq hZ (pc := 67) (tgt := 87) dX11_readClause_67 rfl (fun c67 => ?_) (fun c67 => ?_)
  · skip
    have hlim : 4 ≤ d.R := by rw [(nI_eq (a := d.R) (b := 4) (by have := hK.2.2.2.1; omega) (by decide)).mp c67]; exact Nat.le_refl _
    refine z_aload_n hZ (pc := 87) dX11_readClause_87 rfl ?_
    refine z_iconst hZ (pc := 88) (v := 2) dX11_readClause_88 (by decide) ?_
    refine cV_v hZ (pc := 89) dX11_readClause_89 lk_X11_230 mn_X11_wrong mv_X11_wrong (c_X11_wrong hb) rc_M rfl rfl (Nat.le_of_ble_eq_true rfl) (by omega) (by decide) (Nat.zero_le _) (Nat.zero_le _) ?_
    have hbad := bad33 (v := v) (c := 2) (x := v 30) (by decide)
    refine z_aload_n hZ (pc := 92) dX11_readClause_92 rfl ?_
    refine gM_32 hZ (pc := 93) fl_X11_209 dX11_readClause_93 ?_
    refine z_if_eq hZ (pc := 96) (tgt := 100) dX11_readClause_96 rfl (fun c96 => absurd c96 hbad) (fun _ => ?_)
    refine zr_v hZ (pc := 99) dX11_readClause_99 ?_
    exact CMp_er (c := 2) (q := i) (pCl2_er (by rw [pClause, if_neg (show ¬ K i = 6 from by rw [hk]; decide), if_neg (show ¬ K i = -2 from by rw [hk]; decide), if_neg (show ¬ K i = 7 from by rw [hk]; decide), if_pos (show K i = 8 from hk), pRule, if_pos hlim])) ((FM.up (by omega)).trans (FM.up (by omega))) FH.rf (by rw [up_off (by decide), up_at]) (by rw [up_at]; exact h30)
  · skip
    have hlim : ¬ 4 ≤ d.R := fun z => c67 (by rw [show d.R = 4 by have := hK.2.2.2.1; omega]; rfl)
    refine z_iload_n hZ (pc := 70) dX11_readClause_70 rfl ?_
    refine z_iconst hZ (pc := 71) (v := 4) dX11_readClause_71 (by decide) ?_
    refine z_icmp_ne hZ (pc := 72) (tgt := 92) dX11_readClause_72 rfl (fun _ => ?_) (fun c72 => absurd c72 (by decide))
    refine z_aload_n hZ (pc := 92) dX11_readClause_92 rfl ?_
    refine gM_32 hZ (pc := 93) fl_X11_209 dX11_readClause_93 ?_
    refine z_if_eq hZ (pc := 96) (tgt := 100) dX11_readClause_96 rfl (fun c96 => ?_) (fun c96 => ?_)
    · skip
      refine z_aload_n hZ (pc := 100) dX11_readClause_100 rfl ?_
      refine cV hZ (pc := 101) dX11_readClause_101 lk_X11_233 mn_X11_stepOn mv_X11_stepOn (c_X11_stepOn (p := eNd t n (tokS t n i)) hM.h26 hM.2.1 eNd_le hn7 (by rw [h24]; exact hG.2.2)) rc_M rfl rfl (Nat.le_of_ble_eq_true rfl) (by omega) (by decide) (Nat.zero_le _) (Nat.zero_le _) ?_
      intro v1 g1 r h1
      obtain ⟨rfl, e1, f1, h1⟩ := h1
      subst g1
      have hM2 := hM.next hG.1 him f1 h1
      refine z_iload_n hZ (pc := 104) dX11_readClause_104 rfl ?_
      refine z_if_ne hZ (pc := 105) (tgt := 124) dX11_readClause_105 rfl (fun _ => ?_) (fun c105 => absurd c105 (by decide))
      refine z_iload_n hZ (pc := 124) dX11_readClause_124 rfl ?_
      refine z_iconst hZ (pc := 125) (v := 1) dX11_readClause_125 (by decide) ?_
      refine z_icmp_ne hZ (pc := 126) (tgt := 136) dX11_readClause_126 rfl (fun _ => ?_) (fun c126 => absurd c126 (by decide))
      refine z_iload_n hZ (pc := 136) dX11_readClause_136 rfl ?_
      refine z_iconst hZ (pc := 137) (v := 2) dX11_readClause_137 (by decide) ?_
      refine z_icmp_ne hZ (pc := 138) (tgt := 148) dX11_readClause_138 rfl (fun _ => ?_) (fun c138 => absurd c138 (by decide))
      refine z_bipush hZ (pc := 148) (v := 10) dX11_readClause_148 (by decide) ?_
      refine z_iload_n hZ (pc := 150) dX11_readClause_150 rfl ?_
      refine z_iconst hZ (pc := 151) (v := 3) dX11_readClause_151 (by decide) ?_
      refine z_icmp_ne hZ (pc := 152) (tgt := 165) dX11_readClause_152 rfl (fun c152 => absurd c152 (by decide)) (fun _ => ?_)
      refine z_aload_n hZ (pc := 155) dX11_readClause_155 rfl ?_
      refine gM_3 hZ (pc := 156) fl_X11_40 dX11_readClause_156 ?_
      refine z_bipush hZ (pc := 159) (v := 6) dX11_readClause_159 (by decide) ?_
      refine lMn_3 hZ (pc := 161) (q := 6) dX11_readClause_161 (by omega) ?_
      refine z_goto hZ (pc := 162) (tgt := 174) dX11_readClause_162 rfl ?_
      refine z_iadd hZ (pc := 174) dX11_readClause_174 ?_
      refine z_top (y := nI (10 + d.R)) (by rw [hR6]; exact nI_add 10 _) ?_
      refine q_istore_n_4_3 hZ (pc := 175) dX11_readClause_175 rfl ?_
      refine z_aload_n hZ (pc := 176) dX11_readClause_176 rfl ?_
      refine gM_8 hZ (pc := 177) fl_X11_57 dX11_readClause_177 ?_
      refine z_iload_n hZ (pc := 180) dX11_readClause_180 rfl ?_
      refine z_aload_n hZ (pc := 181) dX11_readClause_181 rfl ?_
      refine gM_35 hZ (pc := 182) fl_X11_236 dX11_readClause_182 ?_
      refine z_top hM2.cd ?_
      refine sMn_8 hZ (pc := 185) dX11_readClause_185 (by omega) ?_
      refine z_aload_n hZ (pc := 186) dX11_readClause_186 rfl ?_
      refine z_iconst hZ (pc := 187) (v := 0) dX11_readClause_187 (by decide) ?_
      refine cVY hY (pc := 188) dX11_readClause_188 lk_X11_252 mn_X11_readExpression mv_X11_readExpression (readEx_all hG hs1 5 0 (by decide) (by decide) _ _ (i + 1) L (hM2.fr rfl rfl)) rc_M rfl rfl (Nat.le_of_ble_eq_true rfl) (by omega) (by decide) (Nat.zero_le _) (Nat.zero_le _) (fun v2 g2 r h => ?_)
      obtain ⟨rfl, f3, f4, h⟩ := h
      rcases PR.cs (pP K N 35 (i + 1)) with ⟨c, q, hr⟩ | ⟨j, l, hr⟩
      · skip
        rw [show 6 * 5 + 5 = 35 from rfl, hr] at h
        have hpr := pP_prg (N := N) (TK_0 hG.1) 35 (i + 1) him
        rw [hr] at hpr
        have hbad := er_bad hpr h.1
        refine z_aload_n hZ (pc := 191) dX11_readClause_191 rfl ?_
        refine gM_9 hZ (pc := 192) fl_X11_60 dX11_readClause_192 ?_
        refine z_iload_n hZ (pc := 195) dX11_readClause_195 rfl ?_
        refine z_aload_n hZ (pc := 196) dX11_readClause_196 rfl ?_
        refine gM_35 hZ (pc := 197) fl_X11_236 dX11_readClause_197 ?_
        refine sMn_9 hZ (pc := 200) dX11_readClause_200 (by omega) ?_
        refine z_aload_n hZ (pc := 201) dX11_readClause_201 rfl ?_
        refine gM_3 hZ (pc := 202) fl_X11_40 dX11_readClause_202 ?_
        refine z_iload_n hZ (pc := 205) dX11_readClause_205 rfl ?_
        refine z_iconst hZ (pc := 206) (v := 3) dX11_readClause_206 (by decide) ?_
        refine z_iadd hZ (pc := 207) dX11_readClause_207 ?_
        refine z_top (y := 6) (by decide) ?_
        refine z_dup2 hZ (pc := 208) dX11_readClause_208 rfl rfl ?_
        refine lMn_3 hZ (pc := 209) (q := 6) dX11_readClause_209 (by omega) ?_
        refine z_iconst hZ (pc := 210) (v := 1) dX11_readClause_210 (by decide) ?_
        refine z_iadd hZ (pc := 211) dX11_readClause_211 ?_
        refine sMn_3 hZ (pc := 212) (q := 6) dX11_readClause_212 (by omega) ?_
        refine z_aload_n hZ (pc := 213) dX11_readClause_213 rfl ?_
        refine z_bipush hZ (pc := 214) (v := 59) dX11_readClause_214 (by decide) ?_
        refine cV_v hZ (pc := 216) dX11_readClause_216 lk_X11_249 mn_X11_mark mv_X11_mark (c_X11_mark_b hbad) rc_M rfl rfl (Nat.le_of_ble_eq_true rfl) (by omega) (by decide) (Nat.zero_le _) (Nat.zero_le _) ?_
        refine zr_v hZ (pc := 219) dX11_readClause_219 ?_
        exact CMp_er (pCl2_er (by rw [pClause, if_neg (show ¬ K i = 6 from by rw [hk]; decide), if_neg (show ¬ K i = -2 from by rw [hk]; decide), if_neg (show ¬ K i = 7 from by rw [hk]; decide), if_pos (show K i = 8 from hk), pRule, if_neg hlim, hr]; rfl)) (f1.fm.trans f3) ((((FH.rf.trans (FH.u8 (by omega))).trans f4.fh).trans (FH.u9 (by omega))).trans (FH.u3 (by decide))) h.1 h.2
      rw [show 6 * 5 + 5 = 35 from rfl, hr] at h
      have hM3 : MI t n m v2 g2 j (L ++ l.map trE) := h
      refine z_aload_n hZ (pc := 191) dX11_readClause_191 rfl ?_
      refine gM_9 hZ (pc := 192) fl_X11_60 dX11_readClause_192 ?_
      refine z_iload_n hZ (pc := 195) dX11_readClause_195 rfl ?_
      refine z_aload_n hZ (pc := 196) dX11_readClause_196 rfl ?_
      refine gM_35 hZ (pc := 197) fl_X11_236 dX11_readClause_197 ?_
      refine z_top hM3.cd ?_
      refine sMn_9 hZ (pc := 200) dX11_readClause_200 (by omega) ?_
      refine z_aload_n hZ (pc := 201) dX11_readClause_201 rfl ?_
      refine gM_3 hZ (pc := 202) fl_X11_40 dX11_readClause_202 ?_
      refine z_iload_n hZ (pc := 205) dX11_readClause_205 rfl ?_
      refine z_iconst hZ (pc := 206) (v := 3) dX11_readClause_206 (by decide) ?_
      refine z_iadd hZ (pc := 207) dX11_readClause_207 ?_
      refine z_top (y := 6) (by decide) ?_
      refine z_dup2 hZ (pc := 208) dX11_readClause_208 rfl rfl ?_
      refine lMn_3 hZ (pc := 209) (q := 6) dX11_readClause_209 (by omega) ?_
      refine z_iconst hZ (pc := 210) (v := 1) dX11_readClause_210 (by decide) ?_
      refine z_iadd hZ (pc := 211) dX11_readClause_211 ?_
      refine z_top (y := nI (d.R + 1)) (by show g2 3 6 + 1 = _; rw [show g2 3 = g 3 from f4.1 3 (by decide), hR6]; exact nI_1 _) ?_
      refine sMn_3 hZ (pc := 212) (q := 6) dX11_readClause_212 (by omega) ?_
      refine z_aload_n hZ (pc := 213) dX11_readClause_213 rfl ?_
      refine z_bipush hZ (pc := 214) (v := 59) dX11_readClause_214 (by decide) ?_
      refine cV hZ (pc := 216) dX11_readClause_216 lk_X11_249 mn_X11_mark mv_X11_mark (c_X11_mark (j := 0) hG (hM3.fr rfl rfl) (by decide)) rc_M rfl rfl (Nat.le_of_ble_eq_true rfl) (by omega) (by decide) (Nat.zero_le _) (Nat.zero_le _) ?_
      intro v9 g9 r h9
      obtain ⟨rfl, e9, h9⟩ := h9
      subst g9
      refine zr_v hZ (pc := 219) dX11_readClause_219 ?_
      have hcl : pClause K N b d i = .ok (j) (d.sR (d.R + 1) (upL d.rs d.R l)) := by rw [pClause, if_neg (show ¬ K i = 6 from by rw [hk]; decide), if_neg (show ¬ K i = -2 from by rw [hk]; decide), if_neg (show ¬ K i = 7 from by rw [hk]; decide), if_pos (show K i = 8 from hk), pRule, if_neg hlim, hr]; rfl
      rcases h9 with ⟨hk3, f9, hM9⟩ | ⟨hk3, e9⟩
      · exact CMp_ok (l := l.map trE) (pCl2_y hcl hk3) ((f1.fm.trans f3).trans f9) ((((FH.rf.trans (FH.u8 (by omega))).trans f4.fh).trans (FH.u9 (by omega))).trans (FH.u3 (by decide))) hM9 (hD.rule (Nat.not_le.mp hlim) (by rw [up_at, up_off (by decide), show g2 3 = g 3 from f4.1 3 (by decide)]) (by rw [up_off (by decide), up_off (by decide), show g2 8 = _ from f4.1 8 (by decide), up_at]) (by rw [up_off (by decide), up_at, show g2 9 = g 9 from f4.1 9 (by decide)]) (fun k h4 h7 => by rw [up_off (by omega), up_off (by omega), f4.1 k (by omega), up_off (by omega)]))
      · subst v9
        exact CMp_er (c := 1) (q := j) (pCl2_n hcl hk3) ((f1.fm.trans f3).trans ((FM.up (by omega)).trans (FM.up (by omega)))) ((((FH.rf.trans (FH.u8 (by omega))).trans f4.fh).trans (FH.u9 (by omega))).trans (FH.u3 (by decide))) (by rw [up_off (by decide), up_at]) (by rw [up_at]; exact hM3.2.2.2.2.1.1)
    · skip
      exact absurd hb c96
theorem c_X11_readClause_4 {l : Launch} {D : va_G} {cA : Nat → ClassId} {r : Nat} {a : Nat → Nat} {s0 s1 : Nat → Option Nat} {v : ZV} {g : ZG} {aK aV : Nat → Nat} {t : Nat → Int32} {n m i : Nat} {K N : Nat → Int32} {L : List Int32} {d : Dr} {Kl : Nat} {b : Bool} (hG : GM t n m K N) (hM : MI t n m v g i L) (hD : DrM d L g) (hK : DrK d) (hs0 : ∀ k, k < 5 → s0 k = some (aK (clN k))) (hs1 : ∀ k, k < 7 → s1 k = some (aK k)) (hN : ∀ j, j ≤ m → K j = 1 → 0 ≤ N j) (hKl : 80 ≤ Kl) (hk : K i = kcN (clN 4)) : MGY l D cA aK aV (WM r a cA s0 s1) yX11_readClause cX11_readClause 4 none Kl [(.ref r), .int (bI b)] v g ((CMp t n m v g L (pCl2 K N b d i))) := by
  refine MGY.of (by decide) rfl (Nat.le_of_ble_eq_true rfl) (by simp [Value.category]) (fun Z hY => ?_)
  have hZ := hY.toZR
  have h24 : g 24 = t := hM.1
  have hb : v 32 = 0 := hM.2.2.2.1
  have h30 : v 30 = nI (tokS t n i) := hM.2.2.2.2.1.1
  have h31 : v 31 = nI (eNd t n (tokS t n i)) := hM.2.2.2.2.1.2.2.1
  have h28 : v 28 = tcM t n (tokS t n i) := hM.2.2.2.2.1.2.2.2.1
  have h26 : v 26 = nI (eNd t n (tokS t n i)) := hM.2.2.2.2.1.2.1
  have hi : i ≤ m := hM.2.2.1
  have hn7 : n ≤ 700 := hG.2.1
  have htok : ¬ K i = 0 → tokS t n i < n := tok_in hG.1 hi
  have hm7 := hG.m7
  have him : i < m := TK_lt hG.1 hi (by rw [hk]; decide)
  have hP5 : g 3 5 = nI d.P := hD.2.1
  have hR6 : g 3 6 = nI d.R := hD.2.2.1
  have hA7 : g 3 7 = nI d.A := hD.2.2.2.1
  refine z_aload_n hZ (pc := 0) dX11_readClause_0 rfl ?_
  refine z_aload_n hZ (pc := 1) dX11_readClause_1 rfl ?_
  refine gM_0 hZ (pc := 2) fl_X11_19 dX11_readClause_2 ?_
  refine cVY hY (pc := 5) dX11_readClause_5 lk_X11_245 mn_X11_which mv_X11_which (c_X11_which_c hG hM hs0) rc_M rfl rfl (Nat.le_of_ble_eq_true rfl) (by omega) (by decide) (Nat.zero_le _) (Nat.zero_le _) (fun v2 g2 r h => ?_)
  obtain ⟨e1, e2, x, rfl, h⟩ := h
  subst v2
  subst g2
  have hx : x = 4 := wh_c h (k0 := 4) (by decide) hk
  subst hx
  refine q_istore_n_4_2 hZ (pc := 8) dX11_readClause_8 rfl ?_
  refine z_iload_n hZ (pc := 9) dX11_readClause_9 rfl ?_
  refine z_iconst hZ (pc := 10) (v := (-1)) dX11_readClause_10 (by decide) ?_
  refine z_icmp_ne hZ (pc := 11) (tgt := 22) dX11_readClause_11 rfl (fun _ => ?_) (fun c11 => absurd c11 (by decide))
  refine z_iload_n hZ (pc := 22) dX11_readClause_22 rfl ?_
  refine z_if_ne hZ (pc := 23) (tgt := 38) dX11_readClause_23 rfl (fun _ => ?_) (fun c23 => absurd c23 (by decide))
  refine z_iload_n hZ (pc := 38) dX11_readClause_38 rfl ?_
  refine z_iconst hZ (pc := 39) (v := 1) dX11_readClause_39 (by decide) ?_
  refine z_icmp_ne hZ (pc := 40) (tgt := 54) dX11_readClause_40 rfl (fun _ => ?_) (fun c40 => absurd c40 (by decide))
  refine z_iload_n hZ (pc := 54) dX11_readClause_54 rfl ?_
  refine z_iconst hZ (pc := 55) (v := 3) dX11_readClause_55 (by decide) ?_
  refine z_icmp_ne hZ (pc := 56) (tgt := 70) dX11_readClause_56 rfl (fun _ => ?_) (fun c56 => absurd c56 (by decide))
  refine z_iload_n hZ (pc := 70) dX11_readClause_70 rfl ?_
  refine z_iconst hZ (pc := 71) (v := 4) dX11_readClause_71 (by decide) ?_
  refine z_icmp_ne hZ (pc := 72) (tgt := 92) dX11_readClause_72 rfl (fun c72 => absurd c72 (by decide)) (fun _ => ?_)
  refine z_aload_n hZ (pc := 75) dX11_readClause_75 rfl ?_
  refine gM_3 hZ (pc := 76) fl_X11_40 dX11_readClause_76 ?_
  refine z_bipush hZ (pc := 79) (v := 7) dX11_readClause_79 (by decide) ?_
  refine lMn_3 hZ (pc := 81) (q := 7) dX11_readClause_81 (by omega) ?_
  refine z_top hA7 ?_
  refine z_bipush hZ (pc := 82) (v := 6) dX11_readClause_82 (by decide) ?_
  refine z_icmp_ne hZ (pc := 84) (tgt := 92) dX11_readClause_84 rfl (fun c84 => ?_) (fun c84 => ?_)
  · skip
    have hlim : ¬ 6 ≤ d.A := fun z => c84 (by rw [show d.A = 6 by have := hK.2.2.2.2; omega]; rfl)
    refine z_aload_n hZ (pc := 92) dX11_readClause_92 rfl ?_
    refine gM_32 hZ (pc := 93) fl_X11_209 dX11_readClause_93 ?_
    refine z_if_eq hZ (pc := 96) (tgt := 100) dX11_readClause_96 rfl (fun c96 => ?_) (fun c96 => ?_)
    · skip
      refine z_aload_n hZ (pc := 100) dX11_readClause_100 rfl ?_
      refine cV hZ (pc := 101) dX11_readClause_101 lk_X11_233 mn_X11_stepOn mv_X11_stepOn (c_X11_stepOn (p := eNd t n (tokS t n i)) hM.h26 hM.2.1 eNd_le hn7 (by rw [h24]; exact hG.2.2)) rc_M rfl rfl (Nat.le_of_ble_eq_true rfl) (by omega) (by decide) (Nat.zero_le _) (Nat.zero_le _) ?_
      intro v1 g1 r h1
      obtain ⟨rfl, e1, f1, h1⟩ := h1
      subst g1
      have hM2 := hM.next hG.1 him f1 h1
      refine z_iload_n hZ (pc := 104) dX11_readClause_104 rfl ?_
      refine z_if_ne hZ (pc := 105) (tgt := 124) dX11_readClause_105 rfl (fun _ => ?_) (fun c105 => absurd c105 (by decide))
      refine z_iload_n hZ (pc := 124) dX11_readClause_124 rfl ?_
      refine z_iconst hZ (pc := 125) (v := 1) dX11_readClause_125 (by decide) ?_
      refine z_icmp_ne hZ (pc := 126) (tgt := 136) dX11_readClause_126 rfl (fun _ => ?_) (fun c126 => absurd c126 (by decide))
      refine z_iload_n hZ (pc := 136) dX11_readClause_136 rfl ?_
      refine z_iconst hZ (pc := 137) (v := 2) dX11_readClause_137 (by decide) ?_
      refine z_icmp_ne hZ (pc := 138) (tgt := 148) dX11_readClause_138 rfl (fun _ => ?_) (fun c138 => absurd c138 (by decide))
      refine z_bipush hZ (pc := 148) (v := 10) dX11_readClause_148 (by decide) ?_
      refine z_iload_n hZ (pc := 150) dX11_readClause_150 rfl ?_
      refine z_iconst hZ (pc := 151) (v := 3) dX11_readClause_151 (by decide) ?_
      refine z_icmp_ne hZ (pc := 152) (tgt := 165) dX11_readClause_152 rfl (fun _ => ?_) (fun c152 => absurd c152 (by decide))
      refine z_iconst hZ (pc := 165) (v := 4) dX11_readClause_165 (by decide) ?_
      refine z_aload_n hZ (pc := 166) dX11_readClause_166 rfl ?_
      refine gM_3 hZ (pc := 167) fl_X11_40 dX11_readClause_167 ?_
      refine z_bipush hZ (pc := 170) (v := 7) dX11_readClause_170 (by decide) ?_
      refine lMn_3 hZ (pc := 172) (q := 7) dX11_readClause_172 (by omega) ?_
      refine z_iadd hZ (pc := 173) dX11_readClause_173 ?_
      refine z_iadd hZ (pc := 174) dX11_readClause_174 ?_
      refine z_top (y := nI (14 + d.A)) (by rw [hA7, show (4 : Int32) + nI d.A = nI (4 + d.A) from nI_add 4 _, show (10 : Int32) + nI (4 + d.A) = nI (10 + (4 + d.A)) from nI_add 10 _, show 10 + (4 + d.A) = 14 + d.A by omega]) ?_
      refine q_istore_n_4_3 hZ (pc := 175) dX11_readClause_175 rfl ?_
      refine z_aload_n hZ (pc := 176) dX11_readClause_176 rfl ?_
      refine gM_8 hZ (pc := 177) fl_X11_57 dX11_readClause_177 ?_
      refine z_iload_n hZ (pc := 180) dX11_readClause_180 rfl ?_
      refine z_aload_n hZ (pc := 181) dX11_readClause_181 rfl ?_
      refine gM_35 hZ (pc := 182) fl_X11_236 dX11_readClause_182 ?_
      refine z_top hM2.cd ?_
      refine sMn_8 hZ (pc := 185) dX11_readClause_185 (by omega) ?_
      refine z_aload_n hZ (pc := 186) dX11_readClause_186 rfl ?_
      refine z_iconst hZ (pc := 187) (v := 0) dX11_readClause_187 (by decide) ?_
      refine cVY hY (pc := 188) dX11_readClause_188 lk_X11_252 mn_X11_readExpression mv_X11_readExpression (readEx_all hG hs1 5 0 (by decide) (by decide) _ _ (i + 1) L (hM2.fr rfl rfl)) rc_M rfl rfl (Nat.le_of_ble_eq_true rfl) (by omega) (by decide) (Nat.zero_le _) (Nat.zero_le _) (fun v2 g2 r h => ?_)
      obtain ⟨rfl, f3, f4, h⟩ := h
      rcases PR.cs (pP K N 35 (i + 1)) with ⟨c, q, hr⟩ | ⟨j, l, hr⟩
      · skip
        rw [show 6 * 5 + 5 = 35 from rfl, hr] at h
        have hpr := pP_prg (N := N) (TK_0 hG.1) 35 (i + 1) him
        rw [hr] at hpr
        have hbad := er_bad hpr h.1
        refine z_aload_n hZ (pc := 191) dX11_readClause_191 rfl ?_
        refine gM_9 hZ (pc := 192) fl_X11_60 dX11_readClause_192 ?_
        refine z_iload_n hZ (pc := 195) dX11_readClause_195 rfl ?_
        refine z_aload_n hZ (pc := 196) dX11_readClause_196 rfl ?_
        refine gM_35 hZ (pc := 197) fl_X11_236 dX11_readClause_197 ?_
        refine sMn_9 hZ (pc := 200) dX11_readClause_200 (by omega) ?_
        refine z_aload_n hZ (pc := 201) dX11_readClause_201 rfl ?_
        refine gM_3 hZ (pc := 202) fl_X11_40 dX11_readClause_202 ?_
        refine z_iload_n hZ (pc := 205) dX11_readClause_205 rfl ?_
        refine z_iconst hZ (pc := 206) (v := 3) dX11_readClause_206 (by decide) ?_
        refine z_iadd hZ (pc := 207) dX11_readClause_207 ?_
        refine z_top (y := 7) (by decide) ?_
        refine z_dup2 hZ (pc := 208) dX11_readClause_208 rfl rfl ?_
        refine lMn_3 hZ (pc := 209) (q := 7) dX11_readClause_209 (by omega) ?_
        refine z_iconst hZ (pc := 210) (v := 1) dX11_readClause_210 (by decide) ?_
        refine z_iadd hZ (pc := 211) dX11_readClause_211 ?_
        refine sMn_3 hZ (pc := 212) (q := 7) dX11_readClause_212 (by omega) ?_
        refine z_aload_n hZ (pc := 213) dX11_readClause_213 rfl ?_
        refine z_bipush hZ (pc := 214) (v := 59) dX11_readClause_214 (by decide) ?_
        refine cV_v hZ (pc := 216) dX11_readClause_216 lk_X11_249 mn_X11_mark mv_X11_mark (c_X11_mark_b hbad) rc_M rfl rfl (Nat.le_of_ble_eq_true rfl) (by omega) (by decide) (Nat.zero_le _) (Nat.zero_le _) ?_
        refine zr_v hZ (pc := 219) dX11_readClause_219 ?_
        exact CMp_er (pCl2_er (by rw [pClause, if_neg (show ¬ K i = 6 from by rw [hk]; decide), if_neg (show ¬ K i = -2 from by rw [hk]; decide), if_neg (show ¬ K i = 7 from by rw [hk]; decide), if_neg (show ¬ K i = 8 from by rw [hk]; decide), if_pos (show K i = 9 from hk), pAsk, if_neg hlim, hr]; rfl)) (f1.fm.trans f3) ((((FH.rf.trans (FH.u8 (by omega))).trans f4.fh).trans (FH.u9 (by omega))).trans (FH.u3 (by decide))) h.1 h.2
      rw [show 6 * 5 + 5 = 35 from rfl, hr] at h
      have hM3 : MI t n m v2 g2 j (L ++ l.map trE) := h
      refine z_aload_n hZ (pc := 191) dX11_readClause_191 rfl ?_
      refine gM_9 hZ (pc := 192) fl_X11_60 dX11_readClause_192 ?_
      refine z_iload_n hZ (pc := 195) dX11_readClause_195 rfl ?_
      refine z_aload_n hZ (pc := 196) dX11_readClause_196 rfl ?_
      refine gM_35 hZ (pc := 197) fl_X11_236 dX11_readClause_197 ?_
      refine z_top hM3.cd ?_
      refine sMn_9 hZ (pc := 200) dX11_readClause_200 (by omega) ?_
      refine z_aload_n hZ (pc := 201) dX11_readClause_201 rfl ?_
      refine gM_3 hZ (pc := 202) fl_X11_40 dX11_readClause_202 ?_
      refine z_iload_n hZ (pc := 205) dX11_readClause_205 rfl ?_
      refine z_iconst hZ (pc := 206) (v := 3) dX11_readClause_206 (by decide) ?_
      refine z_iadd hZ (pc := 207) dX11_readClause_207 ?_
      refine z_top (y := 7) (by decide) ?_
      refine z_dup2 hZ (pc := 208) dX11_readClause_208 rfl rfl ?_
      refine lMn_3 hZ (pc := 209) (q := 7) dX11_readClause_209 (by omega) ?_
      refine z_iconst hZ (pc := 210) (v := 1) dX11_readClause_210 (by decide) ?_
      refine z_iadd hZ (pc := 211) dX11_readClause_211 ?_
      refine z_top (y := nI (d.A + 1)) (by show g2 3 7 + 1 = _; rw [show g2 3 = g 3 from f4.1 3 (by decide), hA7]; exact nI_1 _) ?_
      refine sMn_3 hZ (pc := 212) (q := 7) dX11_readClause_212 (by omega) ?_
      refine z_aload_n hZ (pc := 213) dX11_readClause_213 rfl ?_
      refine z_bipush hZ (pc := 214) (v := 59) dX11_readClause_214 (by decide) ?_
      refine cV hZ (pc := 216) dX11_readClause_216 lk_X11_249 mn_X11_mark mv_X11_mark (c_X11_mark (j := 0) hG (hM3.fr rfl rfl) (by decide)) rc_M rfl rfl (Nat.le_of_ble_eq_true rfl) (by omega) (by decide) (Nat.zero_le _) (Nat.zero_le _) ?_
      intro v9 g9 r h9
      obtain ⟨rfl, e9, h9⟩ := h9
      subst g9
      refine zr_v hZ (pc := 219) dX11_readClause_219 ?_
      have hcl : pClause K N b d i = .ok (j) (d.sA (d.A + 1) (upL d.as d.A l)) := by rw [pClause, if_neg (show ¬ K i = 6 from by rw [hk]; decide), if_neg (show ¬ K i = -2 from by rw [hk]; decide), if_neg (show ¬ K i = 7 from by rw [hk]; decide), if_neg (show ¬ K i = 8 from by rw [hk]; decide), if_pos (show K i = 9 from hk), pAsk, if_neg hlim, hr]; rfl
      rcases h9 with ⟨hk3, f9, hM9⟩ | ⟨hk3, e9⟩
      · exact CMp_ok (l := l.map trE) (pCl2_y hcl hk3) ((f1.fm.trans f3).trans f9) ((((FH.rf.trans (FH.u8 (by omega))).trans f4.fh).trans (FH.u9 (by omega))).trans (FH.u3 (by decide))) hM9 (hD.ask hK.2.2.2.1 (by rw [up_at, up_off (by decide), show g2 3 = g 3 from f4.1 3 (by decide)]) (by rw [up_off (by decide), up_off (by decide), show g2 8 = _ from f4.1 8 (by decide), up_at]) (by rw [up_off (by decide), up_at, show g2 9 = g 9 from f4.1 9 (by decide)]) (fun k h4 h7 => by rw [up_off (by omega), up_off (by omega), f4.1 k (by omega), up_off (by omega)]))
      · subst v9
        exact CMp_er (c := 1) (q := j) (pCl2_n hcl hk3) ((f1.fm.trans f3).trans ((FM.up (by omega)).trans (FM.up (by omega)))) ((((FH.rf.trans (FH.u8 (by omega))).trans f4.fh).trans (FH.u9 (by omega))).trans (FH.u3 (by decide))) (by rw [up_off (by decide), up_at]) (by rw [up_at]; exact hM3.2.2.2.2.1.1)
    · skip
      exact absurd hb c96
  · skip
    have hlim : 6 ≤ d.A := by rw [(nI_eq (a := d.A) (b := 6) (by have := hK.2.2.2.2; omega) (by decide)).mp c84]; exact Nat.le_refl _
    refine z_aload_n hZ (pc := 87) dX11_readClause_87 rfl ?_
    refine z_iconst hZ (pc := 88) (v := 2) dX11_readClause_88 (by decide) ?_
    refine cV_v hZ (pc := 89) dX11_readClause_89 lk_X11_230 mn_X11_wrong mv_X11_wrong (c_X11_wrong hb) rc_M rfl rfl (Nat.le_of_ble_eq_true rfl) (by omega) (by decide) (Nat.zero_le _) (Nat.zero_le _) ?_
    have hbad := bad33 (v := v) (c := 2) (x := v 30) (by decide)
    refine z_aload_n hZ (pc := 92) dX11_readClause_92 rfl ?_
    refine gM_32 hZ (pc := 93) fl_X11_209 dX11_readClause_93 ?_
    refine z_if_eq hZ (pc := 96) (tgt := 100) dX11_readClause_96 rfl (fun c96 => absurd c96 hbad) (fun _ => ?_)
    refine zr_v hZ (pc := 99) dX11_readClause_99 ?_
    exact CMp_er (c := 2) (q := i) (pCl2_er (by rw [pClause, if_neg (show ¬ K i = 6 from by rw [hk]; decide), if_neg (show ¬ K i = -2 from by rw [hk]; decide), if_neg (show ¬ K i = 7 from by rw [hk]; decide), if_neg (show ¬ K i = 8 from by rw [hk]; decide), if_pos (show K i = 9 from hk), pAsk, if_pos hlim])) ((FM.up (by omega)).trans (FM.up (by omega))) FH.rf (by rw [up_off (by decide), up_at]) (by rw [up_at]; exact h30)
theorem c_X11_readClause_n {l : Launch} {D : va_G} {cA : Nat → ClassId} {r : Nat} {a : Nat → Nat} {s0 s1 : Nat → Option Nat} {v : ZV} {g : ZG} {aK aV : Nat → Nat} {t : Nat → Int32} {n m i : Nat} {K N : Nat → Int32} {L : List Int32} {d : Dr} {Kl : Nat} {b : Bool} (hG : GM t n m K N) (hM : MI t n m v g i L) (hD : DrM d L g) (hK : DrK d) (hs0 : ∀ k, k < 5 → s0 k = some (aK (clN k))) (hs1 : ∀ k, k < 7 → s1 k = some (aK k)) (hN : ∀ j, j ≤ m → K j = 1 → 0 ≤ N j) (hKl : 80 ≤ Kl) (hk : ∀ k, k < 5 → ¬ K i = kcN (clN k)) : MGY l D cA aK aV (WM r a cA s0 s1) yX11_readClause cX11_readClause 4 none Kl [(.ref r), .int (bI b)] v g ((CMp t n m v g L (pCl2 K N b d i))) := by
  refine MGY.of (by decide) rfl (Nat.le_of_ble_eq_true rfl) (by simp [Value.category]) (fun Z hY => ?_)
  have hZ := hY.toZR
  have h24 : g 24 = t := hM.1
  have hb : v 32 = 0 := hM.2.2.2.1
  have h30 : v 30 = nI (tokS t n i) := hM.2.2.2.2.1.1
  have h31 : v 31 = nI (eNd t n (tokS t n i)) := hM.2.2.2.2.1.2.2.1
  have h28 : v 28 = tcM t n (tokS t n i) := hM.2.2.2.2.1.2.2.2.1
  have h26 : v 26 = nI (eNd t n (tokS t n i)) := hM.2.2.2.2.1.2.1
  have hi : i ≤ m := hM.2.2.1
  have hn7 : n ≤ 700 := hG.2.1
  have htok : ¬ K i = 0 → tokS t n i < n := tok_in hG.1 hi
  refine z_aload_n hZ (pc := 0) dX11_readClause_0 rfl ?_
  refine z_aload_n hZ (pc := 1) dX11_readClause_1 rfl ?_
  refine gM_0 hZ (pc := 2) fl_X11_19 dX11_readClause_2 ?_
  refine cVY hY (pc := 5) dX11_readClause_5 lk_X11_245 mn_X11_which mv_X11_which (c_X11_which_c hG hM hs0) rc_M rfl rfl (Nat.le_of_ble_eq_true rfl) (by omega) (by decide) (Nat.zero_le _) (Nat.zero_le _) (fun v2 g2 r h => ?_)
  obtain ⟨e1, e2, x, rfl, h⟩ := h
  subst v2
  subst g2
  have hx : x = -1 := wh_n h hk
  subst hx
  refine q_istore_n_4_2 hZ (pc := 8) dX11_readClause_8 rfl ?_
  refine z_iload_n hZ (pc := 9) dX11_readClause_9 rfl ?_
  refine z_iconst hZ (pc := 10) (v := (-1)) dX11_readClause_10 (by decide) ?_
  refine z_icmp_ne hZ (pc := 11) (tgt := 22) dX11_readClause_11 rfl (fun c11 => absurd c11 (by decide)) (fun _ => ?_)
  skip
  refine z_aload_n hZ (pc := 14) dX11_readClause_14 rfl ?_
  refine z_iconst hZ (pc := 15) (v := 1) dX11_readClause_15 (by decide) ?_
  refine cV_v hZ (pc := 16) dX11_readClause_16 lk_X11_230 mn_X11_wrong mv_X11_wrong (c_X11_wrong hb) rc_M rfl rfl (Nat.le_of_ble_eq_true rfl) (by omega) (by decide) (Nat.zero_le _) (Nat.zero_le _) ?_
  have hbad := bad33 (v := v) (c := 1) (x := v 30) (by decide)
  refine z_goto hZ (pc := 19) (tgt := 92) dX11_readClause_19 rfl ?_
  refine z_aload_n hZ (pc := 92) dX11_readClause_92 rfl ?_
  refine gM_32 hZ (pc := 93) fl_X11_209 dX11_readClause_93 ?_
  refine z_if_eq hZ (pc := 96) (tgt := 100) dX11_readClause_96 rfl (fun c96 => absurd c96 hbad) (fun _ => ?_)
  refine zr_v hZ (pc := 99) dX11_readClause_99 ?_
  exact CMp_er (c := 1) (q := i) (pCl2_er (by rw [pClause, if_neg (show ¬ K i = 6 from hk 0 (by decide)), if_neg (show ¬ K i = -2 from hk 1 (by decide)), if_neg (show ¬ K i = 7 from hk 2 (by decide)), if_neg (show ¬ K i = 8 from hk 3 (by decide)), if_neg (show ¬ K i = 9 from hk 4 (by decide))])) ((FM.up (by omega)).trans (FM.up (by omega))) FH.rf (by rw [up_off (by decide), up_at]) (by rw [up_at]; exact h30)
