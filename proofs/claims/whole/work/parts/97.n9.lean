theorem nar0 : vp_nar .boolean 0 = 0 := by decide
theorem nI_16 (P : Nat) : 16 + nI P = nI (16 + P) := nI_add 16 P
theorem nI_h (x y : Nat) : 100 + 10 * nI x + nI y = nI (100 + (10 * x + y)) := by
  rw [show (10 : Int32) = nI 10 from rfl, show (100 : Int32) = nI 100 from rfl, show nI 10 * nI x = nI (10 * x) from (Int32.ofNat_mul 10 x).symm, nI_add, nI_add, Nat.add_assoc]
theorem c_X11_readPerson {l : Launch} {D : va_G} {cA : Nat → ClassId} {r : Nat} {a : Nat → Nat} {s0 s1 : Nat → Option Nat} {v : ZV} {g : ZG} {aK aV : Nat → Nat} {t : Nat → Int32} {n m i : Nat} {K N : Nat → Int32} {L : List Int32} {d : Dr} {i0 Kl : Nat} (hG : GM t n m K N) (hM : MI t n m v g i L) (hD : DrM d L g) (hK : DrK d) (hi0 : i = i0 + 1) (hP6 : ¬ 16 ≤ d.P) (hKl : 20 ≤ Kl) : MGY l D cA aK aV (WM r a cA s0 s1) yX11_readPerson cX11_readPerson 2 none Kl [(.ref r)] v g ((CMp t n m v g L (pPerson K N d i0))) := by
  refine MGY.of (by decide) rfl (Nat.le_of_ble_eq_true rfl) (by simp [Value.category]) (fun Z hY => ?_)
  have hZ := hY.toZR
  have h24 : g 24 = t := hM.1
  have hb : v 32 = 0 := hM.2.2.2.1
  have h30 : v 30 = nI (tokS t n i) := hM.2.2.2.2.1.1
  have h31 : v 31 = nI (eNd t n (tokS t n i)) := hM.2.2.2.2.1.2.2.1
  have h28 : v 28 = tcM t n (tokS t n i) := hM.2.2.2.2.1.2.2.2.1
  have h26 : v 26 = nI (eNd t n (tokS t n i)) := hM.2.2.2.2.1.2.1
  have hi : i ≤ m := hM.2.2.1
  have hn7 : n ≤ 700 := hG.2.1
  have htok : ¬ K i = 0 → tokS t n i < n := tok_in hG.1 hi
  have hm7 := hG.m7
  have hP5 : g 3 5 = nI d.P := hD.2.1
  have hH4 : g 3 4 = d.H := hD.1
  have hn24 : ∀ (x y : Nat → Int32), (va_up (va_up g 4 x) 5 y) 24 = g 24 := fun x y => rfl
  refine z_bipush hZ (pc := 0) (v := 16) dX11_readPerson_0 (by decide) ?_
  refine z_aload_n hZ (pc := 2) dX11_readPerson_2 rfl ?_
  refine gM_3 hZ (pc := 3) fl_X11_40 dX11_readPerson_3 ?_
  refine z_iconst hZ (pc := 6) (v := 5) dX11_readPerson_6 (by decide) ?_
  refine lMn_3 hZ (pc := 7) (q := 5) dX11_readPerson_7 (by omega) ?_
  refine z_iadd hZ (pc := 8) dX11_readPerson_8 ?_
  refine z_top (y := nI (16 + d.P)) (by rw [hP5]; exact nI_16 _) ?_
  refine q_istore_n_2_1 hZ (pc := 9) dX11_readPerson_9 rfl ?_
  refine z_aload_n hZ (pc := 10) dX11_readPerson_10 rfl ?_
  refine gM_4 hZ (pc := 11) fl_X11_44 dX11_readPerson_11 ?_
  refine z_iload_n hZ (pc := 14) dX11_readPerson_14 rfl ?_
  refine z_aload_n hZ (pc := 15) dX11_readPerson_15 rfl ?_
  refine z_iconst hZ (pc := 16) (v := (-1)) dX11_readPerson_16 (by decide) ?_
  refine cV hZ (pc := 17) dX11_readPerson_17 lk_X11_276 mn_X11_readHouse mv_X11_readHouse (c_X11_readHouse (p := -1) hG hM (by rw [hH4]; exact hK.2.1)) rc_M rfl rfl (Nat.le_of_ble_eq_true rfl) (by omega) (by decide) (Nat.zero_le _) (Nat.zero_le _) ?_
  intro v2 g2 r h
  obtain ⟨e2, x, rfl, h⟩ := h
  subst g2
  rw [hH4] at h
  rcases h.symm with ⟨hc, e1⟩ | ⟨hc, hx, f1, hM2⟩
  · skip
    subst v2
    have hbad := bad33 (v := v) (x := v 30) hc
    refine sMn_4 hZ (pc := 20) dX11_readPerson_20 (by omega) ?_
    refine z_aload_n hZ (pc := 21) dX11_readPerson_21 rfl ?_
    refine gM_5 hZ (pc := 22) fl_X11_47 dX11_readPerson_22 ?_
    refine z_iload_n hZ (pc := 25) dX11_readPerson_25 rfl ?_
    refine z_bipush hZ (pc := 26) (v := 100) dX11_readPerson_26 (by decide) ?_
    refine sMn_5 hZ (pc := 28) dX11_readPerson_28 (by omega) ?_
    refine z_aload_n hZ (pc := 29) dX11_readPerson_29 rfl ?_
    refine z_ldcwS hY (pc := 30) (tx := "chance") (q := aK 14) (fun _ _ _ h => h.2.2.1 ("TearsPostModel", 279, "chance", 14) (List.mem_of_getElem? (i := 29) (by decide +kernel))) dX11_readPerson_30 ?_
    refine cV_i hZ (pc := 33) dX11_readPerson_33 lk_X11_223 mn_X11_is mv_X11_is (c_X11_is_b hbad) rc_M rfl rfl (Nat.le_of_ble_eq_true rfl) (by omega) (by decide) (Nat.zero_le _) (Nat.zero_le _) ?_
    refine z_if_eq hZ (pc := 36) (tgt := 57) dX11_readPerson_36 rfl (fun _ => ?_) (fun c36 => absurd c36 (by decide))
    refine z_aload_n hZ (pc := 57) dX11_readPerson_57 rfl ?_
    refine gM_7 hZ (pc := 58) fl_X11_53 dX11_readPerson_58 ?_
    refine z_iload_n hZ (pc := 61) dX11_readPerson_61 rfl ?_
    refine z_aload_n hZ (pc := 62) dX11_readPerson_62 rfl ?_
    refine z_ldcS hY (pc := 63) (tx := "hired") (q := aK 3) (fun _ _ _ h => h.2.2.1 ("TearsPostModel", 29, "hired", 3) (List.mem_of_getElem? (i := 18) (by decide +kernel))) dX11_readPerson_63 ?_
    refine cV_i hZ (pc := 65) dX11_readPerson_65 lk_X11_223 mn_X11_is mv_X11_is (c_X11_is_b hbad) rc_M rfl rfl (Nat.le_of_ble_eq_true rfl) (by omega) (by decide) (Nat.zero_le _) (Nat.zero_le _) ?_
    refine sMn_7 hZ (pc := 68) dX11_readPerson_68 (by omega) nar0 ?_
    refine z_aload_n hZ (pc := 69) dX11_readPerson_69 rfl ?_
    refine gM_7 hZ (pc := 70) fl_X11_53 dX11_readPerson_70 ?_
    refine z_iload_n hZ (pc := 73) dX11_readPerson_73 rfl ?_
    refine lMn_7 hZ (pc := 74) dX11_readPerson_74 (by omega) ?_
    refine z_top (y := 0) (by rw [up_at, upd_at]) ?_
    refine z_if_eq hZ (pc := 75) (tgt := 82) dX11_readPerson_75 rfl (fun _ => ?_) (fun c75 => absurd c75 (by decide))
    refine z_aload_n hZ (pc := 82) dX11_readPerson_82 rfl ?_
    refine gM_3 hZ (pc := 83) fl_X11_40 dX11_readPerson_83 ?_
    refine z_iconst hZ (pc := 86) (v := 5) dX11_readPerson_86 (by decide) ?_
    refine z_dup2 hZ (pc := 87) dX11_readPerson_87 rfl rfl ?_
    refine lMn_3 hZ (pc := 88) (q := 5) dX11_readPerson_88 (by omega) ?_
    refine z_iconst hZ (pc := 89) (v := 1) dX11_readPerson_89 (by decide) ?_
    refine z_iadd hZ (pc := 90) dX11_readPerson_90 ?_
    refine sMn_3 hZ (pc := 91) (q := 5) dX11_readPerson_91 (by omega) ?_
    refine zr_v hZ (pc := 92) dX11_readPerson_92 ?_
    exact CMp_er (c := thC (K i) (N i) d.H (-1)) (q := i) (by rw [pPerson, if_neg hP6, ← hi0, if_pos hc]) ((FM.up (by omega)).trans (FM.up (by omega))) ((((FH.rf.trans (FH.u4 (by omega))).trans (FH.u5 (by omega))).trans (FH.u7 (by omega))).trans (FH.u3 (by omega))) (by rw [up_off (by decide), up_at]) (by rw [up_at]; exact h30)
  subst hx
  refine sMn_4 hZ (pc := 20) dX11_readPerson_20 (by omega) ?_
  refine z_aload_n hZ (pc := 21) dX11_readPerson_21 rfl ?_
  refine gM_5 hZ (pc := 22) fl_X11_47 dX11_readPerson_22 ?_
  refine z_iload_n hZ (pc := 25) dX11_readPerson_25 rfl ?_
  refine z_bipush hZ (pc := 26) (v := 100) dX11_readPerson_26 (by decide) ?_
  refine sMn_5 hZ (pc := 28) dX11_readPerson_28 (by omega) ?_
  refine z_aload_n hZ (pc := 29) dX11_readPerson_29 rfl ?_
  refine z_ldcwS hY (pc := 30) (tx := "chance") (q := aK 14) (fun _ _ _ h => h.2.2.1 ("TearsPostModel", 279, "chance", 14) (List.mem_of_getElem? (i := 29) (by decide +kernel))) dX11_readPerson_30 ?_
  refine cVY hY (pc := 33) dX11_readPerson_33 lk_X11_223 mn_X11_is mv_X11_is (c_X11_is (j := 14) hG (hM2.fr rfl rfl) (by decide)) rc_M rfl rfl (Nat.le_of_ble_eq_true rfl) (by omega) (by decide) (Nat.zero_le _) (Nat.zero_le _) (fun v2 g2 r h => ?_)
  obtain ⟨e1, e2, rfl⟩ := h
  subst v2
  subst g2
  refine z_if_eq hZ (pc := 36) (tgt := 57) dX11_readPerson_36 rfl (fun c36 => ?_) (fun c36 => ?_)
  · skip
    refine z_aload_n hZ (pc := 57) dX11_readPerson_57 rfl ?_
    refine gM_7 hZ (pc := 58) fl_X11_53 dX11_readPerson_58 ?_
    refine z_iload_n hZ (pc := 61) dX11_readPerson_61 rfl ?_
    refine z_aload_n hZ (pc := 62) dX11_readPerson_62 rfl ?_
    refine z_ldcS hY (pc := 63) (tx := "hired") (q := aK 3) (fun _ _ _ h => h.2.2.1 ("TearsPostModel", 29, "hired", 3) (List.mem_of_getElem? (i := 18) (by decide +kernel))) dX11_readPerson_63 ?_
    refine cVY hY (pc := 65) dX11_readPerson_65 lk_X11_223 mn_X11_is mv_X11_is (c_X11_is (j := 3) hG (hM2.fr rfl rfl) (by decide)) rc_M rfl rfl (Nat.le_of_ble_eq_true rfl) (by omega) (by decide) (Nat.zero_le _) (Nat.zero_le _) (fun v2 g2 r h => ?_)
    obtain ⟨e1, e2, rfl⟩ := h
    subst v2
    subst g2
    refine sMn_7 hZ (pc := 68) dX11_readPerson_68 (by omega) (nar_bI _) ?_
    refine z_aload_n hZ (pc := 69) dX11_readPerson_69 rfl ?_
    refine gM_7 hZ (pc := 70) fl_X11_53 dX11_readPerson_70 ?_
    refine z_iload_n hZ (pc := 73) dX11_readPerson_73 rfl ?_
    refine lMn_7 hZ (pc := 74) dX11_readPerson_74 (by omega) ?_
    refine z_top (y := bI (decide (K (i + 1) = kcN 3))) (by rw [up_at, upd_at]) ?_
    refine z_if_eq hZ (pc := 75) (tgt := 82) dX11_readPerson_75 rfl (fun c75 => ?_) (fun c75 => ?_)
    · skip
      refine z_aload_n hZ (pc := 82) dX11_readPerson_82 rfl ?_
      refine gM_3 hZ (pc := 83) fl_X11_40 dX11_readPerson_83 ?_
      refine z_iconst hZ (pc := 86) (v := 5) dX11_readPerson_86 (by decide) ?_
      refine z_dup2 hZ (pc := 87) dX11_readPerson_87 rfl rfl ?_
      refine lMn_3 hZ (pc := 88) (q := 5) dX11_readPerson_88 (by omega) ?_
      refine z_iconst hZ (pc := 89) (v := 1) dX11_readPerson_89 (by decide) ?_
      refine z_iadd hZ (pc := 90) dX11_readPerson_90 ?_
      refine z_top (y := nI (d.P + 1)) (by show g 3 5 + 1 = _; rw [hP5]; exact nI_1 _) ?_
      refine sMn_3 hZ (pc := 91) (q := 5) dX11_readPerson_91 (by omega) ?_
      refine zr_v hZ (pc := 92) dX11_readPerson_92 ?_
      have hb9 : bI (decide (K (i + 1) = kcN 3)) = 0 := by rw [decide_eq_false (bD0 c75)]; rfl
      rw [hb9]
      exact CMp_ok (l := []) (j := i + 1) (by rw [pPerson, if_neg hP6, ← hi0, if_neg (fun z => z hc), show i0 + 2 = i + 1 by omega, if_neg (show ¬ K (i + 1) = 10 from bD0 c36), pHired, if_neg (show ¬ K (i + 1) = -4 from bD0 c75)]) f1 ((((FH.rf.trans (FH.u4 (by omega))).trans (FH.u5 (by omega))).trans (FH.u7 (by omega))).trans (FH.u3 (by omega))) (by rw [List.append_nil]; exact (hM2).fr rfl rfl) (by rw [List.append_nil]; exact DrM.person hD rfl rfl (fun p hp => by show upd (g 5) (16 + d.P) _ (16 + p) = g 5 (16 + p); rw [upd_off (by omega)]) (by show upd (g 5) (16 + d.P) _ (16 + d.P) = _; rw [upd_at]) rfl rfl rfl rfl)
    · skip
      have him2 : i + 1 < m := TK_lt hG.1 hM2.2.2.1 (by rw [show K (i + 1) = -4 from bD1 c75]; decide)
      refine z_aload_n hZ (pc := 78) dX11_readPerson_78 rfl ?_
      refine cV hZ (pc := 79) dX11_readPerson_79 lk_X11_233 mn_X11_stepOn mv_X11_stepOn (c_X11_stepOn (p := eNd t n (tokS t n (i + 1))) hM2.h26 hM2.2.1 eNd_le hn7 (fun q hq => show 0 ≤ g 24 q from by rw [h24]; exact hG.2.2 q hq)) rc_M rfl rfl (Nat.le_of_ble_eq_true rfl) (by omega) (by decide) (Nat.zero_le _) (Nat.zero_le _) ?_
      intro v5 g5 r h
      obtain ⟨rfl, e5, f5, h⟩ := h
      subst g5
      have hM5 := (hM2.fr rfl rfl).next hG.1 him2 f5 h
      refine z_aload_n hZ (pc := 82) dX11_readPerson_82 rfl ?_
      refine gM_3 hZ (pc := 83) fl_X11_40 dX11_readPerson_83 ?_
      refine z_iconst hZ (pc := 86) (v := 5) dX11_readPerson_86 (by decide) ?_
      refine z_dup2 hZ (pc := 87) dX11_readPerson_87 rfl rfl ?_
      refine lMn_3 hZ (pc := 88) (q := 5) dX11_readPerson_88 (by omega) ?_
      refine z_iconst hZ (pc := 89) (v := 1) dX11_readPerson_89 (by decide) ?_
      refine z_iadd hZ (pc := 90) dX11_readPerson_90 ?_
      refine z_top (y := nI (d.P + 1)) (by show g 3 5 + 1 = _; rw [hP5]; exact nI_1 _) ?_
      refine sMn_3 hZ (pc := 91) (q := 5) dX11_readPerson_91 (by omega) ?_
      refine zr_v hZ (pc := 92) dX11_readPerson_92 ?_
      have hb9 : bI (decide (K (i + 1) = kcN 3)) = 1 := by rw [decide_eq_true (bD1 c75)]; rfl
      rw [hb9]
      exact CMp_ok (l := []) (j := i + 1 + 1) (by rw [pPerson, if_neg hP6, ← hi0, if_neg (fun z => z hc), show i0 + 2 = i + 1 by omega, if_neg (show ¬ K (i + 1) = 10 from bD0 c36), pHired, if_pos (show K (i + 1) = -4 from bD1 c75)]) (f1.trans f5.fm) ((((FH.rf.trans (FH.u4 (by omega))).trans (FH.u5 (by omega))).trans (FH.u7 (by omega))).trans (FH.u3 (by omega))) (by rw [List.append_nil]; exact (hM5).fr rfl rfl) (by rw [List.append_nil]; exact DrM.person hD rfl rfl (fun p hp => by show upd (g 5) (16 + d.P) _ (16 + p) = g 5 (16 + p); rw [upd_off (by omega)]) (by show upd (g 5) (16 + d.P) _ (16 + d.P) = _; rw [upd_at]) rfl rfl rfl rfl)
  · skip
    have him : i + 1 < m := TK_lt hG.1 hM2.2.2.1 (by rw [show K (i + 1) = 10 from bD1 c36]; decide)
    refine z_aload_n hZ (pc := 39) dX11_readPerson_39 rfl ?_
    refine cV hZ (pc := 40) dX11_readPerson_40 lk_X11_233 mn_X11_stepOn mv_X11_stepOn (c_X11_stepOn (p := eNd t n (tokS t n (i + 1))) hM2.h26 hM2.2.1 eNd_le hn7 (fun q hq => show 0 ≤ g 24 q from by rw [h24]; exact hG.2.2 q hq)) rc_M rfl rfl (Nat.le_of_ble_eq_true rfl) (by omega) (by decide) (Nat.zero_le _) (Nat.zero_le _) ?_
    intro v3 g3 r h
    obtain ⟨rfl, e3, f3, h⟩ := h
    subst g3
    have hM3 := (hM2.fr (g2 := va_up (va_up g 4 (upd (g 4) (16 + d.P) (N i))) 5 (upd (g 5) (16 + d.P) 100)) rfl rfl).next hG.1 him f3 h
    refine z_aload_n hZ (pc := 43) dX11_readPerson_43 rfl ?_
    refine gM_5 hZ (pc := 44) fl_X11_47 dX11_readPerson_44 ?_
    refine z_iload_n hZ (pc := 47) dX11_readPerson_47 rfl ?_
    refine z_aload_n hZ (pc := 48) dX11_readPerson_48 rfl ?_
    refine z_iconst hZ (pc := 49) (v := 0) dX11_readPerson_49 (by decide) ?_
    refine z_sipush hZ (pc := 50) (v := 1000) dX11_readPerson_50 (by decide) ?_
    refine cV hZ (pc := 53) dX11_readPerson_53 lk_X11_239 mn_X11_readNumber mv_X11_readNumber (c_X11_readNumber (p := 0) (q := 1000) hG hM3 (by decide)) rc_M rfl rfl (Nat.le_of_ble_eq_true rfl) (by omega) (by decide) (Nat.zero_le _) (Nat.zero_le _) ?_
    intro v4 g4 r h
    obtain ⟨e4, y, rfl, h⟩ := h
    subst g4
    rcases h.symm with ⟨hc2, e1⟩ | ⟨hc2, hy, f4, hM4⟩
    · skip
      subst v4
      have hbad := bad33 (v := v3) (x := v3 30) hc2
      refine sMn_5 hZ (pc := 56) dX11_readPerson_56 (by omega) ?_
      refine z_aload_n hZ (pc := 57) dX11_readPerson_57 rfl ?_
      refine gM_7 hZ (pc := 58) fl_X11_53 dX11_readPerson_58 ?_
      refine z_iload_n hZ (pc := 61) dX11_readPerson_61 rfl ?_
      refine z_aload_n hZ (pc := 62) dX11_readPerson_62 rfl ?_
      refine z_ldcS hY (pc := 63) (tx := "hired") (q := aK 3) (fun _ _ _ h => h.2.2.1 ("TearsPostModel", 29, "hired", 3) (List.mem_of_getElem? (i := 18) (by decide +kernel))) dX11_readPerson_63 ?_
      refine cV_i hZ (pc := 65) dX11_readPerson_65 lk_X11_223 mn_X11_is mv_X11_is (c_X11_is_b hbad) rc_M rfl rfl (Nat.le_of_ble_eq_true rfl) (by omega) (by decide) (Nat.zero_le _) (Nat.zero_le _) ?_
      refine sMn_7 hZ (pc := 68) dX11_readPerson_68 (by omega) nar0 ?_
      refine z_aload_n hZ (pc := 69) dX11_readPerson_69 rfl ?_
      refine gM_7 hZ (pc := 70) fl_X11_53 dX11_readPerson_70 ?_
      refine z_iload_n hZ (pc := 73) dX11_readPerson_73 rfl ?_
      refine lMn_7 hZ (pc := 74) dX11_readPerson_74 (by omega) ?_
      refine z_top (y := 0) (by rw [up_at, upd_at]) ?_
      refine z_if_eq hZ (pc := 75) (tgt := 82) dX11_readPerson_75 rfl (fun _ => ?_) (fun c75 => absurd c75 (by decide))
      refine z_aload_n hZ (pc := 82) dX11_readPerson_82 rfl ?_
      refine gM_3 hZ (pc := 83) fl_X11_40 dX11_readPerson_83 ?_
      refine z_iconst hZ (pc := 86) (v := 5) dX11_readPerson_86 (by decide) ?_
      refine z_dup2 hZ (pc := 87) dX11_readPerson_87 rfl rfl ?_
      refine lMn_3 hZ (pc := 88) (q := 5) dX11_readPerson_88 (by omega) ?_
      refine z_iconst hZ (pc := 89) (v := 1) dX11_readPerson_89 (by decide) ?_
      refine z_iadd hZ (pc := 90) dX11_readPerson_90 ?_
      refine sMn_3 hZ (pc := 91) (q := 5) dX11_readPerson_91 (by omega) ?_
      refine zr_v hZ (pc := 92) dX11_readPerson_92 ?_
      exact CMp_er (c := tnC (K (i + 2)) (N (i + 2)) 0 1000) (q := i + 2) (by rw [pPerson, if_neg hP6, ← hi0, if_neg (fun z => z hc), show i0 + 2 = i + 1 by omega, if_pos (show K (i + 1) = 10 from bD1 c36), show i0 + 3 = i + 2 by omega, if_neg hc2]) ((f1.trans f3.fm).trans ((FM.up (by omega)).trans (FM.up (by omega)))) (((((FH.rf.trans (FH.u4 (by omega))).trans (FH.u5 (by omega))).trans (FH.u5 (by omega))).trans (FH.u7 (by omega))).trans (FH.u3 (by omega))) (by rw [up_off (by decide), up_at]) (by rw [up_at]; exact hM3.2.2.2.2.1.1)
    subst hy
    refine sMn_5 hZ (pc := 56) dX11_readPerson_56 (by omega) ?_
    refine z_aload_n hZ (pc := 57) dX11_readPerson_57 rfl ?_
    refine gM_7 hZ (pc := 58) fl_X11_53 dX11_readPerson_58 ?_
    refine z_iload_n hZ (pc := 61) dX11_readPerson_61 rfl ?_
    refine z_aload_n hZ (pc := 62) dX11_readPerson_62 rfl ?_
    refine z_ldcS hY (pc := 63) (tx := "hired") (q := aK 3) (fun _ _ _ h => h.2.2.1 ("TearsPostModel", 29, "hired", 3) (List.mem_of_getElem? (i := 18) (by decide +kernel))) dX11_readPerson_63 ?_
    refine cVY hY (pc := 65) dX11_readPerson_65 lk_X11_223 mn_X11_is mv_X11_is (c_X11_is (j := 3) hG (hM4.fr rfl rfl) (by decide)) rc_M rfl rfl (Nat.le_of_ble_eq_true rfl) (by omega) (by decide) (Nat.zero_le _) (Nat.zero_le _) (fun v2 g2 r h => ?_)
    obtain ⟨e1, e2, rfl⟩ := h
    subst v2
    subst g2
    refine sMn_7 hZ (pc := 68) dX11_readPerson_68 (by omega) (nar_bI _) ?_
    refine z_aload_n hZ (pc := 69) dX11_readPerson_69 rfl ?_
    refine gM_7 hZ (pc := 70) fl_X11_53 dX11_readPerson_70 ?_
    refine z_iload_n hZ (pc := 73) dX11_readPerson_73 rfl ?_
    refine lMn_7 hZ (pc := 74) dX11_readPerson_74 (by omega) ?_
    refine z_top (y := bI (decide (K (i + 3) = kcN 3))) (by rw [up_at, upd_at]) ?_
    refine z_if_eq hZ (pc := 75) (tgt := 82) dX11_readPerson_75 rfl (fun c75 => ?_) (fun c75 => ?_)
    · skip
      refine z_aload_n hZ (pc := 82) dX11_readPerson_82 rfl ?_
      refine gM_3 hZ (pc := 83) fl_X11_40 dX11_readPerson_83 ?_
      refine z_iconst hZ (pc := 86) (v := 5) dX11_readPerson_86 (by decide) ?_
      refine z_dup2 hZ (pc := 87) dX11_readPerson_87 rfl rfl ?_
      refine lMn_3 hZ (pc := 88) (q := 5) dX11_readPerson_88 (by omega) ?_
      refine z_iconst hZ (pc := 89) (v := 1) dX11_readPerson_89 (by decide) ?_
      refine z_iadd hZ (pc := 90) dX11_readPerson_90 ?_
      refine z_top (y := nI (d.P + 1)) (by show g 3 5 + 1 = _; rw [hP5]; exact nI_1 _) ?_
      refine sMn_3 hZ (pc := 91) (q := 5) dX11_readPerson_91 (by omega) ?_
      refine zr_v hZ (pc := 92) dX11_readPerson_92 ?_
      have hb9 : bI (decide (K (i + 3) = kcN 3)) = 0 := by rw [decide_eq_false (bD0 c75)]; rfl
      rw [hb9]
      exact CMp_ok (l := []) (j := i + 3) (by rw [pPerson, if_neg hP6, ← hi0, if_neg (fun z => z hc), show i0 + 2 = i + 1 by omega, if_pos (show K (i + 1) = 10 from bD1 c36), show i0 + 3 = i + 2 by omega, if_pos hc2, show i0 + 4 = i + 3 by omega, pHired, if_neg (show ¬ K (i + 3) = -4 from bD0 c75)]) ((f1.trans f3.fm).trans f4) (((((FH.rf.trans (FH.u4 (by omega))).trans (FH.u5 (by omega))).trans (FH.u5 (by omega))).trans (FH.u7 (by omega))).trans (FH.u3 (by omega))) (by rw [List.append_nil]; exact (hM4).fr rfl rfl) (by rw [List.append_nil]; exact DrM.person hD rfl rfl (fun p hp => by show upd (upd (g 5) (16 + d.P) _) (16 + d.P) _ (16 + p) = g 5 (16 + p); rw [upd_off (by omega), upd_off (by omega)]) (by show upd (upd (g 5) (16 + d.P) _) (16 + d.P) _ (16 + d.P) = _; rw [upd_at]) rfl rfl rfl rfl)
    · skip
      have him2 : i + 3 < m := TK_lt hG.1 hM4.2.2.1 (by rw [show K (i + 3) = -4 from bD1 c75]; decide)
      refine z_aload_n hZ (pc := 78) dX11_readPerson_78 rfl ?_
      refine cV hZ (pc := 79) dX11_readPerson_79 lk_X11_233 mn_X11_stepOn mv_X11_stepOn (c_X11_stepOn (p := eNd t n (tokS t n (i + 3))) hM4.h26 hM4.2.1 eNd_le hn7 (fun q hq => show 0 ≤ g 24 q from by rw [h24]; exact hG.2.2 q hq)) rc_M rfl rfl (Nat.le_of_ble_eq_true rfl) (by omega) (by decide) (Nat.zero_le _) (Nat.zero_le _) ?_
      intro v5 g5 r h
      obtain ⟨rfl, e5, f5, h⟩ := h
      subst g5
      have hM5 := (hM4.fr rfl rfl).next hG.1 him2 f5 h
      refine z_aload_n hZ (pc := 82) dX11_readPerson_82 rfl ?_
      refine gM_3 hZ (pc := 83) fl_X11_40 dX11_readPerson_83 ?_
      refine z_iconst hZ (pc := 86) (v := 5) dX11_readPerson_86 (by decide) ?_
      refine z_dup2 hZ (pc := 87) dX11_readPerson_87 rfl rfl ?_
      refine lMn_3 hZ (pc := 88) (q := 5) dX11_readPerson_88 (by omega) ?_
      refine z_iconst hZ (pc := 89) (v := 1) dX11_readPerson_89 (by decide) ?_
      refine z_iadd hZ (pc := 90) dX11_readPerson_90 ?_
      refine z_top (y := nI (d.P + 1)) (by show g 3 5 + 1 = _; rw [hP5]; exact nI_1 _) ?_
      refine sMn_3 hZ (pc := 91) (q := 5) dX11_readPerson_91 (by omega) ?_
      refine zr_v hZ (pc := 92) dX11_readPerson_92 ?_
      have hb9 : bI (decide (K (i + 3) = kcN 3)) = 1 := by rw [decide_eq_true (bD1 c75)]; rfl
      rw [hb9]
      exact CMp_ok (l := []) (j := i + 3 + 1) (by rw [pPerson, if_neg hP6, ← hi0, if_neg (fun z => z hc), show i0 + 2 = i + 1 by omega, if_pos (show K (i + 1) = 10 from bD1 c36), show i0 + 3 = i + 2 by omega, if_pos hc2, show i0 + 4 = i + 3 by omega, pHired, if_pos (show K (i + 3) = -4 from bD1 c75)]) (((f1.trans f3.fm).trans f4).trans f5.fm) (((((FH.rf.trans (FH.u4 (by omega))).trans (FH.u5 (by omega))).trans (FH.u5 (by omega))).trans (FH.u7 (by omega))).trans (FH.u3 (by omega))) (by rw [List.append_nil]; exact (hM5).fr rfl rfl) (by rw [List.append_nil]; exact DrM.person hD rfl rfl (fun p hp => by show upd (upd (g 5) (16 + d.P) _) (16 + d.P) _ (16 + p) = g 5 (16 + p); rw [upd_off (by omega), upd_off (by omega)]) (by show upd (upd (g 5) (16 + d.P) _) (16 + d.P) _ (16 + d.P) = _; rw [upd_at]) rfl rfl rfl rfl)
theorem c_X11_readWalk {l : Launch} {D : va_G} {cA : Nat → ClassId} {r : Nat} {a : Nat → Nat} {s0 s1 : Nat → Option Nat} {v : ZV} {g : ZG} {t : Nat → Int32} {n m i : Nat} {K N : Nat → Int32} {L : List Int32} {d : Dr} {i0 Kl : Nat} (hG : GM t n m K N) (hM : MI t n m v g i L) (hD : DrM d L g) (hK : DrK d) (hi0 : i = i0 + 1) (hN : ∀ j, j ≤ m → K j = 1 → 0 ≤ N j) (hKl : 20 ≤ Kl) : MG l D cA (WM r a cA s0 s1) yX11_readWalk cX11_readWalk 4 none Kl [(.ref r)] v g ((CMp t n m v g L (pWalk K N d i0))) := by
  refine MG.of (by decide) rfl (Nat.le_of_ble_eq_true rfl) (by simp [Value.category]) (fun Z hZ => ?_)
  have h24 : g 24 = t := hM.1
  have hb : v 32 = 0 := hM.2.2.2.1
  have h30 : v 30 = nI (tokS t n i) := hM.2.2.2.2.1.1
  have h31 : v 31 = nI (eNd t n (tokS t n i)) := hM.2.2.2.2.1.2.2.1
  have h28 : v 28 = tcM t n (tokS t n i) := hM.2.2.2.2.1.2.2.2.1
  have h26 : v 26 = nI (eNd t n (tokS t n i)) := hM.2.2.2.2.1.2.1
  have hi : i ≤ m := hM.2.2.1
  have hn7 : n ≤ 700 := hG.2.1
  have htok : ¬ K i = 0 → tokS t n i < n := tok_in hG.1 hi
  have hm7 := hG.m7
  have hH4 : g 3 4 = d.H := hD.1
  refine z_aload_n hZ (pc := 0) dX11_readWalk_0 rfl ?_
  refine z_iconst hZ (pc := 1) (v := (-1)) dX11_readWalk_1 (by decide) ?_
  refine cV hZ (pc := 2) dX11_readWalk_2 lk_X11_276 mn_X11_readHouse mv_X11_readHouse (c_X11_readHouse (p := -1) hG hM (by rw [hH4]; exact hK.2.1)) rc_M rfl rfl (Nat.le_of_ble_eq_true rfl) (by omega) (by decide) (Nat.zero_le _) (Nat.zero_le _) ?_
  intro v2 g2 r h
  obtain ⟨e2, x0, rfl, h⟩ := h
  subst g2
  rw [hH4] at h
  rcases h.symm with ⟨hc, e1⟩ | ⟨hc, hx, f1, hM2⟩
  · skip
    subst v2
    have hbad := bad33 (v := v) (x := v 30) hc
    refine q_istore_n_4_1 hZ (pc := 5) dX11_readWalk_5 rfl ?_
    refine z_aload_n hZ (pc := 6) dX11_readWalk_6 rfl ?_
    refine z_iload_n hZ (pc := 7) dX11_readWalk_7 rfl ?_
    refine cV_i hZ (pc := 8) dX11_readWalk_8 lk_X11_276 mn_X11_readHouse mv_X11_readHouse (c_X11_readHouse_b hbad) rc_M rfl rfl (Nat.le_of_ble_eq_true rfl) (by omega) (by decide) (Nat.zero_le _) (Nat.zero_le _) ?_
    refine q_istore_n_4_2 hZ (pc := 11) dX11_readWalk_11 rfl ?_
    refine z_aload_n hZ (pc := 12) dX11_readWalk_12 rfl ?_
    refine z_iconst hZ (pc := 13) (v := 1) dX11_readWalk_13 (by decide) ?_
    refine z_bipush hZ (pc := 14) (v := 99) dX11_readWalk_14 (by decide) ?_
    refine cV_i hZ (pc := 16) dX11_readWalk_16 lk_X11_239 mn_X11_readNumber mv_X11_readNumber (c_X11_readNumber_b hbad) rc_M rfl rfl (Nat.le_of_ble_eq_true rfl) (by omega) (by decide) (Nat.zero_le _) (Nat.zero_le _) ?_
    refine q_istore_n_4_3 hZ (pc := 19) dX11_readWalk_19 rfl ?_
    refine z_aload_n hZ (pc := 20) dX11_readWalk_20 rfl ?_
    refine gM_32 hZ (pc := 21) fl_X11_209 dX11_readWalk_21 ?_
    refine z_if_eq hZ (pc := 24) (tgt := 28) dX11_readWalk_24 rfl (fun c24 => absurd c24 hbad) (fun _ => ?_)
    refine zr_v hZ (pc := 27) dX11_readWalk_27 ?_
    exact CMp_er (c := thC (K i) (N i) d.H (-1)) (q := i) (by rw [pWalk, ← hi0, if_pos hc]) ((FM.up (by omega)).trans (FM.up (by omega))) FH.rf (by rw [up_off (by decide), up_at]) (by rw [up_at]; exact h30)
  obtain ⟨x, hx10, hxe⟩ := num_lt (hN i hi (thC_of hc).1) (thC_of hc).2.1 hK.2.1
  subst hx
  refine z_top (y := nI x) hxe ?_
  refine q_istore_n_4_1 hZ (pc := 5) dX11_readWalk_5 rfl ?_
  refine z_aload_n hZ (pc := 6) dX11_readWalk_6 rfl ?_
  refine z_iload_n hZ (pc := 7) dX11_readWalk_7 rfl ?_
  refine cV hZ (pc := 8) dX11_readWalk_8 lk_X11_276 mn_X11_readHouse mv_X11_readHouse (c_X11_readHouse (p := nI x) hG hM2 (by rw [hH4]; exact hK.2.1)) rc_M rfl rfl (Nat.le_of_ble_eq_true rfl) (by omega) (by decide) (Nat.zero_le _) (Nat.zero_le _) ?_
  intro v3 g3 r h
  obtain ⟨e3, y0, rfl, h⟩ := h
  subst g3
  rw [hH4] at h
  rcases h.symm with ⟨hc2, e1⟩ | ⟨hc2, hy, f3, hM3⟩
  · skip
    subst v3
    have hbad := bad33 (v := v2) (x := v2 30) hc2
    refine q_istore_n_4_2 hZ (pc := 11) dX11_readWalk_11 rfl ?_
    refine z_aload_n hZ (pc := 12) dX11_readWalk_12 rfl ?_
    refine z_iconst hZ (pc := 13) (v := 1) dX11_readWalk_13 (by decide) ?_
    refine z_bipush hZ (pc := 14) (v := 99) dX11_readWalk_14 (by decide) ?_
    refine cV_i hZ (pc := 16) dX11_readWalk_16 lk_X11_239 mn_X11_readNumber mv_X11_readNumber (c_X11_readNumber_b hbad) rc_M rfl rfl (Nat.le_of_ble_eq_true rfl) (by omega) (by decide) (Nat.zero_le _) (Nat.zero_le _) ?_
    refine q_istore_n_4_3 hZ (pc := 19) dX11_readWalk_19 rfl ?_
    refine z_aload_n hZ (pc := 20) dX11_readWalk_20 rfl ?_
    refine gM_32 hZ (pc := 21) fl_X11_209 dX11_readWalk_21 ?_
    refine z_if_eq hZ (pc := 24) (tgt := 28) dX11_readWalk_24 rfl (fun c24 => absurd c24 hbad) (fun _ => ?_)
    refine zr_v hZ (pc := 27) dX11_readWalk_27 ?_
    exact CMp_er (c := thC (K (i + 1)) (N (i + 1)) d.H (N i)) (q := i + 1) (by rw [pWalk, ← hi0, if_neg (fun z => z hc), show i0 + 2 = i + 1 by omega, if_pos (by rw [hxe]; exact hc2)]) (f1.trans ((FM.up (by omega)).trans (FM.up (by omega)))) FH.rf (by rw [up_off (by decide), up_at, hxe]) (by rw [up_at]; exact hM2.2.2.2.2.1.1)
  obtain ⟨y, hy10, hye⟩ := num_lt (hN (i + 1) hM2.2.2.1 (thC_of hc2).1) (thC_of hc2).2.1 hK.2.1
  subst hy
  refine z_top (y := nI y) hye ?_
  refine q_istore_n_4_2 hZ (pc := 11) dX11_readWalk_11 rfl ?_
  refine z_aload_n hZ (pc := 12) dX11_readWalk_12 rfl ?_
  refine z_iconst hZ (pc := 13) (v := 1) dX11_readWalk_13 (by decide) ?_
  refine z_bipush hZ (pc := 14) (v := 99) dX11_readWalk_14 (by decide) ?_
  refine cV hZ (pc := 16) dX11_readWalk_16 lk_X11_239 mn_X11_readNumber mv_X11_readNumber (c_X11_readNumber (p := 1) (q := 99) hG hM3 (by decide)) rc_M rfl rfl (Nat.le_of_ble_eq_true rfl) (by omega) (by decide) (Nat.zero_le _) (Nat.zero_le _) ?_
  intro v4 g4 r h
  obtain ⟨e4, z, rfl, h⟩ := h
  subst g4
  rcases h.symm with ⟨hc3, e1⟩ | ⟨hc3, hz, f4, hM4⟩
  · skip
    subst v4
    have hbad := bad33 (v := v3) (x := v3 30) hc3
    refine q_istore_n_4_3 hZ (pc := 19) dX11_readWalk_19 rfl ?_
    refine z_aload_n hZ (pc := 20) dX11_readWalk_20 rfl ?_
    refine gM_32 hZ (pc := 21) fl_X11_209 dX11_readWalk_21 ?_
    refine z_if_eq hZ (pc := 24) (tgt := 28) dX11_readWalk_24 rfl (fun c24 => absurd c24 hbad) (fun _ => ?_)
    refine zr_v hZ (pc := 27) dX11_readWalk_27 ?_
    exact CMp_er (c := tnC (K (i + 2)) (N (i + 2)) 1 99) (q := i + 2) (by rw [pWalk, ← hi0, if_neg (fun z => z hc), show i0 + 2 = i + 1 by omega, if_neg (fun z => z (by rw [hxe]; exact hc2)), show i0 + 3 = i + 2 by omega, if_pos hc3]) ((f1.trans f3).trans ((FM.up (by omega)).trans (FM.up (by omega)))) FH.rf (by rw [up_off (by decide), up_at]) (by rw [up_at]; exact hM3.2.2.2.2.1.1)
  subst hz
  refine q_istore_n_4_3 hZ (pc := 19) dX11_readWalk_19 rfl ?_
  refine z_aload_n hZ (pc := 20) dX11_readWalk_20 rfl ?_
  refine gM_32 hZ (pc := 21) fl_X11_209 dX11_readWalk_21 ?_
  refine z_if_eq hZ (pc := 24) (tgt := 28) dX11_readWalk_24 rfl (fun c24 => ?_) (fun c24 => ?_)
  · skip
    refine z_aload_n hZ (pc := 28) dX11_readWalk_28 rfl ?_
    refine gM_6 hZ (pc := 29) fl_X11_50 dX11_readWalk_29 ?_
    refine z_bipush hZ (pc := 32) (v := 100) dX11_readWalk_32 (by decide) ?_
    refine z_bipush hZ (pc := 34) (v := 10) dX11_readWalk_34 (by decide) ?_
    refine z_iload_n hZ (pc := 36) dX11_readWalk_36 rfl ?_
    refine z_imul hZ (pc := 37) dX11_readWalk_37 ?_
    refine z_iadd hZ (pc := 38) dX11_readWalk_38 ?_
    refine z_iload_n hZ (pc := 39) dX11_readWalk_39 rfl ?_
    refine z_iadd hZ (pc := 40) dX11_readWalk_40 ?_
    refine z_top (y := nI (100 + (10 * x + y))) (nI_h x y) ?_
    refine z_iload_n hZ (pc := 41) dX11_readWalk_41 rfl ?_
    refine sMn_6 hZ (pc := 42) dX11_readWalk_42 (by omega) ?_
    refine z_aload_n hZ (pc := 43) dX11_readWalk_43 rfl ?_
    refine gM_6 hZ (pc := 44) fl_X11_50 dX11_readWalk_44 ?_
    refine z_bipush hZ (pc := 47) (v := 100) dX11_readWalk_47 (by decide) ?_
    refine z_bipush hZ (pc := 49) (v := 10) dX11_readWalk_49 (by decide) ?_
    refine z_iload_n hZ (pc := 51) dX11_readWalk_51 rfl ?_
    refine z_imul hZ (pc := 52) dX11_readWalk_52 ?_
    refine z_iadd hZ (pc := 53) dX11_readWalk_53 ?_
    refine z_iload_n hZ (pc := 54) dX11_readWalk_54 rfl ?_
    refine z_iadd hZ (pc := 55) dX11_readWalk_55 ?_
    refine z_top (y := nI (100 + (10 * y + x))) (nI_h y x) ?_
    refine z_iload_n hZ (pc := 56) dX11_readWalk_56 rfl ?_
    refine sMn_6 hZ (pc := 57) dX11_readWalk_57 (by omega) ?_
    refine zr_v hZ (pc := 58) dX11_readWalk_58 ?_
    exact CMp_ok (l := []) (j := i + 3) (by rw [pWalk, ← hi0, if_neg (fun z => z hc), show i0 + 2 = i + 1 by omega, if_neg (fun z => z (by rw [hxe]; exact hc2)), show i0 + 3 = i + 2 by omega, if_neg (fun z => z hc3), hxe, hye, nI_clamp (by omega), nI_clamp (by omega), show i0 + 4 = i + 3 by omega]) ((f1.trans f3).trans f4) ((FH.rf.trans (FH.u6 (by omega))).trans (FH.u6 (by omega))) (by rw [List.append_nil]; exact hM4.fr rfl rfl) (by rw [List.append_nil]; exact DrM.walk hD hx10 hy10 (fun z => (thC_of hc2).2.2 (by rw [hye, z])) (by rw [up_twice, up_at, up_at]) (fun k hk => by rw [up_off hk, up_off hk]))
  · skip
    exact absurd hM4.bad c24
