theorem MI.codeNext {t : Nat → Int32} {n m i : Nat} {K N : Nat → Int32} {v v2 : ZV} {g : ZG} {L : List Int32} {x : Int32} (hT : TK t n m K N) (h : MI t n m v g i L) (hi : i < m) (h1 : FS (va_up v 35 (nI (L.length + 1))) v2) (h2 : StM ((va_up g 10 (upd (g 10) (700 + L.length) x)) 24) n (nbN ((va_up g 10 (upd (g 10) (700 + L.length) x)) 24) n (eNd t n (tokS t n i))) v2) : MI t n m v2 (va_up g 10 (upd (g 10) (700 + L.length) x)) (i + 1) (L ++ [x]) := by
  obtain ⟨a1, a2, a3, a4, a5, a6, a7⟩ := h
  rw [up_off (by decide), a1] at h2
  have e : tokS t n (i + 1) = nbN t n (eNd t n (tokS t n i)) := by rw [tokS, eNd, if_pos (hT.2.2.1 i hi)]
  exact ⟨by rw [up_off (by decide)]; exact a1, by rw [h1 27 (by omega), up_off (by decide)]; exact a2, hi, by rw [h1 32 (by omega), up_off (by decide)]; exact a4, by rw [e]; exact h2, CdM_same (CdM_add a6) (h1 35 (by omega)) rfl, by rw [List.length_append]; exact Nat.succ_le_succ a7⟩
theorem MI.h26 {t : Nat → Int32} {n m i : Nat} {v : ZV} {g : ZG} {L : List Int32} (h : MI t n m v g i L) : v 26 = nI (eNd t n (tokS t n i)) := h.2.2.2.2.1.2.1
theorem MI.cd {t : Nat → Int32} {n m i : Nat} {v : ZV} {g : ZG} {L : List Int32} (h : MI t n m v g i L) : v 35 = nI L.length := h.2.2.2.2.2.1.1
theorem MI.len {t : Nat → Int32} {n m i : Nat} {v : ZV} {g : ZG} {L : List Int32} (h : MI t n m v g i L) : L.length ≤ i := h.2.2.2.2.2.2
theorem MI.bad {t : Nat → Int32} {n m i : Nat} {v : ZV} {g : ZG} {L : List Int32} (h : MI t n m v g i L) : v 32 = 0 := h.2.2.2.1
theorem GM.m7 {t : Nat → Int32} {n m : Nat} {K N : Nat → Int32} (h : GM t n m K N) : m ≤ 700 := Nat.le_trans h.1.1 h.2.1
theorem bad33 {v : ZV} {c x : Int32} (h : ¬ c = 0) : ¬ (va_up (va_up v 32 c) 33 x) 32 = 0 := by rw [up_off (by decide), up_at]; exact h
theorem c_X11_readPart {l : Launch} {D : va_G} {cA : Nat → ClassId} {r : Nat} {a : Nat → Nat} {s0 s1 : Nat → Option Nat} {v : ZV} {g : ZG} {aK aV : Nat → Nat} {t : Nat → Int32} {n m i : Nat} {K N : Nat → Int32} {L : List Int32} {d kk Kl : Nat} {rs : Nat → PR} (hG : GM t n m K N) (hM : MI t n m v g i L) (hs1 : ∀ k, k < 7 → s1 k = some (aK k)) (hKl : 20 ≤ Kl) (hkk : kk + 1 ≤ Kl) (hsub : NC l D cA aK aV r a s0 s1 yX11_readExpression cX11_readExpression 3 kk (d + 1) t n m rs) (hprg : ∀ q, q ≤ m → Prg m q (rs q)) : MGY l D cA aK aV (WM r a cA s0 s1) yX11_readPart cX11_readPart 3 none Kl [(.ref r), .int (nI d)] v g ((MRp t n m v g L (pPartM K N rs i))) := by
  refine MGY.of (by decide) rfl (Nat.le_of_ble_eq_true rfl) (by simp [Value.category]) (fun Z hY => ?_)
  have hZ := hY.toZR
  have h24 : g 24 = t := hM.1
  have hb : v 32 = 0 := hM.2.2.2.1
  have h30 : v 30 = nI (tokS t n i) := hM.2.2.2.2.1.1
  have h31 : v 31 = nI (eNd t n (tokS t n i)) := hM.2.2.2.2.1.2.2.1
  have h28 : v 28 = tcM t n (tokS t n i) := hM.2.2.2.2.1.2.2.2.1
  have h26 : v 26 = nI (eNd t n (tokS t n i)) := hM.2.2.2.2.1.2.1
  have hi : i ≤ m := hM.2.2.1
  have hn7 : n ≤ 700 := hG.2.1
  have htok : ¬ K i = 0 → tokS t n i < n := tok_in hG.1 hi
  have hm7 := hG.m7
  refine z_aload_n hZ (pc := 0) dX11_readPart_0 rfl ?_
  refine gM_32 hZ (pc := 1) fl_X11_209 dX11_readPart_1 ?_
  refine z_if_eq hZ (pc := 4) (tgt := 8) dX11_readPart_4 rfl (fun c4 => ?_) (fun c4 => ?_)
  · skip
    refine z_aload_n hZ (pc := 8) dX11_readPart_8 rfl ?_
    refine gM_28 hZ (pc := 9) fl_X11_183 dX11_readPart_9 ?_
    refine z_iconst hZ (pc := 12) (v := 2) dX11_readPart_12 (by decide) ?_
    refine z_icmp_ne hZ (pc := 13) (tgt := 29) dX11_readPart_13 rfl (fun c13 => ?_) (fun c13 => ?_)
    · skip
      have hk1 : ¬ K i = 1 := fun z => c13 (by rw [h28]; exact (tc_2 hG.1 hi).mpr z)
      refine z_aload_n hZ (pc := 29) dX11_readPart_29 rfl ?_
      refine gM_28 hZ (pc := 30) fl_X11_183 dX11_readPart_30 ?_
      refine z_iconst hZ (pc := 33) (v := 1) dX11_readPart_33 (by decide) ?_
      refine z_icmp_ne hZ (pc := 34) (tgt := 75) dX11_readPart_34 rfl (fun c34 => ?_) (fun c34 => ?_)
      · skip
        have hk3 : ¬ isWdK (K i) = true := fun z => c34 (by rw [h28]; exact (tc_1 hG.1 hi).mpr z)
        have hk2 : ¬ (K i ≤ -1 ∧ ¬ K i ≤ -8) := fun z => by
          obtain ⟨k, k1, k2⟩ := val_of hG.1 hi z
          rw [k2] at hk3
          exact hk3 (kc_wd k (by omega))
        refine z_aload_n hZ (pc := 75) dX11_readPart_75 rfl ?_
        refine z_bipush hZ (pc := 76) (v := 40) dX11_readPart_76 (by decide) ?_
        refine cV hZ (pc := 78) dX11_readPart_78 lk_X11_249 mn_X11_mark mv_X11_mark (c_X11_mark (j := 1) hG hM (by decide)) rc_M rfl rfl (Nat.le_of_ble_eq_true rfl) (by omega) (by decide) (Nat.zero_le _) (Nat.zero_le _) ?_
        intro v1 g1 r h
        obtain ⟨rfl, e2, h⟩ := h
        subst g1
        rcases h.symm with ⟨hc, e1⟩ | ⟨hc, f1, hM2⟩
        · skip
          subst v1
          have hbad := bad33 (v := v) (c := 1) (x := v 30) (by decide)
          refine z_aload_n hZ (pc := 81) dX11_readPart_81 rfl ?_
          refine z_iload_n hZ (pc := 82) dX11_readPart_82 rfl ?_
          refine z_iconst hZ (pc := 83) (v := 1) dX11_readPart_83 (by decide) ?_
          refine z_iadd hZ (pc := 84) dX11_readPart_84 ?_
          refine cV_v hZ (pc := 85) dX11_readPart_85 lk_X11_252 mn_X11_readExpression mv_X11_readExpression (c_X11_readExpression_b hbad) rc_M rfl rfl (Nat.le_of_ble_eq_true rfl) (by omega) (by decide) (Nat.zero_le _) (Nat.zero_le _) ?_
          refine z_aload_n hZ (pc := 88) dX11_readPart_88 rfl ?_
          refine z_bipush hZ (pc := 89) (v := 41) dX11_readPart_89 (by decide) ?_
          refine cV_v hZ (pc := 91) dX11_readPart_91 lk_X11_249 mn_X11_mark mv_X11_mark (c_X11_mark_b hbad) rc_M rfl rfl (Nat.le_of_ble_eq_true rfl) (by omega) (by decide) (Nat.zero_le _) (Nat.zero_le _) ?_
          refine zr_v hZ (pc := 94) dX11_readPart_94 ?_
          exact MRp_er (c := 1) (q := i) (by rw [pPartM, if_neg hk1, if_neg hk2, if_neg hk3, if_pos (show ¬ K i = 4 from hc)]) ((FM.up (by omega)).trans (FM.up (by omega))) FMg.rf (by rw [up_off (by decide), up_at]; rfl) (by rw [up_at]; exact h30)
        skip
        refine z_aload_n hZ (pc := 81) dX11_readPart_81 rfl ?_
        refine z_iload_n hZ (pc := 82) dX11_readPart_82 rfl ?_
        refine z_iconst hZ (pc := 83) (v := 1) dX11_readPart_83 (by decide) ?_
        refine z_iadd hZ (pc := 84) dX11_readPart_84 ?_
        refine z_top (y := nI (d + 1)) (nI_1 d) ?_
        refine cVY hY (pc := 85) dX11_readPart_85 lk_X11_252 mn_X11_readExpression mv_X11_readExpression (hsub _ _ (i + 1) L hM2) rc_M rfl rfl (Nat.le_of_ble_eq_true rfl) hkk (by decide) (Nat.zero_le _) (Nat.zero_le _) (fun v2 g2 r h => ?_)
        obtain ⟨rfl, f2, f3, h⟩ := h
        rcases PR.cs (rs (i + 1)) with ⟨c, q, hr⟩ | ⟨j0, l0, hr⟩
        · skip
          rw [hr] at h
          have hbad := er_bad (by rw [← hr]; exact hprg (i + 1) hM2.2.2.1) h.1
          refine z_aload_n hZ (pc := 88) dX11_readPart_88 rfl ?_
          refine z_bipush hZ (pc := 89) (v := 41) dX11_readPart_89 (by decide) ?_
          refine cV_v hZ (pc := 91) dX11_readPart_91 lk_X11_249 mn_X11_mark mv_X11_mark (c_X11_mark_b hbad) rc_M rfl rfl (Nat.le_of_ble_eq_true rfl) (by omega) (by decide) (Nat.zero_le _) (Nat.zero_le _) ?_
          refine zr_v hZ (pc := 94) dX11_readPart_94 ?_
          exact MRp_er (by rw [pPartM, if_neg hk1, if_neg hk2, if_neg hk3, if_neg (show ¬ ¬ K i = 4 from fun z => z hc), hr]; rfl) (f1.trans f2) f3 h.1 h.2
        rw [hr] at h
        have hM3 : MI t n m v2 g2 j0 (L ++ l0.map trE) := h
        refine z_aload_n hZ (pc := 88) dX11_readPart_88 rfl ?_
        refine z_bipush hZ (pc := 89) (v := 41) dX11_readPart_89 (by decide) ?_
        refine cV hZ (pc := 91) dX11_readPart_91 lk_X11_249 mn_X11_mark mv_X11_mark (c_X11_mark (j := 2) hG hM3 (by decide)) rc_M rfl rfl (Nat.le_of_ble_eq_true rfl) (by omega) (by decide) (Nat.zero_le _) (Nat.zero_le _) ?_
        intro v3 g3 r h
        obtain ⟨rfl, e3, h⟩ := h
        subst g3
        refine zr_v hZ (pc := 94) dX11_readPart_94 ?_
        rcases h with ⟨hc5, f4, hM4⟩ | ⟨hc5, e3⟩
        · exact MRp_ok (j := j0 + 1) (l := l0) (by rw [pPartM, if_neg hk1, if_neg hk2, if_neg hk3, if_neg (show ¬ ¬ K i = 4 from fun z => z hc), hr]; exact if_pos hc5) ((f1.trans f2).trans f4) f3 hM4 rfl
        · subst v3
          exact MRp_er (c := 1) (q := j0) (by rw [pPartM, if_neg hk1, if_neg hk2, if_neg hk3, if_neg (show ¬ ¬ K i = 4 from fun z => z hc), hr]; exact if_neg hc5) ((f1.trans f2).trans ((FM.up (by omega)).trans (FM.up (by omega)))) f3 (by rw [up_off (by decide), up_at]; rfl) (by rw [up_at]; exact hM3.2.2.2.2.1.1)
      · skip
        have hk3 : isWdK (K i) = true := (tc_1 hG.1 hi).mp (by rw [← h28]; exact c34)
        have him : i < m := TK_lt hG.1 hi (fun q => by rw [q] at hk3; exact absurd hk3 (by decide))
        refine z_aload_n hZ (pc := 37) dX11_readPart_37 rfl ?_
        refine z_aload_n hZ (pc := 38) dX11_readPart_38 rfl ?_
        refine gM_1 hZ (pc := 39) fl_X11_37 dX11_readPart_39 ?_
        refine cVY hY (pc := 42) dX11_readPart_42 lk_X11_245 mn_X11_which mv_X11_which (c_X11_which_v hG hM hs1) rc_M rfl rfl (Nat.le_of_ble_eq_true rfl) (by omega) (by decide) (Nat.zero_le _) (Nat.zero_le _) (fun v2 g2 r h => ?_)
        obtain ⟨e1, e2, x, rfl, h⟩ := h
        subst v2
        subst g2
        refine q_istore_n_3_2 hZ (pc := 45) dX11_readPart_45 rfl ?_
        refine z_iload_n hZ (pc := 46) dX11_readPart_46 rfl ?_
        refine z_iconst hZ (pc := 47) (v := (-1)) dX11_readPart_47 (by decide) ?_
        refine z_icmp_ne hZ (pc := 48) (tgt := 56) dX11_readPart_48 rfl (fun c48 => ?_) (fun c48 => ?_)
        · skip
          obtain ⟨k, hk7, rfl, hk⟩ : ∃ k, k < 7 ∧ x = nI k ∧ K i = kcN k := by
            rcases h with h | ⟨hx, -⟩
            · exact h
            · exact absurd hx c48
          refine z_aload_n hZ (pc := 56) dX11_readPart_56 rfl ?_
          refine z_iconst hZ (pc := 57) (v := (-1)) dX11_readPart_57 (by decide) ?_
          refine z_iload_n hZ (pc := 58) dX11_readPart_58 rfl ?_
          refine z_isub hZ (pc := 59) dX11_readPart_59 ?_
          refine cV_v hZ (pc := 60) dX11_readPart_60 lk_X11_242 mn_X11_lay mv_X11_lay (c_X11_lay (c := L.length) hb hM.cd (by have := hM.len; omega)) rc_M rfl rfl (Nat.le_of_ble_eq_true rfl) (by omega) (by decide) (Nat.zero_le _) (Nat.zero_le _) ?_
          refine z_aload_n hZ (pc := 63) dX11_readPart_63 rfl ?_
          refine gM_32 hZ (pc := 64) fl_X11_209 dX11_readPart_64 ?_
          refine z_if_ne hZ (pc := 67) (tgt := 74) dX11_readPart_67 rfl (fun c67 => ?_) (fun c67 => ?_)
          · skip
            exact absurd hb c67
          · skip
            skip
            refine z_aload_n hZ (pc := 70) dX11_readPart_70 rfl ?_
            refine cV hZ (pc := 71) dX11_readPart_71 lk_X11_233 mn_X11_stepOn mv_X11_stepOn (c_X11_stepOn (p := eNd t n (tokS t n i)) h26 hM.2.1 eNd_le hn7 (by rw [up_off (by decide), h24]; exact hG.2.2)) rc_M rfl rfl (Nat.le_of_ble_eq_true rfl) (by omega) (by decide) (Nat.zero_le _) (Nat.zero_le _) ?_
            intro v2 g2 r h
            obtain ⟨rfl, e2, f1, h⟩ := h
            subst g2
            skip
            refine zr_v hZ (pc := 74) dX11_readPart_74 ?_
            obtain ⟨w1, w2, w3, w4⟩ := kc_val k hk7
            exact MRp_ok (j := i + 1) (l := [K i]) (by rw [pPartM, if_neg hk1, if_pos (by rw [hk]; exact ⟨w1, w2⟩)]) ((FM.up (by omega)).trans f1.fm) FMg.up (hM.codeNext hG.1 him f1 h) (by rw [hk, w3]; simp only [List.map_cons, List.map_nil, w4])
        · skip
          refine z_aload_n hZ (pc := 51) dX11_readPart_51 rfl ?_
          refine z_iconst hZ (pc := 52) (v := 3) dX11_readPart_52 (by decide) ?_
          refine cV_v hZ (pc := 53) dX11_readPart_53 lk_X11_230 mn_X11_wrong mv_X11_wrong (c_X11_wrong hb) rc_M rfl rfl (Nat.le_of_ble_eq_true rfl) (by omega) (by decide) (Nat.zero_le _) (Nat.zero_le _) ?_
          have hno : ¬ (K i ≤ -1 ∧ ¬ K i ≤ -8) := fun z => by
            obtain ⟨k, k1, k2⟩ := val_of hG.1 hi z
            rcases h with ⟨k3, h3, hx, -⟩ | ⟨-, h⟩
            · rw [hx] at c48; exact nI_m1 (by omega) c48
            · exact h k k1 k2
          refine z_aload_n hZ (pc := 56) dX11_readPart_56 rfl ?_
          refine z_iconst hZ (pc := 57) (v := (-1)) dX11_readPart_57 (by decide) ?_
          refine z_iload_n hZ (pc := 58) dX11_readPart_58 rfl ?_
          refine z_isub hZ (pc := 59) dX11_readPart_59 ?_
          refine cV_v hZ (pc := 60) dX11_readPart_60 lk_X11_242 mn_X11_lay mv_X11_lay (c_X11_lay_b (bad33 (by decide))) rc_M rfl rfl (Nat.le_of_ble_eq_true rfl) (by omega) (by decide) (Nat.zero_le _) (Nat.zero_le _) ?_
          refine z_aload_n hZ (pc := 63) dX11_readPart_63 rfl ?_
          refine gM_32 hZ (pc := 64) fl_X11_209 dX11_readPart_64 ?_
          refine z_if_ne hZ (pc := 67) (tgt := 74) dX11_readPart_67 rfl (fun c67 => ?_) (fun c67 => ?_)
          · skip
            skip
            refine zr_v hZ (pc := 74) dX11_readPart_74 ?_
            exact MRp_er (c := 3) (q := i) (by rw [pPartM, if_neg hk1, if_neg hno, if_pos hk3]) ((FM.up (by omega)).trans (FM.up (by omega))) FMg.rf (by rw [up_off (by decide), up_at]; rfl) (by rw [up_at]; exact h30)
          · skip
            exact absurd c67 (bad33 (by decide))
    · skip
      have hk : K i = 1 := (tc_2 hG.1 hi).mp (by rw [← h28]; exact c13)
      refine z_aload_n hZ (pc := 16) dX11_readPart_16 rfl ?_
      refine z_aload_n hZ (pc := 17) dX11_readPart_17 rfl ?_
      refine z_iconst hZ (pc := 18) (v := 0) dX11_readPart_18 (by decide) ?_
      refine z_sipush hZ (pc := 19) (v := 9999) dX11_readPart_19 (by decide) ?_
      refine cV hZ (pc := 22) dX11_readPart_22 lk_X11_239 mn_X11_readNumber mv_X11_readNumber (c_X11_readNumber (p := 0) (q := 9999) hG hM (by decide)) rc_M rfl rfl (Nat.le_of_ble_eq_true rfl) (by omega) (by decide) (Nat.zero_le _) (Nat.zero_le _) ?_
      intro v2 g2 r h
      obtain ⟨e2, x, rfl, h⟩ := h
      subst g2
      rcases h.symm with ⟨hc, e1⟩ | ⟨hc, hx, f1, hM2⟩
      · skip
        subst v2
        have hbad := bad33 (v := v) (x := v 30) hc
        refine cV_v hZ (pc := 25) dX11_readPart_25 lk_X11_242 mn_X11_lay mv_X11_lay (c_X11_lay_b hbad) rc_M rfl rfl (Nat.le_of_ble_eq_true rfl) (by omega) (by decide) (Nat.zero_le _) (Nat.zero_le _) ?_
        refine zr_v hZ (pc := 28) dX11_readPart_28 ?_
        exact MRp_er (c := 2) (q := i) (by rw [pPartM, if_pos hk, if_neg (by rw [← hk]; exact hc)]) ((FM.up (by omega)).trans (FM.up (by omega))) FMg.rf (by rw [up_off (by decide), up_at]; exact tnC_2 hk hc) (by rw [up_at]; exact h30)
      subst hx
      refine cV_v hZ (pc := 25) dX11_readPart_25 lk_X11_242 mn_X11_lay mv_X11_lay (c_X11_lay (c := L.length) hM2.bad hM2.cd (by have := hM.len; have := hM2.2.2.1; omega)) rc_M rfl rfl (Nat.le_of_ble_eq_true rfl) (by omega) (by decide) (Nat.zero_le _) (Nat.zero_le _) ?_
      refine zr_v hZ (pc := 28) dX11_readPart_28 ?_
      exact MRp_ok (j := i + 1) (l := [N i]) (by rw [pPartM, if_pos hk, if_pos (by rw [← hk]; exact hc)]) (f1.trans (FM.up (by omega))) FMg.up (hM2.code (by have := hM.len; omega)) (by simp only [List.map_cons, List.map_nil, trE_pos (tnC_of hc).2.1])
  · skip
    exact absurd hb c4
theorem c_X11_readProduct {l : Launch} {D : va_G} {cA : Nat → ClassId} {r : Nat} {a : Nat → Nat} {s0 s1 : Nat → Option Nat} {v : ZV} {g : ZG} {aK aV : Nat → Nat} {t : Nat → Int32} {n m i : Nat} {K N : Nat → Int32} {L : List Int32} {d kk Kl : Nat} {rec : Nat → PR} (hG : GM t n m K N) (hM : MI t n m v g i L) (hKl : 20 ≤ Kl) (hkk : kk + 1 ≤ Kl) (hsub : NC l D cA aK aV r a s0 s1 yX11_readPart cX11_readPart 3 kk d t n m rec) (hprg : ∀ q, q ≤ m → Prg m q (rec q)) : MGY l D cA aK aV (WM r a cA s0 s1) yX11_readProduct cX11_readProduct 3 none Kl [(.ref r), .int (nI d)] v g ((MRp t n m v g L (pLev K 4 rec i))) := by
  refine MGY.of (by decide) rfl (Nat.le_of_ble_eq_true rfl) (by simp [Value.category]) (fun Z hY => ?_)
  have hZ := hY.toZR
  have h24 : g 24 = t := hM.1
  have hb : v 32 = 0 := hM.2.2.2.1
  have h30 : v 30 = nI (tokS t n i) := hM.2.2.2.2.1.1
  have h31 : v 31 = nI (eNd t n (tokS t n i)) := hM.2.2.2.2.1.2.2.1
  have h28 : v 28 = tcM t n (tokS t n i) := hM.2.2.2.2.1.2.2.2.1
  have h26 : v 26 = nI (eNd t n (tokS t n i)) := hM.2.2.2.2.1.2.1
  have hi : i ≤ m := hM.2.2.1
  have hn7 : n ≤ 700 := hG.2.1
  have htok : ¬ K i = 0 → tokS t n i < n := tok_in hG.1 hi
  have hm7 := hG.m7
  refine z_aload_n hZ (pc := 0) dX11_readProduct_0 rfl ?_
  refine z_iload_n hZ (pc := 1) dX11_readProduct_1 rfl ?_
  refine cVY hY (pc := 2) dX11_readProduct_2 lk_X11_255 mn_X11_readPart mv_X11_readPart (hsub v g i L hM) rc_M rfl rfl (Nat.le_of_ble_eq_true rfl) hkk (by decide) (Nat.zero_le _) (Nat.zero_le _) (fun v2 g2 r h => ?_)
  obtain ⟨rfl, f1, f2, h⟩ := h
  rcases PR.cs (rec i) with ⟨c, q, hr⟩ | ⟨j0, l0, hr⟩
  · skip
    rw [hr] at h
    have hbad := er_bad (by rw [← hr]; exact hprg i hi) h.1
    refine z_aload_n hZ (pc := 5) dX11_readProduct_5 rfl ?_
    refine z_bipush hZ (pc := 6) (v := 42) dX11_readProduct_6 (by decide) ?_
    refine cV_i hZ (pc := 8) dX11_readProduct_8 lk_X11_227 mn_X11_isMarked mv_X11_isMarked (c_X11_isMarked_b hbad) rc_M rfl rfl (Nat.le_of_ble_eq_true rfl) (by omega) (by decide) (Nat.zero_le _) (Nat.zero_le _) ?_
    refine z_if_ne hZ (pc := 11) (tgt := 23) dX11_readProduct_11 rfl (fun c11 => absurd c11 (by decide)) (fun _ => ?_)
    refine z_aload_n hZ (pc := 14) dX11_readProduct_14 rfl ?_
    refine z_bipush hZ (pc := 15) (v := 47) dX11_readProduct_15 (by decide) ?_
    refine cV_i hZ (pc := 17) dX11_readProduct_17 lk_X11_227 mn_X11_isMarked mv_X11_isMarked (c_X11_isMarked_b hbad) rc_M rfl rfl (Nat.le_of_ble_eq_true rfl) (by omega) (by decide) (Nat.zero_le _) (Nat.zero_le _) ?_
    refine z_if_eq hZ (pc := 20) (tgt := 57) dX11_readProduct_20 rfl (fun _ => ?_) (fun c20 => absurd c20 (by decide))
    refine zr_v hZ (pc := 57) dX11_readProduct_57 ?_
    exact MRp_er (by rw [pLev, hr]; rfl) f1 f2 h.1 h.2
  rw [hr] at h
  have hMJ : MI t n m v2 g2 j0 (L ++ l0.map trE) := h
  have hp0 := hprg i hi
  rw [hr] at hp0
  have lp : ∀ (f F j : Nat) (l : List Int32) (v' : ZV) (g' : ZG), m - j < f → m - j < F → FM v v' → FMg g g' → MI t n m v' g' j (L ++ l.map trE) → pLev K 4 rec i = pLoop K 4 rec F j l → Z 0 0 (WM r a cA s0 s1 v' g') [some (.ref r), some (.int (nI d)), none] [] 5 := by
    intro f
    induction f with
    | zero => intro F j l v' g' hf; exact absurd hf (Nat.not_lt_zero _)
    | succ f ih =>
      intro F j l v' g' hf hf2 hF hH hJ hres
      obtain ⟨F, rfl⟩ : ∃ F', F = F' + 1 := ⟨F - 1, by omega⟩
      refine z_aload_n hZ (pc := 5) dX11_readProduct_5 rfl ?_
      refine z_bipush hZ (pc := 6) (v := 42) dX11_readProduct_6 (by decide) ?_
      refine cV_i hZ (pc := 8) dX11_readProduct_8 lk_X11_227 mn_X11_isMarked mv_X11_isMarked (c_X11_isMk (j := 5) hG hJ (by decide)) rc_M rfl rfl (Nat.le_of_ble_eq_true rfl) (by omega) (by decide) (Nat.zero_le _) (Nat.zero_le _) ?_
      refine z_if_ne hZ (pc := 11) (tgt := 23) dX11_readProduct_11 rfl (fun c11 => ?_) (fun c11 => ?_)
      · skip
        have hjn : jnK 4 (K j) = true := by rw [show K j = mcN 5 from bD1 c11]; rfl
        have hjm : j < m := TK_lt hG.1 hJ.2.2.1 (jnK_no0 _ _ hjn)
        have hsx : trE (K j) = -22 := by rw [show K j = mcN 5 from bD1 c11]; rfl
        refine z_aload_n hZ (pc := 23) dX11_readProduct_23 rfl ?_
        refine z_bipush hZ (pc := 24) (v := 42) dX11_readProduct_24 (by decide) ?_
        refine cV_i hZ (pc := 26) dX11_readProduct_26 lk_X11_227 mn_X11_isMarked mv_X11_isMarked (c_X11_isMk (j := 5) hG hJ (by decide)) rc_M rfl rfl (Nat.le_of_ble_eq_true rfl) (by omega) (by decide) (Nat.zero_le _) (Nat.zero_le _) ?_
        refine z_if_eq hZ (pc := 29) (tgt := 37) dX11_readProduct_29 rfl (fun c29 => ?_) (fun c29 => ?_)
        · skip
          exact absurd (bD1 c11) (bD0 c29)
        · skip
          skip
          refine z_bipush hZ (pc := 32) (v := (-22)) dX11_readProduct_32 (by decide) ?_
          refine z_goto hZ (pc := 34) (tgt := 39) dX11_readProduct_34 rfl ?_
          refine q_istore_n_3_2 hZ (pc := 39) dX11_readProduct_39 rfl ?_
          refine z_aload_n hZ (pc := 40) dX11_readProduct_40 rfl ?_
          refine cV hZ (pc := 41) dX11_readProduct_41 lk_X11_233 mn_X11_stepOn mv_X11_stepOn (c_X11_stepOn (p := eNd t n (tokS t n j)) hJ.h26 hJ.2.1 eNd_le hn7 (by rw [hJ.1]; exact hG.2.2)) rc_M rfl rfl (Nat.le_of_ble_eq_true rfl) (by omega) (by decide) (Nat.zero_le _) (Nat.zero_le _) ?_
          intro v3 g3 r h
          obtain ⟨rfl, e3, f3, h⟩ := h
          subst g3
          have hJ2 := hJ.next hG.1 hjm f3 h
          refine z_aload_n hZ (pc := 44) dX11_readProduct_44 rfl ?_
          refine z_iload_n hZ (pc := 45) dX11_readProduct_45 rfl ?_
          refine cVY hY (pc := 46) dX11_readProduct_46 lk_X11_255 mn_X11_readPart mv_X11_readPart (hsub _ _ (j + 1) (L ++ l.map trE) hJ2) rc_M rfl rfl (Nat.le_of_ble_eq_true rfl) hkk (by decide) (Nat.zero_le _) (Nat.zero_le _) (fun v2 g2 r h => ?_)
          obtain ⟨rfl, f4, f5, h⟩ := h
          rcases PR.cs (rec (j + 1)) with ⟨c, q, hr2⟩ | ⟨j2, l2, hr2⟩
          · skip
            rw [hr2] at h
            have hbad := er_bad (by rw [← hr2]; exact hprg (j + 1) hjm) h.1
            refine z_aload_n hZ (pc := 49) dX11_readProduct_49 rfl ?_
            refine z_iload_n hZ (pc := 50) dX11_readProduct_50 rfl ?_
            refine cV_v hZ (pc := 51) dX11_readProduct_51 lk_X11_242 mn_X11_lay mv_X11_lay (c_X11_lay_b hbad) rc_M rfl rfl (Nat.le_of_ble_eq_true rfl) (by omega) (by decide) (Nat.zero_le _) (Nat.zero_le _) ?_
            refine z_goto hZ (pc := 54) (tgt := 5) dX11_readProduct_54 rfl ?_
            refine z_aload_n hZ (pc := 5) dX11_readProduct_5 rfl ?_
            refine z_bipush hZ (pc := 6) (v := 42) dX11_readProduct_6 (by decide) ?_
            refine cV_i hZ (pc := 8) dX11_readProduct_8 lk_X11_227 mn_X11_isMarked mv_X11_isMarked (c_X11_isMarked_b hbad) rc_M rfl rfl (Nat.le_of_ble_eq_true rfl) (by omega) (by decide) (Nat.zero_le _) (Nat.zero_le _) ?_
            refine z_if_ne hZ (pc := 11) (tgt := 23) dX11_readProduct_11 rfl (fun c11 => absurd c11 (by decide)) (fun _ => ?_)
            refine z_aload_n hZ (pc := 14) dX11_readProduct_14 rfl ?_
            refine z_bipush hZ (pc := 15) (v := 47) dX11_readProduct_15 (by decide) ?_
            refine cV_i hZ (pc := 17) dX11_readProduct_17 lk_X11_227 mn_X11_isMarked mv_X11_isMarked (c_X11_isMarked_b hbad) rc_M rfl rfl (Nat.le_of_ble_eq_true rfl) (by omega) (by decide) (Nat.zero_le _) (Nat.zero_le _) ?_
            refine z_if_eq hZ (pc := 20) (tgt := 57) dX11_readProduct_20 rfl (fun _ => ?_) (fun c20 => absurd c20 (by decide))
            refine zr_v hZ (pc := 57) dX11_readProduct_57 ?_
            exact MRp_er (by rw [hres, pLoop, if_pos hjn, hr2]; rfl) ((hF.trans f3.fm).trans f4) (hH.trans f5) h.1 h.2
          rw [hr2] at h
          have hJ3 : MI t n m v2 g2 j2 (L ++ l.map trE ++ l2.map trE) := h
          have hp2 := hprg (j + 1) hjm
          rw [hr2] at hp2
          obtain ⟨s1', s2', s3'⟩ := hp2
          have hlen : (L ++ l.map trE ++ l2.map trE).length < j2 := by have := hJ.len; simp only [List.length_append, List.length_map] at this ⊢; omega
          refine z_aload_n hZ (pc := 49) dX11_readProduct_49 rfl ?_
          refine z_iload_n hZ (pc := 50) dX11_readProduct_50 rfl ?_
          refine cV_v hZ (pc := 51) dX11_readProduct_51 lk_X11_242 mn_X11_lay mv_X11_lay (c_X11_lay (c := (L ++ l.map trE ++ l2.map trE).length) hJ3.bad hJ3.cd (by have := hJ3.2.2.1; omega)) rc_M rfl rfl (Nat.le_of_ble_eq_true rfl) (by omega) (by decide) (Nat.zero_le _) (Nat.zero_le _) ?_
          refine z_goto hZ (pc := 54) (tgt := 5) dX11_readProduct_54 rfl ?_
          exact z_back hZ (ih F j2 (l ++ l2 ++ [K j]) _ _ (by omega) (by omega) (((hF.trans f3.fm).trans f4).trans (FM.up (by omega))) ((hH.trans f5).trans FMg.up) (by rw [show L ++ (l ++ l2 ++ [K j]).map trE = L ++ l.map trE ++ l2.map trE ++ [trE (K j)] from by simp only [List.map_append, List.map_cons, List.map_nil, List.append_assoc], hsx]; exact hJ3.code hlen) (by rw [hres, pLoop, if_pos hjn, hr2]; rfl)) rfl ⟨rfl, rfl, trivial⟩
      · skip
        refine z_aload_n hZ (pc := 14) dX11_readProduct_14 rfl ?_
        refine z_bipush hZ (pc := 15) (v := 47) dX11_readProduct_15 (by decide) ?_
        refine cV_i hZ (pc := 17) dX11_readProduct_17 lk_X11_227 mn_X11_isMarked mv_X11_isMarked (c_X11_isMk (j := 6) hG hJ (by decide)) rc_M rfl rfl (Nat.le_of_ble_eq_true rfl) (by omega) (by decide) (Nat.zero_le _) (Nat.zero_le _) ?_
        refine z_if_eq hZ (pc := 20) (tgt := 57) dX11_readProduct_20 rfl (fun c20 => ?_) (fun c20 => ?_)
        · skip
          refine zr_v hZ (pc := 57) dX11_readProduct_57 ?_
          exact MRp_ok (j := j) (l := l) (by rw [hres, pLoop, if_neg (by rw [show jnK 4 (K j) = false from by rw [jnK4, decide_eq_false (show ¬ K j = -15 from bD0 c11), decide_eq_false (show ¬ K j = -16 from bD0 c20)]; rfl]; decide)]) hF hH hJ rfl
        · skip
          have hjn : jnK 4 (K j) = true := by rw [show K j = mcN 6 from bD1 c20]; rfl
          have hjm : j < m := TK_lt hG.1 hJ.2.2.1 (jnK_no0 _ _ hjn)
          have hsx : trE (K j) = -23 := by rw [show K j = mcN 6 from bD1 c20]; rfl
          refine z_aload_n hZ (pc := 23) dX11_readProduct_23 rfl ?_
          refine z_bipush hZ (pc := 24) (v := 42) dX11_readProduct_24 (by decide) ?_
          refine cV_i hZ (pc := 26) dX11_readProduct_26 lk_X11_227 mn_X11_isMarked mv_X11_isMarked (c_X11_isMk (j := 5) hG hJ (by decide)) rc_M rfl rfl (Nat.le_of_ble_eq_true rfl) (by omega) (by decide) (Nat.zero_le _) (Nat.zero_le _) ?_
          refine z_if_eq hZ (pc := 29) (tgt := 37) dX11_readProduct_29 rfl (fun c29 => ?_) (fun c29 => ?_)
          · skip
            skip
            refine z_bipush hZ (pc := 37) (v := (-23)) dX11_readProduct_37 (by decide) ?_
            refine q_istore_n_3_2 hZ (pc := 39) dX11_readProduct_39 rfl ?_
            refine z_aload_n hZ (pc := 40) dX11_readProduct_40 rfl ?_
            refine cV hZ (pc := 41) dX11_readProduct_41 lk_X11_233 mn_X11_stepOn mv_X11_stepOn (c_X11_stepOn (p := eNd t n (tokS t n j)) hJ.h26 hJ.2.1 eNd_le hn7 (by rw [hJ.1]; exact hG.2.2)) rc_M rfl rfl (Nat.le_of_ble_eq_true rfl) (by omega) (by decide) (Nat.zero_le _) (Nat.zero_le _) ?_
            intro v3 g3 r h
            obtain ⟨rfl, e3, f3, h⟩ := h
            subst g3
            have hJ2 := hJ.next hG.1 hjm f3 h
            refine z_aload_n hZ (pc := 44) dX11_readProduct_44 rfl ?_
            refine z_iload_n hZ (pc := 45) dX11_readProduct_45 rfl ?_
            refine cVY hY (pc := 46) dX11_readProduct_46 lk_X11_255 mn_X11_readPart mv_X11_readPart (hsub _ _ (j + 1) (L ++ l.map trE) hJ2) rc_M rfl rfl (Nat.le_of_ble_eq_true rfl) hkk (by decide) (Nat.zero_le _) (Nat.zero_le _) (fun v2 g2 r h => ?_)
            obtain ⟨rfl, f4, f5, h⟩ := h
            rcases PR.cs (rec (j + 1)) with ⟨c, q, hr2⟩ | ⟨j2, l2, hr2⟩
            · skip
              rw [hr2] at h
              have hbad := er_bad (by rw [← hr2]; exact hprg (j + 1) hjm) h.1
              refine z_aload_n hZ (pc := 49) dX11_readProduct_49 rfl ?_
              refine z_iload_n hZ (pc := 50) dX11_readProduct_50 rfl ?_
              refine cV_v hZ (pc := 51) dX11_readProduct_51 lk_X11_242 mn_X11_lay mv_X11_lay (c_X11_lay_b hbad) rc_M rfl rfl (Nat.le_of_ble_eq_true rfl) (by omega) (by decide) (Nat.zero_le _) (Nat.zero_le _) ?_
              refine z_goto hZ (pc := 54) (tgt := 5) dX11_readProduct_54 rfl ?_
              refine z_aload_n hZ (pc := 5) dX11_readProduct_5 rfl ?_
              refine z_bipush hZ (pc := 6) (v := 42) dX11_readProduct_6 (by decide) ?_
              refine cV_i hZ (pc := 8) dX11_readProduct_8 lk_X11_227 mn_X11_isMarked mv_X11_isMarked (c_X11_isMarked_b hbad) rc_M rfl rfl (Nat.le_of_ble_eq_true rfl) (by omega) (by decide) (Nat.zero_le _) (Nat.zero_le _) ?_
              refine z_if_ne hZ (pc := 11) (tgt := 23) dX11_readProduct_11 rfl (fun c11 => absurd c11 (by decide)) (fun _ => ?_)
              refine z_aload_n hZ (pc := 14) dX11_readProduct_14 rfl ?_
              refine z_bipush hZ (pc := 15) (v := 47) dX11_readProduct_15 (by decide) ?_
              refine cV_i hZ (pc := 17) dX11_readProduct_17 lk_X11_227 mn_X11_isMarked mv_X11_isMarked (c_X11_isMarked_b hbad) rc_M rfl rfl (Nat.le_of_ble_eq_true rfl) (by omega) (by decide) (Nat.zero_le _) (Nat.zero_le _) ?_
              refine z_if_eq hZ (pc := 20) (tgt := 57) dX11_readProduct_20 rfl (fun _ => ?_) (fun c20 => absurd c20 (by decide))
              refine zr_v hZ (pc := 57) dX11_readProduct_57 ?_
              exact MRp_er (by rw [hres, pLoop, if_pos hjn, hr2]; rfl) ((hF.trans f3.fm).trans f4) (hH.trans f5) h.1 h.2
            rw [hr2] at h
            have hJ3 : MI t n m v2 g2 j2 (L ++ l.map trE ++ l2.map trE) := h
            have hp2 := hprg (j + 1) hjm
            rw [hr2] at hp2
            obtain ⟨s1', s2', s3'⟩ := hp2
            have hlen : (L ++ l.map trE ++ l2.map trE).length < j2 := by have := hJ.len; simp only [List.length_append, List.length_map] at this ⊢; omega
            refine z_aload_n hZ (pc := 49) dX11_readProduct_49 rfl ?_
            refine z_iload_n hZ (pc := 50) dX11_readProduct_50 rfl ?_
            refine cV_v hZ (pc := 51) dX11_readProduct_51 lk_X11_242 mn_X11_lay mv_X11_lay (c_X11_lay (c := (L ++ l.map trE ++ l2.map trE).length) hJ3.bad hJ3.cd (by have := hJ3.2.2.1; omega)) rc_M rfl rfl (Nat.le_of_ble_eq_true rfl) (by omega) (by decide) (Nat.zero_le _) (Nat.zero_le _) ?_
            refine z_goto hZ (pc := 54) (tgt := 5) dX11_readProduct_54 rfl ?_
            exact z_back hZ (ih F j2 (l ++ l2 ++ [K j]) _ _ (by omega) (by omega) (((hF.trans f3.fm).trans f4).trans (FM.up (by omega))) ((hH.trans f5).trans FMg.up) (by rw [show L ++ (l ++ l2 ++ [K j]).map trE = L ++ l.map trE ++ l2.map trE ++ [trE (K j)] from by simp only [List.map_append, List.map_cons, List.map_nil, List.append_assoc], hsx]; exact hJ3.code hlen) (by rw [hres, pLoop, if_pos hjn, hr2]; rfl)) rfl ⟨rfl, rfl, trivial⟩
          · skip
            exact absurd (bD1 c29) (bD0 c11)
  exact z_back hZ (lp (m + 1) 700 j0 l0 _ _ (by omega) (by have := hp0.1; omega) f1 f2 hMJ (by rw [pLev, hr]; rfl)) rfl ⟨rfl, rfl, trivial⟩
theorem c_X11_readSum {l : Launch} {D : va_G} {cA : Nat → ClassId} {r : Nat} {a : Nat → Nat} {s0 s1 : Nat → Option Nat} {v : ZV} {g : ZG} {aK aV : Nat → Nat} {t : Nat → Int32} {n m i : Nat} {K N : Nat → Int32} {L : List Int32} {d kk Kl : Nat} {rec : Nat → PR} (hG : GM t n m K N) (hM : MI t n m v g i L) (hKl : 20 ≤ Kl) (hkk : kk + 1 ≤ Kl) (hsub : NC l D cA aK aV r a s0 s1 yX11_readProduct cX11_readProduct 3 kk d t n m rec) (hprg : ∀ q, q ≤ m → Prg m q (rec q)) : MGY l D cA aK aV (WM r a cA s0 s1) yX11_readSum cX11_readSum 3 none Kl [(.ref r), .int (nI d)] v g ((MRp t n m v g L (pLev K 3 rec i))) := by
  refine MGY.of (by decide) rfl (Nat.le_of_ble_eq_true rfl) (by simp [Value.category]) (fun Z hY => ?_)
  have hZ := hY.toZR
  have h24 : g 24 = t := hM.1
  have hb : v 32 = 0 := hM.2.2.2.1
  have h30 : v 30 = nI (tokS t n i) := hM.2.2.2.2.1.1
  have h31 : v 31 = nI (eNd t n (tokS t n i)) := hM.2.2.2.2.1.2.2.1
  have h28 : v 28 = tcM t n (tokS t n i) := hM.2.2.2.2.1.2.2.2.1
  have h26 : v 26 = nI (eNd t n (tokS t n i)) := hM.2.2.2.2.1.2.1
  have hi : i ≤ m := hM.2.2.1
  have hn7 : n ≤ 700 := hG.2.1
  have htok : ¬ K i = 0 → tokS t n i < n := tok_in hG.1 hi
  have hm7 := hG.m7
  refine z_aload_n hZ (pc := 0) dX11_readSum_0 rfl ?_
  refine z_iload_n hZ (pc := 1) dX11_readSum_1 rfl ?_
  refine cVY hY (pc := 2) dX11_readSum_2 lk_X11_258 mn_X11_readProduct mv_X11_readProduct (hsub v g i L hM) rc_M rfl rfl (Nat.le_of_ble_eq_true rfl) hkk (by decide) (Nat.zero_le _) (Nat.zero_le _) (fun v2 g2 r h => ?_)
  obtain ⟨rfl, f1, f2, h⟩ := h
  rcases PR.cs (rec i) with ⟨c, q, hr⟩ | ⟨j0, l0, hr⟩
  · skip
    rw [hr] at h
    have hbad := er_bad (by rw [← hr]; exact hprg i hi) h.1
    refine z_aload_n hZ (pc := 5) dX11_readSum_5 rfl ?_
    refine z_bipush hZ (pc := 6) (v := 43) dX11_readSum_6 (by decide) ?_
    refine cV_i hZ (pc := 8) dX11_readSum_8 lk_X11_227 mn_X11_isMarked mv_X11_isMarked (c_X11_isMarked_b hbad) rc_M rfl rfl (Nat.le_of_ble_eq_true rfl) (by omega) (by decide) (Nat.zero_le _) (Nat.zero_le _) ?_
    refine z_if_ne hZ (pc := 11) (tgt := 23) dX11_readSum_11 rfl (fun c11 => absurd c11 (by decide)) (fun _ => ?_)
    refine z_aload_n hZ (pc := 14) dX11_readSum_14 rfl ?_
    refine z_bipush hZ (pc := 15) (v := 45) dX11_readSum_15 (by decide) ?_
    refine cV_i hZ (pc := 17) dX11_readSum_17 lk_X11_227 mn_X11_isMarked mv_X11_isMarked (c_X11_isMarked_b hbad) rc_M rfl rfl (Nat.le_of_ble_eq_true rfl) (by omega) (by decide) (Nat.zero_le _) (Nat.zero_le _) ?_
    refine z_if_eq hZ (pc := 20) (tgt := 57) dX11_readSum_20 rfl (fun _ => ?_) (fun c20 => absurd c20 (by decide))
    refine zr_v hZ (pc := 57) dX11_readSum_57 ?_
    exact MRp_er (by rw [pLev, hr]; rfl) f1 f2 h.1 h.2
  rw [hr] at h
  have hMJ : MI t n m v2 g2 j0 (L ++ l0.map trE) := h
  have hp0 := hprg i hi
  rw [hr] at hp0
  have lp : ∀ (f F j : Nat) (l : List Int32) (v' : ZV) (g' : ZG), m - j < f → m - j < F → FM v v' → FMg g g' → MI t n m v' g' j (L ++ l.map trE) → pLev K 3 rec i = pLoop K 3 rec F j l → Z 0 0 (WM r a cA s0 s1 v' g') [some (.ref r), some (.int (nI d)), none] [] 5 := by
    intro f
    induction f with
    | zero => intro F j l v' g' hf; exact absurd hf (Nat.not_lt_zero _)
    | succ f ih =>
      intro F j l v' g' hf hf2 hF hH hJ hres
      obtain ⟨F, rfl⟩ : ∃ F', F = F' + 1 := ⟨F - 1, by omega⟩
      refine z_aload_n hZ (pc := 5) dX11_readSum_5 rfl ?_
      refine z_bipush hZ (pc := 6) (v := 43) dX11_readSum_6 (by decide) ?_
      refine cV_i hZ (pc := 8) dX11_readSum_8 lk_X11_227 mn_X11_isMarked mv_X11_isMarked (c_X11_isMk (j := 3) hG hJ (by decide)) rc_M rfl rfl (Nat.le_of_ble_eq_true rfl) (by omega) (by decide) (Nat.zero_le _) (Nat.zero_le _) ?_
      refine z_if_ne hZ (pc := 11) (tgt := 23) dX11_readSum_11 rfl (fun c11 => ?_) (fun c11 => ?_)
      · skip
        have hjn : jnK 3 (K j) = true := by rw [show K j = mcN 3 from bD1 c11]; rfl
        have hjm : j < m := TK_lt hG.1 hJ.2.2.1 (jnK_no0 _ _ hjn)
        have hsx : trE (K j) = -20 := by rw [show K j = mcN 3 from bD1 c11]; rfl
        refine z_aload_n hZ (pc := 23) dX11_readSum_23 rfl ?_
        refine z_bipush hZ (pc := 24) (v := 43) dX11_readSum_24 (by decide) ?_
        refine cV_i hZ (pc := 26) dX11_readSum_26 lk_X11_227 mn_X11_isMarked mv_X11_isMarked (c_X11_isMk (j := 3) hG hJ (by decide)) rc_M rfl rfl (Nat.le_of_ble_eq_true rfl) (by omega) (by decide) (Nat.zero_le _) (Nat.zero_le _) ?_
        refine z_if_eq hZ (pc := 29) (tgt := 37) dX11_readSum_29 rfl (fun c29 => ?_) (fun c29 => ?_)
        · skip
          exact absurd (bD1 c11) (bD0 c29)
        · skip
          skip
          refine z_bipush hZ (pc := 32) (v := (-20)) dX11_readSum_32 (by decide) ?_
          refine z_goto hZ (pc := 34) (tgt := 39) dX11_readSum_34 rfl ?_
          refine q_istore_n_3_2 hZ (pc := 39) dX11_readSum_39 rfl ?_
          refine z_aload_n hZ (pc := 40) dX11_readSum_40 rfl ?_
          refine cV hZ (pc := 41) dX11_readSum_41 lk_X11_233 mn_X11_stepOn mv_X11_stepOn (c_X11_stepOn (p := eNd t n (tokS t n j)) hJ.h26 hJ.2.1 eNd_le hn7 (by rw [hJ.1]; exact hG.2.2)) rc_M rfl rfl (Nat.le_of_ble_eq_true rfl) (by omega) (by decide) (Nat.zero_le _) (Nat.zero_le _) ?_
          intro v3 g3 r h
          obtain ⟨rfl, e3, f3, h⟩ := h
          subst g3
          have hJ2 := hJ.next hG.1 hjm f3 h
          refine z_aload_n hZ (pc := 44) dX11_readSum_44 rfl ?_
          refine z_iload_n hZ (pc := 45) dX11_readSum_45 rfl ?_
          refine cVY hY (pc := 46) dX11_readSum_46 lk_X11_258 mn_X11_readProduct mv_X11_readProduct (hsub _ _ (j + 1) (L ++ l.map trE) hJ2) rc_M rfl rfl (Nat.le_of_ble_eq_true rfl) hkk (by decide) (Nat.zero_le _) (Nat.zero_le _) (fun v2 g2 r h => ?_)
          obtain ⟨rfl, f4, f5, h⟩ := h
          rcases PR.cs (rec (j + 1)) with ⟨c, q, hr2⟩ | ⟨j2, l2, hr2⟩
          · skip
            rw [hr2] at h
            have hbad := er_bad (by rw [← hr2]; exact hprg (j + 1) hjm) h.1
            refine z_aload_n hZ (pc := 49) dX11_readSum_49 rfl ?_
            refine z_iload_n hZ (pc := 50) dX11_readSum_50 rfl ?_
            refine cV_v hZ (pc := 51) dX11_readSum_51 lk_X11_242 mn_X11_lay mv_X11_lay (c_X11_lay_b hbad) rc_M rfl rfl (Nat.le_of_ble_eq_true rfl) (by omega) (by decide) (Nat.zero_le _) (Nat.zero_le _) ?_
            refine z_goto hZ (pc := 54) (tgt := 5) dX11_readSum_54 rfl ?_
            refine z_aload_n hZ (pc := 5) dX11_readSum_5 rfl ?_
            refine z_bipush hZ (pc := 6) (v := 43) dX11_readSum_6 (by decide) ?_
            refine cV_i hZ (pc := 8) dX11_readSum_8 lk_X11_227 mn_X11_isMarked mv_X11_isMarked (c_X11_isMarked_b hbad) rc_M rfl rfl (Nat.le_of_ble_eq_true rfl) (by omega) (by decide) (Nat.zero_le _) (Nat.zero_le _) ?_
            refine z_if_ne hZ (pc := 11) (tgt := 23) dX11_readSum_11 rfl (fun c11 => absurd c11 (by decide)) (fun _ => ?_)
            refine z_aload_n hZ (pc := 14) dX11_readSum_14 rfl ?_
            refine z_bipush hZ (pc := 15) (v := 45) dX11_readSum_15 (by decide) ?_
            refine cV_i hZ (pc := 17) dX11_readSum_17 lk_X11_227 mn_X11_isMarked mv_X11_isMarked (c_X11_isMarked_b hbad) rc_M rfl rfl (Nat.le_of_ble_eq_true rfl) (by omega) (by decide) (Nat.zero_le _) (Nat.zero_le _) ?_
            refine z_if_eq hZ (pc := 20) (tgt := 57) dX11_readSum_20 rfl (fun _ => ?_) (fun c20 => absurd c20 (by decide))
            refine zr_v hZ (pc := 57) dX11_readSum_57 ?_
            exact MRp_er (by rw [hres, pLoop, if_pos hjn, hr2]; rfl) ((hF.trans f3.fm).trans f4) (hH.trans f5) h.1 h.2
          rw [hr2] at h
          have hJ3 : MI t n m v2 g2 j2 (L ++ l.map trE ++ l2.map trE) := h
          have hp2 := hprg (j + 1) hjm
          rw [hr2] at hp2
          obtain ⟨s1', s2', s3'⟩ := hp2
          have hlen : (L ++ l.map trE ++ l2.map trE).length < j2 := by have := hJ.len; simp only [List.length_append, List.length_map] at this ⊢; omega
          refine z_aload_n hZ (pc := 49) dX11_readSum_49 rfl ?_
          refine z_iload_n hZ (pc := 50) dX11_readSum_50 rfl ?_
          refine cV_v hZ (pc := 51) dX11_readSum_51 lk_X11_242 mn_X11_lay mv_X11_lay (c_X11_lay (c := (L ++ l.map trE ++ l2.map trE).length) hJ3.bad hJ3.cd (by have := hJ3.2.2.1; omega)) rc_M rfl rfl (Nat.le_of_ble_eq_true rfl) (by omega) (by decide) (Nat.zero_le _) (Nat.zero_le _) ?_
          refine z_goto hZ (pc := 54) (tgt := 5) dX11_readSum_54 rfl ?_
          exact z_back hZ (ih F j2 (l ++ l2 ++ [K j]) _ _ (by omega) (by omega) (((hF.trans f3.fm).trans f4).trans (FM.up (by omega))) ((hH.trans f5).trans FMg.up) (by rw [show L ++ (l ++ l2 ++ [K j]).map trE = L ++ l.map trE ++ l2.map trE ++ [trE (K j)] from by simp only [List.map_append, List.map_cons, List.map_nil, List.append_assoc], hsx]; exact hJ3.code hlen) (by rw [hres, pLoop, if_pos hjn, hr2]; rfl)) rfl ⟨rfl, rfl, trivial⟩
      · skip
        refine z_aload_n hZ (pc := 14) dX11_readSum_14 rfl ?_
        refine z_bipush hZ (pc := 15) (v := 45) dX11_readSum_15 (by decide) ?_
        refine cV_i hZ (pc := 17) dX11_readSum_17 lk_X11_227 mn_X11_isMarked mv_X11_isMarked (c_X11_isMk (j := 4) hG hJ (by decide)) rc_M rfl rfl (Nat.le_of_ble_eq_true rfl) (by omega) (by decide) (Nat.zero_le _) (Nat.zero_le _) ?_
        refine z_if_eq hZ (pc := 20) (tgt := 57) dX11_readSum_20 rfl (fun c20 => ?_) (fun c20 => ?_)
        · skip
          refine zr_v hZ (pc := 57) dX11_readSum_57 ?_
          exact MRp_ok (j := j) (l := l) (by rw [hres, pLoop, if_neg (by rw [show jnK 3 (K j) = false from by rw [jnK3, decide_eq_false (show ¬ K j = -13 from bD0 c11), decide_eq_false (show ¬ K j = -14 from bD0 c20)]; rfl]; decide)]) hF hH hJ rfl
        · skip
          have hjn : jnK 3 (K j) = true := by rw [show K j = mcN 4 from bD1 c20]; rfl
          have hjm : j < m := TK_lt hG.1 hJ.2.2.1 (jnK_no0 _ _ hjn)
          have hsx : trE (K j) = -21 := by rw [show K j = mcN 4 from bD1 c20]; rfl
          refine z_aload_n hZ (pc := 23) dX11_readSum_23 rfl ?_
          refine z_bipush hZ (pc := 24) (v := 43) dX11_readSum_24 (by decide) ?_
          refine cV_i hZ (pc := 26) dX11_readSum_26 lk_X11_227 mn_X11_isMarked mv_X11_isMarked (c_X11_isMk (j := 3) hG hJ (by decide)) rc_M rfl rfl (Nat.le_of_ble_eq_true rfl) (by omega) (by decide) (Nat.zero_le _) (Nat.zero_le _) ?_
          refine z_if_eq hZ (pc := 29) (tgt := 37) dX11_readSum_29 rfl (fun c29 => ?_) (fun c29 => ?_)
          · skip
            skip
            refine z_bipush hZ (pc := 37) (v := (-21)) dX11_readSum_37 (by decide) ?_
            refine q_istore_n_3_2 hZ (pc := 39) dX11_readSum_39 rfl ?_
            refine z_aload_n hZ (pc := 40) dX11_readSum_40 rfl ?_
            refine cV hZ (pc := 41) dX11_readSum_41 lk_X11_233 mn_X11_stepOn mv_X11_stepOn (c_X11_stepOn (p := eNd t n (tokS t n j)) hJ.h26 hJ.2.1 eNd_le hn7 (by rw [hJ.1]; exact hG.2.2)) rc_M rfl rfl (Nat.le_of_ble_eq_true rfl) (by omega) (by decide) (Nat.zero_le _) (Nat.zero_le _) ?_
            intro v3 g3 r h
            obtain ⟨rfl, e3, f3, h⟩ := h
            subst g3
            have hJ2 := hJ.next hG.1 hjm f3 h
            refine z_aload_n hZ (pc := 44) dX11_readSum_44 rfl ?_
            refine z_iload_n hZ (pc := 45) dX11_readSum_45 rfl ?_
            refine cVY hY (pc := 46) dX11_readSum_46 lk_X11_258 mn_X11_readProduct mv_X11_readProduct (hsub _ _ (j + 1) (L ++ l.map trE) hJ2) rc_M rfl rfl (Nat.le_of_ble_eq_true rfl) hkk (by decide) (Nat.zero_le _) (Nat.zero_le _) (fun v2 g2 r h => ?_)
            obtain ⟨rfl, f4, f5, h⟩ := h
            rcases PR.cs (rec (j + 1)) with ⟨c, q, hr2⟩ | ⟨j2, l2, hr2⟩
            · skip
              rw [hr2] at h
              have hbad := er_bad (by rw [← hr2]; exact hprg (j + 1) hjm) h.1
              refine z_aload_n hZ (pc := 49) dX11_readSum_49 rfl ?_
              refine z_iload_n hZ (pc := 50) dX11_readSum_50 rfl ?_
              refine cV_v hZ (pc := 51) dX11_readSum_51 lk_X11_242 mn_X11_lay mv_X11_lay (c_X11_lay_b hbad) rc_M rfl rfl (Nat.le_of_ble_eq_true rfl) (by omega) (by decide) (Nat.zero_le _) (Nat.zero_le _) ?_
              refine z_goto hZ (pc := 54) (tgt := 5) dX11_readSum_54 rfl ?_
              refine z_aload_n hZ (pc := 5) dX11_readSum_5 rfl ?_
              refine z_bipush hZ (pc := 6) (v := 43) dX11_readSum_6 (by decide) ?_
              refine cV_i hZ (pc := 8) dX11_readSum_8 lk_X11_227 mn_X11_isMarked mv_X11_isMarked (c_X11_isMarked_b hbad) rc_M rfl rfl (Nat.le_of_ble_eq_true rfl) (by omega) (by decide) (Nat.zero_le _) (Nat.zero_le _) ?_
              refine z_if_ne hZ (pc := 11) (tgt := 23) dX11_readSum_11 rfl (fun c11 => absurd c11 (by decide)) (fun _ => ?_)
              refine z_aload_n hZ (pc := 14) dX11_readSum_14 rfl ?_
              refine z_bipush hZ (pc := 15) (v := 45) dX11_readSum_15 (by decide) ?_
              refine cV_i hZ (pc := 17) dX11_readSum_17 lk_X11_227 mn_X11_isMarked mv_X11_isMarked (c_X11_isMarked_b hbad) rc_M rfl rfl (Nat.le_of_ble_eq_true rfl) (by omega) (by decide) (Nat.zero_le _) (Nat.zero_le _) ?_
              refine z_if_eq hZ (pc := 20) (tgt := 57) dX11_readSum_20 rfl (fun _ => ?_) (fun c20 => absurd c20 (by decide))
              refine zr_v hZ (pc := 57) dX11_readSum_57 ?_
              exact MRp_er (by rw [hres, pLoop, if_pos hjn, hr2]; rfl) ((hF.trans f3.fm).trans f4) (hH.trans f5) h.1 h.2
            rw [hr2] at h
            have hJ3 : MI t n m v2 g2 j2 (L ++ l.map trE ++ l2.map trE) := h
            have hp2 := hprg (j + 1) hjm
            rw [hr2] at hp2
            obtain ⟨s1', s2', s3'⟩ := hp2
            have hlen : (L ++ l.map trE ++ l2.map trE).length < j2 := by have := hJ.len; simp only [List.length_append, List.length_map] at this ⊢; omega
            refine z_aload_n hZ (pc := 49) dX11_readSum_49 rfl ?_
            refine z_iload_n hZ (pc := 50) dX11_readSum_50 rfl ?_
            refine cV_v hZ (pc := 51) dX11_readSum_51 lk_X11_242 mn_X11_lay mv_X11_lay (c_X11_lay (c := (L ++ l.map trE ++ l2.map trE).length) hJ3.bad hJ3.cd (by have := hJ3.2.2.1; omega)) rc_M rfl rfl (Nat.le_of_ble_eq_true rfl) (by omega) (by decide) (Nat.zero_le _) (Nat.zero_le _) ?_
            refine z_goto hZ (pc := 54) (tgt := 5) dX11_readSum_54 rfl ?_
            exact z_back hZ (ih F j2 (l ++ l2 ++ [K j]) _ _ (by omega) (by omega) (((hF.trans f3.fm).trans f4).trans (FM.up (by omega))) ((hH.trans f5).trans FMg.up) (by rw [show L ++ (l ++ l2 ++ [K j]).map trE = L ++ l.map trE ++ l2.map trE ++ [trE (K j)] from by simp only [List.map_append, List.map_cons, List.map_nil, List.append_assoc], hsx]; exact hJ3.code hlen) (by rw [hres, pLoop, if_pos hjn, hr2]; rfl)) rfl ⟨rfl, rfl, trivial⟩
          · skip
            exact absurd (bD1 c29) (bD0 c11)
  exact z_back hZ (lp (m + 1) 700 j0 l0 _ _ (by omega) (by have := hp0.1; omega) f1 f2 hMJ (by rw [pLev, hr]; rfl)) rfl ⟨rfl, rfl, trivial⟩
theorem c_X11_readAnd {l : Launch} {D : va_G} {cA : Nat → ClassId} {r : Nat} {a : Nat → Nat} {s0 s1 : Nat → Option Nat} {v : ZV} {g : ZG} {aK aV : Nat → Nat} {t : Nat → Int32} {n m i : Nat} {K N : Nat → Int32} {L : List Int32} {d kk Kl : Nat} {rec : Nat → PR} (hG : GM t n m K N) (hM : MI t n m v g i L) (hKl : 20 ≤ Kl) (hkk : kk + 1 ≤ Kl) (hsub : NC l D cA aK aV r a s0 s1 yX11_readNot cX11_readNot 4 kk d t n m rec) (hprg : ∀ q, q ≤ m → Prg m q (rec q)) : MGY l D cA aK aV (WM r a cA s0 s1) yX11_readAnd cX11_readAnd 2 none Kl [(.ref r), .int (nI d)] v g ((MRp t n m v g L (pLev K 1 rec i))) := by
  refine MGY.of (by decide) rfl (Nat.le_of_ble_eq_true rfl) (by simp [Value.category]) (fun Z hY => ?_)
  have hZ := hY.toZR
  have h24 : g 24 = t := hM.1
  have hb : v 32 = 0 := hM.2.2.2.1
  have h30 : v 30 = nI (tokS t n i) := hM.2.2.2.2.1.1
  have h31 : v 31 = nI (eNd t n (tokS t n i)) := hM.2.2.2.2.1.2.2.1
  have h28 : v 28 = tcM t n (tokS t n i) := hM.2.2.2.2.1.2.2.2.1
  have h26 : v 26 = nI (eNd t n (tokS t n i)) := hM.2.2.2.2.1.2.1
  have hi : i ≤ m := hM.2.2.1
  have hn7 : n ≤ 700 := hG.2.1
  have htok : ¬ K i = 0 → tokS t n i < n := tok_in hG.1 hi
  have hm7 := hG.m7
  refine z_aload_n hZ (pc := 0) dX11_readAnd_0 rfl ?_
  refine z_iload_n hZ (pc := 1) dX11_readAnd_1 rfl ?_
  refine cVY hY (pc := 2) dX11_readAnd_2 lk_X11_266 mn_X11_readNot mv_X11_readNot (hsub v g i L hM) rc_M rfl rfl (Nat.le_of_ble_eq_true rfl) hkk (by decide) (Nat.zero_le _) (Nat.zero_le _) (fun v2 g2 r h => ?_)
  obtain ⟨rfl, f1, f2, h⟩ := h
  rcases PR.cs (rec i) with ⟨c, q, hr⟩ | ⟨j0, l0, hr⟩
  · skip
    rw [hr] at h
    have hbad := er_bad (by rw [← hr]; exact hprg i hi) h.1
    refine z_aload_n hZ (pc := 5) dX11_readAnd_5 rfl ?_
    refine z_ldcwS hY (pc := 6) (tx := "and") (q := aK 9) (fun _ _ _ h => h.2.2.1 ("TearsPostModel", 269, "and", 9) (List.mem_of_getElem? (i := 24) (by decide +kernel))) dX11_readAnd_6 ?_
    refine cV_i hZ (pc := 9) dX11_readAnd_9 lk_X11_223 mn_X11_is mv_X11_is (c_X11_is_b hbad) rc_M rfl rfl (Nat.le_of_ble_eq_true rfl) (by omega) (by decide) (Nat.zero_le _) (Nat.zero_le _) ?_
    refine z_if_eq hZ (pc := 12) (tgt := 33) dX11_readAnd_12 rfl (fun _ => ?_) (fun c12 => absurd c12 (by decide))
    refine zr_v hZ (pc := 33) dX11_readAnd_33 ?_
    exact MRp_er (by rw [pLev, hr]; rfl) f1 f2 h.1 h.2
  rw [hr] at h
  have hMJ : MI t n m v2 g2 j0 (L ++ l0.map trE) := h
  have hp0 := hprg i hi
  rw [hr] at hp0
  have lp : ∀ (f F j : Nat) (l : List Int32) (v' : ZV) (g' : ZG), m - j < f → m - j < F → FM v v' → FMg g g' → MI t n m v' g' j (L ++ l.map trE) → pLev K 1 rec i = pLoop K 1 rec F j l → Z 0 0 (WM r a cA s0 s1 v' g') [some (.ref r), some (.int (nI d))] [] 5 := by
    intro f
    induction f with
    | zero => intro F j l v' g' hf; exact absurd hf (Nat.not_lt_zero _)
    | succ f ih =>
      intro F j l v' g' hf hf2 hF hH hJ hres
      obtain ⟨F, rfl⟩ : ∃ F', F = F' + 1 := ⟨F - 1, by omega⟩
      refine z_aload_n hZ (pc := 5) dX11_readAnd_5 rfl ?_
      refine z_ldcwS hY (pc := 6) (tx := "and") (q := aK 9) (fun _ _ _ h => h.2.2.1 ("TearsPostModel", 269, "and", 9) (List.mem_of_getElem? (i := 24) (by decide +kernel))) dX11_readAnd_6 ?_
      refine cVY hY (pc := 9) dX11_readAnd_9 lk_X11_223 mn_X11_is mv_X11_is (c_X11_is (j := 9) hG hJ (by decide)) rc_M rfl rfl (Nat.le_of_ble_eq_true rfl) (by omega) (by decide) (Nat.zero_le _) (Nat.zero_le _) (fun v2 g2 r h => ?_)
      obtain ⟨e1, e2, rfl⟩ := h
      subst v2
      subst g2
      refine z_if_eq hZ (pc := 12) (tgt := 33) dX11_readAnd_12 rfl (fun c12 => ?_) (fun c12 => ?_)
      · skip
        refine zr_v hZ (pc := 33) dX11_readAnd_33 ?_
        exact MRp_ok (j := j) (l := l) (by rw [hres, pLoop, if_neg (by rw [show jnK 1 (K j) = false from by rw [jnK1]; exact decide_eq_false (show ¬ K j = -10 from bD0 c12)]; decide)]) hF hH hJ rfl
      · skip
        have hjn : jnK 1 (K j) = true := by rw [show K j = kcN 9 from bD1 c12]; rfl
        have hjm : j < m := TK_lt hG.1 hJ.2.2.1 (jnK_no0 _ _ hjn)
        have hsx : trE (K j) = -26 := by rw [show K j = kcN 9 from bD1 c12]; rfl
        refine z_aload_n hZ (pc := 15) dX11_readAnd_15 rfl ?_
        refine cV hZ (pc := 16) dX11_readAnd_16 lk_X11_233 mn_X11_stepOn mv_X11_stepOn (c_X11_stepOn (p := eNd t n (tokS t n j)) hJ.h26 hJ.2.1 eNd_le hn7 (by rw [hJ.1]; exact hG.2.2)) rc_M rfl rfl (Nat.le_of_ble_eq_true rfl) (by omega) (by decide) (Nat.zero_le _) (Nat.zero_le _) ?_
        intro v3 g3 r h
        obtain ⟨rfl, e3, f3, h⟩ := h
        subst g3
        have hJ2 := hJ.next hG.1 hjm f3 h
        refine z_aload_n hZ (pc := 19) dX11_readAnd_19 rfl ?_
        refine z_iload_n hZ (pc := 20) dX11_readAnd_20 rfl ?_
        refine cVY hY (pc := 21) dX11_readAnd_21 lk_X11_266 mn_X11_readNot mv_X11_readNot (hsub _ _ (j + 1) (L ++ l.map trE) hJ2) rc_M rfl rfl (Nat.le_of_ble_eq_true rfl) hkk (by decide) (Nat.zero_le _) (Nat.zero_le _) (fun v2 g2 r h => ?_)
        obtain ⟨rfl, f4, f5, h⟩ := h
        rcases PR.cs (rec (j + 1)) with ⟨c, q, hr2⟩ | ⟨j2, l2, hr2⟩
        · skip
          rw [hr2] at h
          have hbad := er_bad (by rw [← hr2]; exact hprg (j + 1) hjm) h.1
          refine z_aload_n hZ (pc := 24) dX11_readAnd_24 rfl ?_
          refine z_bipush hZ (pc := 25) (v := (-26)) dX11_readAnd_25 (by decide) ?_
          refine cV_v hZ (pc := 27) dX11_readAnd_27 lk_X11_242 mn_X11_lay mv_X11_lay (c_X11_lay_b hbad) rc_M rfl rfl (Nat.le_of_ble_eq_true rfl) (by omega) (by decide) (Nat.zero_le _) (Nat.zero_le _) ?_
          refine z_goto hZ (pc := 30) (tgt := 5) dX11_readAnd_30 rfl ?_
          refine z_aload_n hZ (pc := 5) dX11_readAnd_5 rfl ?_
          refine z_ldcwS hY (pc := 6) (tx := "and") (q := aK 9) (fun _ _ _ h => h.2.2.1 ("TearsPostModel", 269, "and", 9) (List.mem_of_getElem? (i := 24) (by decide +kernel))) dX11_readAnd_6 ?_
          refine cV_i hZ (pc := 9) dX11_readAnd_9 lk_X11_223 mn_X11_is mv_X11_is (c_X11_is_b hbad) rc_M rfl rfl (Nat.le_of_ble_eq_true rfl) (by omega) (by decide) (Nat.zero_le _) (Nat.zero_le _) ?_
          refine z_if_eq hZ (pc := 12) (tgt := 33) dX11_readAnd_12 rfl (fun _ => ?_) (fun c12 => absurd c12 (by decide))
          refine zr_v hZ (pc := 33) dX11_readAnd_33 ?_
          exact MRp_er (by rw [hres, pLoop, if_pos hjn, hr2]; rfl) ((hF.trans f3.fm).trans f4) (hH.trans f5) h.1 h.2
        rw [hr2] at h
        have hJ3 : MI t n m v2 g2 j2 (L ++ l.map trE ++ l2.map trE) := h
        have hp2 := hprg (j + 1) hjm
        rw [hr2] at hp2
        obtain ⟨s1', s2', s3'⟩ := hp2
        have hlen : (L ++ l.map trE ++ l2.map trE).length < j2 := by have := hJ.len; simp only [List.length_append, List.length_map] at this ⊢; omega
        refine z_aload_n hZ (pc := 24) dX11_readAnd_24 rfl ?_
        refine z_bipush hZ (pc := 25) (v := (-26)) dX11_readAnd_25 (by decide) ?_
        refine cV_v hZ (pc := 27) dX11_readAnd_27 lk_X11_242 mn_X11_lay mv_X11_lay (c_X11_lay (c := (L ++ l.map trE ++ l2.map trE).length) hJ3.bad hJ3.cd (by have := hJ3.2.2.1; omega)) rc_M rfl rfl (Nat.le_of_ble_eq_true rfl) (by omega) (by decide) (Nat.zero_le _) (Nat.zero_le _) ?_
        refine z_goto hZ (pc := 30) (tgt := 5) dX11_readAnd_30 rfl ?_
        exact z_back hZ (ih F j2 (l ++ l2 ++ [K j]) _ _ (by omega) (by omega) (((hF.trans f3.fm).trans f4).trans (FM.up (by omega))) ((hH.trans f5).trans FMg.up) (by rw [show L ++ (l ++ l2 ++ [K j]).map trE = L ++ l.map trE ++ l2.map trE ++ [trE (K j)] from by simp only [List.map_append, List.map_cons, List.map_nil, List.append_assoc], hsx]; exact hJ3.code hlen) (by rw [hres, pLoop, if_pos hjn, hr2]; rfl)) rfl ⟨rfl, rfl, trivial⟩
  exact z_back hZ (lp (m + 1) 700 j0 l0 _ _ (by omega) (by have := hp0.1; omega) f1 f2 hMJ (by rw [pLev, hr]; rfl)) rfl ⟨rfl, rfl, trivial⟩
