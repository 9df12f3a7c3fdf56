def strV (ans : Nat → Nat) (A b : Nat) (w : Int32) : Int32 := if 99 ≤ fw ans A b then -1 else if w = 0 then nI (fw ans A b) else firstN ans A b
theorem c_X10_stranger {l : Launch} {D : va_G} {cA : Nat → ClassId} {o a : Nat → Nat} {v : ZV} {g : ZG} {x w : Int32} {n H R A : Nat} {ops : Nat → Nat → Int32} {m : Nat → Nat} (hn : v 9 = nI n) (h2 : n ≤ 200) (hH : v 15 = nI H) (h10 : H ≤ 10) (hfr : ∀ t, t < n → ∃ k, k < 10 ∧ T5 g 1 t = nI k) (hso : SortT (T5 g 2) n) (hwo : ∀ t, t < n → ∃ p, p < 16 ∧ T5 g 0 t = nI p) (hX9 : ExC v g R A ops m) (hA : v 18 = nI A) (hA6 : A ≤ 6) : MF l D cA o a yX10_stranger cX10_stranger 4 (some .int) 8 2 12 [(.ref (o 0)), .int x, .int w] v g (fun v2 g2 r => (∀ j, j ≠ 25 → v2 j = v j) ∧ (∀ j, j ≠ 0 → j ≠ 24 → j ≠ 33 → j ≠ 37 → j ≠ 38 → g2 j = g j) ∧ inI w 2 = true ∧ inI x (2 ^ H) = true ∧ r = some (.int (strV (fun k => bitN (fun j => x.toNatClampNeg.testBit j && holdE (valsH (T5 g 0) (T5 g 3) (T5 g 2) (T5 g 4) (g 19) j (cbS (T5 g 5) (T5 g 1) (T5 g 2) (nI j) (if n = 0 then 0 else T5 g 2 (n - 1)) n)) ops m (4 + k)) H) A x.toNatClampNeg w))) (fun En => (En = sNSE ∧ inI w 2 = false) ∨ (En = sIAE ∧ inI w 2 = true ∧ inI x (2 ^ H) = false)) := by
  refine MF.of (by decide) rfl (Nat.le_of_ble_eq_true rfl) (by simp [Value.category]) (fun Z hX => ?_)
  have hZ := hX.toZR
  have h1024 : 2 ^ H ≤ 1024 := Nat.pow_le_pow_right (n := 2) (by omega) h10
  refine z_iload_n hZ (pc := 0) dX10_stranger_0 rfl ?_
  refine z_iconst hZ (pc := 1) (v := 2) dX10_stranger_1 (by decide) ?_
  refine cSX hX (pc := 2) (mc' := 1) (ms' := 6) dX10_stranger_2 (List.mem_of_getElem? (i := 804) (by decide +kernel)) mn_X10_needWhat ms_X10_needWhat (c_X10_needWhat (n := 2) (by omega)) rfl rfl (Nat.le_of_ble_eq_true rfl) (by decide) (by decide) (by decide) (by decide) (fun En h => Or.inl h) (fun v2 g2 r h => ?_)
  obtain ⟨e1, e2, rfl, hi⟩ := h
  subst v2
  subst g2
  refine z_iload_n hZ (pc := 5) dX10_stranger_5 rfl ?_
  refine z_if_lt hZ (pc := 6) (tgt := 22) dX10_stranger_6 rfl (fun c6 => ?_) (fun c6 => ?_)
  · skip
    exact z_iae hX (pc := 22) (n := 3) (txm_264) dX10_stranger_22 dX10_stranger_25 (Or.inr ⟨rfl, dX10_stranger_26⟩) dX10_stranger_29 dX10_stranger_32 (by decide) (Nat.le_of_ble_eq_true rfl) (by decide) (by decide) ⟨rfl, Or.inr ⟨rfl, hi, inI_neg c6⟩⟩
  · skip
    refine z_iload_n hZ (pc := 9) dX10_stranger_9 rfl ?_
    refine z_iconst hZ (pc := 10) (v := 1) dX10_stranger_10 (by decide) ?_
    refine z_aload_n hZ (pc := 11) dX10_stranger_11 rfl ?_
    refine gC_0_10 hZ (pc := 12) fl_X10_75 dX10_stranger_12 ?_
    refine gC_5_0 hZ (pc := 15) fl_X10_128 dX10_stranger_15 ?_
    refine z_top hH ?_
    refine z_ishl hZ (pc := 18) dX10_stranger_18 ?_
    refine z_top (y := nI (2 ^ H)) (sh_one H (by omega)) ?_
    refine z_icmp_lt hZ (pc := 19) (tgt := 33) dX10_stranger_19 rfl (fun c19 => ?_) (fun c19 => ?_)
    · skip
      have hi2 : inI x (2 ^ H) = true := inI_lt (by omega) c6 c19
      obtain ⟨b, hb, rfl⟩ := inI_t hi2 (by omega)
      obtain ⟨AN, hAN⟩ : ∃ AN, AN = (fun k => bitN (fun j => b.testBit j && holdE (valsH (T5 g 0) (T5 g 3) (T5 g 2) (T5 g 4) (g 19) j (cbS (T5 g 5) (T5 g 1) (T5 g 2) (nI j) (if n = 0 then 0 else T5 g 2 (n - 1)) n)) ops m (4 + k)) H) := ⟨_, rfl⟩
      have hANl : ∀ k, AN k < 1024 := fun k => by rw [hAN]; exact Nat.lt_of_lt_of_le (bitN_lt _ _) (by omega)
      refine z_aload_n hZ (pc := 33) dX10_stranger_33 rfl ?_
      refine gC_0_3 hZ (pc := 34) fl_X10_29 dX10_stranger_34 ?_
      refine z_aload_n hZ (pc := 37) dX10_stranger_37 rfl ?_
      refine gC_0_1 hZ (pc := 38) fl_X10_19 dX10_stranger_38 ?_
      refine z_aload_n hZ (pc := 41) dX10_stranger_41 rfl ?_
      refine gC_0_1 hZ (pc := 42) fl_X10_19 dX10_stranger_42 ?_
      refine cV_i hZ (pc := 45) dX10_stranger_45 lk_X10_149 mn_X6_nowHour mv_X6_nowHour (c_X6_nowHour hn h2) rc_3 rfl rfl (Nat.le_of_ble_eq_true rfl) (by decide) (by decide) (by decide) (by decide) ?_
      refine cV hZ (pc := 48) dX10_stranger_48 lk_X10_212 mn_X2_callAt mv_X2_callAt (c_X2_callAt (n := n) (hr := (if n = 0 then 0 else T5 g 2 (n - 1))) hn h2 hfr) rc_7 rfl rfl (Nat.le_of_ble_eq_true rfl) (by decide) (by decide) (by decide) (by decide) ?_
      intro v2 g2 r h
      obtain ⟨rfl, e9, R2, h1, h3, h4, h5, rfl, rfl⟩ := h
      have ecb : ∀ k, k < 10 → R2 k = (cbS (T5 g 5) (T5 g 1) (T5 g 2) (nI k) (if n = 0 then 0 else T5 g 2 (n - 1)) n) := fun k hk => (h5 k hk).trans (last_cb h1 hso h3 h4)
      have hwo2 : ∀ k, k < 10 → ∀ t, t < 200 → R2 k = nI t → ∃ p, p < 16 ∧ T5 g 0 t = nI p := fun k hk t ht et => by
        rw [h5 k (by omega)] at et
        rcases lastC_or (T5 g 5) (T5 g 1) (nI k) e9 with z | ⟨t2, ht2, z⟩
        · rw [z] at et
          exact absurd et.symm (nI_m1 (by omega))
        · rw [z] at et
          have := (nI_eq (by omega) (by omega)).mp et
          exact hwo t (by omega)
      refine z_iconst hZ (pc := 51) (v := 0) dX10_stranger_51 (by decide) ?_
      refine q_istore_n_4_3 hZ (pc := 52) dX10_stranger_52 rfl ?_
      have lp53 : ∀ (f i : Nat) (g1 : ZG), i ≤ A → A - i < f → (∀ j, j ≠ 0 → j ≠ 24 → j ≠ 33 → j ≠ 37 → g1 j = g j) → g1 33 = R2 → (∀ k, k < i → g1 37 k = nI (AN k)) → Z 1 6 (WC o a cA (va_up v 25 (nI e9)) g1) [some (.ref (o 0)), some (.int (nI b)), some (.int w), some (.int (nI i))] [] 53 := by
        intro f
        induction f with
        | zero => intro i _ _ hf; exact absurd hf (Nat.not_lt_zero _)
        | succ f ih53 =>
          intro i g1 hiA hf hg1 h33 hAn
          refine z_iload_n hZ (pc := 53) dX10_stranger_53 rfl ?_
          refine z_aload_n hZ (pc := 54) dX10_stranger_54 rfl ?_
          refine gC_0_10 hZ (pc := 55) fl_X10_75 dX10_stranger_55 ?_
          refine gC_5_3 hZ (pc := 58) fl_X10_137 dX10_stranger_58 ?_
          refine z_top (y := nI A) hA ?_
          refine z_icmp_ge hZ (pc := 61) (tgt := 87) dX10_stranger_61 rfl (fun c61 => ?_) (fun c61 => ?_)
          · skip
            have ei : i = A := lp_ge rfl (by omega) hiA c61
            subst ei
            have hfl := fw_le AN i b
            refine z_aload_n hZ (pc := 87) dX10_stranger_87 rfl ?_
            refine gC_0_6 hZ (pc := 88) fl_X10_50 dX10_stranger_88 ?_
            refine z_iload_n hZ (pc := 91) dX10_stranger_91 rfl ?_
            refine z_aload_n hZ (pc := 92) dX10_stranger_92 rfl ?_
            refine gC_0_10 hZ (pc := 93) fl_X10_75 dX10_stranger_93 ?_
            refine gC_5_3 hZ (pc := 96) fl_X10_137 dX10_stranger_96 ?_
            refine z_top (y := nI i) hA ?_
            refine cV hZ (pc := 99) dX10_stranger_99 lk_X10_272 mn_X1_fewestOf mv_X1_fewestOf (c_X1_fewestOf (h := b) (A := i) (ans := AN) (by omega) hA6 hAn) rc_10 rfl rfl (Nat.le_of_ble_eq_true rfl) (by decide) (by decide) (by decide) (by decide) ?_
            intro v2 g2 r h
            obtain ⟨e1, hg2, hfw, rfl⟩ := h
            subst v2
            refine q_istore_n_4_3 hZ (pc := 102) dX10_stranger_102 rfl ?_
            refine z_iload_n hZ (pc := 103) dX10_stranger_103 rfl ?_
            refine z_bipush hZ (pc := 104) (v := 99) dX10_stranger_104 (by decide) ?_
            refine z_icmp_lt hZ (pc := 106) (tgt := 111) dX10_stranger_106 rfl (fun c106 => ?_) (fun c106 => ?_)
            · skip
              refine z_iload_n hZ (pc := 111) dX10_stranger_111 rfl ?_
              refine z_if_ne hZ (pc := 112) (tgt := 119) dX10_stranger_112 rfl (fun c112 => ?_) (fun c112 => ?_)
              · skip
                refine z_aload_n hZ (pc := 119) dX10_stranger_119 rfl ?_
                refine gC_0_6 hZ (pc := 120) fl_X10_50 dX10_stranger_120 ?_
                refine z_iload_n hZ (pc := 123) dX10_stranger_123 rfl ?_
                refine z_aload_n hZ (pc := 124) dX10_stranger_124 rfl ?_
                refine gC_0_10 hZ (pc := 125) fl_X10_75 dX10_stranger_125 ?_
                refine gC_5_3 hZ (pc := 128) fl_X10_137 dX10_stranger_128 ?_
                refine z_top (y := nI i) hA ?_
                refine cV_i hZ (pc := 131) dX10_stranger_131 lk_X10_275 mn_X1_firstOf mv_X1_firstOf (c_X1_firstOf (h := b) (A := i) (ans := AN) (by omega) hA6 (fun k hk => by rw [hg2 37 (by decide)]; exact hAn k hk) hfw) rc_10 rfl rfl (Nat.le_of_ble_eq_true rfl) (by decide) (by decide) (by decide) (by decide) ?_
                refine zx_i hZ (pc := 134) (by decide) (by decide) dX10_stranger_134 FitR.int ?_
                have h99 : ¬ 99 ≤ fw AN i b := fun q => absurd ((nI_ltI (a := fw AN i b) (b := 99) (by omega) (by omega)).mp c106) (by omega)
                exact ⟨fun j hj => up_off hj, fun j q0 q1 q2 q3 q4 => (hg2 j q4).trans (hg1 j q0 q1 q2 q3), hi, hi2, by rw [nI_clamp (by omega), ← hAN, strV, if_neg h99, if_neg c112]⟩
              · skip
                refine z_iload_n hZ (pc := 115) dX10_stranger_115 rfl ?_
                refine z_goto hZ (pc := 116) (tgt := 134) dX10_stranger_116 rfl ?_
                refine zx_i hZ (pc := 134) (by decide) (by decide) dX10_stranger_134 FitR.int ?_
                have h99 : ¬ 99 ≤ fw AN i b := fun q => absurd ((nI_ltI (a := fw AN i b) (b := 99) (by omega) (by omega)).mp c106) (by omega)
                exact ⟨fun j hj => up_off hj, fun j q0 q1 q2 q3 q4 => (hg2 j q4).trans (hg1 j q0 q1 q2 q3), hi, hi2, by rw [nI_clamp (by omega), ← hAN, strV, if_neg h99, if_pos c112]⟩
            · skip
              refine z_iconst hZ (pc := 109) (v := (-1)) dX10_stranger_109 (by decide) ?_
              refine zx_i hZ (pc := 110) (by decide) (by decide) dX10_stranger_110 FitR.int ?_
              have h99 : 99 ≤ fw AN i b := by
                rcases Nat.lt_or_ge (fw AN i b) 99 with q | q
                · exact absurd (nI_lt (b := 99) q (by omega)) c106
                · exact q
              exact ⟨fun j hj => up_off hj, fun j q0 q1 q2 q3 q4 => (hg2 j q4).trans (hg1 j q0 q1 q2 q3), hi, hi2, by rw [nI_clamp (by omega), ← hAN, strV, if_pos h99]⟩
          · skip
            have hl : i < A := lp_lt rfl (by omega) hiA c61
            have hT : ∀ j, T5 g1 j = T5 g j := fun j => T5_off (hg1 5 (by decide) (by decide) (by decide) (by decide)) j
            refine z_aload_n hZ (pc := 64) dX10_stranger_64 rfl ?_
            refine gC_0_6 hZ (pc := 65) fl_X10_50 dX10_stranger_65 ?_
            refine gC_10_0 hZ (pc := 68) fl_X10_266 dX10_stranger_68 ?_
            refine z_iload_n hZ (pc := 71) dX10_stranger_71 rfl ?_
            refine z_aload_n hZ (pc := 72) dX10_stranger_72 rfl ?_
            refine z_iload_n hZ (pc := 73) dX10_stranger_73 rfl ?_
            refine z_iload_n hZ (pc := 74) dX10_stranger_74 rfl ?_
            refine cV hZ (pc := 75) dX10_stranger_75 lk_X10_269 mn_X10_housesOfAsk mv_X10_housesOfAsk (c_X10_housesOfAsk (v := va_up v 25 (nI e9)) (g := g1) (R := R) (A := A) (e := i) (b := b) (H := H) (ops := ops) (m := m) (ExC_mv hX9 rfl rfl rfl (hg1 21 (by decide) (by decide) (by decide) (by decide)) (hg1 22 (by decide) (by decide) (by decide) (by decide)) (hg1 23 (by decide) (by decide) (by decide) (by decide))) hl (by omega) hH h10 (by rw [h33]; exact row_or h1 h2 h5) (by rw [h33, hT]; exact hwo2)) rc_0 rfl rfl (Nat.le_of_ble_eq_true rfl) (by decide) (by decide) (by decide) (by decide) ?_
            intro v2 g2 r h
            obtain ⟨rfl, hg2, rfl⟩ := h
            refine z_top (y := nI (AN i)) (by rw [hAN]; exact congrArg nI (bitN_cong (fun k hk => by rw [hT, hT, hT, hT, h33, hg1 19 (by decide) (by decide) (by decide) (by decide), ecb k (by omega)]))) ?_
            refine cS_v hZ (pc := 78) dX10_stranger_78 lk_X10_182 mn_X10_put ms_X10_put (c_X10_putn (j := 37) (n := i) (by decide) (by show i < 6; omega)) rfl rfl (Nat.le_of_ble_eq_true rfl) (by decide) (by decide) (by decide) (by decide) ?_
            refine q_iinc_4_3 hZ (pc := 81) dX10_stranger_81 rfl ?_
            refine z_goto hZ (pc := 84) (tgt := 53) dX10_stranger_84 rfl ?_
            exact z_back hZ (ih53 (i + 1) (va_up g2 37 (upd (g2 37) i (nI (AN i)))) (by omega) (by omega) (fun j q0 q1 q2 q3 => (up_off q3).trans ((hg2 j q1 q0).trans (hg1 j q0 q1 q2 q3))) ((up_off (by decide)).trans ((hg2 33 (by decide) (by decide)).trans h33)) (lt_s (fun k hk => by rw [up_at, upd_off (by omega), hg2 37 (by decide) (by decide)]; exact hAn k hk) (by rw [up_at, upd_at]))) rfl ⟨rfl, rfl, rfl, zi (nI_inc i), trivial⟩
      exact z_back hZ (lp53 (A + 1) 0 (va_up g 33 R2) (Nat.zero_le _) (by omega) (fun j q0 q1 q2 q3 => up_off q2) up_at (fun k hk => absurd hk (Nat.not_lt_zero _))) rfl ⟨rfl, rfl, rfl, rfl, trivial⟩
    · skip
      exact z_iae hX (pc := 22) (n := 3) (txm_264) dX10_stranger_22 dX10_stranger_25 (Or.inr ⟨rfl, dX10_stranger_26⟩) dX10_stranger_29 dX10_stranger_32 (by decide) (Nat.le_of_ble_eq_true rfl) (by decide) (by decide) ⟨rfl, Or.inr ⟨rfl, hi, inI_ge (by omega) c19⟩⟩
/-- the odds, day after day -/
def bhI (nb gain c0 : Int64) : Nat → Int64
  | 0 => c0
  | i + 1 => bhI nb gain c0 i * nb / 1000000 + gain
def gainV (home ch : Nat → Int32) (P : Nat) (x y : Int32) : Int32 := if y = -1 then 0 else if home y.toNatClampNeg = x then lastS home ch y.toNatClampNeg P else 0
theorem c_X10_behind {l : Launch} {D : va_G} {cA : Nat → ClassId} {o a : Nat → Nat} {v : ZV} {g : ZG} {x y d : Int32} {n P H : Nat} (hn : v 9 = nI n) (h2 : n ≤ 200) (hH : v 15 = nI H) (h10 : H ≤ 10) (hP : v 16 = nI P) (hP6 : P ≤ 16) (hfr : ∀ t, t < n → ∃ k, k < 10 ∧ T5 g 1 t = nI k) (hso : SortT (T5 g 2) n) : MF l D cA o a yX10_behind cX10_behind 10 (some .int) 8 3 18 [(.ref (o 0)), .int x, .int y, .int d] v g (fun v2 g2 r => (∀ j, j ≠ 25 → v2 j = v j) ∧ (∀ j, j ≠ 33 → j ≠ 40 → g2 j = g j) ∧ (inI x H && (decide (y = -1) || inI y P)) = true ∧ inB d 0 100 = true ∧ r = some (.int (bhI ((nobS (g 9) (g 18) x P)).toInt64 ((gainV (g 9) (g 18) P x y)).toInt64 (if (nm2 (T5 g 0) (cbS (T5 g 5) (T5 g 1) (T5 g 2) x (if n = 0 then 0 else T5 g 2 (n - 1)) n)) = y then 1000000 else 0) d.toNatClampNeg).toInt32)) (fun En => (En = sNSE ∧ (inI x H && (decide (y = -1) || inI y P)) = false) ∨ (En = sIAE ∧ (inI x H && (decide (y = -1) || inI y P)) = true ∧ inB d 0 100 = false)) := by
  refine MF.of (by decide) rfl (Nat.le_of_ble_eq_true rfl) (by simp [Value.category]) (fun Z hX => ?_)
  have hZ := hX.toZR
  refine z_aload_n hZ (pc := 0) dX10_behind_0 rfl ?_
  refine z_iload_n hZ (pc := 1) dX10_behind_1 rfl ?_
  refine cVX hX (pc := 2) (mc' := 1) (ms' := 6) dX10_behind_2 (List.mem_of_getElem? (i := 843) (by decide +kernel)) mn_X10_needHouse mv_X10_needHouse (c_X10_needHouse hH h10) rc_0 rfl rfl (Nat.le_of_ble_eq_true rfl) (by decide) (by decide) (by decide) (by decide) (fun En h => Or.inl ⟨h.1, by simp [h.2]⟩) (fun v2 g2 r h => ?_)
  obtain ⟨e1, e2, rfl, hi⟩ := h
  subst v2
  subst g2
  refine z_iload_n hZ (pc := 5) dX10_behind_5 rfl ?_
  refine z_iconst hZ (pc := 6) (v := (-1)) dX10_behind_6 (by decide) ?_
  refine z_icmp_eq hZ (pc := 7) (tgt := 15) dX10_behind_7 rfl (fun c7 => ?_) (fun c7 => ?_)
  · skip
    have hok : (inI x H && (decide (y = -1) || inI y P)) = true := by rw [hi, decide_eq_true c7]; rfl
    refine z_iload_n hZ (pc := 15) dX10_behind_15 rfl ?_
    refine z_if_lt hZ (pc := 16) (tgt := 25) dX10_behind_16 rfl (fun c16 => ?_) (fun c16 => ?_)
    · skip
      exact z_iae hX (pc := 25) (n := 3) txm_306 dX10_behind_25 dX10_behind_28 (Or.inr ⟨rfl, dX10_behind_29⟩) dX10_behind_32 dX10_behind_35 (by decide) (Nat.le_of_ble_eq_true rfl) (by decide) (by decide) ⟨rfl, Or.inr ⟨rfl, hok, by simp [inB, Int32.not_le.mpr c16]⟩⟩
    · skip
      refine z_iload_n hZ (pc := 19) dX10_behind_19 rfl ?_
      refine z_bipush hZ (pc := 20) (v := 100) dX10_behind_20 (by decide) ?_
      refine z_icmp_le hZ (pc := 22) (tgt := 36) dX10_behind_22 rfl (fun c22 => ?_) (fun c22 => ?_)
      · skip
        have hok2 : inB d 0 100 = true := by simp [inB, Int32.not_lt.mp c16, c22]
        obtain ⟨k, hk, rfl⟩ := inI_t hi (by omega)
        obtain ⟨dn, hdn, rfl⟩ := nI_of c16
        have hd100 : dn ≤ 100 := (nI_leI (a := dn) (b := 100) hdn (by omega)).mp c22
        refine z_aload_n hZ (pc := 36) dX10_behind_36 rfl ?_
        refine gC_0_3 hZ (pc := 37) fl_X10_29 dX10_behind_37 ?_
        refine z_aload_n hZ (pc := 40) dX10_behind_40 rfl ?_
        refine gC_0_1 hZ (pc := 41) fl_X10_19 dX10_behind_41 ?_
        refine z_aload_n hZ (pc := 44) dX10_behind_44 rfl ?_
        refine gC_0_1 hZ (pc := 45) fl_X10_19 dX10_behind_45 ?_
        refine cV_i hZ (pc := 48) dX10_behind_48 lk_X10_149 mn_X6_nowHour mv_X6_nowHour (c_X6_nowHour hn h2) rc_3 rfl rfl (Nat.le_of_ble_eq_true rfl) (by decide) (by decide) (by decide) (by decide) ?_
        refine cV hZ (pc := 51) dX10_behind_51 lk_X10_212 mn_X2_callAt mv_X2_callAt (c_X2_callAt (n := n) (hr := (if n = 0 then 0 else T5 g 2 (n - 1))) hn h2 hfr) rc_7 rfl rfl (Nat.le_of_ble_eq_true rfl) (by decide) (by decide) (by decide) (by decide) ?_
        intro v2 g2 r h
        obtain ⟨rfl, e9, R2, h1, h3, h4, h5, rfl, rfl⟩ := h
        have ecb : ∀ k, k < 10 → R2 k = (cbS (T5 g 5) (T5 g 1) (T5 g 2) (nI k) (if n = 0 then 0 else T5 g 2 (n - 1)) n) := fun k hk => (h5 k hk).trans (last_cb h1 hso h3 h4)
        refine z_iconst hZ (pc := 54) (v := 0) dX10_behind_54 (by decide) ?_
        refine q_istore_10_4 hZ (pc := 55) dX10_behind_55 rfl ?_
        refine z_iload_n hZ (pc := 57) dX10_behind_57 rfl ?_
        refine z_iconst hZ (pc := 58) (v := (-1)) dX10_behind_58 (by decide) ?_
        refine z_icmp_eq hZ (pc := 59) (tgt := 98) dX10_behind_59 rfl (fun c59 => ?_) (fun c59 => ?_)
        · skip
          obtain ⟨G, hG, hGe⟩ : ∃ G : ZG, G = va_up g 33 R2 ∧ ∀ j, j ≠ 40 → G j = va_up g 33 R2 j := ⟨_, rfl, fun _ _ => rfl⟩
          rw [← hG]
          obtain ⟨gn, hgn⟩ : ∃ gn, gn = (gainV (g 9) (g 18) P (nI k) y) := ⟨_, rfl⟩
          refine z_drop hZ (L' := [some (.ref (o 0)), some (.int (nI k)), some (.int y), some (.int (nI dn)), some (.int gn), none, none, none, none, none]) ⟨rfl, rfl, rfl, rfl, zi (by rw [hgn, gainV, if_pos c7]), trivial⟩ ?_
          refine z_aload_n hZ (pc := 98) dX10_behind_98 rfl ?_
          refine gC_0_8 hZ (pc := 99) fl_X10_64 dX10_behind_99 ?_
          refine z_aload_n hZ (pc := 102) dX10_behind_102 rfl ?_
          refine gC_0_10 hZ (pc := 103) fl_X10_75 dX10_behind_103 ?_
          refine z_aload_n hZ (pc := 106) dX10_behind_106 rfl ?_
          refine gC_0_1 hZ (pc := 107) fl_X10_19 dX10_behind_107 ?_
          refine gC_3_7 hZ (pc := 110) fl_X10_166 dX10_behind_110 ?_
          refine z_iload_n hZ (pc := 113) dX10_behind_113 rfl ?_
          refine cV_i hZ (pc := 114) dX10_behind_114 lk_X10_303 mn_X4_nobodyOf mv_X4_nobodyOf (c_X4_nobodyOf (n := P) hP hP6) rc_12 rfl rfl (Nat.le_of_ble_eq_true rfl) (by decide) (by decide) (by decide) (by decide) ?_
          refine z_top (y := (nobS (g 9) (g 18) (nI k) P)) (by rw [hGe 9 (by decide), hGe 18 (by decide)]; rfl) ?_
          refine z_i2l hZ (pc := 117) dX10_behind_117 ?_
          refine z_lstore hZ (pc := 118) (j := 5) dX10_behind_118 (by decide) rfl (Nat.le_of_ble_eq_true rfl) rfl ?_
          refine z_aload_n hZ (pc := 120) dX10_behind_120 rfl ?_
          refine gC_0_3 hZ (pc := 121) fl_X10_29 dX10_behind_121 ?_
          refine z_aload_n hZ (pc := 124) dX10_behind_124 rfl ?_
          refine gC_0_1 hZ (pc := 125) fl_X10_19 dX10_behind_125 ?_
          refine z_iload_n hZ (pc := 128) dX10_behind_128 rfl ?_
          refine cV_i hZ (pc := 129) dX10_behind_129 lk_X10_216 mn_X2_nameOf mv_X2_nameOf (c_X2_nameOf (k := k) (by omega) (by rw [hGe 33 (by decide)]; exact row_or h1 h2 h5 k (by omega))) rc_7 rfl rfl (Nat.le_of_ble_eq_true rfl) (by decide) (by decide) (by decide) (by decide) ?_
          refine z_top (y := (nm2 (T5 g 0) (cbS (T5 g 5) (T5 g 1) (T5 g 2) (nI k) (if n = 0 then 0 else T5 g 2 (n - 1)) n))) (by rw [T5_off (g := g) ((hGe 5 (by decide)).trans rfl), hGe 33 (by decide), ← ecb k (by omega)]; rfl) ?_
          refine z_iload_n hZ (pc := 132) dX10_behind_132 rfl ?_
          refine z_icmp_ne hZ (pc := 133) (tgt := 142) dX10_behind_133 rfl (fun c133 => ?_) (fun c133 => ?_)
          · skip
            refine z_lconst hZ (pc := 142) (v := 0) dX10_behind_142 rfl ?_
            refine z_lstore hZ (pc := 143) (j := 7) dX10_behind_143 (by decide) rfl (Nat.le_of_ble_eq_true rfl) rfl ?_
            refine z_iconst hZ (pc := 145) (v := 0) dX10_behind_145 (by decide) ?_
            refine q_istore_10_9 hZ (pc := 146) dX10_behind_146 rfl ?_
            have lp148 : ∀ (f i : Nat), i ≤ dn → dn - i < f → Z 1 6 (WC o a cA (va_up v 25 (nI e9)) G) [some (.ref (o 0)), some (.int (nI k)), some (.int y), some (.int (nI dn)), some (.int gn), some (.long ((nobS (g 9) (g 18) (nI k) P)).toInt64), none, some (.long (bhI ((nobS (g 9) (g 18) (nI k) P)).toInt64 gn.toInt64 0 i)), none, some (.int (nI i))] [] 148 := by
              intro f
              induction f with
              | zero => intro i _ hf; exact absurd hf (Nat.not_lt_zero _)
              | succ f ih148 =>
                intro i hid hf
                refine z_iload hZ (pc := 148) dX10_behind_148 rfl ?_
                refine z_iload_n hZ (pc := 150) dX10_behind_150 rfl ?_
                refine z_icmp_ge hZ (pc := 151) (tgt := 175) dX10_behind_151 rfl (fun c151 => ?_) (fun c151 => ?_)
                · skip
                  have ei : i = dn := lp_ge rfl (by omega) hid c151
                  subst ei
                  refine z_lload hZ (pc := 175) dX10_behind_175 rfl ?_
                  refine z_l2i hZ (pc := 177) dX10_behind_177 ?_
                  refine zx_i hZ (pc := 178) (by decide) (by decide) dX10_behind_178 FitR.int ?_
                  exact ⟨fun j hj => up_off hj, fun j h1 h2 => (hGe j h2).trans (up_off h1), hok, hok2, by rw [nI_clamp (n := i) (by omega), ← hgn, if_neg c133]⟩
                · skip
                  have hl : i < dn := lp_lt rfl (by omega) hid c151
                  refine z_lload hZ (pc := 154) dX10_behind_154 rfl ?_
                  refine z_lload hZ (pc := 156) dX10_behind_156 rfl ?_
                  refine z_lmul hZ (pc := 158) dX10_behind_158 ?_
                  refine z_ldc2 hZ (pc := 159) (v := 1000000) dX10_behind_159 (List.mem_of_getElem? (i := 1152) (by decide +kernel)) ?_
                  refine z_ldiv hZ (pc := 162) dX10_behind_162 (by decide) ?_
                  refine z_iload hZ (pc := 163) dX10_behind_163 rfl ?_
                  refine z_i2l hZ (pc := 165) dX10_behind_165 ?_
                  refine z_ladd hZ (pc := 166) dX10_behind_166 ?_
                  refine z_lstore hZ (pc := 167) (j := 7) dX10_behind_167 (by decide) rfl (Nat.le_of_ble_eq_true rfl) rfl ?_
                  refine q_iinc_10_9 hZ (pc := 169) dX10_behind_169 rfl ?_
                  refine z_goto hZ (pc := 172) (tgt := 148) dX10_behind_172 rfl ?_
                  exact z_back hZ (ih148 (i + 1) (by omega) (by omega)) rfl ⟨rfl, rfl, rfl, rfl, rfl, rfl, rfl, zi (nI_inc i), trivial⟩
            exact z_back hZ (lp148 (dn + 1) 0 (Nat.zero_le _) (by omega)) rfl ⟨rfl, rfl, rfl, rfl, rfl, rfl, rfl, rfl, trivial⟩
          · skip
            refine z_ldc2 hZ (pc := 136) (v := 1000000) dX10_behind_136 (List.mem_of_getElem? (i := 1152) (by decide +kernel)) ?_
            refine z_goto hZ (pc := 139) (tgt := 143) dX10_behind_139 rfl ?_
            refine z_lstore hZ (pc := 143) (j := 7) dX10_behind_143 (by decide) rfl (Nat.le_of_ble_eq_true rfl) rfl ?_
            refine z_iconst hZ (pc := 145) (v := 0) dX10_behind_145 (by decide) ?_
            refine q_istore_10_9 hZ (pc := 146) dX10_behind_146 rfl ?_
            have lp148 : ∀ (f i : Nat), i ≤ dn → dn - i < f → Z 1 6 (WC o a cA (va_up v 25 (nI e9)) G) [some (.ref (o 0)), some (.int (nI k)), some (.int y), some (.int (nI dn)), some (.int gn), some (.long ((nobS (g 9) (g 18) (nI k) P)).toInt64), none, some (.long (bhI ((nobS (g 9) (g 18) (nI k) P)).toInt64 gn.toInt64 1000000 i)), none, some (.int (nI i))] [] 148 := by
              intro f
              induction f with
              | zero => intro i _ hf; exact absurd hf (Nat.not_lt_zero _)
              | succ f ih148 =>
                intro i hid hf
                refine z_iload hZ (pc := 148) dX10_behind_148 rfl ?_
                refine z_iload_n hZ (pc := 150) dX10_behind_150 rfl ?_
                refine z_icmp_ge hZ (pc := 151) (tgt := 175) dX10_behind_151 rfl (fun c151 => ?_) (fun c151 => ?_)
                · skip
                  have ei : i = dn := lp_ge rfl (by omega) hid c151
                  subst ei
                  refine z_lload hZ (pc := 175) dX10_behind_175 rfl ?_
                  refine z_l2i hZ (pc := 177) dX10_behind_177 ?_
                  refine zx_i hZ (pc := 178) (by decide) (by decide) dX10_behind_178 FitR.int ?_
                  exact ⟨fun j hj => up_off hj, fun j h1 h2 => (hGe j h2).trans (up_off h1), hok, hok2, by rw [nI_clamp (n := i) (by omega), ← hgn, if_pos c133]⟩
                · skip
                  have hl : i < dn := lp_lt rfl (by omega) hid c151
                  refine z_lload hZ (pc := 154) dX10_behind_154 rfl ?_
                  refine z_lload hZ (pc := 156) dX10_behind_156 rfl ?_
                  refine z_lmul hZ (pc := 158) dX10_behind_158 ?_
                  refine z_ldc2 hZ (pc := 159) (v := 1000000) dX10_behind_159 (List.mem_of_getElem? (i := 1152) (by decide +kernel)) ?_
                  refine z_ldiv hZ (pc := 162) dX10_behind_162 (by decide) ?_
                  refine z_iload hZ (pc := 163) dX10_behind_163 rfl ?_
                  refine z_i2l hZ (pc := 165) dX10_behind_165 ?_
                  refine z_ladd hZ (pc := 166) dX10_behind_166 ?_
                  refine z_lstore hZ (pc := 167) (j := 7) dX10_behind_167 (by decide) rfl (Nat.le_of_ble_eq_true rfl) rfl ?_
                  refine q_iinc_10_9 hZ (pc := 169) dX10_behind_169 rfl ?_
                  refine z_goto hZ (pc := 172) (tgt := 148) dX10_behind_172 rfl ?_
                  exact z_back hZ (ih148 (i + 1) (by omega) (by omega)) rfl ⟨rfl, rfl, rfl, rfl, rfl, rfl, rfl, zi (nI_inc i), trivial⟩
            exact z_back hZ (lp148 (dn + 1) 0 (Nat.zero_le _) (by omega)) rfl ⟨rfl, rfl, rfl, rfl, rfl, rfl, rfl, rfl, trivial⟩
        · skip
          exact absurd c7 c59
      · skip
        exact z_iae hX (pc := 25) (n := 3) txm_306 dX10_behind_25 dX10_behind_28 (Or.inr ⟨rfl, dX10_behind_29⟩) dX10_behind_32 dX10_behind_35 (by decide) (Nat.le_of_ble_eq_true rfl) (by decide) (by decide) ⟨rfl, Or.inr ⟨rfl, hok, by simp [inB, c22]⟩⟩
  · skip
    refine z_aload_n hZ (pc := 10) dX10_behind_10 rfl ?_
    refine z_iload_n hZ (pc := 11) dX10_behind_11 rfl ?_
    refine cVX hX (pc := 12) (mc' := 1) (ms' := 6) dX10_behind_12 (List.mem_of_getElem? (i := 831) (by decide +kernel)) mn_X10_needPerson mv_X10_needPerson (c_X10_needPerson hP hP6) rc_0 rfl rfl (Nat.le_of_ble_eq_true rfl) (by decide) (by decide) (by decide) (by decide) (fun En h => Or.inl ⟨h.1, by simp [h.2, c7]⟩) (fun v2 g2 r h => ?_)
    obtain ⟨e1, e2, rfl, hi2⟩ := h
    subst v2
    subst g2
    have hok : (inI x H && (decide (y = -1) || inI y P)) = true := by rw [hi, hi2, Bool.or_true]; rfl
    refine z_iload_n hZ (pc := 15) dX10_behind_15 rfl ?_
    refine z_if_lt hZ (pc := 16) (tgt := 25) dX10_behind_16 rfl (fun c16 => ?_) (fun c16 => ?_)
    · skip
      exact z_iae hX (pc := 25) (n := 3) txm_306 dX10_behind_25 dX10_behind_28 (Or.inr ⟨rfl, dX10_behind_29⟩) dX10_behind_32 dX10_behind_35 (by decide) (Nat.le_of_ble_eq_true rfl) (by decide) (by decide) ⟨rfl, Or.inr ⟨rfl, hok, by simp [inB, Int32.not_le.mpr c16]⟩⟩
    · skip
      refine z_iload_n hZ (pc := 19) dX10_behind_19 rfl ?_
      refine z_bipush hZ (pc := 20) (v := 100) dX10_behind_20 (by decide) ?_
      refine z_icmp_le hZ (pc := 22) (tgt := 36) dX10_behind_22 rfl (fun c22 => ?_) (fun c22 => ?_)
      · skip
        have hok2 : inB d 0 100 = true := by simp [inB, Int32.not_lt.mp c16, c22]
        obtain ⟨k, hk, rfl⟩ := inI_t hi (by omega)
        obtain ⟨dn, hdn, rfl⟩ := nI_of c16
        have hd100 : dn ≤ 100 := (nI_leI (a := dn) (b := 100) hdn (by omega)).mp c22
        refine z_aload_n hZ (pc := 36) dX10_behind_36 rfl ?_
        refine gC_0_3 hZ (pc := 37) fl_X10_29 dX10_behind_37 ?_
        refine z_aload_n hZ (pc := 40) dX10_behind_40 rfl ?_
        refine gC_0_1 hZ (pc := 41) fl_X10_19 dX10_behind_41 ?_
        refine z_aload_n hZ (pc := 44) dX10_behind_44 rfl ?_
        refine gC_0_1 hZ (pc := 45) fl_X10_19 dX10_behind_45 ?_
        refine cV_i hZ (pc := 48) dX10_behind_48 lk_X10_149 mn_X6_nowHour mv_X6_nowHour (c_X6_nowHour hn h2) rc_3 rfl rfl (Nat.le_of_ble_eq_true rfl) (by decide) (by decide) (by decide) (by decide) ?_
        refine cV hZ (pc := 51) dX10_behind_51 lk_X10_212 mn_X2_callAt mv_X2_callAt (c_X2_callAt (n := n) (hr := (if n = 0 then 0 else T5 g 2 (n - 1))) hn h2 hfr) rc_7 rfl rfl (Nat.le_of_ble_eq_true rfl) (by decide) (by decide) (by decide) (by decide) ?_
        intro v2 g2 r h
        obtain ⟨rfl, e9, R2, h1, h3, h4, h5, rfl, rfl⟩ := h
        have ecb : ∀ k, k < 10 → R2 k = (cbS (T5 g 5) (T5 g 1) (T5 g 2) (nI k) (if n = 0 then 0 else T5 g 2 (n - 1)) n) := fun k hk => (h5 k hk).trans (last_cb h1 hso h3 h4)
        refine z_iconst hZ (pc := 54) (v := 0) dX10_behind_54 (by decide) ?_
        refine q_istore_10_4 hZ (pc := 55) dX10_behind_55 rfl ?_
        refine z_iload_n hZ (pc := 57) dX10_behind_57 rfl ?_
        refine z_iconst hZ (pc := 58) (v := (-1)) dX10_behind_58 (by decide) ?_
        refine z_icmp_eq hZ (pc := 59) (tgt := 98) dX10_behind_59 rfl (fun c59 => ?_) (fun c59 => ?_)
        · skip
          exact absurd c59 c7
        · skip
          obtain ⟨p, hp, rfl⟩ := inI_t hi2 (by omega)
          refine z_aload_n hZ (pc := 62) dX10_behind_62 rfl ?_
          refine gC_0_1 hZ (pc := 63) fl_X10_19 dX10_behind_63 ?_
          refine gC_3_7 hZ (pc := 66) fl_X10_166 dX10_behind_66 ?_
          refine z_iload_n hZ (pc := 69) dX10_behind_69 rfl ?_
          refine cS_i hZ (pc := 70) dX10_behind_70 lk_X10_159 mn_X10_at ms_X10_at (c_X10_atn (j := 9) (n := p) (by decide) (by show p < 16; omega)) rfl rfl (Nat.le_of_ble_eq_true rfl) (by decide) (by decide) (by decide) (by decide) ?_
          refine z_top (y := g 9 p) rfl ?_
          refine z_iload_n hZ (pc := 73) dX10_behind_73 rfl ?_
          refine z_icmp_ne hZ (pc := 74) (tgt := 98) dX10_behind_74 rfl (fun c74 => ?_) (fun c74 => ?_)
          · skip
            obtain ⟨G, hG, hGe⟩ : ∃ G : ZG, G = va_up g 33 R2 ∧ ∀ j, j ≠ 40 → G j = va_up g 33 R2 j := ⟨_, rfl, fun _ _ => rfl⟩
            rw [← hG]
            obtain ⟨gn, hgn⟩ : ∃ gn, gn = (gainV (g 9) (g 18) P (nI k) (nI p)) := ⟨_, rfl⟩
            refine z_drop hZ (L' := [some (.ref (o 0)), some (.int (nI k)), some (.int (nI p)), some (.int (nI dn)), some (.int gn), none, none, none, none, none]) ⟨rfl, rfl, rfl, rfl, zi (by rw [hgn, gainV, if_neg c59, nI_clamp (by omega), if_neg c74]), trivial⟩ ?_
            refine z_aload_n hZ (pc := 98) dX10_behind_98 rfl ?_
            refine gC_0_8 hZ (pc := 99) fl_X10_64 dX10_behind_99 ?_
            refine z_aload_n hZ (pc := 102) dX10_behind_102 rfl ?_
            refine gC_0_10 hZ (pc := 103) fl_X10_75 dX10_behind_103 ?_
            refine z_aload_n hZ (pc := 106) dX10_behind_106 rfl ?_
            refine gC_0_1 hZ (pc := 107) fl_X10_19 dX10_behind_107 ?_
            refine gC_3_7 hZ (pc := 110) fl_X10_166 dX10_behind_110 ?_
            refine z_iload_n hZ (pc := 113) dX10_behind_113 rfl ?_
            refine cV_i hZ (pc := 114) dX10_behind_114 lk_X10_303 mn_X4_nobodyOf mv_X4_nobodyOf (c_X4_nobodyOf (n := P) hP hP6) rc_12 rfl rfl (Nat.le_of_ble_eq_true rfl) (by decide) (by decide) (by decide) (by decide) ?_
            refine z_top (y := (nobS (g 9) (g 18) (nI k) P)) (by rw [hGe 9 (by decide), hGe 18 (by decide)]; rfl) ?_
            refine z_i2l hZ (pc := 117) dX10_behind_117 ?_
            refine z_lstore hZ (pc := 118) (j := 5) dX10_behind_118 (by decide) rfl (Nat.le_of_ble_eq_true rfl) rfl ?_
            refine z_aload_n hZ (pc := 120) dX10_behind_120 rfl ?_
            refine gC_0_3 hZ (pc := 121) fl_X10_29 dX10_behind_121 ?_
            refine z_aload_n hZ (pc := 124) dX10_behind_124 rfl ?_
            refine gC_0_1 hZ (pc := 125) fl_X10_19 dX10_behind_125 ?_
            refine z_iload_n hZ (pc := 128) dX10_behind_128 rfl ?_
            refine cV_i hZ (pc := 129) dX10_behind_129 lk_X10_216 mn_X2_nameOf mv_X2_nameOf (c_X2_nameOf (k := k) (by omega) (by rw [hGe 33 (by decide)]; exact row_or h1 h2 h5 k (by omega))) rc_7 rfl rfl (Nat.le_of_ble_eq_true rfl) (by decide) (by decide) (by decide) (by decide) ?_
            refine z_top (y := (nm2 (T5 g 0) (cbS (T5 g 5) (T5 g 1) (T5 g 2) (nI k) (if n = 0 then 0 else T5 g 2 (n - 1)) n))) (by rw [T5_off (g := g) ((hGe 5 (by decide)).trans rfl), hGe 33 (by decide), ← ecb k (by omega)]; rfl) ?_
            refine z_iload_n hZ (pc := 132) dX10_behind_132 rfl ?_
            refine z_icmp_ne hZ (pc := 133) (tgt := 142) dX10_behind_133 rfl (fun c133 => ?_) (fun c133 => ?_)
            · skip
              refine z_lconst hZ (pc := 142) (v := 0) dX10_behind_142 rfl ?_
              refine z_lstore hZ (pc := 143) (j := 7) dX10_behind_143 (by decide) rfl (Nat.le_of_ble_eq_true rfl) rfl ?_
              refine z_iconst hZ (pc := 145) (v := 0) dX10_behind_145 (by decide) ?_
              refine q_istore_10_9 hZ (pc := 146) dX10_behind_146 rfl ?_
              have lp148 : ∀ (f i : Nat), i ≤ dn → dn - i < f → Z 2 12 (WC o a cA (va_up v 25 (nI e9)) G) [some (.ref (o 0)), some (.int (nI k)), some (.int (nI p)), some (.int (nI dn)), some (.int gn), some (.long ((nobS (g 9) (g 18) (nI k) P)).toInt64), none, some (.long (bhI ((nobS (g 9) (g 18) (nI k) P)).toInt64 gn.toInt64 0 i)), none, some (.int (nI i))] [] 148 := by
                intro f
                induction f with
                | zero => intro i _ hf; exact absurd hf (Nat.not_lt_zero _)
                | succ f ih148 =>
                  intro i hid hf
                  refine z_iload hZ (pc := 148) dX10_behind_148 rfl ?_
                  refine z_iload_n hZ (pc := 150) dX10_behind_150 rfl ?_
                  refine z_icmp_ge hZ (pc := 151) (tgt := 175) dX10_behind_151 rfl (fun c151 => ?_) (fun c151 => ?_)
                  · skip
                    have ei : i = dn := lp_ge rfl (by omega) hid c151
                    subst ei
                    refine z_lload hZ (pc := 175) dX10_behind_175 rfl ?_
                    refine z_l2i hZ (pc := 177) dX10_behind_177 ?_
                    refine zx_i hZ (pc := 178) (by decide) (by decide) dX10_behind_178 FitR.int ?_
                    exact ⟨fun j hj => up_off hj, fun j h1 h2 => (hGe j h2).trans (up_off h1), hok, hok2, by rw [nI_clamp (n := i) (by omega), ← hgn, if_neg c133]⟩
                  · skip
                    have hl : i < dn := lp_lt rfl (by omega) hid c151
                    refine z_lload hZ (pc := 154) dX10_behind_154 rfl ?_
                    refine z_lload hZ (pc := 156) dX10_behind_156 rfl ?_
                    refine z_lmul hZ (pc := 158) dX10_behind_158 ?_
                    refine z_ldc2 hZ (pc := 159) (v := 1000000) dX10_behind_159 (List.mem_of_getElem? (i := 1152) (by decide +kernel)) ?_
                    refine z_ldiv hZ (pc := 162) dX10_behind_162 (by decide) ?_
                    refine z_iload hZ (pc := 163) dX10_behind_163 rfl ?_
                    refine z_i2l hZ (pc := 165) dX10_behind_165 ?_
                    refine z_ladd hZ (pc := 166) dX10_behind_166 ?_
                    refine z_lstore hZ (pc := 167) (j := 7) dX10_behind_167 (by decide) rfl (Nat.le_of_ble_eq_true rfl) rfl ?_
                    refine q_iinc_10_9 hZ (pc := 169) dX10_behind_169 rfl ?_
                    refine z_goto hZ (pc := 172) (tgt := 148) dX10_behind_172 rfl ?_
                    exact z_back hZ (ih148 (i + 1) (by omega) (by omega)) rfl ⟨rfl, rfl, rfl, rfl, rfl, rfl, rfl, zi (nI_inc i), trivial⟩
              exact z_back hZ (lp148 (dn + 1) 0 (Nat.zero_le _) (by omega)) rfl ⟨rfl, rfl, rfl, rfl, rfl, rfl, rfl, rfl, trivial⟩
            · skip
              refine z_ldc2 hZ (pc := 136) (v := 1000000) dX10_behind_136 (List.mem_of_getElem? (i := 1152) (by decide +kernel)) ?_
              refine z_goto hZ (pc := 139) (tgt := 143) dX10_behind_139 rfl ?_
              refine z_lstore hZ (pc := 143) (j := 7) dX10_behind_143 (by decide) rfl (Nat.le_of_ble_eq_true rfl) rfl ?_
              refine z_iconst hZ (pc := 145) (v := 0) dX10_behind_145 (by decide) ?_
              refine q_istore_10_9 hZ (pc := 146) dX10_behind_146 rfl ?_
              have lp148 : ∀ (f i : Nat), i ≤ dn → dn - i < f → Z 2 12 (WC o a cA (va_up v 25 (nI e9)) G) [some (.ref (o 0)), some (.int (nI k)), some (.int (nI p)), some (.int (nI dn)), some (.int gn), some (.long ((nobS (g 9) (g 18) (nI k) P)).toInt64), none, some (.long (bhI ((nobS (g 9) (g 18) (nI k) P)).toInt64 gn.toInt64 1000000 i)), none, some (.int (nI i))] [] 148 := by
                intro f
                induction f with
                | zero => intro i _ hf; exact absurd hf (Nat.not_lt_zero _)
                | succ f ih148 =>
                  intro i hid hf
                  refine z_iload hZ (pc := 148) dX10_behind_148 rfl ?_
                  refine z_iload_n hZ (pc := 150) dX10_behind_150 rfl ?_
                  refine z_icmp_ge hZ (pc := 151) (tgt := 175) dX10_behind_151 rfl (fun c151 => ?_) (fun c151 => ?_)
                  · skip
                    have ei : i = dn := lp_ge rfl (by omega) hid c151
                    subst ei
                    refine z_lload hZ (pc := 175) dX10_behind_175 rfl ?_
                    refine z_l2i hZ (pc := 177) dX10_behind_177 ?_
                    refine zx_i hZ (pc := 178) (by decide) (by decide) dX10_behind_178 FitR.int ?_
                    exact ⟨fun j hj => up_off hj, fun j h1 h2 => (hGe j h2).trans (up_off h1), hok, hok2, by rw [nI_clamp (n := i) (by omega), ← hgn, if_pos c133]⟩
                  · skip
                    have hl : i < dn := lp_lt rfl (by omega) hid c151
                    refine z_lload hZ (pc := 154) dX10_behind_154 rfl ?_
                    refine z_lload hZ (pc := 156) dX10_behind_156 rfl ?_
                    refine z_lmul hZ (pc := 158) dX10_behind_158 ?_
                    refine z_ldc2 hZ (pc := 159) (v := 1000000) dX10_behind_159 (List.mem_of_getElem? (i := 1152) (by decide +kernel)) ?_
                    refine z_ldiv hZ (pc := 162) dX10_behind_162 (by decide) ?_
                    refine z_iload hZ (pc := 163) dX10_behind_163 rfl ?_
                    refine z_i2l hZ (pc := 165) dX10_behind_165 ?_
                    refine z_ladd hZ (pc := 166) dX10_behind_166 ?_
                    refine z_lstore hZ (pc := 167) (j := 7) dX10_behind_167 (by decide) rfl (Nat.le_of_ble_eq_true rfl) rfl ?_
                    refine q_iinc_10_9 hZ (pc := 169) dX10_behind_169 rfl ?_
                    refine z_goto hZ (pc := 172) (tgt := 148) dX10_behind_172 rfl ?_
                    exact z_back hZ (ih148 (i + 1) (by omega) (by omega)) rfl ⟨rfl, rfl, rfl, rfl, rfl, rfl, rfl, zi (nI_inc i), trivial⟩
              exact z_back hZ (lp148 (dn + 1) 0 (Nat.zero_le _) (by omega)) rfl ⟨rfl, rfl, rfl, rfl, rfl, rfl, rfl, rfl, trivial⟩
          · skip
            refine z_aload_n hZ (pc := 77) dX10_behind_77 rfl ?_
            refine gC_0_8 hZ (pc := 78) fl_X10_64 dX10_behind_78 ?_
            refine z_aload_n hZ (pc := 81) dX10_behind_81 rfl ?_
            refine gC_0_10 hZ (pc := 82) fl_X10_75 dX10_behind_82 ?_
            refine z_aload_n hZ (pc := 85) dX10_behind_85 rfl ?_
            refine gC_0_1 hZ (pc := 86) fl_X10_19 dX10_behind_86 ?_
            refine gC_3_7 hZ (pc := 89) fl_X10_166 dX10_behind_89 ?_
            refine z_iload_n hZ (pc := 92) dX10_behind_92 rfl ?_
            refine cV hZ (pc := 93) dX10_behind_93 lk_X10_299 mn_X4_lastOf mv_X4_lastOf (c_X4_lastOf (p := p) hP hP6 hp) rc_12 rfl rfl (Nat.le_of_ble_eq_true rfl) (by decide) (by decide) (by decide) (by decide) ?_
            intro v2 g2 r h
            obtain ⟨e1, hg2, rfl⟩ := h
            subst v2
            refine q_istore_10_4 hZ (pc := 96) dX10_behind_96 rfl ?_
            obtain ⟨G, hG, hGe⟩ : ∃ G : ZG, G = g2 ∧ ∀ j, j ≠ 40 → G j = va_up g 33 R2 j := ⟨_, rfl, hg2⟩
            rw [← hG]
            obtain ⟨gn, hgn⟩ : ∃ gn, gn = (gainV (g 9) (g 18) P (nI k) (nI p)) := ⟨_, rfl⟩
            refine z_drop hZ (L' := [some (.ref (o 0)), some (.int (nI k)), some (.int (nI p)), some (.int (nI dn)), some (.int gn), none, none, none, none, none]) ⟨rfl, rfl, rfl, rfl, zi (by rw [hgn, gainV, if_neg c59, nI_clamp (by omega), if_pos c74]; rfl), trivial⟩ ?_
            refine z_aload_n hZ (pc := 98) dX10_behind_98 rfl ?_
            refine gC_0_8 hZ (pc := 99) fl_X10_64 dX10_behind_99 ?_
            refine z_aload_n hZ (pc := 102) dX10_behind_102 rfl ?_
            refine gC_0_10 hZ (pc := 103) fl_X10_75 dX10_behind_103 ?_
            refine z_aload_n hZ (pc := 106) dX10_behind_106 rfl ?_
            refine gC_0_1 hZ (pc := 107) fl_X10_19 dX10_behind_107 ?_
            refine gC_3_7 hZ (pc := 110) fl_X10_166 dX10_behind_110 ?_
            refine z_iload_n hZ (pc := 113) dX10_behind_113 rfl ?_
            refine cV_i hZ (pc := 114) dX10_behind_114 lk_X10_303 mn_X4_nobodyOf mv_X4_nobodyOf (c_X4_nobodyOf (n := P) hP hP6) rc_12 rfl rfl (Nat.le_of_ble_eq_true rfl) (by decide) (by decide) (by decide) (by decide) ?_
            refine z_top (y := (nobS (g 9) (g 18) (nI k) P)) (by rw [hGe 9 (by decide), hGe 18 (by decide)]; rfl) ?_
            refine z_i2l hZ (pc := 117) dX10_behind_117 ?_
            refine z_lstore hZ (pc := 118) (j := 5) dX10_behind_118 (by decide) rfl (Nat.le_of_ble_eq_true rfl) rfl ?_
            refine z_aload_n hZ (pc := 120) dX10_behind_120 rfl ?_
            refine gC_0_3 hZ (pc := 121) fl_X10_29 dX10_behind_121 ?_
            refine z_aload_n hZ (pc := 124) dX10_behind_124 rfl ?_
            refine gC_0_1 hZ (pc := 125) fl_X10_19 dX10_behind_125 ?_
            refine z_iload_n hZ (pc := 128) dX10_behind_128 rfl ?_
            refine cV_i hZ (pc := 129) dX10_behind_129 lk_X10_216 mn_X2_nameOf mv_X2_nameOf (c_X2_nameOf (k := k) (by omega) (by rw [hGe 33 (by decide)]; exact row_or h1 h2 h5 k (by omega))) rc_7 rfl rfl (Nat.le_of_ble_eq_true rfl) (by decide) (by decide) (by decide) (by decide) ?_
            refine z_top (y := (nm2 (T5 g 0) (cbS (T5 g 5) (T5 g 1) (T5 g 2) (nI k) (if n = 0 then 0 else T5 g 2 (n - 1)) n))) (by rw [T5_off (g := g) ((hGe 5 (by decide)).trans rfl), hGe 33 (by decide), ← ecb k (by omega)]; rfl) ?_
            refine z_iload_n hZ (pc := 132) dX10_behind_132 rfl ?_
            refine z_icmp_ne hZ (pc := 133) (tgt := 142) dX10_behind_133 rfl (fun c133 => ?_) (fun c133 => ?_)
            · skip
              refine z_lconst hZ (pc := 142) (v := 0) dX10_behind_142 rfl ?_
              refine z_lstore hZ (pc := 143) (j := 7) dX10_behind_143 (by decide) rfl (Nat.le_of_ble_eq_true rfl) rfl ?_
              refine z_iconst hZ (pc := 145) (v := 0) dX10_behind_145 (by decide) ?_
              refine q_istore_10_9 hZ (pc := 146) dX10_behind_146 rfl ?_
              have lp148 : ∀ (f i : Nat), i ≤ dn → dn - i < f → Z 2 12 (WC o a cA (va_up v 25 (nI e9)) G) [some (.ref (o 0)), some (.int (nI k)), some (.int (nI p)), some (.int (nI dn)), some (.int gn), some (.long ((nobS (g 9) (g 18) (nI k) P)).toInt64), none, some (.long (bhI ((nobS (g 9) (g 18) (nI k) P)).toInt64 gn.toInt64 0 i)), none, some (.int (nI i))] [] 148 := by
                intro f
                induction f with
                | zero => intro i _ hf; exact absurd hf (Nat.not_lt_zero _)
                | succ f ih148 =>
                  intro i hid hf
                  refine z_iload hZ (pc := 148) dX10_behind_148 rfl ?_
                  refine z_iload_n hZ (pc := 150) dX10_behind_150 rfl ?_
                  refine z_icmp_ge hZ (pc := 151) (tgt := 175) dX10_behind_151 rfl (fun c151 => ?_) (fun c151 => ?_)
                  · skip
                    have ei : i = dn := lp_ge rfl (by omega) hid c151
                    subst ei
                    refine z_lload hZ (pc := 175) dX10_behind_175 rfl ?_
                    refine z_l2i hZ (pc := 177) dX10_behind_177 ?_
                    refine zx_i hZ (pc := 178) (by decide) (by decide) dX10_behind_178 FitR.int ?_
                    exact ⟨fun j hj => up_off hj, fun j h1 h2 => (hGe j h2).trans (up_off h1), hok, hok2, by rw [nI_clamp (n := i) (by omega), ← hgn, if_neg c133]⟩
                  · skip
                    have hl : i < dn := lp_lt rfl (by omega) hid c151
                    refine z_lload hZ (pc := 154) dX10_behind_154 rfl ?_
                    refine z_lload hZ (pc := 156) dX10_behind_156 rfl ?_
                    refine z_lmul hZ (pc := 158) dX10_behind_158 ?_
                    refine z_ldc2 hZ (pc := 159) (v := 1000000) dX10_behind_159 (List.mem_of_getElem? (i := 1152) (by decide +kernel)) ?_
                    refine z_ldiv hZ (pc := 162) dX10_behind_162 (by decide) ?_
                    refine z_iload hZ (pc := 163) dX10_behind_163 rfl ?_
                    refine z_i2l hZ (pc := 165) dX10_behind_165 ?_
                    refine z_ladd hZ (pc := 166) dX10_behind_166 ?_
                    refine z_lstore hZ (pc := 167) (j := 7) dX10_behind_167 (by decide) rfl (Nat.le_of_ble_eq_true rfl) rfl ?_
                    refine q_iinc_10_9 hZ (pc := 169) dX10_behind_169 rfl ?_
                    refine z_goto hZ (pc := 172) (tgt := 148) dX10_behind_172 rfl ?_
                    exact z_back hZ (ih148 (i + 1) (by omega) (by omega)) rfl ⟨rfl, rfl, rfl, rfl, rfl, rfl, rfl, zi (nI_inc i), trivial⟩
              exact z_back hZ (lp148 (dn + 1) 0 (Nat.zero_le _) (by omega)) rfl ⟨rfl, rfl, rfl, rfl, rfl, rfl, rfl, rfl, trivial⟩
            · skip
              refine z_ldc2 hZ (pc := 136) (v := 1000000) dX10_behind_136 (List.mem_of_getElem? (i := 1152) (by decide +kernel)) ?_
              refine z_goto hZ (pc := 139) (tgt := 143) dX10_behind_139 rfl ?_
              refine z_lstore hZ (pc := 143) (j := 7) dX10_behind_143 (by decide) rfl (Nat.le_of_ble_eq_true rfl) rfl ?_
              refine z_iconst hZ (pc := 145) (v := 0) dX10_behind_145 (by decide) ?_
              refine q_istore_10_9 hZ (pc := 146) dX10_behind_146 rfl ?_
              have lp148 : ∀ (f i : Nat), i ≤ dn → dn - i < f → Z 2 12 (WC o a cA (va_up v 25 (nI e9)) G) [some (.ref (o 0)), some (.int (nI k)), some (.int (nI p)), some (.int (nI dn)), some (.int gn), some (.long ((nobS (g 9) (g 18) (nI k) P)).toInt64), none, some (.long (bhI ((nobS (g 9) (g 18) (nI k) P)).toInt64 gn.toInt64 1000000 i)), none, some (.int (nI i))] [] 148 := by
                intro f
                induction f with
                | zero => intro i _ hf; exact absurd hf (Nat.not_lt_zero _)
                | succ f ih148 =>
                  intro i hid hf
                  refine z_iload hZ (pc := 148) dX10_behind_148 rfl ?_
                  refine z_iload_n hZ (pc := 150) dX10_behind_150 rfl ?_
                  refine z_icmp_ge hZ (pc := 151) (tgt := 175) dX10_behind_151 rfl (fun c151 => ?_) (fun c151 => ?_)
                  · skip
                    have ei : i = dn := lp_ge rfl (by omega) hid c151
                    subst ei
                    refine z_lload hZ (pc := 175) dX10_behind_175 rfl ?_
                    refine z_l2i hZ (pc := 177) dX10_behind_177 ?_
                    refine zx_i hZ (pc := 178) (by decide) (by decide) dX10_behind_178 FitR.int ?_
                    exact ⟨fun j hj => up_off hj, fun j h1 h2 => (hGe j h2).trans (up_off h1), hok, hok2, by rw [nI_clamp (n := i) (by omega), ← hgn, if_pos c133]⟩
                  · skip
                    have hl : i < dn := lp_lt rfl (by omega) hid c151
                    refine z_lload hZ (pc := 154) dX10_behind_154 rfl ?_
                    refine z_lload hZ (pc := 156) dX10_behind_156 rfl ?_
                    refine z_lmul hZ (pc := 158) dX10_behind_158 ?_
                    refine z_ldc2 hZ (pc := 159) (v := 1000000) dX10_behind_159 (List.mem_of_getElem? (i := 1152) (by decide +kernel)) ?_
                    refine z_ldiv hZ (pc := 162) dX10_behind_162 (by decide) ?_
                    refine z_iload hZ (pc := 163) dX10_behind_163 rfl ?_
                    refine z_i2l hZ (pc := 165) dX10_behind_165 ?_
                    refine z_ladd hZ (pc := 166) dX10_behind_166 ?_
                    refine z_lstore hZ (pc := 167) (j := 7) dX10_behind_167 (by decide) rfl (Nat.le_of_ble_eq_true rfl) rfl ?_
                    refine q_iinc_10_9 hZ (pc := 169) dX10_behind_169 rfl ?_
                    refine z_goto hZ (pc := 172) (tgt := 148) dX10_behind_172 rfl ?_
                    exact z_back hZ (ih148 (i + 1) (by omega) (by omega)) rfl ⟨rfl, rfl, rfl, rfl, rfl, rfl, rfl, zi (nI_inc i), trivial⟩
              exact z_back hZ (lp148 (dn + 1) 0 (Nat.zero_le _) (by omega)) rfl ⟨rfl, rfl, rfl, rfl, rfl, rfl, rfl, rfl, trivial⟩
      · skip
        exact z_iae hX (pc := 25) (n := 3) txm_306 dX10_behind_25 dX10_behind_28 (Or.inr ⟨rfl, dX10_behind_29⟩) dX10_behind_32 dX10_behind_35 (by decide) (Nat.le_of_ble_eq_true rfl) (by decide) (by decide) ⟨rfl, Or.inr ⟨rfl, hok, by simp [inB, c22]⟩⟩
