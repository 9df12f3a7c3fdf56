/-- the houses that are reached on a day -/
def rchB (Hs Ds : Nat → Int32) (d : Int32) : Nat → Nat
  | 0 => 0
  | l + 1 => if Ds l = d ∧ 0 < Hs l then rchB Hs Ds d l ||| 2 ^ (Hs l).toNatClampNeg else rchB Hs Ds d l
theorem rchB_ok {Hs Ds : Nat → Int32} {d : Int32} : ∀ {q : Nat}, (∀ l, l < q → Hs l = -1 ∨ ∃ x, x < 10 ∧ Hs l = nI x) → rchB Hs Ds d q < 1024 ∧ (rchB Hs Ds d q).testBit 0 = false
  | 0, _ => ⟨show 0 < 1024 by decide, show (0 : Nat).testBit 0 = false by decide⟩
  | q + 1, h => by
    obtain ⟨h1, h2⟩ := rchB_ok (d := d) (Ds := Ds) (q := q) (fun l hl => h l (by omega))
    rw [rchB]
    by_cases c : Ds q = d ∧ 0 < Hs q
    · rw [if_pos c]
      rcases h q (by omega) with e | ⟨x, hx, e⟩
      · rw [e] at c
        exact absurd c.2 (by decide)
      · have hx0 : x ≠ 0 := fun z => by
          rw [e, z] at c
          exact absurd c.2 (by decide)
        rw [e, nI_clamp (by omega)]
        refine ⟨Nat.or_lt_two_pow (n := 10) h1 (Nat.pow_lt_pow_right (by omega) hx), ?_⟩
        rw [Nat.testBit_or, h2, Nat.testBit_two_pow]
        simp [hx0]
    · rw [if_neg c]
      exact ⟨h1, h2⟩
theorem c_X10_round {l : Launch} {D : va_G} {cA : Nat → ClassId} {o a : Nat → Nat} {v : ZV} {g : ZG} {x : Int32} {n q : Nat} {hh : Nat → Nat} {wk : Nat → Nat → Nat} (hn : v 9 = nI n) (h2 : n ≤ 200) (hfr : ∀ t, t < n → ∃ k, k < 10 ∧ T5 g 1 t = nI k) (hso : SortT (T5 g 2) n) (hq : v 10 = nI q) (hq4 : q ≤ 40) (hlh : ∀ k, k < q → g 7 k = nI (hh k) ∧ hh k < 2400) (hw : ∀ x y, x < 10 → y < 10 → (if x = y then 0 else g 20 (10 * x + y)) = nI (wk x y)) (hwl : ∀ x y, wk x y ≤ 99) (h35 : g 35 0 = 0) : MF l D cA o a yX10_round cX10_round 4 (some .int) 8 1 6 [(.ref (o 0)), .int x] v g (fun v2 g2 r => (∀ j, j ≠ 25 → j ≠ 26 → j ≠ 27 → j ≠ 28 → j ≠ 29 → v2 j = v j) ∧ v2 29 = nI (popc (rchB (fun l => carH (carryS (T5 g 0) (T5 g 5) (T5 g 1) (T5 g 2) n (g 6 l) 10 (hh l))) (fun l => carD (carryS (T5 g 0) (T5 g 5) (T5 g 1) (T5 g 2) n (g 6 l) 10 (hh l))) x q)) ∧ (∀ j, j ≠ 33 → j ≠ 34 → j ≠ 35 → j ≠ 36 → g2 j = g j) ∧ g2 35 0 = 0 ∧ (∀ i, i < popc (rchB (fun l => carH (carryS (T5 g 0) (T5 g 5) (T5 g 1) (T5 g 2) n (g 6 l) 10 (hh l))) (fun l => carD (carryS (T5 g 0) (T5 g 5) (T5 g 1) (T5 g 2) n (g 6 l) 10 (hh l))) x q) → g2 34 i = nI (pth wk i (rchB (fun l => carH (carryS (T5 g 0) (T5 g 5) (T5 g 1) (T5 g 2) n (g 6 l) 10 (hh l))) (fun l => carD (carryS (T5 g 0) (T5 g 5) (T5 g 1) (T5 g 2) n (g 6 l) 10 (hh l))) x q) 0)) ∧ inB x 0 130 = true ∧ r = some (.int (nI (Bh wk (rchB (fun l => carH (carryS (T5 g 0) (T5 g 5) (T5 g 1) (T5 g 2) n (g 6 l) 10 (hh l))) (fun l => carD (carryS (T5 g 0) (T5 g 5) (T5 g 1) (T5 g 2) n (g 6 l) 10 (hh l))) x q) 0)))) (fun En => En = sNSE ∧ inB x 0 130 = false) := by
  refine MF.of (by decide) rfl (Nat.le_of_ble_eq_true rfl) (by simp [Value.category]) (fun Z hX => ?_)
  have hZ := hX.toZR
  have hor : ∀ l, (fun l => carH (carryS (T5 g 0) (T5 g 5) (T5 g 1) (T5 g 2) n (g 6 l) 10 (hh l))) l = -1 ∨ ∃ x, x < 10 ∧ (fun l => carH (carryS (T5 g 0) (T5 g 5) (T5 g 1) (T5 g 2) n (g 6 l) 10 (hh l))) l = nI x := fun l => carryS_or _ _ _ _ _ _ _
  obtain ⟨HS, hHS⟩ : ∃ F, F = (fun l => carH (carryS (T5 g 0) (T5 g 5) (T5 g 1) (T5 g 2) n (g 6 l) 10 (hh l))) := ⟨_, rfl⟩
  obtain ⟨DS, hDS⟩ : ∃ F, F = (fun l => carD (carryS (T5 g 0) (T5 g 5) (T5 g 1) (T5 g 2) n (g 6 l) 10 (hh l))) := ⟨_, rfl⟩
  rw [← hHS] at hor
  have hb : ∀ l, rchB HS DS x l < 1024 ∧ (rchB HS DS x l).testBit 0 = false := fun l => rchB_ok (fun l _ => hor l)
  refine z_iload_n hZ (pc := 0) dX10_round_0 rfl ?_
  refine z_if_lt hZ (pc := 1) (tgt := 11) dX10_round_1 rfl (fun c1 => ?_) (fun c1 => ?_)
  · skip
    exact z_nse hX (pc := 11) (n := 2) (txm_247) dX10_round_11 dX10_round_14 (Or.inl ⟨rfl, dX10_round_15⟩) dX10_round_17 dX10_round_20 (by decide) (Nat.le_of_ble_eq_true rfl) (by decide) (by decide) ⟨rfl, rfl, by simp [inB, Int32.not_le.mpr c1]⟩
  · skip
    refine z_iload_n hZ (pc := 4) dX10_round_4 rfl ?_
    refine z_sipush hZ (pc := 5) (v := 130) dX10_round_5 (by decide) ?_
    refine z_icmp_le hZ (pc := 8) (tgt := 21) dX10_round_8 rfl (fun c8 => ?_) (fun c8 => ?_)
    · skip
      have hok : inB x 0 130 = true := by simp [inB, Int32.not_lt.mp c1, c8]
      refine z_iconst hZ (pc := 21) (v := 0) dX10_round_21 (by decide) ?_
      refine q_istore_n_4_2 hZ (pc := 22) dX10_round_22 rfl ?_
      refine z_iconst hZ (pc := 23) (v := 0) dX10_round_23 (by decide) ?_
      refine q_istore_n_4_3 hZ (pc := 24) dX10_round_24 rfl ?_
      have lp25 : ∀ (f l : Nat) (v1 : ZV) (g1 : ZG), l ≤ q → q - l < f → (∀ j, j ≠ 25 → j ≠ 26 → j ≠ 27 → j ≠ 28 → v1 j = v j) → (∀ j, j ≠ 33 → g1 j = g j) → Z 0 0 (WC o a cA v1 g1) [some (.ref (o 0)), some (.int x), some (.int (nI (rchB HS DS x l))), some (.int (nI l))] [] 25 := by
        intro f
        induction f with
        | zero => intro l _ _ _ hf; exact absurd hf (Nat.not_lt_zero _)
        | succ f ih25 =>
          intro l v1 g1 hlq hf hv1 hg1
          refine z_iload_n hZ (pc := 25) dX10_round_25 rfl ?_
          refine z_aload_n hZ (pc := 26) dX10_round_26 rfl ?_
          refine gC_0_1 hZ (pc := 27) fl_X10_19 dX10_round_27 ?_
          refine gC_3_1 hZ (pc := 30) fl_X10_143 dX10_round_30 ?_
          refine z_top (y := nI q) ((hv1 10 (by decide) (by decide) (by decide) (by decide)).trans hq) ?_
          refine z_icmp_ge hZ (pc := 33) (tgt := 91) dX10_round_33 rfl (fun c33 => ?_) (fun c33 => ?_)
          · skip
            have el : l = q := lp_ge rfl (by omega) hlq c33
            subst el
            have hbl := hb l
            refine z_aload_n hZ (pc := 91) dX10_round_91 rfl ?_
            refine gC_0_5 hZ (pc := 92) fl_X10_43 dX10_round_92 ?_
            refine z_aload_n hZ (pc := 95) dX10_round_95 rfl ?_
            refine gC_0_10 hZ (pc := 96) fl_X10_75 dX10_round_96 ?_
            refine z_iload_n hZ (pc := 99) dX10_round_99 rfl ?_
            refine cV hZ (pc := 100) dX10_round_100 lk_X10_249 mn_X8_plan mv_X8_plan (c_X8_plan (b := rchB HS DS x l) (wk := wk) hbl.1 (by rw [hg1 35 (by decide)]; exact h35) (by rw [hg1 20 (by decide)]; exact hw) hwl) rc_9 rfl rfl (Nat.le_of_ble_eq_true rfl) (by decide) (by decide) (by decide) (by decide) ?_
            intro v2 g2 r h
            obtain ⟨rfl, hg2, z35, hrow, rfl⟩ := h
            refine zx_i hZ (pc := 103) (by decide) (by decide) dX10_round_103 FitR.int ?_
            exact ⟨fun j h1 h2 h3 h4 h5 => (up_off h5).trans (hv1 j h1 h2 h3 h4), by rw [← hHS, ← hDS, up_at, Kr_popc hbl.2], fun j h1 h2 h3 h4 => (hg2 j h2 h3 h4).trans (hg1 j h1), z35, fun i hi => by rw [← hHS, ← hDS] at hi ⊢; rw [hrow i (by rw [Kr_popc hbl.2]; exact hi), round_row hwl hbl.1 hbl.2 (by rw [Kr_popc hbl.2]; exact hi)], hok, by rw [← hHS, ← hDS, round_sum hbl.1 hbl.2]⟩
          · skip
            have hl : l < q := lp_lt rfl (by omega) hlq c33
            have hT : ∀ j, T5 g1 j = T5 g j := fun j => T5_off (hg1 5 (by decide)) j
            have h6 := hg1 6 (by decide)
            have h7 := hg1 7 (by decide)
            refine z_aload_n hZ (pc := 36) dX10_round_36 rfl ?_
            refine gC_0_4 hZ (pc := 37) fl_X10_36 dX10_round_37 ?_
            refine z_aload_n hZ (pc := 40) dX10_round_40 rfl ?_
            refine gC_0_1 hZ (pc := 41) fl_X10_19 dX10_round_41 ?_
            refine z_iload_n hZ (pc := 44) dX10_round_44 rfl ?_
            refine z_aload_n hZ (pc := 45) dX10_round_45 rfl ?_
            refine gC_0_3 hZ (pc := 46) fl_X10_29 dX10_round_46 ?_
            refine cV hZ (pc := 49) dX10_round_49 lk_X10_228 mn_X9_follow mv_X9_follow (c_X9_follow (v := v1) (g := g1) (n := n) (k := l) (hh := hh l) ((hv1 9 (by decide) (by decide) (by decide) (by decide)).trans hn) h2 (by rw [hT]; exact hfr) (by rw [hT]; exact hso) (by omega) (by rw [h7]; exact (hlh l hl).1) (hlh l hl).2) rc_8 rfl rfl (Nat.le_of_ble_eq_true rfl) (by decide) (by decide) (by decide) (by decide) ?_
            intro v2 g2 r h
            obtain ⟨rfl, hv2, hg2, e26, e27, e28⟩ := h
            simp only [hT, h6] at e27 e28
            refine z_aload_n hZ (pc := 52) dX10_round_52 rfl ?_
            refine gC_0_4 hZ (pc := 53) fl_X10_36 dX10_round_53 ?_
            refine gC_8_2 hZ (pc := 56) fl_X10_244 dX10_round_56 ?_
            refine z_top (y := DS l) (by rw [hDS]; exact e28) ?_
            refine z_iload_n hZ (pc := 59) dX10_round_59 rfl ?_
            refine z_icmp_ne hZ (pc := 60) (tgt := 85) dX10_round_60 rfl (fun c60 => ?_) (fun c60 => ?_)
            · skip
              refine q_iinc_4_3 hZ (pc := 85) dX10_round_85 rfl ?_
              refine z_goto hZ (pc := 88) (tgt := 25) dX10_round_88 rfl ?_
              exact z_back hZ (ih25 (l + 1) v2 g2 (by omega) (by omega) (fun j h1 h2 h3 h4 => (hv2 j h1 h2 h3 h4).trans (hv1 j h1 h2 h3 h4)) (fun j hj => (hg2 j hj).trans (hg1 j hj))) rfl ⟨rfl, rfl, zi (by rw [rchB, if_neg (fun z => c60 z.1)]), zi (nI_inc l), trivial⟩
            · skip
              refine z_aload_n hZ (pc := 63) dX10_round_63 rfl ?_
              refine gC_0_4 hZ (pc := 64) fl_X10_36 dX10_round_64 ?_
              refine gC_8_1 hZ (pc := 67) fl_X10_241 dX10_round_67 ?_
              refine z_top (y := HS l) (by rw [hHS]; exact e27) ?_
              refine z_if_le hZ (pc := 70) (tgt := 85) dX10_round_70 rfl (fun c70 => ?_) (fun c70 => ?_)
              · skip
                refine q_iinc_4_3 hZ (pc := 85) dX10_round_85 rfl ?_
                refine z_goto hZ (pc := 88) (tgt := 25) dX10_round_88 rfl ?_
                exact z_back hZ (ih25 (l + 1) v2 g2 (by omega) (by omega) (fun j h1 h2 h3 h4 => (hv2 j h1 h2 h3 h4).trans (hv1 j h1 h2 h3 h4)) (fun j hj => (hg2 j hj).trans (hg1 j hj))) rfl ⟨rfl, rfl, zi (by rw [rchB, if_neg (fun z => Int32.not_le.mpr z.2 c70)]), zi (nI_inc l), trivial⟩
              · skip
                obtain ⟨h, hh10, eh⟩ : ∃ h, h < 10 ∧ HS l = nI h := by
                  rcases hor l with z | z
                  · exact absurd (by rw [z]; decide) c70
                  · exact z
                refine z_iload_n hZ (pc := 73) dX10_round_73 rfl ?_
                refine z_iconst hZ (pc := 74) (v := 1) dX10_round_74 (by decide) ?_
                refine z_aload_n hZ (pc := 75) dX10_round_75 rfl ?_
                refine gC_0_4 hZ (pc := 76) fl_X10_36 dX10_round_76 ?_
                refine gC_8_1 hZ (pc := 79) fl_X10_241 dX10_round_79 ?_
                refine z_top (y := nI h) (by rw [e27, ← eh, hHS]) ?_
                refine z_ishl hZ (pc := 82) dX10_round_82 ?_
                refine z_ior hZ (pc := 83) dX10_round_83 ?_
                refine z_top (y := nI (rchB HS DS x (l + 1))) (by rw [sh_one h (by omega), bit_or, rchB, if_pos ⟨c60, Int32.not_le.mp c70⟩, eh, nI_clamp (by omega)]) ?_
                refine q_istore_n_4_2 hZ (pc := 84) dX10_round_84 rfl ?_
                refine q_iinc_4_3 hZ (pc := 85) dX10_round_85 rfl ?_
                refine z_goto hZ (pc := 88) (tgt := 25) dX10_round_88 rfl ?_
                exact z_back hZ (ih25 (l + 1) v2 g2 (by omega) (by omega) (fun j h1 h2 h3 h4 => (hv2 j h1 h2 h3 h4).trans (hv1 j h1 h2 h3 h4)) (fun j hj => (hg2 j hj).trans (hg1 j hj))) rfl ⟨rfl, rfl, zi (rfl), zi (nI_inc l), trivial⟩
      exact z_back hZ (lp25 (q + 1) 0 v g (Nat.zero_le _) (by omega) (fun _ _ _ _ _ => rfl) (fun _ _ => rfl)) rfl ⟨rfl, rfl, rfl, rfl, trivial⟩
    · skip
      exact z_nse hX (pc := 11) (n := 2) (txm_247) dX10_round_11 dX10_round_14 (Or.inl ⟨rfl, dX10_round_15⟩) dX10_round_17 dX10_round_20 (by decide) (Nat.le_of_ble_eq_true rfl) (by decide) (by decide) ⟨rfl, rfl, by simp [inB, c8]⟩
/-- what a mourner is worth, of the first persons; B the houses of a name -/
def mrS (B : Nat → Nat) (k : Nat) : Nat → Int32
  | 0 => 0
  | p + 1 => mrS B k p + ((if popc (rmB (B p) k) = 1 then 1 else 0) - (if popc (B p) = 1 then 1 else 0))
theorem c_X10_mourner {l : Launch} {D : va_G} {cA : Nat → ClassId} {o a : Nat → Nat} {v : ZV} {g : ZG} {x : Int32} {n P H R A : Nat} {ops : Nat → Nat → Int32} {m : Nat → Nat} (hn : v 9 = nI n) (h2 : n ≤ 200) (hP : v 16 = nI P) (hP6 : P ≤ 16) (hH : v 15 = nI H) (h10 : H ≤ 10) (hfr : ∀ t, t < n → ∃ k, k < 10 ∧ T5 g 1 t = nI k) (hso : SortT (T5 g 2) n) (hX9 : ExC v g R A ops m) : MF l D cA o a yX10_mourner cX10_mourner 7 (some .int) 8 1 6 [(.ref (o 0)), .int x] v g (fun v2 g2 r => (∀ j, j ≠ 25 → v2 j = v j) ∧ (∀ j, j ≠ 0 → j ≠ 24 → j ≠ 33 → g2 j = g j) ∧ inI x H = true ∧ r = some (.int (if allB (holdE (vals7 x 99 0 1 ((if n = 0 then 0 else T5 g 2 (n - 1)) / 24) ((if n = 0 then 0 else T5 g 2 (n - 1)) - (if n = 0 then 0 else T5 g 2 (n - 1)) / 24 * 24) (nI (fb_ct (onP (T5 g 1) (T5 g 2) x ((if n = 0 then 0 else T5 g 2 (n - 1)) / 24)) n)) v0s) ops m) R = true then mrS (fun p => hsT (T5 g 0) (T5 g 5) (T5 g 1) (T5 g 2) n (nI p) (if n = 0 then 0 else T5 g 2 (n - 1)) 10) x.toNatClampNeg P else 0))) (fun En => En = sNSE ∧ inI x H = false) := by
  refine MF.of (by decide) rfl (Nat.le_of_ble_eq_true rfl) (by simp [Value.category]) (fun Z hX => ?_)
  have hZ := hX.toZR
  refine z_aload_n hZ (pc := 0) dX10_mourner_0 rfl ?_
  refine z_iload_n hZ (pc := 1) dX10_mourner_1 rfl ?_
  refine cVX hX (pc := 2) (mc' := 1) (ms' := 6) dX10_mourner_2 (List.mem_of_getElem? (i := 843) (by decide +kernel)) mn_X10_needHouse mv_X10_needHouse (c_X10_needHouse hH h10) rc_0 rfl rfl (Nat.le_of_ble_eq_true rfl) (by decide) (by decide) (by decide) (by decide) (fun En h => h) (fun v2 g2 r h => ?_)
  obtain ⟨e1, e2, rfl, hi⟩ := h
  subst v2
  subst g2
  obtain ⟨k, hk, rfl⟩ := inI_t hi (by omega)
  refine z_aload_n hZ (pc := 5) dX10_mourner_5 rfl ?_
  refine gC_0_1 hZ (pc := 6) fl_X10_19 dX10_mourner_6 ?_
  refine cV_i hZ (pc := 9) dX10_mourner_9 lk_X10_149 mn_X6_nowHour mv_X6_nowHour (c_X6_nowHour hn h2) rc_3 rfl rfl (Nat.le_of_ble_eq_true rfl) (by decide) (by decide) (by decide) (by decide) ?_
  refine q_istore_n_7_2 hZ (pc := 12) dX10_mourner_12 rfl ?_
  refine z_aload_n hZ (pc := 13) dX10_mourner_13 rfl ?_
  refine z_iload_n hZ (pc := 14) dX10_mourner_14 rfl ?_
  refine z_bipush hZ (pc := 15) (v := 99) dX10_mourner_15 (by decide) ?_
  refine z_iconst hZ (pc := 17) (v := 0) dX10_mourner_17 (by decide) ?_
  refine z_iconst hZ (pc := 18) (v := 1) dX10_mourner_18 (by decide) ?_
  refine z_iload_n hZ (pc := 19) dX10_mourner_19 rfl ?_
  refine z_aload_n hZ (pc := 20) dX10_mourner_20 rfl ?_
  refine gC_0_1 hZ (pc := 21) fl_X10_19 dX10_mourner_21 ?_
  refine z_iload_n hZ (pc := 24) dX10_mourner_24 rfl ?_
  refine z_iload_n hZ (pc := 25) dX10_mourner_25 rfl ?_
  refine z_bipush hZ (pc := 26) (v := 24) dX10_mourner_26 (by decide) ?_
  refine z_idiv hZ (pc := 28) dX10_mourner_28 (by decide) ?_
  refine cV_i hZ (pc := 29) dX10_mourner_29 lk_X10_186 mn_X6_tearsOn mv_X6_tearsOn (c_X6_tearsOn hn h2) rc_3 rfl rfl (Nat.le_of_ble_eq_true rfl) (by decide) (by decide) (by decide) (by decide) ?_
  refine cV_v hZ (pc := 32) dX10_mourner_32 lk_X10_189 mn_X10_setValues mv_X10_setValues (c_X10_setValues) rc_0 rfl rfl (Nat.le_of_ble_eq_true rfl) (by decide) (by decide) (by decide) (by decide) ?_
  refine z_aload_n hZ (pc := 35) dX10_mourner_35 rfl ?_
  refine gC_0_10 hZ (pc := 36) fl_X10_75 dX10_mourner_36 ?_
  refine z_aload_n hZ (pc := 39) dX10_mourner_39 rfl ?_
  refine gC_0_9 hZ (pc := 40) fl_X10_68 dX10_mourner_40 ?_
  refine cV hZ (pc := 43) dX10_mourner_43 lk_X10_193 mn_X0_rulesHold mv_X0_rulesHold (c_X0_rulesHold (R := R) (A := A) (ops := ops) (m := m) (ExC_mv hX9 rfl rfl rfl rfl rfl rfl)) rc_5 rfl rfl (Nat.le_of_ble_eq_true rfl) (by decide) (by decide) (by decide) (by decide) ?_
  intro v2 g2 r h
  obtain ⟨e1, hg2, rfl⟩ := h
  subst v2
  have hT : ∀ j, T5 g2 j = T5 g j := fun j => T5_off (hg2 5 (by decide)) j
  have ec : allB (holdE (va_up g 0 (vals7 (nI k) 99 0 1 ((if n = 0 then 0 else T5 g 2 (n - 1)) / 24) ((if n = 0 then 0 else T5 g 2 (n - 1)) - (if n = 0 then 0 else T5 g 2 (n - 1)) / 24 * 24) (nI (fb_ct (onP (T5 g 1) (T5 g 2) (nI k) ((if n = 0 then 0 else T5 g 2 (n - 1)) / 24)) n)) (g 0)) 0) ops m) R = allB (holdE (vals7 (nI k) 99 0 1 ((if n = 0 then 0 else T5 g 2 (n - 1)) / 24) ((if n = 0 then 0 else T5 g 2 (n - 1)) - (if n = 0 then 0 else T5 g 2 (n - 1)) / 24 * 24) (nI (fb_ct (onP (T5 g 1) (T5 g 2) (nI k) ((if n = 0 then 0 else T5 g 2 (n - 1)) / 24)) n)) v0s) ops m) R := allB_cong (fun e he => holdE_cong (ExC_wfR hX9 he) (fun j hj => by rw [up_at]; exact vals7_cong j hj))
  refine z_top (congrArg bI ec) ?_
  refine z_if_ne hZ (pc := 46) (tgt := 51) dX10_mourner_46 rfl (fun c46 => ?_) (fun c46 => ?_)
  · skip
    refine z_aload_n hZ (pc := 51) dX10_mourner_51 rfl ?_
    refine gC_0_3 hZ (pc := 52) fl_X10_29 dX10_mourner_52 ?_
    refine z_aload_n hZ (pc := 55) dX10_mourner_55 rfl ?_
    refine gC_0_1 hZ (pc := 56) fl_X10_19 dX10_mourner_56 ?_
    refine z_iload_n hZ (pc := 59) dX10_mourner_59 rfl ?_
    refine cV hZ (pc := 60) dX10_mourner_60 lk_X10_212 mn_X2_callAt mv_X2_callAt (c_X2_callAt (n := n) (hr := (if n = 0 then 0 else T5 g 2 (n - 1))) hn h2 (by rw [hT]; exact hfr)) rc_7 rfl rfl (Nat.le_of_ble_eq_true rfl) (by decide) (by decide) (by decide) (by decide) ?_
    intro v2 g3 r h
    obtain ⟨rfl, e, R3, h1, h3, h4, h5, rfl, rfl⟩ := h
    rw [hT] at h3 h4
    rw [hT, hT] at h5
    obtain ⟨B, hB⟩ : ∃ B, B = (fun p => hsT (T5 g 0) (T5 g 5) (T5 g 1) (T5 g 2) n (nI p) (if n = 0 then 0 else T5 g 2 (n - 1)) 10) := ⟨_, rfl⟩
    have hBl : ∀ i, B i < 1024 := fun i => by rw [hB]; exact hsT_lt _ _ _ _ _ _ _ (by decide)
    have hpl : ∀ b, popc b ≤ 10 := popc_le
    refine z_iconst hZ (pc := 63) (v := 0) dX10_mourner_63 (by decide) ?_
    refine q_istore_n_7_3 hZ (pc := 64) dX10_mourner_64 rfl ?_
    refine z_iconst hZ (pc := 65) (v := 0) dX10_mourner_65 (by decide) ?_
    refine q_istore_7_4 hZ (pc := 66) dX10_mourner_66 rfl ?_
    have lp68 : ∀ (f i : Nat), i ≤ P → P - i < f → Z 1 6 (WC o a cA (va_up v 25 (nI e)) (va_up g2 33 R3)) [some (.ref (o 0)), some (.int (nI k)), some (.int (if n = 0 then 0 else T5 g 2 (n - 1))), some (.int (mrS B k i)), some (.int (nI i)), none, none] [] 68 := by
      intro f
      induction f with
      | zero => intro i _ hf; exact absurd hf (Nat.not_lt_zero _)
      | succ f ih68 =>
        intro i hiP hf
        refine z_iload hZ (pc := 68) dX10_mourner_68 rfl ?_
        refine z_aload_n hZ (pc := 70) dX10_mourner_70 rfl ?_
        refine gC_0_10 hZ (pc := 71) fl_X10_75 dX10_mourner_71 ?_
        refine gC_5_1 hZ (pc := 74) fl_X10_131 dX10_mourner_74 ?_
        refine z_top (y := nI P) hP ?_
        refine z_icmp_ge hZ (pc := 77) (tgt := 143) dX10_mourner_77 rfl (fun c77 => ?_) (fun c77 => ?_)
        · skip
          have ei : i = P := lp_ge rfl (by omega) hiP c77
          subst ei
          refine z_iload_n hZ (pc := 143) dX10_mourner_143 rfl ?_
          refine zx_i hZ (pc := 144) (by decide) (by decide) dX10_mourner_144 FitR.int ?_
          exact ⟨fun j hj => up_off hj, fun j h1 h2 h3 => (up_off h3).trans ((hg2 j h2).trans (up_off h1)), hi, by rw [if_pos (bI_ne c46), nI_clamp (by omega), hB]⟩
        · skip
          have hl : i < P := lp_lt rfl (by omega) hiP c77
          refine z_aload_n hZ (pc := 80) dX10_mourner_80 rfl ?_
          refine gC_0_3 hZ (pc := 81) fl_X10_29 dX10_mourner_81 ?_
          refine z_aload_n hZ (pc := 84) dX10_mourner_84 rfl ?_
          refine gC_0_1 hZ (pc := 85) fl_X10_19 dX10_mourner_85 ?_
          refine z_iload hZ (pc := 88) dX10_mourner_88 rfl ?_
          refine cV_i hZ (pc := 90) dX10_mourner_90 lk_X10_220 mn_X2_housesOf mv_X2_housesOf (c_X2_housesOf (row_or h1 h2 h5)) rc_7 rfl rfl (Nat.le_of_ble_eq_true rfl) (by decide) (by decide) (by decide) (by decide) ?_
          refine z_top (y := nI (B i)) (by rw [hB]; exact congrArg nI ((congrArg (fun z => hsN z R3 (nI i) 10) (hT 0)).trans (hsN_hsT h1 hso h3 h4 h5))) ?_
          refine q_istore_7_5 hZ (pc := 93) dX10_mourner_93 rfl ?_
          refine z_iload hZ (pc := 95) dX10_mourner_95 rfl ?_
          refine z_iconst hZ (pc := 97) (v := 1) dX10_mourner_97 (by decide) ?_
          refine z_iload_n hZ (pc := 98) dX10_mourner_98 rfl ?_
          refine z_ishl hZ (pc := 99) dX10_mourner_99 ?_
          refine z_iconst hZ (pc := 100) (v := (-1)) dX10_mourner_100 (by decide) ?_
          refine z_ixor hZ (pc := 101) dX10_mourner_101 ?_
          refine z_iand hZ (pc := 102) dX10_mourner_102 ?_
          refine z_top (y := nI (rmB (B i) k)) (rm_nI (by omega)) ?_
          refine q_istore_7_6 hZ (pc := 103) dX10_mourner_103 rfl ?_
          refine z_iload_n hZ (pc := 105) dX10_mourner_105 rfl ?_
          refine z_iload hZ (pc := 106) dX10_mourner_106 rfl ?_
          refine cS_i hZ (pc := 108) dX10_mourner_108 lk_X10_315 mn_J6_bitCount_0f7a4 ms_J6_bitCount_0f7a4 (c_J6_bitCount_0f7a4 (b := rmB (B i) k) (Nat.lt_of_le_of_lt (rm_le _ _) (hBl i))) rfl rfl (Nat.le_of_ble_eq_true rfl) (by decide) (by decide) (by decide) (by decide) ?_
          refine z_iconst hZ (pc := 111) (v := 1) dX10_mourner_111 (by decide) ?_
          refine z_icmp_ne hZ (pc := 112) (tgt := 119) dX10_mourner_112 rfl (fun c112 => ?_) (fun c112 => ?_)
          · skip
            refine z_iconst hZ (pc := 119) (v := 0) dX10_mourner_119 (by decide) ?_
            refine z_iload hZ (pc := 120) dX10_mourner_120 rfl ?_
            refine cS_i hZ (pc := 122) dX10_mourner_122 lk_X10_315 mn_J6_bitCount_0f7a4 ms_J6_bitCount_0f7a4 (c_J6_bitCount_0f7a4 (b := B i) (hBl i)) rfl rfl (Nat.le_of_ble_eq_true rfl) (by decide) (by decide) (by decide) (by decide) ?_
            refine z_iconst hZ (pc := 125) (v := 1) dX10_mourner_125 (by decide) ?_
            refine z_icmp_ne hZ (pc := 126) (tgt := 133) dX10_mourner_126 rfl (fun c126 => ?_) (fun c126 => ?_)
            · skip
              refine z_iconst hZ (pc := 133) (v := 0) dX10_mourner_133 (by decide) ?_
              refine z_isub hZ (pc := 134) dX10_mourner_134 ?_
              refine z_iadd hZ (pc := 135) dX10_mourner_135 ?_
              refine q_istore_n_7_3 hZ (pc := 136) dX10_mourner_136 rfl ?_
              refine q_iinc_7_4 hZ (pc := 137) dX10_mourner_137 rfl ?_
              refine z_goto hZ (pc := 140) (tgt := 68) dX10_mourner_140 rfl ?_
              exact z_back hZ (ih68 (i + 1) (by omega) (by omega)) rfl ⟨rfl, rfl, rfl, zi (by rw [mrS, if_neg (fun z => c112 (by rw [z]; rfl)), if_neg (fun z => c126 (by rw [z]; rfl))]), zi (nI_inc i), trivial⟩
            · skip
              refine z_iconst hZ (pc := 129) (v := 1) dX10_mourner_129 (by decide) ?_
              refine z_goto hZ (pc := 130) (tgt := 134) dX10_mourner_130 rfl ?_
              refine z_isub hZ (pc := 134) dX10_mourner_134 ?_
              refine z_iadd hZ (pc := 135) dX10_mourner_135 ?_
              refine q_istore_n_7_3 hZ (pc := 136) dX10_mourner_136 rfl ?_
              refine q_iinc_7_4 hZ (pc := 137) dX10_mourner_137 rfl ?_
              refine z_goto hZ (pc := 140) (tgt := 68) dX10_mourner_140 rfl ?_
              exact z_back hZ (ih68 (i + 1) (by omega) (by omega)) rfl ⟨rfl, rfl, rfl, zi (by rw [mrS, if_neg (fun z => c112 (by rw [z]; rfl)), if_pos ((nI_eq (a := popc (B i)) (b := 1) (by have := hpl (B i); omega) (by omega)).mp c126)]), zi (nI_inc i), trivial⟩
          · skip
            refine z_iconst hZ (pc := 115) (v := 1) dX10_mourner_115 (by decide) ?_
            refine z_goto hZ (pc := 116) (tgt := 120) dX10_mourner_116 rfl ?_
            refine z_iload hZ (pc := 120) dX10_mourner_120 rfl ?_
            refine cS_i hZ (pc := 122) dX10_mourner_122 lk_X10_315 mn_J6_bitCount_0f7a4 ms_J6_bitCount_0f7a4 (c_J6_bitCount_0f7a4 (b := B i) (hBl i)) rfl rfl (Nat.le_of_ble_eq_true rfl) (by decide) (by decide) (by decide) (by decide) ?_
            refine z_iconst hZ (pc := 125) (v := 1) dX10_mourner_125 (by decide) ?_
            refine z_icmp_ne hZ (pc := 126) (tgt := 133) dX10_mourner_126 rfl (fun c126 => ?_) (fun c126 => ?_)
            · skip
              refine z_iconst hZ (pc := 133) (v := 0) dX10_mourner_133 (by decide) ?_
              refine z_isub hZ (pc := 134) dX10_mourner_134 ?_
              refine z_iadd hZ (pc := 135) dX10_mourner_135 ?_
              refine q_istore_n_7_3 hZ (pc := 136) dX10_mourner_136 rfl ?_
              refine q_iinc_7_4 hZ (pc := 137) dX10_mourner_137 rfl ?_
              refine z_goto hZ (pc := 140) (tgt := 68) dX10_mourner_140 rfl ?_
              exact z_back hZ (ih68 (i + 1) (by omega) (by omega)) rfl ⟨rfl, rfl, rfl, zi (by rw [mrS, if_pos ((nI_eq (a := popc (rmB (B i) k)) (b := 1) (by have := hpl (rmB (B i) k); omega) (by omega)).mp c112), if_neg (fun z => c126 (by rw [z]; rfl))]), zi (nI_inc i), trivial⟩
            · skip
              refine z_iconst hZ (pc := 129) (v := 1) dX10_mourner_129 (by decide) ?_
              refine z_goto hZ (pc := 130) (tgt := 134) dX10_mourner_130 rfl ?_
              refine z_isub hZ (pc := 134) dX10_mourner_134 ?_
              refine z_iadd hZ (pc := 135) dX10_mourner_135 ?_
              refine q_istore_n_7_3 hZ (pc := 136) dX10_mourner_136 rfl ?_
              refine q_iinc_7_4 hZ (pc := 137) dX10_mourner_137 rfl ?_
              refine z_goto hZ (pc := 140) (tgt := 68) dX10_mourner_140 rfl ?_
              exact z_back hZ (ih68 (i + 1) (by omega) (by omega)) rfl ⟨rfl, rfl, rfl, zi (by rw [mrS, if_pos ((nI_eq (a := popc (rmB (B i) k)) (b := 1) (by have := hpl (rmB (B i) k); omega) (by omega)).mp c112), if_pos ((nI_eq (a := popc (B i)) (b := 1) (by have := hpl (B i); omega) (by omega)).mp c126)]), zi (nI_inc i), trivial⟩
    exact z_back hZ (lp68 (P + 1) 0 (Nat.zero_le _) (by omega)) rfl ⟨rfl, rfl, rfl, rfl, rfl, trivial⟩
  · skip
    refine z_iconst hZ (pc := 49) (v := 0) dX10_mourner_49 (by decide) ?_
    refine zx_i hZ (pc := 50) (by decide) (by decide) dX10_mourner_50 FitR.int ?_
    exact ⟨fun _ _ => rfl, fun j h1 h2 h3 => (hg2 j h2).trans (up_off h1), hi, by rw [if_neg (fun z => by rw [z] at c46; cases c46)]⟩
