theorem c_X5_readTest {l : Launch} {D : va_G} {cA : Nat → ClassId} {o a : Nat → Nat} {v : ZV} {g : ZG} {d i m K kk : Nat} {L : List Int32} {rs : (Nat → Int32) → (Nat → Int32) → Nat → PR} (hI : RdI v g i m L) (hK : 3 ≤ K) (hkk : kk + 1 ≤ K) (hsub : LvC l D cA o a kk 3 d rs) (hprg : ∀ q, q ≤ m → Prg m q (rs (g 2) (g 4) q)) : MG l D cA (WC o a cA) yX5_readTest cX5_readTest 4 (some .boolean) K [(.ref (o 1)), .int (nI d)] v g ((RdP v g m L (pTest (g 2) (rs (g 2) (g 4)) i))) := by
  refine MG.of (by decide) rfl (Nat.le_of_ble_eq_true rfl) (by simp [Value.category]) (fun Z hZ => ?_)
  have e2 : v 2 = nI i := hI.2.2.2.1
  have e3 : v 3 = g 2 i := hI.2.2.2.2.1
  have h7 : m ≤ 700 := hI.2.1
  have hL : L.length ≤ i := hI.2.2.2.2.2.2.2
  refine z_iconst hZ (pc := 0) (v := 0) dX5_readTest_0 (by decide) ?_
  refine q_istore_n_4_2 hZ (pc := 1) dX5_readTest_1 rfl ?_
  have lp2 : ∀ (f q : Nat) (v' : ZV), q ≤ 6 → 6 - q < f → FrV v v' → v' 6 = v 6 → RdI v' g (i + q) m L → (∀ k, k < q → g 2 (i + k) = -8) → Z 0 0 (WC o a cA v' g) [some (.ref (o 1)), some (.int (nI d)), some (.int (nI q)), none] [] 2 := by
    intro f
    induction f with
    | zero => intro q v' _ hf; exact absurd hf (Nat.not_lt_zero _)
    | succ f ih2 =>
      intro q v' hq hf hF hv6 hJ hqs
      refine z_iload_n hZ (pc := 2) dX5_readTest_2 rfl ?_
      refine z_bipush hZ (pc := 3) (v := 6) dX5_readTest_3 (by decide) ?_
      refine z_icmp_ge hZ (pc := 5) (tgt := 33) dX5_readTest_5 rfl (fun c5 => ?_) (fun c5 => ?_)
      · skip
        have e6 : q = 6 := lp_ge rfl (by decide) hq c5
        have hN : notsN (g 2) i = q := by
          have h1 := first_ge (n := 6) (p := fun k => decide (¬ g 2 (i + k) = -8)) (i := q) (fun k hk => by rw [hqs k hk]; rfl) hq
          have h2 := nots_le (K := g 2) (i := i)
          show fa_first _ 6 = q
          unfold notsN at h2
          omega
        refine z_aload_n hZ (pc := 33) dX5_readTest_33 rfl ?_
        refine gC_1_3 hZ (pc := 34) fl_X5_29 dX5_readTest_34 ?_
        refine z_bipush hZ (pc := 37) (v := (-8)) dX5_readTest_37 (by decide) ?_
        refine z_icmp_ne hZ (pc := 39) (tgt := 48) dX5_readTest_39 rfl (fun c39 => ?_) (fun c39 => ?_)
        · skip
          have hK8 : ¬ g 2 (i + q) = -8 := by rw [← hJ.2.2.2.2.1]; exact c39
          refine z_aload_n hZ (pc := 48) dX5_readTest_48 rfl ?_
          refine z_iconst hZ (pc := 49) (v := 3) dX5_readTest_49 (by decide) ?_
          refine z_iload_n hZ (pc := 50) dX5_readTest_50 rfl ?_
          refine cV hZ (pc := 51) dX5_readTest_51 lk_X5_92 mn_X5_readLevel mv_X5_readLevel (hsub _ _ (i + q) m L hJ) rc_1 rfl rfl (Nat.le_of_ble_eq_true rfl) hkk (by decide) (Nat.zero_le _) (Nat.zero_le _) ?_
          intro v2 g2 r h
          obtain ⟨f1, f2, rfl, h⟩ := h
          refine z_if_ne hZ (pc := 54) (tgt := 59) dX5_readTest_54 rfl (fun c54 => ?_) (fun c54 => ?_)
          · skip
            obtain ⟨j, l, hr⟩ := PR.of_ok (bI_ne c54)
            rw [hr] at h
            obtain ⟨h6, hJ2⟩ := h
            have hp := hprg (i + q) hJ.1
            rw [hr] at hp
            obtain ⟨p1, p2, p3⟩ := hp
            have hg2 : g2 2 = g 2 := f2 2 (by decide)
            have hg4 : g2 4 = g 4 := f2 4 (by decide)
            refine z_aload_n hZ (pc := 59) dX5_readTest_59 rfl ?_
            refine z_iconst hZ (pc := 60) (v := 2) dX5_readTest_60 (by decide) ?_
            refine cV_i hZ (pc := 61) dX5_readTest_61 lk_X5_149 mn_X5_joins mv_X5_joins (c_X5_joins_2) rc_1 rfl rfl (Nat.le_of_ble_eq_true rfl) (by omega) (by decide) (Nat.zero_le _) (Nat.zero_le _) ?_
            refine z_if_eq hZ (pc := 64) (tgt := 101) dX5_readTest_64 rfl (fun c64 => ?_) (fun c64 => ?_)
            · skip
              obtain ⟨J, LL, hres, hJ6, hJI, hlen, hf1, hf2⟩ : ∃ J LL, pTest (g 2) (rs (g 2) (g 4)) i = .ok J (LL ++ List.replicate q (-8)) ∧ v2 6 = v 6 ∧ RdI v2 g2 J m (L ++ LL) ∧ (L ++ LL).length + q ≤ J ∧ FrV v v2 ∧ FrG g g2 := ⟨j, l, by rw [pTest, hN, if_neg hK8, hr]; show (if jnK 2 (g 2 j) = true then _ else _) = _; rw [if_neg (by rw [← hg2, ← hJ2.2.2.2.2.1, bI_eq.mp c64]; decide)], h6.trans hv6, hJ2, by simp only [List.length_append]; omega, hF.trans f1, f2⟩
              refine z_iconst hZ (pc := 101) (v := 0) dX5_readTest_101 (by decide) ?_
              refine q_istore_n_4_3 hZ (pc := 102) dX5_readTest_102 rfl ?_
              have lp103 : ∀ (f k : Nat) (v5 : ZV) (g5 : ZG), k ≤ q → q - k < f → FrV v v5 → FrG g g5 → v5 6 = v 6 → RdI v5 g5 J m (L ++ LL ++ List.replicate k (-8)) → Z 0 0 (WC o a cA v5 g5) [some (.ref (o 1)), some (.int (nI d)), some (.int (nI q)), some (.int (nI k))] [] 103 := by
                intro f
                induction f with
                | zero => intro k v5 g5 _ hf; exact absurd hf (Nat.not_lt_zero _)
                | succ f ih103 =>
                  intro k v5 g5 hk hf hF5 hG5 h56 hI5
                  refine z_iload_n hZ (pc := 103) dX5_readTest_103 rfl ?_
                  refine z_iload_n hZ (pc := 104) dX5_readTest_104 rfl ?_
                  refine z_icmp_ge hZ (pc := 105) (tgt := 123) dX5_readTest_105 rfl (fun c105 => ?_) (fun c105 => ?_)
                  · skip
                    have ekq : k = q := lp_ge rfl (by omega) hk c105
                    subst ekq
                    refine z_iconst hZ (pc := 123) (v := 1) dX5_readTest_123 (by decide) ?_
                    refine zr_i hZ (pc := 124) dX5_readTest_124 FitR.b1 ?_
                    exact RdP_ok hres hF5 hG5 h56 hI5 (by rw [List.append_assoc])
                  · skip
                    have hkq : k < q := lp_lt rfl (by omega) hk c105
                    refine z_aload_n hZ (pc := 108) dX5_readTest_108 rfl ?_
                    refine gC_1_1 hZ (pc := 109) fl_X5_21 dX5_readTest_109 ?_
                    refine z_bipush hZ (pc := 112) (v := (-8)) dX5_readTest_112 (by decide) ?_
                    refine cV_v hZ (pc := 114) dX5_readTest_114 lk_X5_59 mn_X0_addCode mv_X0_addCode (c_X0_addCode (c := (L ++ LL ++ List.replicate k (-8)).length) hI5.2.2.2.2.2.2.1.1 (by simp only [List.length_append, List.length_replicate] at hlen ⊢; have := hI5.1; omega)) rc_6 rfl rfl (Nat.le_of_ble_eq_true rfl) (by omega) (by decide) (Nat.zero_le _) (Nat.zero_le _) ?_
                    refine q_iinc_4_3 hZ (pc := 117) dX5_readTest_117 rfl ?_
                    refine z_goto hZ (pc := 120) (tgt := 103) dX5_readTest_120 rfl ?_
                    exact z_back hZ (ih103 (k + 1) _ _ hkq (by omega) (hF5.trans (FrV.up (Or.inr rfl))) (hG5.trans FrG.up) h56 (by rw [List.replicate_succ', ← List.append_assoc]; exact hI5.code (by simp only [List.length_append, List.length_replicate] at hlen ⊢; omega))) rfl ⟨rfl, rfl, rfl, zi (nI_inc _), trivial⟩
              exact z_back hZ (lp103 (q + 1) 0 _ _ (Nat.zero_le _) (by omega) hf1 hf2 hJ6 (by rw [show L ++ LL ++ List.replicate 0 (-8) = L ++ LL from by simp]; exact hJI)) rfl ⟨rfl, rfl, rfl, rfl, trivial⟩
            · skip
              have hjn : jnK 2 (g 2 j) = true := by rw [← hg2, ← hJ2.2.2.2.2.1]; exact bI_ne c64
              have hjm : j < m := hJ2.lt (by rw [hg2]; exact jnK_no0 _ _ hjn)
              refine z_aload_n hZ (pc := 67) dX5_readTest_67 rfl ?_
              refine gC_1_3 hZ (pc := 68) fl_X5_29 dX5_readTest_68 ?_
              refine q_istore_n_4_3 hZ (pc := 71) dX5_readTest_71 rfl ?_
              refine z_aload_n hZ (pc := 72) dX5_readTest_72 rfl ?_
              refine z_aload_n hZ (pc := 73) dX5_readTest_73 rfl ?_
              refine gC_1_2 hZ (pc := 74) fl_X5_25 dX5_readTest_74 ?_
              refine z_iconst hZ (pc := 77) (v := 1) dX5_readTest_77 (by decide) ?_
              refine z_iadd hZ (pc := 78) dX5_readTest_78 ?_
              refine z_top (y := nI (j + 1)) (by show v2 2 + 1 = _; rw [hJ2.2.2.2.1]; exact nI_1 j) ?_
              refine cV_v hZ (pc := 79) dX5_readTest_79 lk_X5_48 mn_X5_goTo mv_X5_goTo (c_X5_goTo (j := j + 1) (by omega)) rc_1 rfl rfl (Nat.le_of_ble_eq_true rfl) (by omega) (by decide) (Nat.zero_le _) (Nat.zero_le _) ?_
              refine z_aload_n hZ (pc := 82) dX5_readTest_82 rfl ?_
              refine z_iconst hZ (pc := 83) (v := 3) dX5_readTest_83 (by decide) ?_
              refine z_iload_n hZ (pc := 84) dX5_readTest_84 rfl ?_
              refine cV hZ (pc := 85) dX5_readTest_85 lk_X5_92 mn_X5_readLevel mv_X5_readLevel (hsub _ _ (j + 1) m (L ++ l) (hJ2.go (Nat.le_succ j) hjm)) rc_1 rfl rfl (Nat.le_of_ble_eq_true rfl) hkk (by decide) (Nat.zero_le _) (Nat.zero_le _) ?_
              intro v3 g3 r3 h
              obtain ⟨f3, f4, rfl, h⟩ := h
              refine z_if_ne hZ (pc := 88) (tgt := 93) dX5_readTest_88 rfl (fun c88 => ?_) (fun c88 => ?_)
              · skip
                obtain ⟨j2, l2, hr3⟩ := PR.of_ok (bI_ne c88)
                rw [hg2, hg4] at h hr3
                rw [hr3] at h
                obtain ⟨h36, hJ3⟩ := h
                have hp3 := hprg (j + 1) hjm
                rw [hr3] at hp3
                obtain ⟨s1, s2, s3⟩ := hp3
                have hll : (L ++ l ++ l2).length + q + 1 ≤ j2 := by simp only [List.length_append]; omega
                refine z_aload_n hZ (pc := 93) dX5_readTest_93 rfl ?_
                refine gC_1_1 hZ (pc := 94) fl_X5_21 dX5_readTest_94 ?_
                refine z_iload_n hZ (pc := 97) dX5_readTest_97 rfl ?_
                refine cV_v hZ (pc := 98) dX5_readTest_98 lk_X5_59 mn_X0_addCode mv_X0_addCode (c_X0_addCode (c := (L ++ l ++ l2).length) hJ3.2.2.2.2.2.2.1.1 (by omega)) rc_6 rfl rfl (Nat.le_of_ble_eq_true rfl) (by omega) (by decide) (Nat.zero_le _) (Nat.zero_le _) ?_
                obtain ⟨J, LL, hres, hJ6, hJI, hlen, hf1, hf2⟩ : ∃ J LL, pTest (g 2) (rs (g 2) (g 4)) i = .ok J (LL ++ List.replicate q (-8)) ∧ (va_up v3 24 (nI ((L ++ l ++ l2).length + 1))) 6 = v 6 ∧ RdI (va_up v3 24 (nI ((L ++ l ++ l2).length + 1))) (va_up g3 31 (upd (g3 31) (L ++ l ++ l2).length (v2 3))) J m (L ++ LL) ∧ (L ++ LL).length + q ≤ J ∧ FrV v (va_up v3 24 (nI ((L ++ l ++ l2).length + 1))) ∧ FrG g (va_up g3 31 (upd (g3 31) (L ++ l ++ l2).length (v2 3))) := ⟨j2, l ++ l2 ++ [g 2 j], by rw [pTest, hN, if_neg hK8, hr]; show (if jnK 2 (g 2 j) = true then _ else _) = _; rw [if_pos hjn, hr3]; rfl, (h36.trans rfl).trans (h6.trans hv6), by rw [hJ2.2.2.2.2.1, hg2, show L ++ (l ++ l2 ++ [g 2 j]) = L ++ l ++ l2 ++ [g 2 j] from by simp only [List.append_assoc]]; exact hJ3.code (by omega), by simp only [List.length_append, List.length_cons, List.length_nil] at hll ⊢; omega, ((hF.trans f1).trans (FrV.go.trans f3)).trans (FrV.up (Or.inr rfl)), (f2.trans f4).trans FrG.up⟩
                refine z_iconst hZ (pc := 101) (v := 0) dX5_readTest_101 (by decide) ?_
                refine q_istore_n_4_3 hZ (pc := 102) dX5_readTest_102 rfl ?_
                have lp103 : ∀ (f k : Nat) (v5 : ZV) (g5 : ZG), k ≤ q → q - k < f → FrV v v5 → FrG g g5 → v5 6 = v 6 → RdI v5 g5 J m (L ++ LL ++ List.replicate k (-8)) → Z 0 0 (WC o a cA v5 g5) [some (.ref (o 1)), some (.int (nI d)), some (.int (nI q)), some (.int (nI k))] [] 103 := by
                  intro f
                  induction f with
                  | zero => intro k v5 g5 _ hf; exact absurd hf (Nat.not_lt_zero _)
                  | succ f ih103 =>
                    intro k v5 g5 hk hf hF5 hG5 h56 hI5
                    refine z_iload_n hZ (pc := 103) dX5_readTest_103 rfl ?_
                    refine z_iload_n hZ (pc := 104) dX5_readTest_104 rfl ?_
                    refine z_icmp_ge hZ (pc := 105) (tgt := 123) dX5_readTest_105 rfl (fun c105 => ?_) (fun c105 => ?_)
                    · skip
                      have ekq : k = q := lp_ge rfl (by omega) hk c105
                      subst ekq
                      refine z_iconst hZ (pc := 123) (v := 1) dX5_readTest_123 (by decide) ?_
                      refine zr_i hZ (pc := 124) dX5_readTest_124 FitR.b1 ?_
                      exact RdP_ok hres hF5 hG5 h56 hI5 (by rw [List.append_assoc])
                    · skip
                      have hkq : k < q := lp_lt rfl (by omega) hk c105
                      refine z_aload_n hZ (pc := 108) dX5_readTest_108 rfl ?_
                      refine gC_1_1 hZ (pc := 109) fl_X5_21 dX5_readTest_109 ?_
                      refine z_bipush hZ (pc := 112) (v := (-8)) dX5_readTest_112 (by decide) ?_
                      refine cV_v hZ (pc := 114) dX5_readTest_114 lk_X5_59 mn_X0_addCode mv_X0_addCode (c_X0_addCode (c := (L ++ LL ++ List.replicate k (-8)).length) hI5.2.2.2.2.2.2.1.1 (by simp only [List.length_append, List.length_replicate] at hlen ⊢; have := hI5.1; omega)) rc_6 rfl rfl (Nat.le_of_ble_eq_true rfl) (by omega) (by decide) (Nat.zero_le _) (Nat.zero_le _) ?_
                      refine q_iinc_4_3 hZ (pc := 117) dX5_readTest_117 rfl ?_
                      refine z_goto hZ (pc := 120) (tgt := 103) dX5_readTest_120 rfl ?_
                      exact z_back hZ (ih103 (k + 1) _ _ hkq (by omega) (hF5.trans (FrV.up (Or.inr rfl))) (hG5.trans FrG.up) h56 (by rw [List.replicate_succ', ← List.append_assoc]; exact hI5.code (by simp only [List.length_append, List.length_replicate] at hlen ⊢; omega))) rfl ⟨rfl, rfl, rfl, zi (nI_inc _), trivial⟩
                exact z_back hZ (lp103 (q + 1) 0 _ _ (Nat.zero_le _) (by omega) hf1 hf2 hJ6 (by rw [show L ++ LL ++ List.replicate 0 (-8) = L ++ LL from by simp]; exact hJI)) rfl ⟨rfl, rfl, rfl, rfl, trivial⟩
              · skip
                refine z_iconst hZ (pc := 91) (v := 0) dX5_readTest_91 (by decide) ?_
                refine zr_i hZ (pc := 92) dX5_readTest_92 FitR.b0 ?_
                obtain ⟨c, q', hr3⟩ := PR.of_er (bI_eq.mp c88)
                rw [hg2, hg4] at h hr3
                rw [hr3] at h
                exact RdP_er' (by rw [pTest, hN, if_neg hK8, hr]; show (if jnK 2 (g 2 j) = true then _ else _) = _; rw [if_pos hjn, hr3]; rfl) ((hF.trans f1).trans (FrV.go.trans f3)) (f2.trans f4) h
          · skip
            refine z_iconst hZ (pc := 57) (v := 0) dX5_readTest_57 (by decide) ?_
            refine zr_i hZ (pc := 58) dX5_readTest_58 FitR.b0 ?_
            obtain ⟨c, q', hr⟩ := PR.of_er (bI_eq.mp c54)
            rw [hr] at h
            exact RdP_er' (by rw [pTest, hN, if_neg hK8, hr]; rfl) (hF.trans f1) f2 h
        · skip
          skip
          refine z_aload_n hZ (pc := 42) dX5_readTest_42 rfl ?_
          refine z_iconst hZ (pc := 43) (v := 2) dX5_readTest_43 (by decide) ?_
          refine cV_i hZ (pc := 44) dX5_readTest_44 lk_X5_80 mn_X5_refuse mv_X5_refuse (c_X5_refuse) rc_1 rfl rfl (Nat.le_of_ble_eq_true rfl) (by omega) (by decide) (Nat.zero_le _) (Nat.zero_le _) ?_
          refine zr_i hZ (pc := 47) dX5_readTest_47 FitR.b0 ?_
          exact RdP_er (c := 2) (q := i + q) (by rw [pTest, hN, if_pos (by rw [← hJ.2.2.2.2.1]; exact c39)]) hF FrG.rf rfl hJ.2.2.2.1
      · skip
        have hq6 : q < 6 := lp_lt rfl (by decide) hq c5
        refine z_aload_n hZ (pc := 8) dX5_readTest_8 rfl ?_
        refine gC_1_3 hZ (pc := 9) fl_X5_29 dX5_readTest_9 ?_
        refine z_bipush hZ (pc := 12) (v := (-8)) dX5_readTest_12 (by decide) ?_
        refine z_icmp_ne hZ (pc := 14) (tgt := 33) dX5_readTest_14 rfl (fun c14 => ?_) (fun c14 => ?_)
        · skip
          have hN : notsN (g 2) i = q := first_at (fun k hk => by rw [hqs k hk]; rfl) hq6 (decide_eq_true (by rw [← hJ.2.2.2.2.1]; exact c14))
          refine z_aload_n hZ (pc := 33) dX5_readTest_33 rfl ?_
          refine gC_1_3 hZ (pc := 34) fl_X5_29 dX5_readTest_34 ?_
          refine z_bipush hZ (pc := 37) (v := (-8)) dX5_readTest_37 (by decide) ?_
          refine z_icmp_ne hZ (pc := 39) (tgt := 48) dX5_readTest_39 rfl (fun c39 => ?_) (fun c39 => ?_)
          · skip
            have hK8 : ¬ g 2 (i + q) = -8 := by rw [← hJ.2.2.2.2.1]; exact c39
            refine z_aload_n hZ (pc := 48) dX5_readTest_48 rfl ?_
            refine z_iconst hZ (pc := 49) (v := 3) dX5_readTest_49 (by decide) ?_
            refine z_iload_n hZ (pc := 50) dX5_readTest_50 rfl ?_
            refine cV hZ (pc := 51) dX5_readTest_51 lk_X5_92 mn_X5_readLevel mv_X5_readLevel (hsub _ _ (i + q) m L hJ) rc_1 rfl rfl (Nat.le_of_ble_eq_true rfl) hkk (by decide) (Nat.zero_le _) (Nat.zero_le _) ?_
            intro v2 g2 r h
            obtain ⟨f1, f2, rfl, h⟩ := h
            refine z_if_ne hZ (pc := 54) (tgt := 59) dX5_readTest_54 rfl (fun c54 => ?_) (fun c54 => ?_)
            · skip
              obtain ⟨j, l, hr⟩ := PR.of_ok (bI_ne c54)
              rw [hr] at h
              obtain ⟨h6, hJ2⟩ := h
              have hp := hprg (i + q) hJ.1
              rw [hr] at hp
              obtain ⟨p1, p2, p3⟩ := hp
              have hg2 : g2 2 = g 2 := f2 2 (by decide)
              have hg4 : g2 4 = g 4 := f2 4 (by decide)
              refine z_aload_n hZ (pc := 59) dX5_readTest_59 rfl ?_
              refine z_iconst hZ (pc := 60) (v := 2) dX5_readTest_60 (by decide) ?_
              refine cV_i hZ (pc := 61) dX5_readTest_61 lk_X5_149 mn_X5_joins mv_X5_joins (c_X5_joins_2) rc_1 rfl rfl (Nat.le_of_ble_eq_true rfl) (by omega) (by decide) (Nat.zero_le _) (Nat.zero_le _) ?_
              refine z_if_eq hZ (pc := 64) (tgt := 101) dX5_readTest_64 rfl (fun c64 => ?_) (fun c64 => ?_)
              · skip
                obtain ⟨J, LL, hres, hJ6, hJI, hlen, hf1, hf2⟩ : ∃ J LL, pTest (g 2) (rs (g 2) (g 4)) i = .ok J (LL ++ List.replicate q (-8)) ∧ v2 6 = v 6 ∧ RdI v2 g2 J m (L ++ LL) ∧ (L ++ LL).length + q ≤ J ∧ FrV v v2 ∧ FrG g g2 := ⟨j, l, by rw [pTest, hN, if_neg hK8, hr]; show (if jnK 2 (g 2 j) = true then _ else _) = _; rw [if_neg (by rw [← hg2, ← hJ2.2.2.2.2.1, bI_eq.mp c64]; decide)], h6.trans hv6, hJ2, by simp only [List.length_append]; omega, hF.trans f1, f2⟩
                refine z_iconst hZ (pc := 101) (v := 0) dX5_readTest_101 (by decide) ?_
                refine q_istore_n_4_3 hZ (pc := 102) dX5_readTest_102 rfl ?_
                have lp103 : ∀ (f k : Nat) (v5 : ZV) (g5 : ZG), k ≤ q → q - k < f → FrV v v5 → FrG g g5 → v5 6 = v 6 → RdI v5 g5 J m (L ++ LL ++ List.replicate k (-8)) → Z 0 0 (WC o a cA v5 g5) [some (.ref (o 1)), some (.int (nI d)), some (.int (nI q)), some (.int (nI k))] [] 103 := by
                  intro f
                  induction f with
                  | zero => intro k v5 g5 _ hf; exact absurd hf (Nat.not_lt_zero _)
                  | succ f ih103 =>
                    intro k v5 g5 hk hf hF5 hG5 h56 hI5
                    refine z_iload_n hZ (pc := 103) dX5_readTest_103 rfl ?_
                    refine z_iload_n hZ (pc := 104) dX5_readTest_104 rfl ?_
                    refine z_icmp_ge hZ (pc := 105) (tgt := 123) dX5_readTest_105 rfl (fun c105 => ?_) (fun c105 => ?_)
                    · skip
                      have ekq : k = q := lp_ge rfl (by omega) hk c105
                      subst ekq
                      refine z_iconst hZ (pc := 123) (v := 1) dX5_readTest_123 (by decide) ?_
                      refine zr_i hZ (pc := 124) dX5_readTest_124 FitR.b1 ?_
                      exact RdP_ok hres hF5 hG5 h56 hI5 (by rw [List.append_assoc])
                    · skip
                      have hkq : k < q := lp_lt rfl (by omega) hk c105
                      refine z_aload_n hZ (pc := 108) dX5_readTest_108 rfl ?_
                      refine gC_1_1 hZ (pc := 109) fl_X5_21 dX5_readTest_109 ?_
                      refine z_bipush hZ (pc := 112) (v := (-8)) dX5_readTest_112 (by decide) ?_
                      refine cV_v hZ (pc := 114) dX5_readTest_114 lk_X5_59 mn_X0_addCode mv_X0_addCode (c_X0_addCode (c := (L ++ LL ++ List.replicate k (-8)).length) hI5.2.2.2.2.2.2.1.1 (by simp only [List.length_append, List.length_replicate] at hlen ⊢; have := hI5.1; omega)) rc_6 rfl rfl (Nat.le_of_ble_eq_true rfl) (by omega) (by decide) (Nat.zero_le _) (Nat.zero_le _) ?_
                      refine q_iinc_4_3 hZ (pc := 117) dX5_readTest_117 rfl ?_
                      refine z_goto hZ (pc := 120) (tgt := 103) dX5_readTest_120 rfl ?_
                      exact z_back hZ (ih103 (k + 1) _ _ hkq (by omega) (hF5.trans (FrV.up (Or.inr rfl))) (hG5.trans FrG.up) h56 (by rw [List.replicate_succ', ← List.append_assoc]; exact hI5.code (by simp only [List.length_append, List.length_replicate] at hlen ⊢; omega))) rfl ⟨rfl, rfl, rfl, zi (nI_inc _), trivial⟩
                exact z_back hZ (lp103 (q + 1) 0 _ _ (Nat.zero_le _) (by omega) hf1 hf2 hJ6 (by rw [show L ++ LL ++ List.replicate 0 (-8) = L ++ LL from by simp]; exact hJI)) rfl ⟨rfl, rfl, rfl, rfl, trivial⟩
              · skip
                have hjn : jnK 2 (g 2 j) = true := by rw [← hg2, ← hJ2.2.2.2.2.1]; exact bI_ne c64
                have hjm : j < m := hJ2.lt (by rw [hg2]; exact jnK_no0 _ _ hjn)
                refine z_aload_n hZ (pc := 67) dX5_readTest_67 rfl ?_
                refine gC_1_3 hZ (pc := 68) fl_X5_29 dX5_readTest_68 ?_
                refine q_istore_n_4_3 hZ (pc := 71) dX5_readTest_71 rfl ?_
                refine z_aload_n hZ (pc := 72) dX5_readTest_72 rfl ?_
                refine z_aload_n hZ (pc := 73) dX5_readTest_73 rfl ?_
                refine gC_1_2 hZ (pc := 74) fl_X5_25 dX5_readTest_74 ?_
                refine z_iconst hZ (pc := 77) (v := 1) dX5_readTest_77 (by decide) ?_
                refine z_iadd hZ (pc := 78) dX5_readTest_78 ?_
                refine z_top (y := nI (j + 1)) (by show v2 2 + 1 = _; rw [hJ2.2.2.2.1]; exact nI_1 j) ?_
                refine cV_v hZ (pc := 79) dX5_readTest_79 lk_X5_48 mn_X5_goTo mv_X5_goTo (c_X5_goTo (j := j + 1) (by omega)) rc_1 rfl rfl (Nat.le_of_ble_eq_true rfl) (by omega) (by decide) (Nat.zero_le _) (Nat.zero_le _) ?_
                refine z_aload_n hZ (pc := 82) dX5_readTest_82 rfl ?_
                refine z_iconst hZ (pc := 83) (v := 3) dX5_readTest_83 (by decide) ?_
                refine z_iload_n hZ (pc := 84) dX5_readTest_84 rfl ?_
                refine cV hZ (pc := 85) dX5_readTest_85 lk_X5_92 mn_X5_readLevel mv_X5_readLevel (hsub _ _ (j + 1) m (L ++ l) (hJ2.go (Nat.le_succ j) hjm)) rc_1 rfl rfl (Nat.le_of_ble_eq_true rfl) hkk (by decide) (Nat.zero_le _) (Nat.zero_le _) ?_
                intro v3 g3 r3 h
                obtain ⟨f3, f4, rfl, h⟩ := h
                refine z_if_ne hZ (pc := 88) (tgt := 93) dX5_readTest_88 rfl (fun c88 => ?_) (fun c88 => ?_)
                · skip
                  obtain ⟨j2, l2, hr3⟩ := PR.of_ok (bI_ne c88)
                  rw [hg2, hg4] at h hr3
                  rw [hr3] at h
                  obtain ⟨h36, hJ3⟩ := h
                  have hp3 := hprg (j + 1) hjm
                  rw [hr3] at hp3
                  obtain ⟨s1, s2, s3⟩ := hp3
                  have hll : (L ++ l ++ l2).length + q + 1 ≤ j2 := by simp only [List.length_append]; omega
                  refine z_aload_n hZ (pc := 93) dX5_readTest_93 rfl ?_
                  refine gC_1_1 hZ (pc := 94) fl_X5_21 dX5_readTest_94 ?_
                  refine z_iload_n hZ (pc := 97) dX5_readTest_97 rfl ?_
                  refine cV_v hZ (pc := 98) dX5_readTest_98 lk_X5_59 mn_X0_addCode mv_X0_addCode (c_X0_addCode (c := (L ++ l ++ l2).length) hJ3.2.2.2.2.2.2.1.1 (by omega)) rc_6 rfl rfl (Nat.le_of_ble_eq_true rfl) (by omega) (by decide) (Nat.zero_le _) (Nat.zero_le _) ?_
                  obtain ⟨J, LL, hres, hJ6, hJI, hlen, hf1, hf2⟩ : ∃ J LL, pTest (g 2) (rs (g 2) (g 4)) i = .ok J (LL ++ List.replicate q (-8)) ∧ (va_up v3 24 (nI ((L ++ l ++ l2).length + 1))) 6 = v 6 ∧ RdI (va_up v3 24 (nI ((L ++ l ++ l2).length + 1))) (va_up g3 31 (upd (g3 31) (L ++ l ++ l2).length (v2 3))) J m (L ++ LL) ∧ (L ++ LL).length + q ≤ J ∧ FrV v (va_up v3 24 (nI ((L ++ l ++ l2).length + 1))) ∧ FrG g (va_up g3 31 (upd (g3 31) (L ++ l ++ l2).length (v2 3))) := ⟨j2, l ++ l2 ++ [g 2 j], by rw [pTest, hN, if_neg hK8, hr]; show (if jnK 2 (g 2 j) = true then _ else _) = _; rw [if_pos hjn, hr3]; rfl, (h36.trans rfl).trans (h6.trans hv6), by rw [hJ2.2.2.2.2.1, hg2, show L ++ (l ++ l2 ++ [g 2 j]) = L ++ l ++ l2 ++ [g 2 j] from by simp only [List.append_assoc]]; exact hJ3.code (by omega), by simp only [List.length_append, List.length_cons, List.length_nil] at hll ⊢; omega, ((hF.trans f1).trans (FrV.go.trans f3)).trans (FrV.up (Or.inr rfl)), (f2.trans f4).trans FrG.up⟩
                  refine z_iconst hZ (pc := 101) (v := 0) dX5_readTest_101 (by decide) ?_
                  refine q_istore_n_4_3 hZ (pc := 102) dX5_readTest_102 rfl ?_
                  have lp103 : ∀ (f k : Nat) (v5 : ZV) (g5 : ZG), k ≤ q → q - k < f → FrV v v5 → FrG g g5 → v5 6 = v 6 → RdI v5 g5 J m (L ++ LL ++ List.replicate k (-8)) → Z 0 0 (WC o a cA v5 g5) [some (.ref (o 1)), some (.int (nI d)), some (.int (nI q)), some (.int (nI k))] [] 103 := by
                    intro f
                    induction f with
                    | zero => intro k v5 g5 _ hf; exact absurd hf (Nat.not_lt_zero _)
                    | succ f ih103 =>
                      intro k v5 g5 hk hf hF5 hG5 h56 hI5
                      refine z_iload_n hZ (pc := 103) dX5_readTest_103 rfl ?_
                      refine z_iload_n hZ (pc := 104) dX5_readTest_104 rfl ?_
                      refine z_icmp_ge hZ (pc := 105) (tgt := 123) dX5_readTest_105 rfl (fun c105 => ?_) (fun c105 => ?_)
                      · skip
                        have ekq : k = q := lp_ge rfl (by omega) hk c105
                        subst ekq
                        refine z_iconst hZ (pc := 123) (v := 1) dX5_readTest_123 (by decide) ?_
                        refine zr_i hZ (pc := 124) dX5_readTest_124 FitR.b1 ?_
                        exact RdP_ok hres hF5 hG5 h56 hI5 (by rw [List.append_assoc])
                      · skip
                        have hkq : k < q := lp_lt rfl (by omega) hk c105
                        refine z_aload_n hZ (pc := 108) dX5_readTest_108 rfl ?_
                        refine gC_1_1 hZ (pc := 109) fl_X5_21 dX5_readTest_109 ?_
                        refine z_bipush hZ (pc := 112) (v := (-8)) dX5_readTest_112 (by decide) ?_
                        refine cV_v hZ (pc := 114) dX5_readTest_114 lk_X5_59 mn_X0_addCode mv_X0_addCode (c_X0_addCode (c := (L ++ LL ++ List.replicate k (-8)).length) hI5.2.2.2.2.2.2.1.1 (by simp only [List.length_append, List.length_replicate] at hlen ⊢; have := hI5.1; omega)) rc_6 rfl rfl (Nat.le_of_ble_eq_true rfl) (by omega) (by decide) (Nat.zero_le _) (Nat.zero_le _) ?_
                        refine q_iinc_4_3 hZ (pc := 117) dX5_readTest_117 rfl ?_
                        refine z_goto hZ (pc := 120) (tgt := 103) dX5_readTest_120 rfl ?_
                        exact z_back hZ (ih103 (k + 1) _ _ hkq (by omega) (hF5.trans (FrV.up (Or.inr rfl))) (hG5.trans FrG.up) h56 (by rw [List.replicate_succ', ← List.append_assoc]; exact hI5.code (by simp only [List.length_append, List.length_replicate] at hlen ⊢; omega))) rfl ⟨rfl, rfl, rfl, zi (nI_inc _), trivial⟩
                  exact z_back hZ (lp103 (q + 1) 0 _ _ (Nat.zero_le _) (by omega) hf1 hf2 hJ6 (by rw [show L ++ LL ++ List.replicate 0 (-8) = L ++ LL from by simp]; exact hJI)) rfl ⟨rfl, rfl, rfl, rfl, trivial⟩
                · skip
                  refine z_iconst hZ (pc := 91) (v := 0) dX5_readTest_91 (by decide) ?_
                  refine zr_i hZ (pc := 92) dX5_readTest_92 FitR.b0 ?_
                  obtain ⟨c, q', hr3⟩ := PR.of_er (bI_eq.mp c88)
                  rw [hg2, hg4] at h hr3
                  rw [hr3] at h
                  exact RdP_er' (by rw [pTest, hN, if_neg hK8, hr]; show (if jnK 2 (g 2 j) = true then _ else _) = _; rw [if_pos hjn, hr3]; rfl) ((hF.trans f1).trans (FrV.go.trans f3)) (f2.trans f4) h
            · skip
              refine z_iconst hZ (pc := 57) (v := 0) dX5_readTest_57 (by decide) ?_
              refine zr_i hZ (pc := 58) dX5_readTest_58 FitR.b0 ?_
              obtain ⟨c, q', hr⟩ := PR.of_er (bI_eq.mp c54)
              rw [hr] at h
              exact RdP_er' (by rw [pTest, hN, if_neg hK8, hr]; rfl) (hF.trans f1) f2 h
          · skip
            exact absurd c39 c14
        · skip
          refine q_iinc_4_2 hZ (pc := 17) dX5_readTest_17 rfl ?_
          refine z_aload_n hZ (pc := 20) dX5_readTest_20 rfl ?_
          refine z_aload_n hZ (pc := 21) dX5_readTest_21 rfl ?_
          refine gC_1_2 hZ (pc := 22) fl_X5_25 dX5_readTest_22 ?_
          refine z_iconst hZ (pc := 25) (v := 1) dX5_readTest_25 (by decide) ?_
          refine z_iadd hZ (pc := 26) dX5_readTest_26 ?_
          refine z_top (y := nI (i + q + 1)) (by show v' 2 + 1 = _; rw [hJ.2.2.2.1]; exact nI_1 _) ?_
          refine cV_v hZ (pc := 27) dX5_readTest_27 lk_X5_48 mn_X5_goTo mv_X5_goTo (c_X5_goTo (j := i + q + 1) (by have := hJ.lt (by rw [← hJ.2.2.2.2.1, c14]; decide); omega)) rc_1 rfl rfl (Nat.le_of_ble_eq_true rfl) (by omega) (by decide) (Nat.zero_le _) (Nat.zero_le _) ?_
          refine z_goto hZ (pc := 30) (tgt := 2) dX5_readTest_30 rfl ?_
          exact z_back hZ (ih2 (q + 1) _ hq6 (by omega) (hF.trans FrV.go) hv6 (hJ.go (Nat.le_succ _) (hJ.lt (by rw [← hJ.2.2.2.2.1, c14]; decide))) (lt_s hqs (by rw [← hJ.2.2.2.2.1]; exact c14))) rfl ⟨rfl, rfl, zi (nI_inc _), trivial⟩
  exact z_back hZ (lp2 7 0 v (by decide) (by decide) FrV.rf rfl hI (fun k hk => absurd hk (Nat.not_lt_zero _))) rfl ⟨rfl, rfl, rfl, trivial⟩
theorem c_X5_readLevel {l : Launch} {D : va_G} {cA : Nat → ClassId} {o a : Nat → Nat} {v : ZV} {g : ZG} {lv d i m K kk : Nat} {L : List Int32} {rs : (Nat → Int32) → (Nat → Int32) → Nat → PR} (hlv : lv < 5) (hlv2 : ¬ lv = 2) (hI : RdI v g i m L) (hK : 3 ≤ K) (hkk : kk + 1 ≤ K) (hsub : LvC l D cA o a kk (lv + 1) d rs) (hprg : ∀ q, q ≤ m → Prg m q (rs (g 2) (g 4) q)) : MG l D cA (WC o a cA) yX5_readLevel cX5_readLevel 5 (some .boolean) K [(.ref (o 1)), .int (nI lv), .int (nI d)] v g ((RdP v g m L (pLev (g 2) lv (rs (g 2) (g 4)) i))) := by
  refine MG.of (by decide) rfl (Nat.le_of_ble_eq_true rfl) (by simp [Value.category]) (fun Z hZ => ?_)
  have e2 : v 2 = nI i := hI.2.2.2.1
  have e3 : v 3 = g 2 i := hI.2.2.2.2.1
  have h7 : m ≤ 700 := hI.2.1
  have hL : L.length ≤ i := hI.2.2.2.2.2.2.2
  refine z_iload_n hZ (pc := 0) dX5_readLevel_0 rfl ?_
  refine z_iconst hZ (pc := 1) (v := 5) dX5_readLevel_1 (by decide) ?_
  refine z_icmp_lt hZ (pc := 2) (tgt := 11) dX5_readLevel_2 rfl (fun c2 => ?_) (fun c2 => ?_)
  · skip
    refine z_iload_n hZ (pc := 11) dX5_readLevel_11 rfl ?_
    refine z_iconst hZ (pc := 12) (v := 2) dX5_readLevel_12 (by decide) ?_
    refine z_icmp_ne hZ (pc := 13) (tgt := 22) dX5_readLevel_13 rfl (fun c13 => ?_) (fun c13 => ?_)
    · skip
      refine z_aload_n hZ (pc := 22) dX5_readLevel_22 rfl ?_
      refine z_iload_n hZ (pc := 23) dX5_readLevel_23 rfl ?_
      refine z_iconst hZ (pc := 24) (v := 1) dX5_readLevel_24 (by decide) ?_
      refine z_iadd hZ (pc := 25) dX5_readLevel_25 ?_
      refine z_top (y := nI (lv + 1)) (nI_1 lv) ?_
      refine z_iload_n hZ (pc := 26) dX5_readLevel_26 rfl ?_
      skip
      refine cV hZ (pc := 27) dX5_readLevel_27 lk_X5_92 mn_X5_readLevel mv_X5_readLevel (hsub v g i m L hI) rc_1 rfl rfl (Nat.le_of_ble_eq_true rfl) hkk (by decide) (Nat.zero_le _) (Nat.zero_le _) ?_
      intro v2 g2 r h
      obtain ⟨f1, f2, rfl, h⟩ := h
      refine z_if_ne hZ (pc := 30) (tgt := 35) dX5_readLevel_30 rfl (fun c30 => ?_) (fun c30 => ?_)
      · skip
        obtain ⟨j0, l0, hr⟩ := PR.of_ok (bI_ne c30)
        rw [hr] at h
        obtain ⟨h6, hJ0⟩ := h
        have hp := hprg i hI.1
        rw [hr] at hp
        obtain ⟨p1, p2, p3⟩ := hp
        have hres0 : pLev (g 2) lv (rs (g 2) (g 4)) i = pLoop (g 2) lv (rs (g 2) (g 4)) 700 j0 l0 := by rw [pLev, hr]; rfl
        refine z_iconst hZ (pc := 35) (v := 0) dX5_readLevel_35 (by decide) ?_
        refine q_istore_n_5_3 hZ (pc := 36) dX5_readLevel_36 rfl ?_
        have lp37 : ∀ (f k j : Nat) (l : List Int32) (v' : ZV) (g' : ZG), k ≤ 700 → 700 - k < f → FrV v v' → FrG g g' → v' 6 = v 6 → RdI v' g' j m (L ++ l) → pLev (g 2) lv (rs (g 2) (g 4)) i = pLoop (g 2) lv (rs (g 2) (g 4)) (700 - k) j l → l.length + i ≤ j → Z 0 0 (WC o a cA v' g') [some (.ref (o 1)), some (.int (nI lv)), some (.int (nI d)), some (.int (nI k)), none] [] 37 := by
          intro f
          induction f with
          | zero => intro k j l v' g' _ hf; exact absurd hf (Nat.not_lt_zero _)
          | succ f ih37 =>
            intro k j l v' g' hk hf hF hG hv6 hJ hres hlen
            have hg2 : g' 2 = g 2 := hG 2 (by decide)
            have hg4 : g' 4 = g 4 := hG 4 (by decide)
            refine z_iload_n hZ (pc := 37) dX5_readLevel_37 rfl ?_
            refine z_sipush hZ (pc := 38) (v := 700) dX5_readLevel_38 (by decide) ?_
            refine z_icmp_ge hZ (pc := 41) (tgt := 96) dX5_readLevel_41 rfl (fun c41 => ?_) (fun c41 => ?_)
            · skip
              refine z_iconst hZ (pc := 96) (v := 1) dX5_readLevel_96 (by decide) ?_
              refine zr_i hZ (pc := 97) dX5_readLevel_97 FitR.b1 ?_
              have ek : k = 700 := lp_ge rfl (by decide) hk c41
              exact RdP_ok (by rw [hres, ek]; rfl) hF hG hv6 hJ rfl
            · skip
              have hk7 : k < 700 := lp_lt rfl (by decide) hk c41
              refine z_aload_n hZ (pc := 44) dX5_readLevel_44 rfl ?_
              refine z_iload_n hZ (pc := 45) dX5_readLevel_45 rfl ?_
              refine cV_i hZ (pc := 46) dX5_readLevel_46 lk_X5_149 mn_X5_joins mv_X5_joins (c_X5_joins hlv) rc_1 rfl rfl (Nat.le_of_ble_eq_true rfl) (by omega) (by decide) (Nat.zero_le _) (Nat.zero_le _) ?_
              refine z_if_eq hZ (pc := 49) (tgt := 96) dX5_readLevel_49 rfl (fun c49 => ?_) (fun c49 => ?_)
              · skip
                refine z_iconst hZ (pc := 96) (v := 1) dX5_readLevel_96 (by decide) ?_
                refine zr_i hZ (pc := 97) dX5_readLevel_97 FitR.b1 ?_
                exact RdP_ok (by rw [hres, show 700 - k = (699 - k) + 1 by omega, pLoop, if_neg (by rw [← hg2, ← hJ.2.2.2.2.1, bI_eq.mp c49]; decide)]) hF hG hv6 hJ rfl
              · skip
                have hjn : jnK lv (g 2 j) = true := by rw [← hg2, ← hJ.2.2.2.2.1]; exact bI_ne c49
                have hjm : j < m := hJ.lt (by rw [hg2]; exact jnK_no0 _ _ hjn)
                refine z_aload_n hZ (pc := 52) dX5_readLevel_52 rfl ?_
                refine gC_1_3 hZ (pc := 53) fl_X5_29 dX5_readLevel_53 ?_
                refine q_istore_5_4 hZ (pc := 56) dX5_readLevel_56 rfl ?_
                refine z_aload_n hZ (pc := 58) dX5_readLevel_58 rfl ?_
                refine z_aload_n hZ (pc := 59) dX5_readLevel_59 rfl ?_
                refine gC_1_2 hZ (pc := 60) fl_X5_25 dX5_readLevel_60 ?_
                refine z_iconst hZ (pc := 63) (v := 1) dX5_readLevel_63 (by decide) ?_
                refine z_iadd hZ (pc := 64) dX5_readLevel_64 ?_
                refine z_top (y := nI (j + 1)) (by show v' 2 + 1 = _; rw [hJ.2.2.2.1]; exact nI_1 j) ?_
                refine cV_v hZ (pc := 65) dX5_readLevel_65 lk_X5_48 mn_X5_goTo mv_X5_goTo (c_X5_goTo (j := j + 1) (by omega)) rc_1 rfl rfl (Nat.le_of_ble_eq_true rfl) (by omega) (by decide) (Nat.zero_le _) (Nat.zero_le _) ?_
                refine z_aload_n hZ (pc := 68) dX5_readLevel_68 rfl ?_
                refine z_iload_n hZ (pc := 69) dX5_readLevel_69 rfl ?_
                refine z_iconst hZ (pc := 70) (v := 1) dX5_readLevel_70 (by decide) ?_
                refine z_iadd hZ (pc := 71) dX5_readLevel_71 ?_
                refine z_top (y := nI (lv + 1)) (nI_1 lv) ?_
                refine z_iload_n hZ (pc := 72) dX5_readLevel_72 rfl ?_
                refine cV hZ (pc := 73) dX5_readLevel_73 lk_X5_92 mn_X5_readLevel mv_X5_readLevel (hsub _ _ (j + 1) m (L ++ l) (hJ.go (Nat.le_succ j) hjm)) rc_1 rfl rfl (Nat.le_of_ble_eq_true rfl) hkk (by decide) (Nat.zero_le _) (Nat.zero_le _) ?_
                intro v3 g3 r3 h
                obtain ⟨f3, f4, rfl, h⟩ := h
                refine z_if_ne hZ (pc := 76) (tgt := 81) dX5_readLevel_76 rfl (fun c76 => ?_) (fun c76 => ?_)
                · skip
                  obtain ⟨j2, l2, hr3⟩ := PR.of_ok (bI_ne c76)
                  rw [hg2, hg4] at h hr3
                  rw [hr3] at h
                  obtain ⟨h36, hJ3⟩ := h
                  have hp3 := hprg (j + 1) hjm
                  rw [hr3] at hp3
                  obtain ⟨s1, s2, s3⟩ := hp3
                  have hll : (L ++ l ++ l2).length + 1 ≤ j2 := by simp only [List.length_append]; omega
                  refine z_aload_n hZ (pc := 81) dX5_readLevel_81 rfl ?_
                  refine gC_1_1 hZ (pc := 82) fl_X5_21 dX5_readLevel_82 ?_
                  refine z_iload hZ (pc := 85) dX5_readLevel_85 rfl ?_
                  refine cV_v hZ (pc := 87) dX5_readLevel_87 lk_X5_59 mn_X0_addCode mv_X0_addCode (c_X0_addCode (c := (L ++ l ++ l2).length) hJ3.2.2.2.2.2.2.1.1 (by omega)) rc_6 rfl rfl (Nat.le_of_ble_eq_true rfl) (by omega) (by decide) (Nat.zero_le _) (Nat.zero_le _) ?_
                  refine q_iinc_5_3 hZ (pc := 90) dX5_readLevel_90 rfl ?_
                  refine z_goto hZ (pc := 93) (tgt := 37) dX5_readLevel_93 rfl ?_
                  exact z_back hZ (ih37 (k + 1) j2 (l ++ l2 ++ [g 2 j]) _ _ hk7 (by omega) (((hF.trans FrV.go).trans f3).trans (FrV.up (Or.inr rfl))) ((hG.trans f4).trans FrG.up) ((h36.trans rfl).trans hv6) (by rw [hJ.2.2.2.2.1, hg2, show L ++ (l ++ l2 ++ [g 2 j]) = L ++ l ++ l2 ++ [g 2 j] from by simp only [List.append_assoc]]; exact hJ3.code (by omega)) (by rw [hres, show 700 - k = (700 - (k + 1)) + 1 by omega, pLoop, if_pos hjn, hr3]; rfl) (by simp only [List.length_append, List.length_cons, List.length_nil]; omega)) rfl ⟨rfl, rfl, rfl, zi (nI_inc _), trivial⟩
                · skip
                  refine z_iconst hZ (pc := 79) (v := 0) dX5_readLevel_79 (by decide) ?_
                  refine zr_i hZ (pc := 80) dX5_readLevel_80 FitR.b0 ?_
                  obtain ⟨c, q', hr3⟩ := PR.of_er (bI_eq.mp c76)
                  rw [hg2, hg4] at h hr3
                  rw [hr3] at h
                  exact RdP_er' (by rw [hres, show 700 - k = (699 - k) + 1 by omega, pLoop, if_pos hjn, hr3]; rfl) ((hF.trans FrV.go).trans f3) (hG.trans f4) h
        exact z_back hZ (lp37 701 0 j0 l0 _ _ (Nat.zero_le _) (by decide) f1 f2 h6 hJ0 hres0 p3) rfl ⟨rfl, rfl, rfl, rfl, trivial⟩
      · skip
        refine z_iconst hZ (pc := 33) (v := 0) dX5_readLevel_33 (by decide) ?_
        refine zr_i hZ (pc := 34) dX5_readLevel_34 FitR.b0 ?_
        obtain ⟨c, q', hr⟩ := PR.of_er (bI_eq.mp c30)
        rw [hr] at h
        exact RdP_er' (by rw [pLev, hr]; rfl) f1 f2 h
    · skip
      exact absurd ((nI_eq (a := lv) (b := 2) (by omega) (by decide)).mp c13) hlv2
  · skip
    exact absurd (nI_lt (a := lv) (b := 5) hlv (by decide)) c2
theorem c_X5_readLevel_5 {l : Launch} {D : va_G} {cA : Nat → ClassId} {o a : Nat → Nat} {v : ZV} {g : ZG} {d i m K kk : Nat} {L : List Int32} {rs : (Nat → Int32) → (Nat → Int32) → Nat → PR} (hI : RdI v g i m L) (hkk : kk + 1 ≤ K) (hsub : PtC l D cA o a kk d rs) : MG l D cA (WC o a cA) yX5_readLevel cX5_readLevel 5 (some .boolean) K [(.ref (o 1)), .int 5, .int (nI d)] v g ((RdP v g m L (rs (g 2) (g 4) i))) := by
  refine MG.of (by decide) rfl (Nat.le_of_ble_eq_true rfl) (by simp [Value.category]) (fun Z hZ => ?_)
  refine z_iload_n hZ (pc := 0) dX5_readLevel_0 rfl ?_
  refine z_iconst hZ (pc := 1) (v := 5) dX5_readLevel_1 (by decide) ?_
  refine z_icmp_lt hZ (pc := 2) (tgt := 11) dX5_readLevel_2 rfl (fun c2 => ?_) (fun c2 => ?_)
  · skip
    exact absurd c2 (by decide)
  · skip
    refine z_aload_n hZ (pc := 5) dX5_readLevel_5 rfl ?_
    refine z_iload_n hZ (pc := 6) dX5_readLevel_6 rfl ?_
    refine cV hZ (pc := 7) dX5_readLevel_7 lk_X5_143 mn_X5_readPart mv_X5_readPart (hsub v g i m L hI) rc_1 rfl rfl (Nat.le_of_ble_eq_true rfl) hkk (by decide) (Nat.zero_le _) (Nat.zero_le _) ?_
    intro v2 g2 r h
    obtain ⟨f1, f2, rfl, h⟩ := h
    refine zr_i hZ (pc := 10) dX5_readLevel_10 FitR.bI ?_
    exact ⟨f1, f2, rfl, h⟩
theorem c_X5_readLevel_2 {l : Launch} {D : va_G} {cA : Nat → ClassId} {o a : Nat → Nat} {v : ZV} {g : ZG} {d i m K kk : Nat} {L : List Int32} {rs : (Nat → Int32) → (Nat → Int32) → Nat → PR} (hI : RdI v g i m L) (hkk : kk + 1 ≤ K) (hsub : TsC l D cA o a kk d rs) : MG l D cA (WC o a cA) yX5_readLevel cX5_readLevel 5 (some .boolean) K [(.ref (o 1)), .int 2, .int (nI d)] v g ((RdP v g m L (rs (g 2) (g 4) i))) := by
  refine MG.of (by decide) rfl (Nat.le_of_ble_eq_true rfl) (by simp [Value.category]) (fun Z hZ => ?_)
  refine z_iload_n hZ (pc := 0) dX5_readLevel_0 rfl ?_
  refine z_iconst hZ (pc := 1) (v := 5) dX5_readLevel_1 (by decide) ?_
  refine z_icmp_lt hZ (pc := 2) (tgt := 11) dX5_readLevel_2 rfl (fun c2 => ?_) (fun c2 => ?_)
  · skip
    refine z_iload_n hZ (pc := 11) dX5_readLevel_11 rfl ?_
    refine z_iconst hZ (pc := 12) (v := 2) dX5_readLevel_12 (by decide) ?_
    refine z_icmp_ne hZ (pc := 13) (tgt := 22) dX5_readLevel_13 rfl (fun c13 => ?_) (fun c13 => ?_)
    · skip
      exact absurd rfl c13
    · skip
      refine z_aload_n hZ (pc := 16) dX5_readLevel_16 rfl ?_
      refine z_iload_n hZ (pc := 17) dX5_readLevel_17 rfl ?_
      refine cV hZ (pc := 18) dX5_readLevel_18 lk_X5_146 mn_X5_readTest mv_X5_readTest (hsub v g i m L hI) rc_1 rfl rfl (Nat.le_of_ble_eq_true rfl) hkk (by decide) (Nat.zero_le _) (Nat.zero_le _) ?_
      intro v2 g2 r h
      obtain ⟨f1, f2, rfl, h⟩ := h
      refine zr_i hZ (pc := 21) dX5_readLevel_21 FitR.bI ?_
      exact ⟨f1, f2, rfl, h⟩
  · skip
    exact absurd (by decide) c2
theorem readLevel_all {l : Launch} {D : va_G} {cA : Nat → ClassId} {o a : Nat → Nat} : ∀ (n lv d : Nat), lv ≤ 5 → d ≤ 5 → n = 6 * (5 - d) + (5 - lv) → LvC l D cA o a (2 * n + 5) lv d (fun K N i => pP K N n i)
  | 0, lv, d, hl, hd, hn => by
    obtain rfl : lv = 5 := by omega
    obtain rfl : d = 5 := by omega
    intro v g i m L hI
    refine c_X5_readLevel_5 (kk := 4) (rs := fun K N i => pP K N 0 i) hI (by decide) (fun v g i m L hI => ?_)
    show MG l D cA (WC o a cA) yX5_readPart cX5_readPart 3 (some .boolean) 4 _ v g (RdP v g m L (pPart (g 2) (g 4) 5 (fun i => .er 0 i) i))
    exact c_X5_readPart (kk := 0) (rs := fun _ _ i => .er 0 i) hI (by decide) (by decide) (by decide) (fun h => absurd h (by decide)) (fun _ _ h => absurd h (by decide))
  | n + 1, lv, d, hl, hd, hn => by
    intro v g i m L hI
    have hprg : ∀ q, q ≤ m → Prg m q (pP (g 2) (g 4) n q) := fun q hq => pP_prg (N := g 4) hI.2.2.1 n q hq
    rcases Nat.lt_or_ge lv 5 with q5 | q5
    · by_cases q2 : lv = 2
      · subst q2
        have ih := readLevel_all (l := l) (D := D) (cA := cA) (o := o) (a := a) n 3 d (by decide) hd (by omega)
        refine c_X5_readLevel_2 (kk := 2 * n + 6) (rs := fun K N i => pP K N (n + 1) i) hI (by omega) (fun v g i m L hI => ?_)
        have e : pP (g 2) (g 4) (n + 1) i = pTest (g 2) (pP (g 2) (g 4) n) i := by rw [pP, if_neg (by omega), if_pos (by omega)]
        show MG l D cA (WC o a cA) yX5_readTest cX5_readTest 4 (some .boolean) _ _ v g (RdP v g m L (pP (g 2) (g 4) (n + 1) i))
        rw [e]
        exact c_X5_readTest (kk := 2 * n + 5) (rs := fun K N i => pP K N n i) hI (by omega) (by omega) ih (fun q hq => pP_prg (N := g 4) hI.2.2.1 n q hq)
      · have ih := readLevel_all (l := l) (D := D) (cA := cA) (o := o) (a := a) n (lv + 1) d (by omega) hd (by omega)
        have e : pP (g 2) (g 4) (n + 1) i = pLev (g 2) lv (pP (g 2) (g 4) n) i := by rw [pP, if_neg (by omega), if_neg (by omega), show 5 - (n + 1) % 6 = lv by omega]
        show MG l D cA (WC o a cA) yX5_readLevel cX5_readLevel 5 (some .boolean) _ _ v g (RdP v g m L (pP (g 2) (g 4) (n + 1) i))
        rw [e]
        exact c_X5_readLevel (kk := 2 * n + 5) (rs := fun K N i => pP K N n i) q5 q2 hI (by omega) (by omega) ih hprg
    · obtain rfl : lv = 5 := by omega
      refine c_X5_readLevel_5 (kk := 2 * n + 6) (rs := fun K N i => pP K N (n + 1) i) hI (by omega) (fun v g i m L hI => ?_)
      have e : pP (g 2) (g 4) (n + 1) i = pPart (g 2) (g 4) d (pP (g 2) (g 4) n) i := by rw [pP, if_pos (by omega), show 5 - (n + 1) / 6 = d by omega]
      show MG l D cA (WC o a cA) yX5_readPart cX5_readPart 3 (some .boolean) _ _ v g (RdP v g m L (pP (g 2) (g 4) (n + 1) i))
      rw [e]
      refine c_X5_readPart (kk := 2 * n + 5) (rs := fun K N i => pP K N n i) hI hd (by omega) (by omega) (fun h => readLevel_all n 0 (d + 1) (by decide) (by omega) (by omega)) (fun q hq _ => pP_prg (N := g 4) hI.2.2.1 n q hq)
