theorem tnC_2 {k n a b : Int32} (h : k = 1) (h2 : ¬ tnC k n a b = 0) : tnC k n a b = 2 := by
  unfold tnC at h2 ⊢
  rw [if_pos h] at h2 ⊢
  split
  · rfl
  · next h3 =>
    rw [if_neg h3] at h2
    split
    · rfl
    · next h4 => rw [if_neg h4] at h2; exact absurd rfl h2
theorem tkC_1 {k due : Int32} (h : ¬ tkC k due = 0) : tkC k due = 1 ∧ ¬ k = due := by
  unfold tkC at h ⊢
  by_cases q : k = due
  · rw [if_pos q] at h; exact absurd rfl h
  · exact ⟨if_neg q, q⟩
theorem tkC_0 {k due : Int32} (h : tkC k due = 0) : k = due := by
  unfold tkC at h
  by_cases q : k = due
  · exact q
  · rw [if_neg q] at h; exact absurd h (by decide)
theorem tkV_0 {c : Int32} {v : ZV} {g : ZG} {i : Nat} (h : c = 0) : tkV c v g i = goV v g (i + 1) := by rw [tkV, if_pos h]
theorem tkV_n {c : Int32} {v : ZV} {g : ZG} {i : Nat} (h : ¬ c = 0) : tkV c v g i = va_up v 6 c := by rw [tkV, if_neg h]
theorem tnV_0 {c : Int32} {v : ZV} {g : ZG} {i : Nat} (h : c = 0) : tnV c v g i = goV (va_up v 5 (v 4)) g (i + 1) := by rw [tnV, if_pos h]
theorem tnV_n {c : Int32} {v : ZV} {g : ZG} {i : Nat} (h : ¬ c = 0) : tnV c v g i = va_up v 6 c := by rw [tnV, if_neg h]
theorem RdI.codeGo {v : ZV} {g : ZG} {i m : Nat} {L : List Int32} {x : Int32} (h : RdI v g i m L) (h1 : i < m) : RdI (goV (va_up v 24 (nI (L.length + 1))) (va_up g 31 (upd (g 31) L.length x)) (i + 1)) (va_up g 31 (upd (g 31) L.length x)) (i + 1) m (L ++ [x]) := by
  obtain ⟨a1, a2, a3, a4, a5, a6, a7, a8⟩ := h
  exact ⟨h1, a2, by rw [up_off (by decide)]; exact a3, goV_2, goV_3, goV_4, Cd_same (Cd_add a7) (goV_o (by decide) (by decide) (by decide)) rfl, by rw [List.length_append]; exact Nat.succ_le_succ a8⟩
theorem RdI.lt {v : ZV} {g : ZG} {i m : Nat} {L : List Int32} (h : RdI v g i m L) (h1 : ¬ g 2 i = 0) : i < m := k_lt (K := g 2) h.2.2.1 h.1 h1
theorem bI_pd {p : Prop} [Decidable p] (h : bI (decide p) = 0) : ¬ p := bD0 h
theorem c_X5_readPart {l : Launch} {D : va_G} {cA : Nat → ClassId} {o a : Nat → Nat} {v : ZV} {g : ZG} {d i m K kk : Nat} {L : List Int32} {rs : (Nat → Int32) → (Nat → Int32) → Nat → PR} (hI : RdI v g i m L) (hd : d ≤ 5) (hK : 3 ≤ K) (hkk : kk + 1 ≤ K) (hsub : d < 5 → LvC l D cA o a kk 0 (d + 1) rs) (hprg : ∀ q, q ≤ m → d < 5 → Prg m q (rs (g 2) (g 4) q)) : MG l D cA (WC o a cA) yX5_readPart cX5_readPart 3 (some .boolean) K [(.ref (o 1)), .int (nI d)] v g ((RdP v g m L (pPart (g 2) (g 4) d (rs (g 2) (g 4)) i))) := by
  refine MG.of (by decide) rfl (Nat.le_of_ble_eq_true rfl) (by simp [Value.category]) (fun Z hZ => ?_)
  have e2 : v 2 = nI i := hI.2.2.2.1
  have e3 : v 3 = g 2 i := hI.2.2.2.2.1
  have e4 : v 4 = g 4 i := hI.2.2.2.2.2.1
  have e7 : v 24 = nI L.length := hI.2.2.2.2.2.2.1.1
  have h7 : m ≤ 700 := hI.2.1
  have hL : L.length ≤ i := hI.2.2.2.2.2.2.2
  refine z_aload_n hZ (pc := 0) dX5_readPart_0 rfl ?_
  refine gC_1_3 hZ (pc := 1) fl_X5_29 dX5_readPart_1 ?_
  refine z_iconst hZ (pc := 4) (v := 1) dX5_readPart_4 (by decide) ?_
  refine z_icmp_ne hZ (pc := 5) (tgt := 34) dX5_readPart_5 rfl (fun c5 => ?_) (fun c5 => ?_)
  · skip
    have hk1 : ¬ g 2 i = 1 := by rw [← e3]; exact c5
    refine z_aload_n hZ (pc := 34) dX5_readPart_34 rfl ?_
    refine gC_1_3 hZ (pc := 35) fl_X5_29 dX5_readPart_35 ?_
    refine z_iconst hZ (pc := 38) (v := (-1)) dX5_readPart_38 (by decide) ?_
    refine z_icmp_gt hZ (pc := 39) (tgt := 74) dX5_readPart_39 rfl (fun c39 => ?_) (fun c39 => ?_)
    · skip
      have hnv : ¬ (g 2 i ≤ -1 ∧ ¬ g 2 i ≤ -8) := by rw [← e3]; exact fun h => Int32.not_le.mpr c39 h.1
      refine z_aload_n hZ (pc := 74) dX5_readPart_74 rfl ?_
      refine cV_i hZ (pc := 75) dX5_readPart_75 lk_X5_152 mn_X5_isWord mv_X5_isWord (c_X5_isWord) rc_1 rfl rfl (Nat.le_of_ble_eq_true rfl) (by omega) (by decide) (Nat.zero_le _) (Nat.zero_le _) ?_
      refine z_if_eq hZ (pc := 78) (tgt := 87) dX5_readPart_78 rfl (fun c78 => ?_) (fun c78 => ?_)
      · skip
        have hw : ¬ isWdK (g 2 i) = true := by rw [← e3, bI_eq.mp c78]; decide
        refine z_aload_n hZ (pc := 87) dX5_readPart_87 rfl ?_
        refine z_iconst hZ (pc := 88) (v := 4) dX5_readPart_88 (by decide) ?_
        refine cV_i hZ (pc := 89) dX5_readPart_89 lk_X5_55 mn_X5_take mv_X5_take (c_X5_take (due := 4) e2 (fun h => by have := hI.lt (by rw [← e3, h]; decide); omega)) rc_1 rfl rfl (Nat.le_of_ble_eq_true rfl) (by omega) (by decide) (Nat.zero_le _) (Nat.zero_le _) ?_
        refine z_if_ne hZ (pc := 92) (tgt := 97) dX5_readPart_92 rfl (fun c92 => ?_) (fun c92 => ?_)
        · skip
          have hk4 : g 2 i = 4 := by rw [← e3]; exact tkC_0 (bD1 c92)
          have hlt := hI.lt (by rw [hk4]; decide)
          rw [tkV_0 (bD1 c92)]
          refine z_iload_n hZ (pc := 97) dX5_readPart_97 rfl ?_
          refine z_iconst hZ (pc := 98) (v := 1) dX5_readPart_98 (by decide) ?_
          refine z_iadd hZ (pc := 99) dX5_readPart_99 ?_
          refine z_top (y := nI (d + 1)) (nI_1 d) ?_
          refine z_bipush hZ (pc := 100) (v := 6) dX5_readPart_100 (by decide) ?_
          refine z_icmp_lt hZ (pc := 102) (tgt := 148) dX5_readPart_102 rfl (fun c102 => ?_) (fun c102 => ?_)
          · skip
            have hd5 : d < 5 := by
              rcases Nat.lt_or_ge d 5 with q | q
              · exact q
              · exact absurd c102 (Int32.not_lt.mpr (nI_le (a := 6) (b := d + 1) (by omega) (by omega)))
            refine z_aload_n hZ (pc := 148) dX5_readPart_148 rfl ?_
            refine z_iconst hZ (pc := 149) (v := 0) dX5_readPart_149 (by decide) ?_
            refine z_iload_n hZ (pc := 150) dX5_readPart_150 rfl ?_
            refine z_iconst hZ (pc := 151) (v := 1) dX5_readPart_151 (by decide) ?_
            refine z_iadd hZ (pc := 152) dX5_readPart_152 ?_
            refine z_top (y := nI (d + 1)) (nI_1 d) ?_
            refine cV hZ (pc := 153) dX5_readPart_153 lk_X5_92 mn_X5_readLevel mv_X5_readLevel (hsub (by omega) _ _ (i + 1) m L (hI.go (Nat.le_succ i) hlt)) rc_1 rfl rfl (Nat.le_of_ble_eq_true rfl) hkk (by decide) (Nat.zero_le _) (Nat.zero_le _) ?_
            intro v2 g2 r h
            obtain ⟨f1, f2, rfl, h⟩ := h
            refine z_if_eq hZ (pc := 156) (tgt := 171) dX5_readPart_156 rfl (fun c156 => ?_) (fun c156 => ?_)
            · skip
              refine z_iconst hZ (pc := 171) (v := 0) dX5_readPart_171 (by decide) ?_
              refine zr_i hZ (pc := 172) dX5_readPart_172 FitR.b0 ?_
              obtain ⟨c, q, hr⟩ := PR.of_er (bI_eq.mp c156)
              rw [hr] at h
              exact RdP_er' (by rw [pPart, if_neg hk1, if_neg hnv, if_neg hw, if_neg (fun z => z hk4), if_neg (by omega), hr]; rfl) (FrV.go.trans f1) f2 h
            · skip
              obtain ⟨j, l, hr⟩ := PR.of_ok (bI_ne c156)
              rw [hr] at h
              obtain ⟨h6, hJ⟩ := h
              have hpj := hprg (i + 1) hlt hd5
              rw [hr] at hpj
              refine z_aload_n hZ (pc := 159) dX5_readPart_159 rfl ?_
              refine z_iconst hZ (pc := 160) (v := 5) dX5_readPart_160 (by decide) ?_
              refine cV_i hZ (pc := 161) dX5_readPart_161 lk_X5_55 mn_X5_take mv_X5_take (c_X5_take (due := 5) (i := j) hJ.2.2.2.1 (fun q => by have := hJ.lt (by rw [← hJ.2.2.2.2.1, q]; decide); omega)) rc_1 rfl rfl (Nat.le_of_ble_eq_true rfl) (by omega) (by decide) (Nat.zero_le _) (Nat.zero_le _) ?_
              refine z_if_eq hZ (pc := 164) (tgt := 171) dX5_readPart_164 rfl (fun c164 => ?_) (fun c164 => ?_)
              · skip
                refine z_iconst hZ (pc := 171) (v := 0) dX5_readPart_171 (by decide) ?_
                refine zr_i hZ (pc := 172) dX5_readPart_172 FitR.b0 ?_
                rw [tkV_n (bD0 c164)]
                exact RdP_er (c := 1) (q := j) (by rw [pPart, if_neg hk1, if_neg hnv, if_neg hw, if_neg (fun z => z hk4), if_neg (by omega), hr]; show (if g 2 j = 5 then _ else _) = _; rw [if_neg (by rw [← f2 2 (by decide), ← hJ.2.2.2.2.1]; exact (tkC_1 (bD0 c164)).2)]) (FrV.go.trans f1) f2 (tkC_1 (bD0 c164)).1 hJ.2.2.2.1
              · skip
                refine z_iconst hZ (pc := 167) (v := 1) dX5_readPart_167 (by decide) ?_
                refine z_goto hZ (pc := 168) (tgt := 172) dX5_readPart_168 rfl ?_
                refine zr_i hZ (pc := 172) dX5_readPart_172 FitR.b1 ?_
                rw [tkV_0 (bD1 c164)]
                exact RdP_ok (j := j + 1) (l := l) (by rw [pPart, if_neg hk1, if_neg hnv, if_neg hw, if_neg (fun z => z hk4), if_neg (by omega), hr]; show (if g 2 j = 5 then _ else _) = _; rw [if_pos (by rw [← f2 2 (by decide), ← hJ.2.2.2.2.1]; exact tkC_0 (bD1 c164))]) ((FrV.go.trans f1).trans FrV.go) f2 (h6.trans rfl) (hJ.go (Nat.le_succ j) (hJ.lt (by rw [← hJ.2.2.2.2.1, tkC_0 (bD1 c164)]; decide))) rfl
          · skip
            have hd5 : 5 ≤ d := by
              rcases Nat.lt_or_ge d 5 with q | q
              · exact absurd (nI_lt (a := d + 1) (b := 6) (by omega) (by decide)) c102
              · exact q
            refine z_aload_n hZ (pc := 105) dX5_readPart_105 rfl ?_
            refine gC_1_3 hZ (pc := 106) fl_X5_29 dX5_readPart_106 ?_
            refine z_iconst hZ (pc := 109) (v := 1) dX5_readPart_109 (by decide) ?_
            refine z_icmp_eq hZ (pc := 110) (tgt := 128) dX5_readPart_110 rfl (fun c110 => ?_) (fun c110 => ?_)
            · skip
              refine z_iconst hZ (pc := 128) (v := 1) dX5_readPart_128 (by decide) ?_
              refine z_goto hZ (pc := 129) (tgt := 133) dX5_readPart_129 rfl ?_
              refine q_istore_n_3_2 hZ (pc := 133) dX5_readPart_133 rfl ?_
              refine z_aload_n hZ (pc := 134) dX5_readPart_134 rfl ?_
              refine z_iload_n hZ (pc := 135) dX5_readPart_135 rfl ?_
              refine z_if_eq hZ (pc := 136) (tgt := 143) dX5_readPart_136 rfl (fun c136 => absurd c136 (by decide)) (fun _ => ?_)
              refine z_iconst hZ (pc := 139) (v := 2) dX5_readPart_139 (by decide) ?_
              refine z_goto hZ (pc := 140) (tgt := 144) dX5_readPart_140 rfl ?_
              refine cV_i hZ (pc := 144) dX5_readPart_144 lk_X5_80 mn_X5_refuse mv_X5_refuse (c_X5_refuse) rc_1 rfl rfl (Nat.le_of_ble_eq_true rfl) (by omega) (by decide) (Nat.zero_le _) (Nat.zero_le _) ?_
              refine zr_i hZ (pc := 147) dX5_readPart_147 FitR.b0 ?_
              exact RdP_er (v2 := goV v g (i + 1)) (c := 2) (q := i + 1) (by rw [pPart, if_neg hk1, if_neg hnv, if_neg hw, if_neg (fun z => z hk4), if_pos hd5, if_pos (by rw [canK, decide_eq_true (show g 2 (i + 1) = 1 from c110)]; rfl)]) FrV.go FrG.rf rfl goV_2
            · skip
              refine z_aload_n hZ (pc := 113) dX5_readPart_113 rfl ?_
              refine gC_1_3 hZ (pc := 114) fl_X5_29 dX5_readPart_114 ?_
              refine z_iconst hZ (pc := 117) (v := 4) dX5_readPart_117 (by decide) ?_
              refine z_icmp_eq hZ (pc := 118) (tgt := 128) dX5_readPart_118 rfl (fun c118 => ?_) (fun c118 => ?_)
              · skip
                refine z_iconst hZ (pc := 128) (v := 1) dX5_readPart_128 (by decide) ?_
                refine z_goto hZ (pc := 129) (tgt := 133) dX5_readPart_129 rfl ?_
                refine q_istore_n_3_2 hZ (pc := 133) dX5_readPart_133 rfl ?_
                refine z_aload_n hZ (pc := 134) dX5_readPart_134 rfl ?_
                refine z_iload_n hZ (pc := 135) dX5_readPart_135 rfl ?_
                refine z_if_eq hZ (pc := 136) (tgt := 143) dX5_readPart_136 rfl (fun c136 => absurd c136 (by decide)) (fun _ => ?_)
                refine z_iconst hZ (pc := 139) (v := 2) dX5_readPart_139 (by decide) ?_
                refine z_goto hZ (pc := 140) (tgt := 144) dX5_readPart_140 rfl ?_
                refine cV_i hZ (pc := 144) dX5_readPart_144 lk_X5_80 mn_X5_refuse mv_X5_refuse (c_X5_refuse) rc_1 rfl rfl (Nat.le_of_ble_eq_true rfl) (by omega) (by decide) (Nat.zero_le _) (Nat.zero_le _) ?_
                refine zr_i hZ (pc := 147) dX5_readPart_147 FitR.b0 ?_
                exact RdP_er (v2 := goV v g (i + 1)) (c := 2) (q := i + 1) (by rw [pPart, if_neg hk1, if_neg hnv, if_neg hw, if_neg (fun z => z hk4), if_pos hd5, if_pos (by rw [canK, decide_eq_true (show g 2 (i + 1) = 4 from c118), Bool.true_or, Bool.or_true])]) FrV.go FrG.rf rfl goV_2
              · skip
                refine z_aload_n hZ (pc := 121) dX5_readPart_121 rfl ?_
                refine cV_i hZ (pc := 122) dX5_readPart_122 lk_X5_152 mn_X5_isWord mv_X5_isWord (c_X5_isWord) rc_1 rfl rfl (Nat.le_of_ble_eq_true rfl) (by omega) (by decide) (Nat.zero_le _) (Nat.zero_le _) ?_
                refine z_if_eq hZ (pc := 125) (tgt := 132) dX5_readPart_125 rfl (fun c125 => ?_) (fun c125 => ?_)
                · skip
                  refine z_iconst hZ (pc := 132) (v := 0) dX5_readPart_132 (by decide) ?_
                  refine q_istore_n_3_2 hZ (pc := 133) dX5_readPart_133 rfl ?_
                  refine z_aload_n hZ (pc := 134) dX5_readPart_134 rfl ?_
                  refine z_iload_n hZ (pc := 135) dX5_readPart_135 rfl ?_
                  refine z_if_eq hZ (pc := 136) (tgt := 143) dX5_readPart_136 rfl (fun _ => ?_) (fun c136 => absurd c136 (by decide))
                  refine z_iconst hZ (pc := 143) (v := 1) dX5_readPart_143 (by decide) ?_
                  refine cV_i hZ (pc := 144) dX5_readPart_144 lk_X5_80 mn_X5_refuse mv_X5_refuse (c_X5_refuse) rc_1 rfl rfl (Nat.le_of_ble_eq_true rfl) (by omega) (by decide) (Nat.zero_le _) (Nat.zero_le _) ?_
                  refine zr_i hZ (pc := 147) dX5_readPart_147 FitR.b0 ?_
                  exact RdP_er (v2 := goV v g (i + 1)) (c := 1) (q := i + 1) (by rw [pPart, if_neg hk1, if_neg hnv, if_neg hw, if_neg (fun z => z hk4), if_pos hd5, if_neg (by rw [canK, decide_eq_false (show ¬ g 2 (i + 1) = 1 from c110), decide_eq_false (show ¬ g 2 (i + 1) = 4 from c118), show isWdK (g 2 (i + 1)) = false from bI_eq.mp c125]; decide)]) FrV.go FrG.rf rfl goV_2
                · skip
                  refine z_iconst hZ (pc := 128) (v := 1) dX5_readPart_128 (by decide) ?_
                  refine z_goto hZ (pc := 129) (tgt := 133) dX5_readPart_129 rfl ?_
                  refine q_istore_n_3_2 hZ (pc := 133) dX5_readPart_133 rfl ?_
                  refine z_aload_n hZ (pc := 134) dX5_readPart_134 rfl ?_
                  refine z_iload_n hZ (pc := 135) dX5_readPart_135 rfl ?_
                  refine z_if_eq hZ (pc := 136) (tgt := 143) dX5_readPart_136 rfl (fun c136 => absurd c136 (by decide)) (fun _ => ?_)
                  refine z_iconst hZ (pc := 139) (v := 2) dX5_readPart_139 (by decide) ?_
                  refine z_goto hZ (pc := 140) (tgt := 144) dX5_readPart_140 rfl ?_
                  refine cV_i hZ (pc := 144) dX5_readPart_144 lk_X5_80 mn_X5_refuse mv_X5_refuse (c_X5_refuse) rc_1 rfl rfl (Nat.le_of_ble_eq_true rfl) (by omega) (by decide) (Nat.zero_le _) (Nat.zero_le _) ?_
                  refine zr_i hZ (pc := 147) dX5_readPart_147 FitR.b0 ?_
                  exact RdP_er (v2 := goV v g (i + 1)) (c := 2) (q := i + 1) (by rw [pPart, if_neg hk1, if_neg hnv, if_neg hw, if_neg (fun z => z hk4), if_pos hd5, if_pos (by rw [canK, show isWdK (g 2 (i + 1)) = true from bI_ne c125, Bool.or_true, Bool.or_true])]) FrV.go FrG.rf rfl goV_2
        · skip
          refine z_iconst hZ (pc := 95) (v := 0) dX5_readPart_95 (by decide) ?_
          refine zr_i hZ (pc := 96) dX5_readPart_96 FitR.b0 ?_
          rw [tkV_n (bD0 c92)]
          exact RdP_er (c := 1) (q := i) (by rw [pPart, if_neg hk1, if_neg hnv, if_neg hw, if_pos (by rw [← e3]; exact (tkC_1 (bD0 c92)).2)]) FrV.rf FrG.rf (tkC_1 (bD0 c92)).1 e2
      · skip
        refine z_aload_n hZ (pc := 81) dX5_readPart_81 rfl ?_
        refine z_iconst hZ (pc := 82) (v := 3) dX5_readPart_82 (by decide) ?_
        refine cV_i hZ (pc := 83) dX5_readPart_83 lk_X5_80 mn_X5_refuse mv_X5_refuse (c_X5_refuse) rc_1 rfl rfl (Nat.le_of_ble_eq_true rfl) (by omega) (by decide) (Nat.zero_le _) (Nat.zero_le _) ?_
        refine zr_i hZ (pc := 86) dX5_readPart_86 FitR.b0 ?_
        exact RdP_er (c := 3) (q := i) (by rw [pPart, if_neg hk1, if_neg hnv, if_pos (by rw [← e3]; exact bI_ne c78)]) FrV.rf FrG.rf rfl e2
    · skip
      refine z_aload_n hZ (pc := 42) dX5_readPart_42 rfl ?_
      refine gC_1_3 hZ (pc := 43) fl_X5_29 dX5_readPart_43 ?_
      refine z_bipush hZ (pc := 46) (v := (-8)) dX5_readPart_46 (by decide) ?_
      refine z_icmp_le hZ (pc := 48) (tgt := 74) dX5_readPart_48 rfl (fun c48 => ?_) (fun c48 => ?_)
      · skip
        have hnv : ¬ (g 2 i ≤ -1 ∧ ¬ g 2 i ≤ -8) := by rw [← e3]; exact fun h => h.2 c48
        refine z_aload_n hZ (pc := 74) dX5_readPart_74 rfl ?_
        refine cV_i hZ (pc := 75) dX5_readPart_75 lk_X5_152 mn_X5_isWord mv_X5_isWord (c_X5_isWord) rc_1 rfl rfl (Nat.le_of_ble_eq_true rfl) (by omega) (by decide) (Nat.zero_le _) (Nat.zero_le _) ?_
        refine z_if_eq hZ (pc := 78) (tgt := 87) dX5_readPart_78 rfl (fun c78 => ?_) (fun c78 => ?_)
        · skip
          have hw : ¬ isWdK (g 2 i) = true := by rw [← e3, bI_eq.mp c78]; decide
          refine z_aload_n hZ (pc := 87) dX5_readPart_87 rfl ?_
          refine z_iconst hZ (pc := 88) (v := 4) dX5_readPart_88 (by decide) ?_
          refine cV_i hZ (pc := 89) dX5_readPart_89 lk_X5_55 mn_X5_take mv_X5_take (c_X5_take (due := 4) e2 (fun h => by have := hI.lt (by rw [← e3, h]; decide); omega)) rc_1 rfl rfl (Nat.le_of_ble_eq_true rfl) (by omega) (by decide) (Nat.zero_le _) (Nat.zero_le _) ?_
          refine z_if_ne hZ (pc := 92) (tgt := 97) dX5_readPart_92 rfl (fun c92 => ?_) (fun c92 => ?_)
          · skip
            have hk4 : g 2 i = 4 := by rw [← e3]; exact tkC_0 (bD1 c92)
            have hlt := hI.lt (by rw [hk4]; decide)
            rw [tkV_0 (bD1 c92)]
            refine z_iload_n hZ (pc := 97) dX5_readPart_97 rfl ?_
            refine z_iconst hZ (pc := 98) (v := 1) dX5_readPart_98 (by decide) ?_
            refine z_iadd hZ (pc := 99) dX5_readPart_99 ?_
            refine z_top (y := nI (d + 1)) (nI_1 d) ?_
            refine z_bipush hZ (pc := 100) (v := 6) dX5_readPart_100 (by decide) ?_
            refine z_icmp_lt hZ (pc := 102) (tgt := 148) dX5_readPart_102 rfl (fun c102 => ?_) (fun c102 => ?_)
            · skip
              have hd5 : d < 5 := by
                rcases Nat.lt_or_ge d 5 with q | q
                · exact q
                · exact absurd c102 (Int32.not_lt.mpr (nI_le (a := 6) (b := d + 1) (by omega) (by omega)))
              refine z_aload_n hZ (pc := 148) dX5_readPart_148 rfl ?_
              refine z_iconst hZ (pc := 149) (v := 0) dX5_readPart_149 (by decide) ?_
              refine z_iload_n hZ (pc := 150) dX5_readPart_150 rfl ?_
              refine z_iconst hZ (pc := 151) (v := 1) dX5_readPart_151 (by decide) ?_
              refine z_iadd hZ (pc := 152) dX5_readPart_152 ?_
              refine z_top (y := nI (d + 1)) (nI_1 d) ?_
              refine cV hZ (pc := 153) dX5_readPart_153 lk_X5_92 mn_X5_readLevel mv_X5_readLevel (hsub (by omega) _ _ (i + 1) m L (hI.go (Nat.le_succ i) hlt)) rc_1 rfl rfl (Nat.le_of_ble_eq_true rfl) hkk (by decide) (Nat.zero_le _) (Nat.zero_le _) ?_
              intro v2 g2 r h
              obtain ⟨f1, f2, rfl, h⟩ := h
              refine z_if_eq hZ (pc := 156) (tgt := 171) dX5_readPart_156 rfl (fun c156 => ?_) (fun c156 => ?_)
              · skip
                refine z_iconst hZ (pc := 171) (v := 0) dX5_readPart_171 (by decide) ?_
                refine zr_i hZ (pc := 172) dX5_readPart_172 FitR.b0 ?_
                obtain ⟨c, q, hr⟩ := PR.of_er (bI_eq.mp c156)
                rw [hr] at h
                exact RdP_er' (by rw [pPart, if_neg hk1, if_neg hnv, if_neg hw, if_neg (fun z => z hk4), if_neg (by omega), hr]; rfl) (FrV.go.trans f1) f2 h
              · skip
                obtain ⟨j, l, hr⟩ := PR.of_ok (bI_ne c156)
                rw [hr] at h
                obtain ⟨h6, hJ⟩ := h
                have hpj := hprg (i + 1) hlt hd5
                rw [hr] at hpj
                refine z_aload_n hZ (pc := 159) dX5_readPart_159 rfl ?_
                refine z_iconst hZ (pc := 160) (v := 5) dX5_readPart_160 (by decide) ?_
                refine cV_i hZ (pc := 161) dX5_readPart_161 lk_X5_55 mn_X5_take mv_X5_take (c_X5_take (due := 5) (i := j) hJ.2.2.2.1 (fun q => by have := hJ.lt (by rw [← hJ.2.2.2.2.1, q]; decide); omega)) rc_1 rfl rfl (Nat.le_of_ble_eq_true rfl) (by omega) (by decide) (Nat.zero_le _) (Nat.zero_le _) ?_
                refine z_if_eq hZ (pc := 164) (tgt := 171) dX5_readPart_164 rfl (fun c164 => ?_) (fun c164 => ?_)
                · skip
                  refine z_iconst hZ (pc := 171) (v := 0) dX5_readPart_171 (by decide) ?_
                  refine zr_i hZ (pc := 172) dX5_readPart_172 FitR.b0 ?_
                  rw [tkV_n (bD0 c164)]
                  exact RdP_er (c := 1) (q := j) (by rw [pPart, if_neg hk1, if_neg hnv, if_neg hw, if_neg (fun z => z hk4), if_neg (by omega), hr]; show (if g 2 j = 5 then _ else _) = _; rw [if_neg (by rw [← f2 2 (by decide), ← hJ.2.2.2.2.1]; exact (tkC_1 (bD0 c164)).2)]) (FrV.go.trans f1) f2 (tkC_1 (bD0 c164)).1 hJ.2.2.2.1
                · skip
                  refine z_iconst hZ (pc := 167) (v := 1) dX5_readPart_167 (by decide) ?_
                  refine z_goto hZ (pc := 168) (tgt := 172) dX5_readPart_168 rfl ?_
                  refine zr_i hZ (pc := 172) dX5_readPart_172 FitR.b1 ?_
                  rw [tkV_0 (bD1 c164)]
                  exact RdP_ok (j := j + 1) (l := l) (by rw [pPart, if_neg hk1, if_neg hnv, if_neg hw, if_neg (fun z => z hk4), if_neg (by omega), hr]; show (if g 2 j = 5 then _ else _) = _; rw [if_pos (by rw [← f2 2 (by decide), ← hJ.2.2.2.2.1]; exact tkC_0 (bD1 c164))]) ((FrV.go.trans f1).trans FrV.go) f2 (h6.trans rfl) (hJ.go (Nat.le_succ j) (hJ.lt (by rw [← hJ.2.2.2.2.1, tkC_0 (bD1 c164)]; decide))) rfl
            · skip
              have hd5 : 5 ≤ d := by
                rcases Nat.lt_or_ge d 5 with q | q
                · exact absurd (nI_lt (a := d + 1) (b := 6) (by omega) (by decide)) c102
                · exact q
              refine z_aload_n hZ (pc := 105) dX5_readPart_105 rfl ?_
              refine gC_1_3 hZ (pc := 106) fl_X5_29 dX5_readPart_106 ?_
              refine z_iconst hZ (pc := 109) (v := 1) dX5_readPart_109 (by decide) ?_
              refine z_icmp_eq hZ (pc := 110) (tgt := 128) dX5_readPart_110 rfl (fun c110 => ?_) (fun c110 => ?_)
              · skip
                refine z_iconst hZ (pc := 128) (v := 1) dX5_readPart_128 (by decide) ?_
                refine z_goto hZ (pc := 129) (tgt := 133) dX5_readPart_129 rfl ?_
                refine q_istore_n_3_2 hZ (pc := 133) dX5_readPart_133 rfl ?_
                refine z_aload_n hZ (pc := 134) dX5_readPart_134 rfl ?_
                refine z_iload_n hZ (pc := 135) dX5_readPart_135 rfl ?_
                refine z_if_eq hZ (pc := 136) (tgt := 143) dX5_readPart_136 rfl (fun c136 => absurd c136 (by decide)) (fun _ => ?_)
                refine z_iconst hZ (pc := 139) (v := 2) dX5_readPart_139 (by decide) ?_
                refine z_goto hZ (pc := 140) (tgt := 144) dX5_readPart_140 rfl ?_
                refine cV_i hZ (pc := 144) dX5_readPart_144 lk_X5_80 mn_X5_refuse mv_X5_refuse (c_X5_refuse) rc_1 rfl rfl (Nat.le_of_ble_eq_true rfl) (by omega) (by decide) (Nat.zero_le _) (Nat.zero_le _) ?_
                refine zr_i hZ (pc := 147) dX5_readPart_147 FitR.b0 ?_
                exact RdP_er (v2 := goV v g (i + 1)) (c := 2) (q := i + 1) (by rw [pPart, if_neg hk1, if_neg hnv, if_neg hw, if_neg (fun z => z hk4), if_pos hd5, if_pos (by rw [canK, decide_eq_true (show g 2 (i + 1) = 1 from c110)]; rfl)]) FrV.go FrG.rf rfl goV_2
              · skip
                refine z_aload_n hZ (pc := 113) dX5_readPart_113 rfl ?_
                refine gC_1_3 hZ (pc := 114) fl_X5_29 dX5_readPart_114 ?_
                refine z_iconst hZ (pc := 117) (v := 4) dX5_readPart_117 (by decide) ?_
                refine z_icmp_eq hZ (pc := 118) (tgt := 128) dX5_readPart_118 rfl (fun c118 => ?_) (fun c118 => ?_)
                · skip
                  refine z_iconst hZ (pc := 128) (v := 1) dX5_readPart_128 (by decide) ?_
                  refine z_goto hZ (pc := 129) (tgt := 133) dX5_readPart_129 rfl ?_
                  refine q_istore_n_3_2 hZ (pc := 133) dX5_readPart_133 rfl ?_
                  refine z_aload_n hZ (pc := 134) dX5_readPart_134 rfl ?_
                  refine z_iload_n hZ (pc := 135) dX5_readPart_135 rfl ?_
                  refine z_if_eq hZ (pc := 136) (tgt := 143) dX5_readPart_136 rfl (fun c136 => absurd c136 (by decide)) (fun _ => ?_)
                  refine z_iconst hZ (pc := 139) (v := 2) dX5_readPart_139 (by decide) ?_
                  refine z_goto hZ (pc := 140) (tgt := 144) dX5_readPart_140 rfl ?_
                  refine cV_i hZ (pc := 144) dX5_readPart_144 lk_X5_80 mn_X5_refuse mv_X5_refuse (c_X5_refuse) rc_1 rfl rfl (Nat.le_of_ble_eq_true rfl) (by omega) (by decide) (Nat.zero_le _) (Nat.zero_le _) ?_
                  refine zr_i hZ (pc := 147) dX5_readPart_147 FitR.b0 ?_
                  exact RdP_er (v2 := goV v g (i + 1)) (c := 2) (q := i + 1) (by rw [pPart, if_neg hk1, if_neg hnv, if_neg hw, if_neg (fun z => z hk4), if_pos hd5, if_pos (by rw [canK, decide_eq_true (show g 2 (i + 1) = 4 from c118), Bool.true_or, Bool.or_true])]) FrV.go FrG.rf rfl goV_2
                · skip
                  refine z_aload_n hZ (pc := 121) dX5_readPart_121 rfl ?_
                  refine cV_i hZ (pc := 122) dX5_readPart_122 lk_X5_152 mn_X5_isWord mv_X5_isWord (c_X5_isWord) rc_1 rfl rfl (Nat.le_of_ble_eq_true rfl) (by omega) (by decide) (Nat.zero_le _) (Nat.zero_le _) ?_
                  refine z_if_eq hZ (pc := 125) (tgt := 132) dX5_readPart_125 rfl (fun c125 => ?_) (fun c125 => ?_)
                  · skip
                    refine z_iconst hZ (pc := 132) (v := 0) dX5_readPart_132 (by decide) ?_
                    refine q_istore_n_3_2 hZ (pc := 133) dX5_readPart_133 rfl ?_
                    refine z_aload_n hZ (pc := 134) dX5_readPart_134 rfl ?_
                    refine z_iload_n hZ (pc := 135) dX5_readPart_135 rfl ?_
                    refine z_if_eq hZ (pc := 136) (tgt := 143) dX5_readPart_136 rfl (fun _ => ?_) (fun c136 => absurd c136 (by decide))
                    refine z_iconst hZ (pc := 143) (v := 1) dX5_readPart_143 (by decide) ?_
                    refine cV_i hZ (pc := 144) dX5_readPart_144 lk_X5_80 mn_X5_refuse mv_X5_refuse (c_X5_refuse) rc_1 rfl rfl (Nat.le_of_ble_eq_true rfl) (by omega) (by decide) (Nat.zero_le _) (Nat.zero_le _) ?_
                    refine zr_i hZ (pc := 147) dX5_readPart_147 FitR.b0 ?_
                    exact RdP_er (v2 := goV v g (i + 1)) (c := 1) (q := i + 1) (by rw [pPart, if_neg hk1, if_neg hnv, if_neg hw, if_neg (fun z => z hk4), if_pos hd5, if_neg (by rw [canK, decide_eq_false (show ¬ g 2 (i + 1) = 1 from c110), decide_eq_false (show ¬ g 2 (i + 1) = 4 from c118), show isWdK (g 2 (i + 1)) = false from bI_eq.mp c125]; decide)]) FrV.go FrG.rf rfl goV_2
                  · skip
                    refine z_iconst hZ (pc := 128) (v := 1) dX5_readPart_128 (by decide) ?_
                    refine z_goto hZ (pc := 129) (tgt := 133) dX5_readPart_129 rfl ?_
                    refine q_istore_n_3_2 hZ (pc := 133) dX5_readPart_133 rfl ?_
                    refine z_aload_n hZ (pc := 134) dX5_readPart_134 rfl ?_
                    refine z_iload_n hZ (pc := 135) dX5_readPart_135 rfl ?_
                    refine z_if_eq hZ (pc := 136) (tgt := 143) dX5_readPart_136 rfl (fun c136 => absurd c136 (by decide)) (fun _ => ?_)
                    refine z_iconst hZ (pc := 139) (v := 2) dX5_readPart_139 (by decide) ?_
                    refine z_goto hZ (pc := 140) (tgt := 144) dX5_readPart_140 rfl ?_
                    refine cV_i hZ (pc := 144) dX5_readPart_144 lk_X5_80 mn_X5_refuse mv_X5_refuse (c_X5_refuse) rc_1 rfl rfl (Nat.le_of_ble_eq_true rfl) (by omega) (by decide) (Nat.zero_le _) (Nat.zero_le _) ?_
                    refine zr_i hZ (pc := 147) dX5_readPart_147 FitR.b0 ?_
                    exact RdP_er (v2 := goV v g (i + 1)) (c := 2) (q := i + 1) (by rw [pPart, if_neg hk1, if_neg hnv, if_neg hw, if_neg (fun z => z hk4), if_pos hd5, if_pos (by rw [canK, show isWdK (g 2 (i + 1)) = true from bI_ne c125, Bool.or_true, Bool.or_true])]) FrV.go FrG.rf rfl goV_2
          · skip
            refine z_iconst hZ (pc := 95) (v := 0) dX5_readPart_95 (by decide) ?_
            refine zr_i hZ (pc := 96) dX5_readPart_96 FitR.b0 ?_
            rw [tkV_n (bD0 c92)]
            exact RdP_er (c := 1) (q := i) (by rw [pPart, if_neg hk1, if_neg hnv, if_neg hw, if_pos (by rw [← e3]; exact (tkC_1 (bD0 c92)).2)]) FrV.rf FrG.rf (tkC_1 (bD0 c92)).1 e2
        · skip
          refine z_aload_n hZ (pc := 81) dX5_readPart_81 rfl ?_
          refine z_iconst hZ (pc := 82) (v := 3) dX5_readPart_82 (by decide) ?_
          refine cV_i hZ (pc := 83) dX5_readPart_83 lk_X5_80 mn_X5_refuse mv_X5_refuse (c_X5_refuse) rc_1 rfl rfl (Nat.le_of_ble_eq_true rfl) (by omega) (by decide) (Nat.zero_le _) (Nat.zero_le _) ?_
          refine zr_i hZ (pc := 86) dX5_readPart_86 FitR.b0 ?_
          exact RdP_er (c := 3) (q := i) (by rw [pPart, if_neg hk1, if_neg hnv, if_pos (by rw [← e3]; exact bI_ne c78)]) FrV.rf FrG.rf rfl e2
      · skip
        have hv : g 2 i ≤ -1 ∧ ¬ g 2 i ≤ -8 := by rw [← e3]; exact ⟨Int32.not_lt.mp c39, c48⟩
        have hne : ¬ g 2 i = 0 := fun e => by rw [e] at hv; exact absurd hv.1 (by decide)
        refine z_aload_n hZ (pc := 51) dX5_readPart_51 rfl ?_
        refine gC_1_1 hZ (pc := 52) fl_X5_21 dX5_readPart_52 ?_
        refine z_aload_n hZ (pc := 55) dX5_readPart_55 rfl ?_
        refine gC_1_3 hZ (pc := 56) fl_X5_29 dX5_readPart_56 ?_
        refine cV_v hZ (pc := 59) dX5_readPart_59 lk_X5_59 mn_X0_addCode mv_X0_addCode (c_X0_addCode (c := L.length) e7 (by have := hI.lt hne; omega)) rc_6 rfl rfl (Nat.le_of_ble_eq_true rfl) (by omega) (by decide) (Nat.zero_le _) (Nat.zero_le _) ?_
        refine z_aload_n hZ (pc := 62) dX5_readPart_62 rfl ?_
        refine z_aload_n hZ (pc := 63) dX5_readPart_63 rfl ?_
        refine gC_1_2 hZ (pc := 64) fl_X5_25 dX5_readPart_64 ?_
        refine z_iconst hZ (pc := 67) (v := 1) dX5_readPart_67 (by decide) ?_
        skip
        refine z_iadd hZ (pc := 68) dX5_readPart_68 ?_
        refine z_top (y := nI (i + 1)) (by show v 2 + 1 = _; rw [e2]; exact nI_1 i) ?_
        refine cV_v hZ (pc := 69) dX5_readPart_69 lk_X5_48 mn_X5_goTo mv_X5_goTo (c_X5_goTo (j := i + 1) (by have := hI.lt hne; omega)) rc_1 rfl rfl (Nat.le_of_ble_eq_true rfl) (by omega) (by decide) (Nat.zero_le _) (Nat.zero_le _) ?_
        refine z_iconst hZ (pc := 72) (v := 1) dX5_readPart_72 (by decide) ?_
        refine zr_i hZ (pc := 73) dX5_readPart_73 FitR.b1 ?_
        exact RdP_ok (j := i + 1) (l := [g 2 i]) (by rw [pPart, if_neg hk1, if_pos hv]) ((FrV.up (Or.inr rfl)).trans FrV.go) FrG.up rfl (hI.codeGo (hI.lt hne)) (by rw [e3])
  · skip
    have hk : g 2 i = 1 := by rw [← e3]; exact c5
    have hlt := hI.lt (by rw [hk]; decide)
    refine z_aload_n hZ (pc := 8) dX5_readPart_8 rfl ?_
    refine z_iconst hZ (pc := 9) (v := 0) dX5_readPart_9 (by decide) ?_
    refine z_sipush hZ (pc := 10) (v := 9999) dX5_readPart_10 (by decide) ?_
    refine cV_i hZ (pc := 13) dX5_readPart_13 lk_X5_99 mn_X5_takeNumber mv_X5_takeNumber (c_X5_takeNumber (p := 0) (q := 9999) e2 (fun h => by have := hI.lt (by rw [← e3, h]; decide); omega)) rc_1 rfl rfl (Nat.le_of_ble_eq_true rfl) (by omega) (by decide) (Nat.zero_le _) (Nat.zero_le _) ?_
    refine z_if_ne hZ (pc := 16) (tgt := 21) dX5_readPart_16 rfl (fun c16 => ?_) (fun c16 => ?_)
    · skip
      have hn := bD1 c16
      rw [tnV_0 hn]
      refine z_aload_n hZ (pc := 21) dX5_readPart_21 rfl ?_
      refine gC_1_1 hZ (pc := 22) fl_X5_21 dX5_readPart_22 ?_
      refine z_aload_n hZ (pc := 25) dX5_readPart_25 rfl ?_
      refine gC_1_5 hZ (pc := 26) fl_X5_35 dX5_readPart_26 ?_
      refine cV_v hZ (pc := 29) dX5_readPart_29 lk_X5_59 mn_X0_addCode mv_X0_addCode (c_X0_addCode (c := L.length) e7 (by omega)) rc_6 rfl rfl (Nat.le_of_ble_eq_true rfl) (by omega) (by decide) (Nat.zero_le _) (Nat.zero_le _) ?_
      refine z_iconst hZ (pc := 32) (v := 1) dX5_readPart_32 (by decide) ?_
      refine zr_i hZ (pc := 33) dX5_readPart_33 FitR.b1 ?_
      exact RdP_ok (j := i + 1) (l := [g 4 i]) (by rw [pPart, if_pos hk, if_pos (by rw [← hk, ← e3, ← e4]; exact hn)]) ((FrV.up (Or.inl ⟨by decide, by decide⟩)).trans (FrV.go.trans (FrV.up (Or.inr rfl)))) FrG.up rfl ((hI.five.go (Nat.le_succ i) hlt).code (by omega)) (by rw [show (goV (va_up v 5 (v 4)) g (i + 1)) 5 = g 4 i from e4])
    · skip
      refine z_iconst hZ (pc := 19) (v := 0) dX5_readPart_19 (by decide) ?_
      refine zr_i hZ (pc := 20) dX5_readPart_20 FitR.b0 ?_
      rw [tnV_n (bD0 c16)]
      exact RdP_er (c := 2) (q := i) (by rw [pPart, if_pos hk, if_neg (by rw [← hk, ← e3, ← e4]; exact bD0 c16)]) FrV.rf FrG.rf (tnC_2 c5 (bD0 c16)) e2
