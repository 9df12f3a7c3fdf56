theorem cbS_stop {co fr wh : Nat → Int32} {h hr : Int32} {e : Nat} : ∀ {n : Nat}, e ≤ n → (∀ t, e ≤ t → t < n → hr < wh t) → cbS co fr wh h hr n = cbS co fr wh h hr e
  | n, hen, hw => by
    induction n with
    | zero => have : e = 0 := by omega
              rw [this]
    | succ n ih =>
      rcases Nat.eq_or_lt_of_le hen with q | q
      · rw [q]
      · rw [cbS, if_neg (fun z => Int32.not_le.mpr (hw n (by omega) (by omega)) z.2.2)]
        exact ih (by omega) (fun t h1 h2 => hw t h1 (by omega))
theorem cbS_all {co fr wh : Nat → Int32} {h hr : Int32} : ∀ {e : Nat}, (∀ t, t < e → wh t ≤ hr) → cbS co fr wh h hr e = lastC co fr h e
  | 0, _ => rfl
  | e + 1, hw => by
    rw [cbS, lastC, cbS_all (fun t ht => hw t (by omega))]
    by_cases q : co e = 1 ∧ fr e = h
    · rw [if_pos ⟨q.1, q.2, hw e (by omega)⟩, if_pos q]
    · rw [if_neg (fun z => q ⟨z.1, z.2.1⟩), if_neg q]
/-- the hours of tears go up -/
def SortT (wh : Nat → Int32) (n : Nat) : Prop := ∀ s t, s ≤ t → t < n → wh s ≤ wh t
theorem last_cb {co fr wh : Nat → Int32} {h hr : Int32} {e n : Nat} (hen : e ≤ n) (hso : SortT wh n) (h1 : ∀ t, t < e → wh t ≤ hr) (h2 : e < n → hr < wh e) : lastC co fr h e = cbS co fr wh h hr n := by
  rw [cbS_stop hen (fun t h3 h4 => Int32.lt_of_lt_of_le (h2 (by omega)) (hso e t h3 h4)), cbS_all h1]
theorem hsN_hsT {wo co fr wh R : Nat → Int32} {p hr : Int32} {e n : Nat} (hen : e ≤ n) (hso : SortT wh n) (h1 : ∀ t, t < e → wh t ≤ hr) (h2 : e < n → hr < wh e) (hR : ∀ k, k < 10 → R k = lastC co fr (nI k) e) : hsN wo R p 10 = hsT wo co fr wh n p hr 10 := by
  unfold hsN hsT
  exact bitN_cong (fun k hk => by rw [hR k hk, last_cb hen hso h1 h2])
theorem row_or {co fr R : Nat → Int32} {e n : Nat} (hen : e ≤ n) (h2 : n ≤ 200) (hR : ∀ k, k < 10 → R k = lastC co fr (nI k) e) : ∀ k, k < 10 → R k = -1 ∨ ∃ t, t < 200 ∧ R k = nI t := by
  intro k hk
  rw [hR k hk]
  rcases lastC_or co fr (nI k) e with q | ⟨t, ht, q⟩
  · exact Or.inl q
  · exact Or.inr ⟨t, by omega, q⟩
theorem c_X9_meantBy {l : Launch} {D : va_G} {cA : Nat → ClassId} {o a : Nat → Nat} {v : ZV} {g : ZG} {b : Nat} (hb : b < 1024) : MG l D cA (WC o a cA) yX9_meantBy cX9_meantBy 1 (some .int) 1 [.int (nI b)] v g (PF v g (some (.int (meantS b)))) := by
  refine MG.of (by decide) rfl (Nat.le_of_ble_eq_true rfl) (by simp [Value.category]) (fun Z hZ => ?_)
  refine z_iload_n hZ (pc := 0) dX9_meantBy_0 rfl ?_
  refine z_if_ne hZ (pc := 1) (tgt := 6) dX9_meantBy_1 rfl (fun c1 => ?_) (fun c1 => ?_)
  · skip
    have h0 : b ≠ 0 := fun q => c1 (by rw [q]; rfl)
    have hp10 := popc_le b
    refine z_iload_n hZ (pc := 6) dX9_meantBy_6 rfl ?_
    refine cS_i hZ (pc := 7) dX9_meantBy_7 lk_X9_51 mn_J6_bitCount_0f7a4 ms_J6_bitCount_0f7a4 (c_J6_bitCount_0f7a4 hb) rfl rfl (Nat.le_of_ble_eq_true rfl) (by decide) (by decide) (Nat.zero_le _) (Nat.zero_le _) ?_
    refine z_iconst hZ (pc := 10) (v := 1) dX9_meantBy_10 (by decide) ?_
    refine z_icmp_ne hZ (pc := 11) (tgt := 21) dX9_meantBy_11 rfl (fun c11 => ?_) (fun c11 => ?_)
    · skip
      refine z_bipush hZ (pc := 21) (v := (-2)) dX9_meantBy_21 (by decide) ?_
      refine zr_i hZ (pc := 23) dX9_meantBy_23 FitR.int ?_
      have h3 : ¬ popc b = 1 := fun q => c11 (by rw [q]; rfl)
      exact ⟨rfl, rfl, by rw [meantS, if_neg h0, if_neg h3]⟩
    · skip
      refine z_iload_n hZ (pc := 14) dX9_meantBy_14 rfl ?_
      refine cS_i hZ (pc := 15) dX9_meantBy_15 lk_X9_56 mn_X2_leastOf ms_X2_leastOf (c_X2_leastOf hb) rfl rfl (Nat.le_of_ble_eq_true rfl) (by decide) (by decide) (Nat.zero_le _) (Nat.zero_le _) ?_
      refine z_goto hZ (pc := 18) (tgt := 23) dX9_meantBy_18 rfl ?_
      refine zr_i hZ (pc := 23) dX9_meantBy_23 FitR.int ?_
      have h3 := (nI_eq (a := popc b) (b := 1) (by omega) (by omega)).mp c11
      exact ⟨rfl, rfl, by rw [meantS, if_neg h0, if_pos h3]⟩
  · skip
    refine z_iconst hZ (pc := 4) (v := (-1)) dX9_meantBy_4 (by decide) ?_
    refine zr_i hZ (pc := 5) dX9_meantBy_5 FitR.int ?_
    have h3 : b = 0 := by
      rcases Nat.eq_zero_or_pos b with q | q
      · exact q
      · exact absurd c1 (nI_ne0 q (by omega))
    exact ⟨rfl, rfl, by rw [meantS, if_pos h3]⟩
theorem c_X9_follow {l : Launch} {D : va_G} {cA : Nat → ClassId} {o a : Nat → Nat} {v : ZV} {g : ZG} {n k hh : Nat} (hn : v 9 = nI n) (h2 : n ≤ 200) (hfr : ∀ t, t < n → ∃ k, k < 10 ∧ T5 g 1 t = nI k) (hso : SortT (T5 g 2) n) (hk : k < 40) (hhr : g 7 k = nI hh) (h24 : hh < 2400) : MG l D cA (WC o a cA) yX9_follow cX9_follow 11 none 4 [(.ref (o 8)), (.ref (o 3)), .int (nI k), (.ref (o 7))] v g (fun v2 g2 r => r = none ∧ (∀ j, j ≠ 25 → j ≠ 26 → j ≠ 27 → j ≠ 28 → v2 j = v j) ∧ (∀ j, j ≠ 33 → g2 j = g j) ∧ v2 26 = (meantS (hsT (T5 g 0) (T5 g 5) (T5 g 1) (T5 g 2) n (g 6 k) (nI hh) 10)) ∧ v2 27 = carH (carryS (T5 g 0) (T5 g 5) (T5 g 1) (T5 g 2) n (g 6 k) 10 hh) ∧ v2 28 = carD (carryS (T5 g 0) (T5 g 5) (T5 g 1) (T5 g 2) n (g 6 k) 10 hh)) := by
  refine MG.of (by decide) rfl (Nat.le_of_ble_eq_true rfl) (by simp [Value.category]) (fun Z hZ => ?_)
  have htl : ∀ x : Option Value, x = none → x.toList = [] := fun x h => by rw [h]; rfl
  refine z_aload_n hZ (pc := 0) dX9_follow_0 rfl ?_
  refine gC_3_4 hZ (pc := 1) fl_X9_21 dX9_follow_1 ?_
  refine z_iload_n hZ (pc := 4) dX9_follow_4 rfl ?_
  refine cS_i hZ (pc := 5) dX9_follow_5 lk_X9_27 mn_X10_at ms_X10_at (c_X10_atn (j := 6) (n := k) (by decide) hk) rfl rfl (Nat.le_of_ble_eq_true rfl) (by decide) (by decide) (Nat.zero_le _) (Nat.zero_le _) ?_
  refine q_istore_11_4 hZ (pc := 8) dX9_follow_8 rfl ?_
  refine z_aload_n hZ (pc := 10) dX9_follow_10 rfl ?_
  refine gC_3_5 hZ (pc := 11) fl_X9_31 dX9_follow_11 ?_
  refine z_iload_n hZ (pc := 14) dX9_follow_14 rfl ?_
  refine cS_i hZ (pc := 15) dX9_follow_15 lk_X9_27 mn_X10_at ms_X10_at (c_X10_atn (j := 7) (n := k) (by decide) hk) rfl rfl (Nat.le_of_ble_eq_true rfl) (by decide) (by decide) (Nat.zero_le _) (Nat.zero_le _) ?_
  rw [show (WC o a cA v g) = WC o a cA v g from rfl, hhr]
  refine q_istore_11_5 hZ (pc := 18) dX9_follow_18 rfl ?_
  refine z_aload_n hZ (pc := 20) dX9_follow_20 rfl ?_
  refine z_aload_n hZ (pc := 21) dX9_follow_21 rfl ?_
  refine z_iload hZ (pc := 22) dX9_follow_22 rfl ?_
  refine cV hZ (pc := 24) dX9_follow_24 lk_X9_34 mn_X2_callAt mv_X2_callAt (c_X2_callAt (n := n) (hr := nI hh) hn h2 hfr) rc_7 rfl rfl (Nat.le_of_ble_eq_true rfl) (by decide) (by decide) (Nat.zero_le _) (Nat.zero_le _) ?_
  intro v2 g2 r h
  obtain ⟨rfl, e, R, h1, h3, h4, h5, rfl, rfl⟩ := h
  refine z_aload_n hZ (pc := 27) dX9_follow_27 rfl ?_
  refine z_aload_n hZ (pc := 28) dX9_follow_28 rfl ?_
  refine z_aload_n hZ (pc := 29) dX9_follow_29 rfl ?_
  refine z_iload hZ (pc := 30) dX9_follow_30 rfl ?_
  refine cV_i hZ (pc := 32) dX9_follow_32 lk_X9_40 mn_X2_housesOf mv_X2_housesOf (c_X2_housesOf (row_or h1 h2 h5)) rc_7 rfl rfl (Nat.le_of_ble_eq_true rfl) (by decide) (by decide) (Nat.zero_le _) (Nat.zero_le _) ?_
  refine z_top (y := nI (hsT (T5 g 0) (T5 g 5) (T5 g 1) (T5 g 2) n (g 6 k) (nI hh) 10)) (congrArg nI (hsN_hsT h1 hso h3 h4 h5)) ?_
  refine cS_i hZ (pc := 35) dX9_follow_35 lk_X9_44 mn_X9_meantBy ms_X9_meantBy (c_X9_meantBy (b := hsT (T5 g 0) (T5 g 5) (T5 g 1) (T5 g 2) n (g 6 k) (nI hh) 10) (hsT_lt _ _ _ _ _ _ _ (by decide))) rfl rfl (Nat.le_of_ble_eq_true rfl) (by decide) (by decide) (Nat.zero_le _) (Nat.zero_le _) ?_
  refine pC_8_0 hZ (pc := 38) fl_X9_9 dX9_follow_38 ?_
  refine z_aload_n hZ (pc := 41) dX9_follow_41 rfl ?_
  refine z_iconst hZ (pc := 42) (v := (-1)) dX9_follow_42 (by decide) ?_
  refine pC_8_1 hZ (pc := 43) fl_X9_15 dX9_follow_43 ?_
  refine z_aload_n hZ (pc := 46) dX9_follow_46 rfl ?_
  refine z_iconst hZ (pc := 47) (v := (-1)) dX9_follow_47 (by decide) ?_
  refine pC_8_2 hZ (pc := 48) fl_X9_18 dX9_follow_48 ?_
  refine z_iload hZ (pc := 51) dX9_follow_51 rfl ?_
  refine z_bipush hZ (pc := 53) (v := 24) dX9_follow_53 (by decide) ?_
  refine z_iadd hZ (pc := 55) dX9_follow_55 ?_
  refine z_bipush hZ (pc := 56) (v := 6) dX9_follow_56 (by decide) ?_
  refine z_isub hZ (pc := 58) dX9_follow_58 ?_
  refine z_bipush hZ (pc := 59) (v := 24) dX9_follow_59 (by decide) ?_
  skip
  refine z_idiv hZ (pc := 61) dX9_follow_61 (by decide) ?_
  refine z_top (y := nI ((hh + 18) / 24)) (by rw [show nI hh + 24 = nI (hh + 24) from nI_add hh 24, show nI (hh + 24) - 6 = nI (hh + 18) from pk_sub (b := 6) (by omega)]; exact pk_div (d := 24) (by omega) (by omega) (by omega)) ?_
  refine q_istore_11_6 hZ (pc := 62) dX9_follow_62 rfl ?_
  refine z_iconst hZ (pc := 64) (v := 0) dX9_follow_64 (by decide) ?_
  refine q_istore_11_7 hZ (pc := 65) dX9_follow_65 rfl ?_
  refine z_iload hZ (pc := 67) dX9_follow_67 rfl ?_
  refine q_istore_11_8 hZ (pc := 69) dX9_follow_69 rfl ?_
  have lp71 : ∀ (f i t e : Nat) (v1 : ZV) (R : Nat → Int32), i ≤ 30 → 30 - i < f → t < 3 → carG (dawnS (T5 g 0) (T5 g 5) (T5 g 1) (T5 g 2) n (g 6 k) 10) (30 - i) (((hh + 18) / 24) + i) t = (carryS (T5 g 0) (T5 g 5) (T5 g 1) (T5 g 2) n (g 6 k) 10 hh) → (∀ j, j ≠ 25 → j ≠ 26 → j ≠ 27 → j ≠ 28 → v1 j = v j) → v1 25 = nI e → v1 26 = (meantS (hsT (T5 g 0) (T5 g 5) (T5 g 1) (T5 g 2) n (g 6 k) (nI hh) 10)) → v1 27 = -1 → v1 28 = -1 → e ≤ n → (∀ t, t < e → T5 g 2 t ≤ nI (24 * (((hh + 18) / 24) + i) + 5)) → (∀ k, k < 10 → R k = lastC (T5 g 5) (T5 g 1) (nI k) e) → Z 0 0 (WC o a cA v1 (va_up g 33 R)) [some (.ref (o 8)), some (.ref (o 3)), some (.int (nI k)), some (.ref (o 7)), some (.int (g 6 k)), some (.int (nI hh)), some (.int (nI ((hh + 18) / 24))), some (.int (nI t)), some (.int (nI (((hh + 18) / 24) + i))), none, none] [] 71 := by
    intro f
    induction f with
    | zero => intro i _ _ _ _ _ hf; exact absurd hf (Nat.not_lt_zero _)
    | succ f ih =>
      intro i t e v1 R hi hf ht hgo hv he25 hM h27 h28 he hw hR
      refine z_iload hZ (pc := 71) dX9_follow_71 rfl ?_
      refine z_iload hZ (pc := 73) dX9_follow_73 rfl ?_
      refine z_bipush hZ (pc := 75) (v := 30) dX9_follow_75 (by decide) ?_
      refine z_iadd hZ (pc := 77) dX9_follow_77 ?_
      refine z_icmp_ge hZ (pc := 78) (tgt := 162) dX9_follow_78 rfl (fun c78 => ?_) (fun c78 => ?_)
      · skip
        have e30 : 30 = i := by
          have := (nI_leI (a := ((hh + 18) / 24) + 30) (b := ((hh + 18) / 24) + i) (by omega) (by omega)).mp (by rw [← nI_add]; exact c78)
          omega
        subst e30
        refine zr_v hZ (pc := 162) dX9_follow_162 ?_
        exact ⟨rfl, hv, fun j hj => up_off hj, hM, by rw [← hgo]; simp only [Nat.sub_self, carG, carH_none, h27], by rw [← hgo]; simp only [Nat.sub_self, carG, carD_none, h28]⟩
      · skip
        have hl : i < 30 := by
          rcases Nat.lt_or_ge i 30 with q | q
          · exact q
          · exact absurd (by rw [show nI ((hh + 18) / 24) + 30 = nI (((hh + 18) / 24) + 30) from nI_add _ 30]; exact nI_le (by omega) (by omega)) c78
        obtain ⟨j, hj⟩ : ∃ j, 30 - i = j + 1 := ⟨29 - i, by omega⟩
        obtain ⟨b, hbe⟩ : ∃ b, b = (dawnS (T5 g 0) (T5 g 5) (T5 g 1) (T5 g 2) n (g 6 k) 10) (((hh + 18) / 24) + i) := ⟨_, rfl⟩
        have hb : b < 1024 := by rw [hbe]; exact hsT_lt _ _ _ _ _ _ _ (by decide)
        have hpb := popc_le b
        rw [hj, carG_s, ← hbe] at hgo
        refine z_aload_n hZ (pc := 81) dX9_follow_81 rfl ?_
        refine z_aload_n hZ (pc := 82) dX9_follow_82 rfl ?_
        refine z_iload hZ (pc := 83) dX9_follow_83 rfl ?_
        refine z_bipush hZ (pc := 85) (v := 24) dX9_follow_85 (by decide) ?_
        refine z_imul hZ (pc := 87) dX9_follow_87 ?_
        refine z_bipush hZ (pc := 88) (v := 6) dX9_follow_88 (by decide) ?_
        refine z_iadd hZ (pc := 90) dX9_follow_90 ?_
        refine z_top (y := nI (24 * (((hh + 18) / 24) + i) + 6)) (by rw [show (24 : Int32) = nI 24 from rfl, pk_mul, show (6 : Int32) = nI 6 from rfl, nI_add, Nat.mul_comm]) ?_
        refine cV hZ (pc := 91) dX9_follow_91 lk_X9_48 mn_X2_callOn mv_X2_callOn (c_X2_callOn (n := n) (s := e) (hr := nI (24 * (((hh + 18) / 24) + i) + 6)) ((hv 9 (by decide) (by decide) (by decide) (by decide)).trans hn) h2 he25 he hfr hR) rc_7 rfl rfl (Nat.le_of_ble_eq_true rfl) (by decide) (by decide) (Nat.zero_le _) (Nat.zero_le _) ?_
        intro v2 g2 r h
        obtain ⟨rfl, e2, R2, q1, q2, q3, q4, q5, rfl, rfl⟩ := h
        have hw2 : ∀ t, t < e2 → T5 g 2 t ≤ nI (24 * (((hh + 18) / 24) + i) + 6) := fun t ht => by
          rcases Nat.lt_or_ge t e with q | q
          · exact Int32.le_trans (hw t q) (nI_le (by omega) (by omega))
          · exact q3 t q ht
        refine z_aload_n hZ (pc := 94) dX9_follow_94 rfl ?_
        refine z_aload_n hZ (pc := 95) dX9_follow_95 rfl ?_
        refine z_iload hZ (pc := 96) dX9_follow_96 rfl ?_
        refine cV_i hZ (pc := 98) dX9_follow_98 lk_X9_40 mn_X2_housesOf mv_X2_housesOf (c_X2_housesOf (row_or q2 h2 q5)) rc_7 rfl rfl (Nat.le_of_ble_eq_true rfl) (by decide) (by decide) (Nat.zero_le _) (Nat.zero_le _) ?_
        refine z_top (y := nI b) (by rw [hbe]; exact congrArg nI (hsN_hsT q2 hso hw2 q4 q5)) ?_
        refine q_istore_11_9 hZ (pc := 101) dX9_follow_101 rfl ?_
        refine z_iload hZ (pc := 103) dX9_follow_103 rfl ?_
        refine cS_i hZ (pc := 105) dX9_follow_105 lk_X9_51 mn_J6_bitCount_0f7a4 ms_J6_bitCount_0f7a4 (c_J6_bitCount_0f7a4 hb) rfl rfl (Nat.le_of_ble_eq_true rfl) (by decide) (by decide) (Nat.zero_le _) (Nat.zero_le _) ?_
        refine q_istore_11_10 hZ (pc := 108) dX9_follow_108 rfl ?_
        refine z_iload hZ (pc := 110) dX9_follow_110 rfl ?_
        refine z_iload hZ (pc := 112) dX9_follow_112 rfl ?_
        refine z_iconst hZ (pc := 114) (v := 1) dX9_follow_114 (by decide) ?_
        refine z_icmp_le hZ (pc := 115) (tgt := 122) dX9_follow_115 rfl (fun c115 => ?_) (fun c115 => ?_)
        · skip
          have hp : popc b ≤ 1 := (nI_leI (a := popc b) (b := 1) (by omega) (by omega)).mp c115
          rw [if_neg (show ¬ 1 < popc b by omega)] at hgo
          refine z_iconst hZ (pc := 122) (v := 0) dX9_follow_122 (by decide) ?_
          refine z_iadd hZ (pc := 123) dX9_follow_123 ?_
          refine z_top (y := nI t) (by simp) ?_
          refine q_istore_11_7 hZ (pc := 124) dX9_follow_124 rfl ?_
          refine z_iload hZ (pc := 126) dX9_follow_126 rfl ?_
          refine z_iconst hZ (pc := 128) (v := 1) dX9_follow_128 (by decide) ?_
          refine z_icmp_eq hZ (pc := 129) (tgt := 138) dX9_follow_129 rfl (fun c129 => ?_) (fun c129 => ?_)
          · skip
            have hp1 : popc b = 1 := (nI_eq (a := popc b) (b := 1) (by omega) (by omega)).mp c129
            rw [if_pos (Or.inl hp1)] at hgo
            refine z_aload_n hZ (pc := 138) dX9_follow_138 rfl ?_
            refine z_iload hZ (pc := 139) dX9_follow_139 rfl ?_
            refine cS_i hZ (pc := 141) dX9_follow_141 lk_X9_56 mn_X2_leastOf ms_X2_leastOf (c_X2_leastOf hb) rfl rfl (Nat.le_of_ble_eq_true rfl) (by decide) (by decide) (Nat.zero_le _) (Nat.zero_le _) ?_
            refine pC_8_1 hZ (pc := 144) fl_X9_15 dX9_follow_144 ?_
            refine z_aload_n hZ (pc := 147) dX9_follow_147 rfl ?_
            refine z_iload hZ (pc := 148) dX9_follow_148 rfl ?_
            refine pC_8_2 hZ (pc := 150) fl_X9_18 dX9_follow_150 ?_
            refine z_goto hZ (pc := 153) (tgt := 162) dX9_follow_153 rfl ?_
            skip
            refine zr_v hZ (pc := 162) dX9_follow_162 ?_
            exact ⟨rfl, fun j h1 h2 h3 h4 => by simp only [va_up, if_neg h1, if_neg h3, if_neg h4]; exact hv j h1 h2 h3 h4, fun j hj => (up_off hj).trans (up_off hj), hM, by rw [← hgo, carH_some]; rfl, by rw [← hgo, carD_some]; rfl⟩
          · skip
            refine z_iload hZ (pc := 132) dX9_follow_132 rfl ?_
            refine z_iconst hZ (pc := 134) (v := 3) dX9_follow_134 (by decide) ?_
            refine z_icmp_ne hZ (pc := 135) (tgt := 156) dX9_follow_135 rfl (fun c135 => ?_) (fun c135 => ?_)
            · skip
              have hp1 : popc b ≠ 1 := fun q => c129 (by rw [q]; rfl)
              rw [if_neg (show ¬ (popc b = 1 ∨ t = 3) by omega)] at hgo
              refine q_iinc_11_8 hZ (pc := 156) dX9_follow_156 rfl ?_
              refine z_goto hZ (pc := 159) (tgt := 71) dX9_follow_159 rfl ?_
              exact z_back hZ (ih (i + 1) t e2 (va_up v1 25 (nI e2)) R2 (by omega) (by omega) (by omega) (by rw [show 30 - (i + 1) = j by omega, ← Nat.add_assoc]; exact hgo) (fun j h1 h2 h3 h4 => (up_off h1).trans (hv j h1 h2 h3 h4)) rfl hM h27 h28 q2 (fun t ht => Int32.le_trans (hw2 t ht) (nI_le (by omega) (by omega))) q5) (WC_eq rfl up_twice) ⟨rfl, rfl, rfl, rfl, rfl, rfl, rfl, rfl, zi (nI_inc _), trivial⟩
            · skip
              exact absurd ((nI_eq (a := t) (b := 3) (by omega) (by omega)).mp c135) (by omega)
        · skip
          have hp : 1 < popc b := by
            rcases Nat.lt_or_ge 1 (popc b) with q | q
            · exact q
            · exact absurd (nI_le q (by omega)) c115
          rw [if_pos hp] at hgo
          refine z_iconst hZ (pc := 118) (v := 1) dX9_follow_118 (by decide) ?_
          refine z_goto hZ (pc := 119) (tgt := 123) dX9_follow_119 rfl ?_
          refine z_iadd hZ (pc := 123) dX9_follow_123 ?_
          refine z_top (y := nI (t + 1)) (nI_1 t) ?_
          refine q_istore_11_7 hZ (pc := 124) dX9_follow_124 rfl ?_
          refine z_iload hZ (pc := 126) dX9_follow_126 rfl ?_
          refine z_iconst hZ (pc := 128) (v := 1) dX9_follow_128 (by decide) ?_
          refine z_icmp_eq hZ (pc := 129) (tgt := 138) dX9_follow_129 rfl (fun c129 => ?_) (fun c129 => ?_)
          · skip
            exact absurd ((nI_eq (a := popc b) (b := 1) (by omega) (by omega)).mp c129) (by omega)
          · skip
            refine z_iload hZ (pc := 132) dX9_follow_132 rfl ?_
            refine z_iconst hZ (pc := 134) (v := 3) dX9_follow_134 (by decide) ?_
            refine z_icmp_ne hZ (pc := 135) (tgt := 156) dX9_follow_135 rfl (fun c135 => ?_) (fun c135 => ?_)
            · skip
              have ht3 : ¬ t + 1 = 3 := fun q => c135 (by rw [q]; rfl)
              rw [if_neg (show ¬ (popc b = 1 ∨ t + 1 = 3) by omega)] at hgo
              refine q_iinc_11_8 hZ (pc := 156) dX9_follow_156 rfl ?_
              refine z_goto hZ (pc := 159) (tgt := 71) dX9_follow_159 rfl ?_
              exact z_back hZ (ih (i + 1) (t + 1) e2 (va_up v1 25 (nI e2)) R2 (by omega) (by omega) (by omega) (by rw [show 30 - (i + 1) = j by omega, ← Nat.add_assoc]; exact hgo) (fun j h1 h2 h3 h4 => (up_off h1).trans (hv j h1 h2 h3 h4)) rfl hM h27 h28 q2 (fun t ht => Int32.le_trans (hw2 t ht) (nI_le (by omega) (by omega))) q5) (WC_eq rfl up_twice) ⟨rfl, rfl, rfl, rfl, rfl, rfl, rfl, rfl, zi (nI_inc _), trivial⟩
            · skip
              have ht3 : t + 1 = 3 := (nI_eq (a := t + 1) (b := 3) (by omega) (by omega)).mp c135
              rw [if_pos (Or.inr ht3)] at hgo
              refine z_aload_n hZ (pc := 138) dX9_follow_138 rfl ?_
              refine z_iload hZ (pc := 139) dX9_follow_139 rfl ?_
              refine cS_i hZ (pc := 141) dX9_follow_141 lk_X9_56 mn_X2_leastOf ms_X2_leastOf (c_X2_leastOf hb) rfl rfl (Nat.le_of_ble_eq_true rfl) (by decide) (by decide) (Nat.zero_le _) (Nat.zero_le _) ?_
              refine pC_8_1 hZ (pc := 144) fl_X9_15 dX9_follow_144 ?_
              refine z_aload_n hZ (pc := 147) dX9_follow_147 rfl ?_
              refine z_iload hZ (pc := 148) dX9_follow_148 rfl ?_
              refine pC_8_2 hZ (pc := 150) fl_X9_18 dX9_follow_150 ?_
              refine z_goto hZ (pc := 153) (tgt := 162) dX9_follow_153 rfl ?_
              skip
              refine zr_v hZ (pc := 162) dX9_follow_162 ?_
              exact ⟨rfl, fun j h1 h2 h3 h4 => by simp only [va_up, if_neg h1, if_neg h3, if_neg h4]; exact hv j h1 h2 h3 h4, fun j hj => (up_off hj).trans (up_off hj), hM, by rw [← hgo, carH_some]; rfl, by rw [← hgo, carD_some]; rfl⟩
  exact z_back hZ (lp71 31 0 0 e _ R (by omega) (by omega) (by omega) rfl (fun j h1 h2 h3 h4 => by simp only [va_up, if_neg h1, if_neg h2, if_neg h3, if_neg h4]) rfl rfl rfl rfl h1 (fun t ht => Int32.le_trans (h3 t ht) (nI_le (by omega) (by omega))) h5) rfl ⟨rfl, rfl, rfl, rfl, rfl, rfl, rfl, rfl, rfl, trivial⟩
