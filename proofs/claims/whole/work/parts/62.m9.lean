theorem c_X11_post {l : Launch} {D : va_G} {cA : Nat → ClassId} {r : Nat} {a : Nat → Nat} {s0 s1 : Nat → Option Nat} {v : ZV} {g : ZG} {x w : Int32} {n H q : Nat} {hh : Nat → Nat} (hn : v 12 = nI n) (h2 : n ≤ 200) (hco : ∀ t, t < n → g 18 t = 0 ∨ g 18 t = 1) (hH : g 3 0 = nI H) (h10 : H ≤ 10) (hq : v 19 = nI q) (hq4 : q ≤ 40) (hlh : ∀ k, k < q → g 22 k = nI (hh k) ∧ hh k < 2400) : MG l D cA (WM r a cA s0 s1) yX11_post cX11_post 3 (some .int) 4 [(.ref r), .int x, .int w] v g (fun v2 g2 r => (∀ j, j ≠ 2 → j ≠ 38 → j ≠ 39 → v2 j = v j) ∧ v2 2 = (if (inI x q && inI w 6) = true then 0 else 1) ∧ g2 = g ∧ r = some (.int (if (inI x q && inI w 6) = true then postS (g 21 x.toNatClampNeg) (g 22 x.toNatClampNeg) (meantS (hsT (g 13) (g 18) (g 14) (g 15) n (g 21 x.toNatClampNeg) (g 22 x.toNatClampNeg) H)) (carH (carryS (g 13) (g 18) (g 14) (g 15) n (g 21 x.toNatClampNeg) H (hh x.toNatClampNeg))) (carD (carryS (g 13) (g 18) (g 14) (g 15) n (g 21 x.toNatClampNeg) H (hh x.toNatClampNeg))) w else 0))) := by
  refine MG.of (by decide) rfl (Nat.le_of_ble_eq_true rfl) (by simp [Value.category]) (fun Z hZ => ?_)
  refine z_aload_n hZ (pc := 0) dX11_post_0 rfl ?_
  refine z_iconst hZ (pc := 1) (v := 0) dX11_post_1 (by decide) ?_
  refine pM_2 hZ (pc := 2) fl_X11_160 dX11_post_2 ?_
  refine z_iload_n hZ (pc := 5) dX11_post_5 rfl ?_
  refine z_iconst hZ (pc := 6) (v := 0) dX11_post_6 (by decide) ?_
  refine z_aload_n hZ (pc := 7) dX11_post_7 rfl ?_
  refine gM_19 hZ (pc := 8) fl_X11_299 dX11_post_8 ?_
  refine z_iconst hZ (pc := 11) (v := 1) dX11_post_11 (by decide) ?_
  refine z_isub hZ (pc := 12) dX11_post_12 ?_
  refine cS_i hZ (pc := 13) dX11_post_13 lk_X11_163 mn_X11_isIn ms_X11_isIn (c_X11_isIn) rfl rfl (Nat.le_of_ble_eq_true rfl) (by decide) (by decide) (Nat.zero_le _) (Nat.zero_le _) ?_
  refine z_top (y := bI (inI x q)) (congrArg bI (show inB x 0 (va_up v 2 0 19 - 1) = inI x q by rw [show va_up v 2 0 19 = nI q from hq]; exact inB_inI (by omega))) ?_
  refine z_if_eq hZ (pc := 16) (tgt := 28) dX11_post_16 rfl (fun c16 => ?_) (fun c16 => ?_)
  · skip
    refine z_aload_n hZ (pc := 28) dX11_post_28 rfl ?_
    refine z_iconst hZ (pc := 29) (v := 1) dX11_post_29 (by decide) ?_
    refine cV_i hZ (pc := 30) dX11_post_30 lk_X11_286 mn_X11_fail mv_X11_fail (c_X11_fail) rc_M rfl rfl (Nat.le_of_ble_eq_true rfl) (by decide) (by decide) (Nat.zero_le _) (Nat.zero_le _) ?_
    refine zr_i hZ (pc := 33) dX11_post_33 FitR.int ?_
    have hno : (inI x q && inI w 6) = false := by rw [bI_eq.mp c16, Bool.false_and]
    exact ⟨fun j h1 h2 h3 => (up_off h1).trans (up_off h1), by rw [if_neg (by rw [hno]; decide)]; rfl, rfl, by rw [if_neg (by rw [hno]; decide)]⟩
  · skip
    refine z_iload_n hZ (pc := 19) dX11_post_19 rfl ?_
    refine z_iconst hZ (pc := 20) (v := 0) dX11_post_20 (by decide) ?_
    refine z_iconst hZ (pc := 21) (v := 5) dX11_post_21 (by decide) ?_
    refine cS_i hZ (pc := 22) dX11_post_22 lk_X11_163 mn_X11_isIn ms_X11_isIn (c_X11_isIn) rfl rfl (Nat.le_of_ble_eq_true rfl) (by decide) (by decide) (Nat.zero_le _) (Nat.zero_le _) ?_
    refine z_top (y := bI (inI w 6)) (congrArg bI (show inB w 0 5 = inI w 6 from inB_inI (n := 6) (by omega))) ?_
    refine z_if_ne hZ (pc := 25) (tgt := 34) dX11_post_25 rfl (fun c25 => ?_) (fun c25 => ?_)
    · skip
      have hiw := bI_ne c25
      obtain ⟨k, hk, rfl⟩ := inI_t (bI_ne c16) (by omega)
      obtain ⟨j, hj, rfl⟩ := inI_t hiw (by omega)
      refine z_iload_n hZ (pc := 34) dX11_post_34 rfl ?_
      refine z_iconst hZ (pc := 35) (v := 2) dX11_post_35 (by decide) ?_
      refine z_icmp_ge hZ (pc := 36) (tgt := 59) dX11_post_36 rfl (fun c36 => ?_) (fun c36 => ?_)
      · skip
        have hj2 : 2 ≤ j := (nI_leI (a := 2) (b := j) (by omega) (by omega)).mp c36
        have n0 : ¬ nI j = 0 := nI_ne0 (by omega) (by omega)
        have n1 : ¬ nI j = 1 := fun z => absurd ((nI_eq (a := j) (b := 1) (by omega) (by omega)).mp z) (by omega)
        refine z_iload_n hZ (pc := 59) dX11_post_59 rfl ?_
        refine z_iconst hZ (pc := 60) (v := 2) dX11_post_60 (by decide) ?_
        refine z_icmp_ne hZ (pc := 61) (tgt := 70) dX11_post_61 rfl (fun c61 => ?_) (fun c61 => ?_)
        · skip
          refine z_aload_n hZ (pc := 70) dX11_post_70 rfl ?_
          refine z_iload_n hZ (pc := 71) dX11_post_71 rfl ?_
          refine cV_v hZ (pc := 72) dX11_post_72 lk_X11_362 mn_X11_carry mv_X11_carry (c_X11_carry (n := n) (H := H) (k := k) (hh := hh k) hn h2 hco hH h10 (by omega) (hlh k hk).1 (hlh k hk).2) rc_M rfl rfl (Nat.le_of_ble_eq_true rfl) (by decide) (by decide) (Nat.zero_le _) (Nat.zero_le _) ?_
          refine z_iload_n hZ (pc := 75) dX11_post_75 rfl ?_
          refine z_iconst hZ (pc := 76) (v := 3) dX11_post_76 (by decide) ?_
          refine z_icmp_ne hZ (pc := 77) (tgt := 87) dX11_post_77 rfl (fun c77 => ?_) (fun c77 => ?_)
          · skip
            refine z_iload_n hZ (pc := 87) dX11_post_87 rfl ?_
            refine z_iconst hZ (pc := 88) (v := 4) dX11_post_88 (by decide) ?_
            refine z_icmp_ne hZ (pc := 89) (tgt := 99) dX11_post_89 rfl (fun c89 => ?_) (fun c89 => ?_)
            · skip
              refine z_aload_n hZ (pc := 99) dX11_post_99 rfl ?_
              refine gM_38 hZ (pc := 100) fl_X11_353 dX11_post_100 ?_
              refine z_iconst hZ (pc := 103) (v := (-1)) dX11_post_103 (by decide) ?_
              refine z_icmp_eq hZ (pc := 104) (tgt := 123) dX11_post_104 rfl (fun c104 => ?_) (fun c104 => ?_)
              · skip
                refine z_iconst hZ (pc := 123) (v := 0) dX11_post_123 (by decide) ?_
                refine zr_i hZ (pc := 124) dX11_post_124 FitR.int ?_
                have hok : (inI (nI k) q && inI (nI j) 6) = true := by rw [bI_ne c16, hiw]; rfl
                exact ⟨fun j h1 h2 h3 => (up_off h3).trans ((up_off h2).trans (up_off h1)), by rw [if_pos hok]; rfl, rfl, by rw [if_pos hok, nI_clamp (n := k) (by omega)]; rw [postS, if_neg n0, if_neg n1, if_neg c61, if_neg c77, if_neg c89]; exact congrArg (fun z => some (Value.int z)) (if_pos c104).symm⟩
              · skip
                refine z_aload_n hZ (pc := 107) dX11_post_107 rfl ?_
                refine gM_38 hZ (pc := 108) fl_X11_353 dX11_post_108 ?_
                refine z_aload_n hZ (pc := 111) dX11_post_111 rfl ?_
                refine z_iload_n hZ (pc := 112) dX11_post_112 rfl ?_
                refine cV_i hZ (pc := 113) dX11_post_113 lk_X11_359 mn_X11_meant mv_X11_meant (c_X11_meant (n := n) (H := H) (k := k) hn h2 hco hH h10 (by omega)) rc_M rfl rfl (Nat.le_of_ble_eq_true rfl) (by decide) (by decide) (Nat.zero_le _) (Nat.zero_le _) ?_
                refine z_icmp_eq hZ (pc := 116) (tgt := 123) dX11_post_116 rfl (fun c116 => ?_) (fun c116 => ?_)
                · skip
                  refine z_iconst hZ (pc := 123) (v := 0) dX11_post_123 (by decide) ?_
                  refine zr_i hZ (pc := 124) dX11_post_124 FitR.int ?_
                  have hok : (inI (nI k) q && inI (nI j) 6) = true := by rw [bI_ne c16, hiw]; rfl
                  exact ⟨fun j h1 h2 h3 => (up_off h3).trans ((up_off h2).trans (up_off h1)), by rw [if_pos hok]; rfl, rfl, by rw [if_pos hok, nI_clamp (n := k) (by omega)]; rw [postS, if_neg n0, if_neg n1, if_neg c61, if_neg c77, if_neg c89]; exact congrArg (fun z => some (Value.int z)) ((if_neg c104).trans (if_pos c116)).symm⟩
                · skip
                  refine z_iconst hZ (pc := 119) (v := 1) dX11_post_119 (by decide) ?_
                  refine z_goto hZ (pc := 120) (tgt := 124) dX11_post_120 rfl ?_
                  refine zr_i hZ (pc := 124) dX11_post_124 FitR.int ?_
                  have hok : (inI (nI k) q && inI (nI j) 6) = true := by rw [bI_ne c16, hiw]; rfl
                  exact ⟨fun j h1 h2 h3 => (up_off h3).trans ((up_off h2).trans (up_off h1)), by rw [if_pos hok]; rfl, rfl, by rw [if_pos hok, nI_clamp (n := k) (by omega)]; rw [postS, if_neg n0, if_neg n1, if_neg c61, if_neg c77, if_neg c89]; exact congrArg (fun z => some (Value.int z)) ((if_neg c104).trans (if_neg c116)).symm⟩
            · skip
              refine z_aload_n hZ (pc := 92) dX11_post_92 rfl ?_
              refine gM_39 hZ (pc := 93) fl_X11_356 dX11_post_93 ?_
              refine z_goto hZ (pc := 96) (tgt := 124) dX11_post_96 rfl ?_
              refine zr_i hZ (pc := 124) dX11_post_124 FitR.int ?_
              have hok : (inI (nI k) q && inI (nI j) 6) = true := by rw [bI_ne c16, hiw]; rfl
              exact ⟨fun j h1 h2 h3 => (up_off h3).trans ((up_off h2).trans (up_off h1)), by rw [if_pos hok]; rfl, rfl, by rw [if_pos hok, nI_clamp (n := k) (by omega)]; rw [postS, if_neg n0, if_neg n1, if_neg c61, if_neg c77, if_pos c89]; rfl⟩
          · skip
            refine z_aload_n hZ (pc := 80) dX11_post_80 rfl ?_
            refine gM_38 hZ (pc := 81) fl_X11_353 dX11_post_81 ?_
            refine z_goto hZ (pc := 84) (tgt := 124) dX11_post_84 rfl ?_
            refine zr_i hZ (pc := 124) dX11_post_124 FitR.int ?_
            have hok : (inI (nI k) q && inI (nI j) 6) = true := by rw [bI_ne c16, hiw]; rfl
            exact ⟨fun j h1 h2 h3 => (up_off h3).trans ((up_off h2).trans (up_off h1)), by rw [if_pos hok]; rfl, rfl, by rw [if_pos hok, nI_clamp (n := k) (by omega)]; rw [postS, if_neg n0, if_neg n1, if_neg c61, if_pos c77]; rfl⟩
        · skip
          refine z_aload_n hZ (pc := 64) dX11_post_64 rfl ?_
          refine z_iload_n hZ (pc := 65) dX11_post_65 rfl ?_
          refine cV_i hZ (pc := 66) dX11_post_66 lk_X11_359 mn_X11_meant mv_X11_meant (c_X11_meant (n := n) (H := H) (k := k) hn h2 hco hH h10 (by omega)) rc_M rfl rfl (Nat.le_of_ble_eq_true rfl) (by decide) (by decide) (Nat.zero_le _) (Nat.zero_le _) ?_
          refine zr_i hZ (pc := 69) dX11_post_69 FitR.int ?_
          have hok : (inI (nI k) q && inI (nI j) 6) = true := by rw [bI_ne c16, hiw]; rfl
          exact ⟨fun j h1 h2 h3 => up_off h1, by rw [if_pos hok]; rfl, rfl, by rw [if_pos hok, nI_clamp (n := k) (by omega)]; rw [postS, if_neg n0, if_neg n1, if_pos c61]⟩
      · skip
        have hj2 : j < 2 := by
          rcases Nat.lt_or_ge j 2 with z | z
          · exact z
          · exact absurd (nI_le (a := 2) (b := j) z (by omega)) c36
        refine z_iload_n hZ (pc := 39) dX11_post_39 rfl ?_
        refine z_if_ne hZ (pc := 40) (tgt := 52) dX11_post_40 rfl (fun c40 => ?_) (fun c40 => ?_)
        · skip
          refine z_aload_n hZ (pc := 52) dX11_post_52 rfl ?_
          refine gM_22 hZ (pc := 53) fl_X11_89 dX11_post_53 ?_
          refine z_iload_n hZ (pc := 56) dX11_post_56 rfl ?_
          refine lMn_22 hZ (pc := 57) dX11_post_57 (show k < 40 by omega) ?_
          refine zr_i hZ (pc := 58) dX11_post_58 FitR.int ?_
          have hok : (inI (nI k) q && inI (nI j) 6) = true := by rw [bI_ne c16, hiw]; rfl
          exact ⟨fun j h1 h2 h3 => up_off h1, by rw [if_pos hok]; rfl, rfl, by rw [if_pos hok, nI_clamp (n := k) (by omega)]; rw [postS, if_neg c40, if_pos (show nI j = 1 from by rw [show j = 1 from by have := c40; rcases Nat.eq_zero_or_pos j with z | z; exact absurd (by rw [z]; rfl) c40; omega]; rfl)]⟩
        · skip
          refine z_aload_n hZ (pc := 43) dX11_post_43 rfl ?_
          refine gM_21 hZ (pc := 44) fl_X11_86 dX11_post_44 ?_
          refine z_iload_n hZ (pc := 47) dX11_post_47 rfl ?_
          refine lMn_21 hZ (pc := 48) dX11_post_48 (show k < 40 by omega) ?_
          refine z_goto hZ (pc := 49) (tgt := 58) dX11_post_49 rfl ?_
          refine zr_i hZ (pc := 58) dX11_post_58 FitR.int ?_
          have hok : (inI (nI k) q && inI (nI j) 6) = true := by rw [bI_ne c16, hiw]; rfl
          exact ⟨fun j h1 h2 h3 => up_off h1, by rw [if_pos hok]; rfl, rfl, by rw [if_pos hok, nI_clamp (n := k) (by omega)]; rw [postS, if_pos c40]⟩
    · skip
      refine z_aload_n hZ (pc := 28) dX11_post_28 rfl ?_
      refine z_iconst hZ (pc := 29) (v := 1) dX11_post_29 (by decide) ?_
      refine cV_i hZ (pc := 30) dX11_post_30 lk_X11_286 mn_X11_fail mv_X11_fail (c_X11_fail) rc_M rfl rfl (Nat.le_of_ble_eq_true rfl) (by decide) (by decide) (Nat.zero_le _) (Nat.zero_le _) ?_
      refine zr_i hZ (pc := 33) dX11_post_33 FitR.int ?_
      have hno : (inI x q && inI w 6) = false := by rw [bI_eq.mp c25, Bool.and_false]
      exact ⟨fun j h1 h2 h3 => (up_off h1).trans (up_off h1), by rw [if_neg (by rw [hno]; decide)]; rfl, rfl, by rw [if_neg (by rw [hno]; decide)]⟩
def wbS (co fr wh : Nat → Int32) (b : Nat) (hr : Int32) : Nat → Nat
  | 0 => b
  | t + 1 => if co t ≠ 0 ∧ hr < wh t then rmB (wbS co fr wh b hr t) (fr t).toNatClampNeg else wbS co fr wh b hr t
theorem c_X11_dry {l : Launch} {D : va_G} {cA : Nat → ClassId} {r : Nat} {a : Nat → Nat} {s0 s1 : Nat → Option Nat} {v : ZV} {g : ZG} {x : Int32} {n H : Nat} (hn : v 12 = nI n) (h2 : n ≤ 200) (hH : g 3 0 = nI H) (h10 : H ≤ 10) (hfr : ∀ t, t < n → ∃ k, k < 10 ∧ g 14 t = nI k) : MG l D cA (WM r a cA s0 s1) yX11_dry cX11_dry 4 (some .int) 3 [(.ref r), .int x] v g (PF (va_up v 2 (if (inB x 1 99) = true then 0 else 1)) g (some (.int (if (inB x 1 99) = true then nI (wbS (g 18) (g 14) (g 15) (2 ^ H - 1) ((if n = 0 then 0 else g 15 (n - 1)) - 24 * x) n) else 0)))) := by
  refine MG.of (by decide) rfl (Nat.le_of_ble_eq_true rfl) (by simp [Value.category]) (fun Z hZ => ?_)
  refine z_aload_n hZ (pc := 0) dX11_dry_0 rfl ?_
  refine z_iconst hZ (pc := 1) (v := 0) dX11_dry_1 (by decide) ?_
  refine pM_2 hZ (pc := 2) fl_X11_160 dX11_dry_2 ?_
  refine z_iload_n hZ (pc := 5) dX11_dry_5 rfl ?_
  refine z_iconst hZ (pc := 6) (v := 1) dX11_dry_6 (by decide) ?_
  refine z_bipush hZ (pc := 7) (v := 99) dX11_dry_7 (by decide) ?_
  refine cS_i hZ (pc := 9) dX11_dry_9 lk_X11_163 mn_X11_isIn ms_X11_isIn (c_X11_isIn) rfl rfl (Nat.le_of_ble_eq_true rfl) (by decide) (by decide) (Nat.zero_le _) (Nat.zero_le _) ?_
  refine z_if_ne hZ (pc := 12) (tgt := 21) dX11_dry_12 rfl (fun c12 => ?_) (fun c12 => ?_)
  · skip
    refine z_iconst hZ (pc := 21) (v := 1) dX11_dry_21 (by decide) ?_
    refine z_aload_n hZ (pc := 22) dX11_dry_22 rfl ?_
    refine gM_3 hZ (pc := 23) fl_X11_40 dX11_dry_23 ?_
    refine z_iconst hZ (pc := 26) (v := 0) dX11_dry_26 (by decide) ?_
    refine lMn_3 hZ (pc := 27) (q := 0) dX11_dry_27 (by omega) ?_
    refine z_top (y := nI H) hH ?_
    refine z_ishl hZ (pc := 28) dX11_dry_28 ?_
    refine z_top (y := nI (2 ^ H)) (sh_one H (by omega)) ?_
    refine z_iconst hZ (pc := 29) (v := 1) dX11_dry_29 (by decide) ?_
    refine z_isub hZ (pc := 30) dX11_dry_30 ?_
    refine z_top (y := nI (2 ^ H - 1)) (nI_sub1 (Nat.two_pow_pos H)) ?_
    refine q_istore_n_4_2 hZ (pc := 31) dX11_dry_31 rfl ?_
    obtain ⟨hr, hhr⟩ : ∃ hr, hr = (if n = 0 then 0 else g 15 (n - 1)) - 24 * x := ⟨_, rfl⟩
    refine z_iconst hZ (pc := 32) (v := 0) dX11_dry_32 (by decide) ?_
    refine q_istore_n_4_3 hZ (pc := 33) dX11_dry_33 rfl ?_
    have lp34 : ∀ (f t : Nat), t ≤ n → n - t < f → Z 0 0 (WM r a cA s0 s1 (va_up v 2 0) g) [some (.ref r), some (.int x), some (.int (nI (wbS (g 18) (g 14) (g 15) (2 ^ H - 1) hr t))), some (.int (nI t))] [] 34 := by
      intro f
      induction f with
      | zero => intro t _ hf; exact absurd hf (Nat.not_lt_zero _)
      | succ f ih34 =>
        intro t ht hf
        refine z_iload_n hZ (pc := 34) dX11_dry_34 rfl ?_
        refine z_aload_n hZ (pc := 35) dX11_dry_35 rfl ?_
        refine gM_12 hZ (pc := 36) fl_X11_296 dX11_dry_36 ?_
        refine z_top (y := nI n) hn ?_
        refine z_icmp_ge hZ (pc := 39) (tgt := 88) dX11_dry_39 rfl (fun c39 => ?_) (fun c39 => ?_)
        · skip
          have e : t = n := lp_ge rfl (by omega) ht c39
          subst e
          refine z_iload_n hZ (pc := 88) dX11_dry_88 rfl ?_
          refine zr_i hZ (pc := 89) dX11_dry_89 FitR.int ?_
          exact ⟨by rw [show (inB x 1 99) = true from bI_ne c12]; rfl, rfl, by rw [show (inB x 1 99) = true from bI_ne c12, if_pos rfl]; rw [hhr]⟩
        · skip
          have hl : t < n := lp_lt rfl (by omega) ht c39
          refine z_aload_n hZ (pc := 42) dX11_dry_42 rfl ?_
          refine gM_18 hZ (pc := 43) fl_X11_83 dX11_dry_43 ?_
          refine z_iload_n hZ (pc := 46) dX11_dry_46 rfl ?_
          refine lMn_18 hZ (pc := 47) dX11_dry_47 (show t < 200 by omega) ?_
          refine z_if_eq hZ (pc := 48) (tgt := 82) dX11_dry_48 rfl (fun c48 => ?_) (fun c48 => ?_)
          · skip
            refine q_iinc_4_3 hZ (pc := 82) dX11_dry_82 rfl ?_
            refine z_goto hZ (pc := 85) (tgt := 34) dX11_dry_85 rfl ?_
            exact z_back hZ (ih34 (t + 1) (by omega) (by omega)) rfl ⟨rfl, rfl, zi (by rw [wbS, if_neg (fun z => z.1 c48)]), zi (nI_inc t), trivial⟩
          · skip
            refine z_aload_n hZ (pc := 51) dX11_dry_51 rfl ?_
            refine gM_15 hZ (pc := 52) fl_X11_75 dX11_dry_52 ?_
            refine z_iload_n hZ (pc := 55) dX11_dry_55 rfl ?_
            refine lMn_15 hZ (pc := 56) dX11_dry_56 (show t < 200 by omega) ?_
            refine z_aload_n hZ (pc := 57) dX11_dry_57 rfl ?_
            refine cV_i hZ (pc := 58) dX11_dry_58 lk_X11_309 mn_X11_now mv_X11_now (c_X11_now (n := n) hn h2) rc_M rfl rfl (Nat.le_of_ble_eq_true rfl) (by decide) (by decide) (Nat.zero_le _) (Nat.zero_le _) ?_
            refine z_bipush hZ (pc := 61) (v := 24) dX11_dry_61 (by decide) ?_
            refine z_iload_n hZ (pc := 63) dX11_dry_63 rfl ?_
            refine z_imul hZ (pc := 64) dX11_dry_64 ?_
            refine z_isub hZ (pc := 65) dX11_dry_65 ?_
            refine z_top hhr.symm ?_
            refine z_icmp_le hZ (pc := 66) (tgt := 82) dX11_dry_66 rfl (fun c66 => ?_) (fun c66 => ?_)
            · skip
              refine q_iinc_4_3 hZ (pc := 82) dX11_dry_82 rfl ?_
              refine z_goto hZ (pc := 85) (tgt := 34) dX11_dry_85 rfl ?_
              exact z_back hZ (ih34 (t + 1) (by omega) (by omega)) rfl ⟨rfl, rfl, zi (by rw [wbS, if_neg (fun z => Int32.not_le.mpr z.2 c66)]), zi (nI_inc t), trivial⟩
            · skip
              refine z_iload_n hZ (pc := 69) dX11_dry_69 rfl ?_
              refine z_iconst hZ (pc := 70) (v := 1) dX11_dry_70 (by decide) ?_
              refine z_aload_n hZ (pc := 71) dX11_dry_71 rfl ?_
              refine gM_14 hZ (pc := 72) fl_X11_72 dX11_dry_72 ?_
              refine z_iload_n hZ (pc := 75) dX11_dry_75 rfl ?_
              refine lMn_14 hZ (pc := 76) dX11_dry_76 (show t < 200 by omega) ?_
              obtain ⟨k, hk, ek⟩ := hfr t hl
              refine z_top ek ?_
              refine z_ishl hZ (pc := 77) dX11_dry_77 ?_
              refine z_iconst hZ (pc := 78) (v := (-1)) dX11_dry_78 (by decide) ?_
              refine z_ixor hZ (pc := 79) dX11_dry_79 ?_
              refine z_iand hZ (pc := 80) dX11_dry_80 ?_
              refine z_top (y := nI (rmB (wbS (g 18) (g 14) (g 15) (2 ^ H - 1) hr t) k)) (rm_nI (by omega)) ?_
              refine q_istore_n_4_2 hZ (pc := 81) dX11_dry_81 rfl ?_
              refine q_iinc_4_3 hZ (pc := 82) dX11_dry_82 rfl ?_
              refine z_goto hZ (pc := 85) (tgt := 34) dX11_dry_85 rfl ?_
              exact z_back hZ (ih34 (t + 1) (by omega) (by omega)) rfl ⟨rfl, rfl, zi (by rw [wbS, if_pos ⟨c48, Int32.not_le.mp c66⟩, ek, nI_clamp (by omega)]), zi (nI_inc t), trivial⟩
    exact z_back hZ (lp34 (n + 1) 0 (Nat.zero_le _) (by omega)) rfl ⟨rfl, rfl, rfl, rfl, trivial⟩
  · skip
    refine z_aload_n hZ (pc := 15) dX11_dry_15 rfl ?_
    refine z_iconst hZ (pc := 16) (v := 1) dX11_dry_16 (by decide) ?_
    refine cV_i hZ (pc := 17) dX11_dry_17 lk_X11_286 mn_X11_fail mv_X11_fail (c_X11_fail) rc_M rfl rfl (Nat.le_of_ble_eq_true rfl) (by decide) (by decide) (Nat.zero_le _) (Nat.zero_le _) ?_
    refine zr_i hZ (pc := 20) dX11_dry_20 FitR.int ?_
    exact ⟨by rw [show (inB x 1 99) = false from bI_eq.mp c12]; exact up_twice, rfl, by rw [show (inB x 1 99) = false from bI_eq.mp c12]; rfl⟩
