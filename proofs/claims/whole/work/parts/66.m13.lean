theorem carryH_or (wo co fr wh : Nat → Int32) (n : Nat) (p : Int32) {H : Nat} (h10 : H ≤ 10) (hh : Nat) : carH (carryS wo co fr wh n p H hh) = -1 ∨ ∃ x, x < 10 ∧ carH (carryS wo co fr wh n p H hh) = nI x := carG_lt (fun d => hsT_lt _ _ _ _ _ _ _ h10) _ _ _ (by omega)
theorem c_X11_round {l : Launch} {D : va_G} {cA : Nat → ClassId} {r : Nat} {a : Nat → Nat} {s0 s1 : Nat → Option Nat} {v : ZV} {g : ZG} {x : Int32} {n H q : Nat} {hh : Nat → Nat} {wk : Nat → Nat → Nat} (hn : v 12 = nI n) (h2 : n ≤ 200) (hco : ∀ t, t < n → g 18 t = 0 ∨ g 18 t = 1) (hH : g 3 0 = nI H) (h10 : H ≤ 10) (hq : v 19 = nI q) (hq4 : q ≤ 40) (hlh : ∀ k, k < q → g 22 k = nI (hh k) ∧ hh k < 2400) (hw : ∀ x y, x < 10 → y < 10 → g 6 (10 * x + y) = nI (wk x y)) (hwl : ∀ x y, wk x y ≤ 99) (hbH : rchB (fun l => carH (carryS (g 13) (g 18) (g 14) (g 15) n (g 21 l) H (hh l))) (fun l => carD (carryS (g 13) (g 18) (g 14) (g 15) n (g 21 l) H (hh l))) x q < 2 ^ H) : MG l D cA (WM r a cA s0 s1) yX11_round cX11_round 3 (some .int) 12 [(.ref r), .int x] v g (fun v2 g2 r => (∀ j, j ≠ 2 → j ≠ 38 → j ≠ 39 → j ≠ 42 → j ≠ 43 → j ≠ 44 → v2 j = v j) ∧ v2 2 = (if inB x 0 130 = true then 0 else 1) ∧ (∀ j, j ≠ 40 → j ≠ 41 → g2 j = g j) ∧ (if inB x 0 130 = true then v2 42 = nI (popc (rchB (fun l => carH (carryS (g 13) (g 18) (g 14) (g 15) n (g 21 l) H (hh l))) (fun l => carD (carryS (g 13) (g 18) (g 14) (g 15) n (g 21 l) H (hh l))) x q)) ∧ (∀ i, i < popc (rchB (fun l => carH (carryS (g 13) (g 18) (g 14) (g 15) n (g 21 l) H (hh l))) (fun l => carD (carryS (g 13) (g 18) (g 14) (g 15) n (g 21 l) H (hh l))) x q) → g2 40 i = nI (pth wk i (rchB (fun l => carH (carryS (g 13) (g 18) (g 14) (g 15) n (g 21 l) H (hh l))) (fun l => carD (carryS (g 13) (g 18) (g 14) (g 15) n (g 21 l) H (hh l))) x q) 0)) ∧ r = some (.int (nI (Bh wk (rchB (fun l => carH (carryS (g 13) (g 18) (g 14) (g 15) n (g 21 l) H (hh l))) (fun l => carD (carryS (g 13) (g 18) (g 14) (g 15) n (g 21 l) H (hh l))) x q) 0))) else v2 42 = v 42 ∧ g2 = g ∧ r = some (.int 0))) := by
  refine MG.of (by decide) rfl (Nat.le_of_ble_eq_true rfl) (by simp [Value.category]) (fun Z hZ => ?_)
  have h1024 : 2 ^ H ≤ 1024 := Nat.pow_le_pow_right (n := 2) (by omega) h10
  have hor : ∀ l, (fun l => carH (carryS (g 13) (g 18) (g 14) (g 15) n (g 21 l) H (hh l))) l = -1 ∨ ∃ x, x < 10 ∧ (fun l => carH (carryS (g 13) (g 18) (g 14) (g 15) n (g 21 l) H (hh l))) l = nI x := fun l => carryH_or _ _ _ _ _ _ h10 _
  obtain ⟨HS, hHS⟩ : ∃ F, F = (fun l => carH (carryS (g 13) (g 18) (g 14) (g 15) n (g 21 l) H (hh l))) := ⟨_, rfl⟩
  obtain ⟨DS, hDS⟩ : ∃ F, F = (fun l => carD (carryS (g 13) (g 18) (g 14) (g 15) n (g 21 l) H (hh l))) := ⟨_, rfl⟩
  rw [← hHS] at hor
  rw [← hHS, ← hDS] at hbH
  refine z_aload_n hZ (pc := 0) dX11_round_0 rfl ?_
  refine z_iconst hZ (pc := 1) (v := 0) dX11_round_1 (by decide) ?_
  refine pM_2 hZ (pc := 2) fl_X11_160 dX11_round_2 ?_
  refine z_iload_n hZ (pc := 5) dX11_round_5 rfl ?_
  refine z_iconst hZ (pc := 6) (v := 0) dX11_round_6 (by decide) ?_
  refine z_sipush hZ (pc := 7) (v := 130) dX11_round_7 (by decide) ?_
  refine cS_i hZ (pc := 10) dX11_round_10 lk_X11_163 mn_X11_isIn ms_X11_isIn (c_X11_isIn) rfl rfl (Nat.le_of_ble_eq_true rfl) (by decide) (by decide) (Nat.zero_le _) (Nat.zero_le _) ?_
  refine z_if_ne hZ (pc := 13) (tgt := 22) dX11_round_13 rfl (fun c13 => ?_) (fun c13 => ?_)
  · skip
    refine z_aload_n hZ (pc := 22) dX11_round_22 rfl ?_
    refine z_iconst hZ (pc := 23) (v := 0) dX11_round_23 (by decide) ?_
    refine pM_44 hZ (pc := 24) fl_X11_372 dX11_round_24 ?_
    refine z_iconst hZ (pc := 27) (v := 0) dX11_round_27 (by decide) ?_
    refine q_istore_n_3_2 hZ (pc := 28) dX11_round_28 rfl ?_
    have lp29 : ∀ (f l : Nat) (v1 : ZV), l ≤ q → q - l < f → (∀ j, j ≠ 2 → j ≠ 38 → j ≠ 39 → j ≠ 44 → v1 j = v j) → v1 2 = 0 → v1 44 = nI (rchB HS DS x l) → Z 0 0 (WM r a cA s0 s1 v1 g) [some (.ref r), some (.int x), some (.int (nI l))] [] 29 := by
      intro f
      induction f with
      | zero => intro l _ _ hf; exact absurd hf (Nat.not_lt_zero _)
      | succ f ih29 =>
        intro l v1 hlq hf hv1 h20 h44
        refine z_iload_n hZ (pc := 29) dX11_round_29 rfl ?_
        skip
        refine z_aload_n hZ (pc := 30) dX11_round_30 rfl ?_
        refine gM_19 hZ (pc := 31) fl_X11_299 dX11_round_31 ?_
        refine z_top (y := nI q) ((hv1 19 (by decide) (by decide) (by decide) (by decide)).trans hq) ?_
        refine z_icmp_ge hZ (pc := 34) (tgt := 78) dX11_round_34 rfl (fun c34 => ?_) (fun c34 => ?_)
        · skip
          have el : l = q := lp_ge rfl (by omega) hlq c34
          subst el
          have hpl := popc_le (rchB HS DS x l)
          refine z_aload_n hZ (pc := 78) dX11_round_78 rfl ?_
          refine z_iconst hZ (pc := 79) (v := (-1)) dX11_round_79 (by decide) ?_
          refine pM_43 hZ (pc := 80) fl_X11_365 dX11_round_80 ?_
          refine z_aload_n hZ (pc := 83) dX11_round_83 rfl ?_
          refine z_aload_n hZ (pc := 84) dX11_round_84 rfl ?_
          refine gM_44 hZ (pc := 85) fl_X11_372 dX11_round_85 ?_
          refine z_top (y := nI (rchB HS DS x l)) h44 ?_
          refine cS_i hZ (pc := 88) dX11_round_88 lk_X11_347 mn_X11_bitsOf ms_X11_bitsOf (c_X11_bitsOf (b := rchB HS DS x l) (by omega)) rfl rfl (Nat.le_of_ble_eq_true rfl) (by decide) (by decide) (Nat.zero_le _) (Nat.zero_le _) ?_
          refine pM_42 hZ (pc := 91) fl_X11_114 dX11_round_91 ?_
          refine z_aload_n hZ (pc := 94) dX11_round_94 rfl ?_
          refine z_iconst hZ (pc := 95) (v := 0) dX11_round_95 (by decide) ?_
          refine z_iconst hZ (pc := 96) (v := 0) dX11_round_96 (by decide) ?_
          refine z_aload_n hZ (pc := 97) dX11_round_97 rfl ?_
          refine gM_44 hZ (pc := 98) fl_X11_372 dX11_round_98 ?_
          refine z_top (y := nI (rchB HS DS x l)) h44 ?_
          refine z_iconst hZ (pc := 101) (v := 0) dX11_round_101 (by decide) ?_
          refine cV hZ (pc := 102) dX11_round_102 lk_X11_368 mn_X11_walkOn mv_X11_walkOn (WOn_all 11 _ g 0 0 (rchB HS DS x l) 0 H wk (by omega) ⟨hH, h10, hbH, by omega, hw, hwl, by omega, by omega⟩) rc_M rfl rfl (Nat.le_of_ble_eq_true rfl) (by decide) (by decide) (Nat.zero_le _) (Nat.zero_le _) ?_
          intro v2 g2 z hz
          obtain ⟨⟨hv2, hg2, -, hok2⟩, rfl⟩ := hz
          have hOK : v2 43 = nI (Bh wk (rchB HS DS x l) 0) ∧ ∀ i, i < popc (rchB HS DS x l) → g2 40 i = nI (pth wk i (rchB HS DS x l) 0) := by
            rcases hok2 with ⟨-, q2, -, q4⟩ | ⟨q1, -, -⟩
            · rw [Nat.zero_add] at q2
              exact ⟨q2, fun i hi => by have := q4 i hi; rw [Nat.zero_add] at this; exact this⟩
            · exact absurd (Or.inl rfl) q1
          refine z_aload_n hZ (pc := 105) dX11_round_105 rfl ?_
          refine gM_43 hZ (pc := 106) fl_X11_365 dX11_round_106 ?_
          refine zr_i hZ (pc := 109) dX11_round_109 FitR.int ?_
          exact ⟨fun j h1 h2 h3 h4 h5 h6 => (hv2 j h5).trans ((up_off h4).trans ((up_off h5).trans (hv1 j h1 h2 h3 h6))), by rw [bI_ne c13]; exact (hv2 2 (by decide)).trans h20, hg2, by rw [bI_ne c13, if_pos rfl, ← hHS, ← hDS]; exact ⟨(hv2 42 (by decide)).trans up_at, hOK.2, by rw [hOK.1]⟩⟩
        · skip
          have hl : l < q := lp_lt rfl (by omega) hlq c34
          refine z_aload_n hZ (pc := 37) dX11_round_37 rfl ?_
          refine z_iload_n hZ (pc := 38) dX11_round_38 rfl ?_
          refine cV_v hZ (pc := 39) dX11_round_39 lk_X11_362 mn_X11_carry mv_X11_carry (c_X11_carry (n := n) (H := H) (k := l) (hh := hh l) ((hv1 12 (by decide) (by decide) (by decide) (by decide)).trans hn) h2 hco hH h10 (by omega) (hlh l hl).1 (hlh l hl).2) rc_M rfl rfl (Nat.le_of_ble_eq_true rfl) (by decide) (by decide) (Nat.zero_le _) (Nat.zero_le _) ?_
          refine z_aload_n hZ (pc := 42) dX11_round_42 rfl ?_
          refine gM_39 hZ (pc := 43) fl_X11_356 dX11_round_43 ?_
          refine z_top (y := DS l) (by rw [hDS]; rfl) ?_
          refine z_iload_n hZ (pc := 46) dX11_round_46 rfl ?_
          refine z_icmp_ne hZ (pc := 47) (tgt := 72) dX11_round_47 rfl (fun c47 => ?_) (fun c47 => ?_)
          · skip
            refine q_iinc_3_2 hZ (pc := 72) dX11_round_72 rfl ?_
            refine z_goto hZ (pc := 75) (tgt := 29) dX11_round_75 rfl ?_
            exact z_back hZ (ih29 (l + 1) (va_up (va_up v1 38 (carH (carryS (g 13) (g 18) (g 14) (g 15) n (g 21 l) H (hh l)))) 39 (carD (carryS (g 13) (g 18) (g 14) (g 15) n (g 21 l) H (hh l)))) (by omega) (by omega) (fun j h1 h2 h3 h4 => (up_off h3).trans ((up_off h2).trans (hv1 j h1 h2 h3 h4))) h20 (h44.trans (congrArg nI (by rw [rchB, if_neg (fun z => c47 z.1)])))) rfl ⟨rfl, rfl, zi (nI_inc l), trivial⟩
          · skip
            refine z_aload_n hZ (pc := 50) dX11_round_50 rfl ?_
            refine gM_38 hZ (pc := 51) fl_X11_353 dX11_round_51 ?_
            refine z_top (y := HS l) (by rw [hHS]; rfl) ?_
            refine z_if_le hZ (pc := 54) (tgt := 72) dX11_round_54 rfl (fun c54 => ?_) (fun c54 => ?_)
            · skip
              refine q_iinc_3_2 hZ (pc := 72) dX11_round_72 rfl ?_
              refine z_goto hZ (pc := 75) (tgt := 29) dX11_round_75 rfl ?_
              exact z_back hZ (ih29 (l + 1) (va_up (va_up v1 38 (carH (carryS (g 13) (g 18) (g 14) (g 15) n (g 21 l) H (hh l)))) 39 (carD (carryS (g 13) (g 18) (g 14) (g 15) n (g 21 l) H (hh l)))) (by omega) (by omega) (fun j h1 h2 h3 h4 => (up_off h3).trans ((up_off h2).trans (hv1 j h1 h2 h3 h4))) h20 (h44.trans (congrArg nI (by rw [rchB, if_neg (fun z => Int32.not_le.mpr z.2 c54)])))) rfl ⟨rfl, rfl, zi (nI_inc l), trivial⟩
            · skip
              obtain ⟨h, hh10, eh⟩ : ∃ h, h < 10 ∧ HS l = nI h := by
                rcases hor l with z | z
                · exact absurd (by rw [z]; decide) c54
                · exact z
              refine z_aload_n hZ (pc := 57) dX11_round_57 rfl ?_
              refine z_dup hZ (pc := 58) dX11_round_58 rfl ?_
              refine gM_44 hZ (pc := 59) fl_X11_372 dX11_round_59 ?_
              refine z_top (y := nI (rchB HS DS x l)) h44 ?_
              refine z_iconst hZ (pc := 62) (v := 1) dX11_round_62 (by decide) ?_
              refine z_aload_n hZ (pc := 63) dX11_round_63 rfl ?_
              refine gM_38 hZ (pc := 64) fl_X11_353 dX11_round_64 ?_
              refine z_top (y := nI h) (by rw [← eh, hHS]; rfl) ?_
              refine z_ishl hZ (pc := 67) dX11_round_67 ?_
              refine z_ior hZ (pc := 68) dX11_round_68 ?_
              refine z_top (y := nI (rchB HS DS x (l + 1))) (by rw [sh_one h (by omega), bit_or, rchB, if_pos ⟨c47, Int32.not_le.mp c54⟩, eh, nI_clamp (by omega)]) ?_
              refine pM_44 hZ (pc := 69) fl_X11_372 dX11_round_69 ?_
              refine q_iinc_3_2 hZ (pc := 72) dX11_round_72 rfl ?_
              refine z_goto hZ (pc := 75) (tgt := 29) dX11_round_75 rfl ?_
              exact z_back hZ (ih29 (l + 1) (va_up (va_up (va_up v1 38 (carH (carryS (g 13) (g 18) (g 14) (g 15) n (g 21 l) H (hh l)))) 39 (carD (carryS (g 13) (g 18) (g 14) (g 15) n (g 21 l) H (hh l)))) 44 (nI (rchB HS DS x (l + 1)))) (by omega) (by omega) (fun j h1 h2 h3 h4 => (up_off h4).trans ((up_off h3).trans ((up_off h2).trans (hv1 j h1 h2 h3 h4)))) h20 rfl) rfl ⟨rfl, rfl, zi (nI_inc l), trivial⟩
    exact z_back hZ (lp29 (q + 1) 0 _ (Nat.zero_le _) (by omega) (fun j h1 h2 h3 h4 => (up_off h4).trans (up_off h1)) rfl rfl) rfl ⟨rfl, rfl, rfl, trivial⟩
  · skip
    refine z_aload_n hZ (pc := 16) dX11_round_16 rfl ?_
    refine z_iconst hZ (pc := 17) (v := 1) dX11_round_17 (by decide) ?_
    refine cV_i hZ (pc := 18) dX11_round_18 lk_X11_286 mn_X11_fail mv_X11_fail (c_X11_fail) rc_M rfl rfl (Nat.le_of_ble_eq_true rfl) (by decide) (by decide) (Nat.zero_le _) (Nat.zero_le _) ?_
    refine zr_i hZ (pc := 21) dX11_round_21 FitR.int ?_
    exact ⟨fun j h1 h2 h3 h4 h5 h6 => (up_off h1).trans (up_off h1), by rw [bI_eq.mp c13]; rfl, fun _ _ _ => rfl, by rw [bI_eq.mp c13]; exact ⟨rfl, rfl, rfl⟩⟩
