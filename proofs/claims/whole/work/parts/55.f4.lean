def sumN (f : Nat → Nat) : Nat → Nat
  | 0 => 0
  | k + 1 => sumN f k + f k
theorem sumN_le {f : Nat → Nat} {B : Nat} (h : ∀ k, f k ≤ B) : ∀ n, sumN f n ≤ B * n
  | 0 => Nat.zero_le _
  | n + 1 => by
    have h1 := sumN_le h n
    have h2 := h n
    rw [sumN, Nat.mul_succ]
    omega
theorem sumN_cong {f f' : Nat → Nat} : ∀ {n : Nat}, (∀ k, k < n → f k = f' k) → sumN f n = sumN f' n
  | 0, _ => rfl
  | n + 1, h => by rw [sumN, sumN, sumN_cong (fun k hk => h k (by omega)), h n (by omega)]
/-- at how many hours a house had a name -/
def hrsC (wo co fr wh : Nat → Int32) (n : Nat) (p : Int32) (A B : Nat) (h : Int32) : Nat := hoursN (fun q => nm2 wo (cbS co fr wh h (nI q) n)) p A (B + 1 - A)
theorem hrsC_le (wo co fr wh : Nat → Int32) (n : Nat) (p : Int32) (A B : Nat) (hB : B < 2400) (h : Int32) : hrsC wo co fr wh n p A B h ≤ 2400 := Nat.le_trans (fb_ct_le _ _) (by omega)
def willV (F : Int32 → Nat) (H : Nat) (y w : Int32) : Int32 := if w = 0 then nI (F y) else if sumN (fun k => F (nI k)) H = 0 then 0 else nI (F y * 1000 / sumN (fun k => F (nI k)) H)
theorem c_X10_will {l : Launch} {D : va_G} {cA : Nat → ClassId} {o a : Nat → Nat} {v : ZV} {g : ZG} {x y f1 t1 w : Int32} {n P H : Nat} (hn : v 9 = nI n) (h2 : n ≤ 200) (hP : v 16 = nI P) (hP6 : P ≤ 16) (hH : v 15 = nI H) (h10 : H ≤ 10) (hfr : ∀ t, t < n → ∃ k, k < 10 ∧ T5 g 1 t = nI k) (hso : SortT (T5 g 2) n) (hwN : ∀ t, t < n → ∃ q, q < 2400 ∧ T5 g 2 t = nI q) : MF l D cA o a yX10_will cX10_will 9 (some .int) 8 6 36 [(.ref (o 0)), .int x, .int y, .int f1, .int t1, .int w] v g (fun v2 g2 r => v2 = v ∧ g2 = g ∧ (inI x P && inI y H && inI f1 2400 && inI t1 2400 && inI w 2) = true ∧ f1 ≤ t1 ∧ r = some (.int (willV (hrsC (T5 g 0) (T5 g 5) (T5 g 1) (T5 g 2) n x f1.toNatClampNeg t1.toNatClampNeg) H y w))) (fun En => (En = sNSE ∧ (inI x P && inI y H && inI f1 2400 && inI t1 2400 && inI w 2) = false) ∨ (En = sIAE ∧ (inI x P && inI y H && inI f1 2400 && inI t1 2400 && inI w 2) = true ∧ t1 < f1)) := by
  refine MF.of (by decide) rfl (Nat.le_of_ble_eq_true rfl) (by simp [Value.category]) (fun Z hX => ?_)
  have hZ := hX.toZR
  refine z_aload_n hZ (pc := 0) dX10_will_0 rfl ?_
  refine z_iload_n hZ (pc := 1) dX10_will_1 rfl ?_
  refine cVX hX (pc := 2) (mc' := 1) (ms' := 6) dX10_will_2 (List.mem_of_getElem? (i := 831) (by decide +kernel)) mn_X10_needPerson mv_X10_needPerson (c_X10_needPerson hP hP6) rc_0 rfl rfl (Nat.le_of_ble_eq_true rfl) (by decide) (by decide) (by decide) (by decide) (fun En h => Or.inl ⟨h.1, by simp [h.2]⟩) (fun v2 g2 r h => ?_)
  obtain ⟨e1, e2, rfl, hi1⟩ := h
  subst v2
  subst g2
  refine z_aload_n hZ (pc := 5) dX10_will_5 rfl ?_
  refine z_iload_n hZ (pc := 6) dX10_will_6 rfl ?_
  refine cVX hX (pc := 7) (mc' := 1) (ms' := 6) dX10_will_7 (List.mem_of_getElem? (i := 843) (by decide +kernel)) mn_X10_needHouse mv_X10_needHouse (c_X10_needHouse hH h10) rc_0 rfl rfl (Nat.le_of_ble_eq_true rfl) (by decide) (by decide) (by decide) (by decide) (fun En h => Or.inl ⟨h.1, by simp [h.2]⟩) (fun v2 g2 r h => ?_)
  obtain ⟨e1, e2, rfl, hi2⟩ := h
  subst v2
  subst g2
  refine z_iload_n hZ (pc := 10) dX10_will_10 rfl ?_
  refine cSX hX (pc := 11) (mc' := 1) (ms' := 6) dX10_will_11 (List.mem_of_getElem? (i := 911) (by decide +kernel)) mn_X10_needHour ms_X10_needHour (c_X10_needHour) rfl rfl (Nat.le_of_ble_eq_true rfl) (by decide) (by decide) (by decide) (by decide) (fun En h => Or.inl ⟨h.1, by simp [h.2]⟩) (fun v2 g2 r h => ?_)
  obtain ⟨e1, e2, rfl, hi3⟩ := h
  subst v2
  subst g2
  refine z_iload hZ (pc := 14) dX10_will_14 rfl ?_
  refine cSX hX (pc := 16) (mc' := 1) (ms' := 6) dX10_will_16 (List.mem_of_getElem? (i := 911) (by decide +kernel)) mn_X10_needHour ms_X10_needHour (c_X10_needHour) rfl rfl (Nat.le_of_ble_eq_true rfl) (by decide) (by decide) (by decide) (by decide) (fun En h => Or.inl ⟨h.1, by simp [h.2]⟩) (fun v2 g2 r h => ?_)
  obtain ⟨e1, e2, rfl, hi4⟩ := h
  subst v2
  subst g2
  refine z_iload hZ (pc := 19) dX10_will_19 rfl ?_
  refine z_iconst hZ (pc := 21) (v := 2) dX10_will_21 (by decide) ?_
  refine cSX hX (pc := 22) (mc' := 1) (ms' := 6) dX10_will_22 (List.mem_of_getElem? (i := 804) (by decide +kernel)) mn_X10_needWhat ms_X10_needWhat (c_X10_needWhat (n := 2) (by omega)) rfl rfl (Nat.le_of_ble_eq_true rfl) (by decide) (by decide) (by decide) (by decide) (fun En h => Or.inl ⟨h.1, by simp [h.2]⟩) (fun v2 g2 r h => ?_)
  obtain ⟨e1, e2, rfl, hi5⟩ := h
  subst v2
  subst g2
  have hok : (inI x P && inI y H && inI f1 2400 && inI t1 2400 && inI w 2) = true := by rw [hi1, hi2, hi3, hi4, hi5]; rfl
  obtain ⟨A, hA, rfl⟩ := inI_t hi3 (by omega)
  obtain ⟨B, hB, rfl⟩ := inI_t hi4 (by omega)
  refine z_iload_n hZ (pc := 25) dX10_will_25 rfl ?_
  refine z_iload hZ (pc := 26) dX10_will_26 rfl ?_
  refine z_icmp_le hZ (pc := 28) (tgt := 42) dX10_will_28 rfl (fun c28 => ?_) (fun c28 => ?_)
  · skip
    have hAB : A ≤ B := (nI_leI (by omega) (by omega)).mp c28
    obtain ⟨F, hF⟩ : ∃ F, F = (hrsC (T5 g 0) (T5 g 5) (T5 g 1) (T5 g 2) n x A B) := ⟨_, rfl⟩
    have hFl : ∀ h, F h ≤ 2400 := fun h => by rw [hF]; exact hrsC_le _ _ _ _ _ _ _ _ hB h
    have hsl := sumN_le (f := fun k => F (nI k)) (fun k => hFl (nI k))
    have hFy := hFl y
    refine z_aload_n hZ (pc := 42) dX10_will_42 rfl ?_
    refine gC_0_1 hZ (pc := 43) fl_X10_19 dX10_will_43 ?_
    refine z_iload_n hZ (pc := 46) dX10_will_46 rfl ?_
    refine z_iload_n hZ (pc := 47) dX10_will_47 rfl ?_
    refine z_iload_n hZ (pc := 48) dX10_will_48 rfl ?_
    refine z_iload hZ (pc := 49) dX10_will_49 rfl ?_
    refine cV_i hZ (pc := 51) dX10_will_51 lk_X10_295 mn_X6_hoursCalled mv_X6_hoursCalled (c_X6_hoursCalled (h := y) (p := x) hn h2 hso hwN hAB hB) rc_3 rfl rfl (Nat.le_of_ble_eq_true rfl) (by decide) (by decide) (by decide) (by decide) ?_
    refine z_top (y := nI (F y)) (by rw [hF]; rfl) ?_
    refine q_istore_9_6 hZ (pc := 54) dX10_will_54 rfl ?_
    refine z_iload hZ (pc := 56) dX10_will_56 rfl ?_
    refine z_if_ne hZ (pc := 58) (tgt := 64) dX10_will_58 rfl (fun c58 => ?_) (fun c58 => ?_)
    · skip
      refine z_iconst hZ (pc := 64) (v := 0) dX10_will_64 (by decide) ?_
      refine q_istore_9_7 hZ (pc := 65) dX10_will_65 rfl ?_
      refine z_iconst hZ (pc := 67) (v := 0) dX10_will_67 (by decide) ?_
      refine q_istore_9_8 hZ (pc := 68) dX10_will_68 rfl ?_
      have lp70 : ∀ (f i : Nat), i ≤ H → H - i < f → Z 5 30 (WC o a cA v g) [some (.ref (o 0)), some (.int x), some (.int y), some (.int (nI A)), some (.int (nI B)), some (.int w), some (.int (nI (F y))), some (.int (nI (sumN (fun k => F (nI k)) i))), some (.int (nI i))] [] 70 := by
        intro f
        induction f with
        | zero => intro i _ hf; exact absurd hf (Nat.not_lt_zero _)
        | succ f ih70 =>
          intro i hi hf
          refine z_iload hZ (pc := 70) dX10_will_70 rfl ?_
          refine z_aload_n hZ (pc := 72) dX10_will_72 rfl ?_
          refine gC_0_10 hZ (pc := 73) fl_X10_75 dX10_will_73 ?_
          refine gC_5_0 hZ (pc := 76) fl_X10_128 dX10_will_76 ?_
          refine z_top hH ?_
          refine z_icmp_ge hZ (pc := 79) (tgt := 106) dX10_will_79 rfl (fun c79 => ?_) (fun c79 => ?_)
          · skip
            have ei : i = H := lp_ge rfl (by omega) hi c79
            subst ei
            have hsl2 := hsl i
            refine z_iload hZ (pc := 106) dX10_will_106 rfl ?_
            refine z_if_ne hZ (pc := 108) (tgt := 115) dX10_will_108 rfl (fun c108 => ?_) (fun c108 => ?_)
            · skip
              have hs0 : sumN (fun k => F (nI k)) i ≠ 0 := fun q => c108 (by rw [q]; rfl)
              refine z_iload hZ (pc := 115) dX10_will_115 rfl ?_
              refine z_sipush hZ (pc := 117) (v := 1000) dX10_will_117 (by decide) ?_
              refine z_imul hZ (pc := 120) dX10_will_120 ?_
              refine z_iload hZ (pc := 121) dX10_will_121 rfl ?_
              refine z_idiv hZ (pc := 123) dX10_will_123 (nI_ne0 (by omega) (by omega)) ?_
              refine z_top (y := nI (F y * 1000 / sumN (fun k => F (nI k)) i)) (by rw [show (1000 : Int32) = nI 1000 from rfl, pk_mul]; exact pk_div (by omega) (by omega) (by omega)) ?_
              refine zx_i hZ (pc := 124) (by decide) (by decide) dX10_will_124 FitR.int ?_
              exact ⟨rfl, rfl, hok, c28, by rw [nI_clamp (by omega), nI_clamp (by omega), ← hF, willV, if_neg c58, if_neg hs0]⟩
            · skip
              refine z_iconst hZ (pc := 111) (v := 0) dX10_will_111 (by decide) ?_
              refine z_goto hZ (pc := 112) (tgt := 124) dX10_will_112 rfl ?_
              have hs0 : sumN (fun k => F (nI k)) i = 0 := by
                rcases Nat.eq_zero_or_pos (sumN (fun k => F (nI k)) i) with q | q
                · exact q
                · exact absurd c108 (nI_ne0 q (by omega))
              refine zx_i hZ (pc := 124) (by decide) (by decide) dX10_will_124 FitR.int ?_
              exact ⟨rfl, rfl, hok, c28, by rw [nI_clamp (by omega), nI_clamp (by omega), ← hF, willV, if_neg c58, if_pos hs0]⟩
          · skip
            have hl70 : i < H := lp_lt rfl (by omega) hi c79
            refine z_iload hZ (pc := 82) dX10_will_82 rfl ?_
            refine z_aload_n hZ (pc := 84) dX10_will_84 rfl ?_
            refine gC_0_1 hZ (pc := 85) fl_X10_19 dX10_will_85 ?_
            refine z_iload hZ (pc := 88) dX10_will_88 rfl ?_
            refine z_iload_n hZ (pc := 90) dX10_will_90 rfl ?_
            refine z_iload_n hZ (pc := 91) dX10_will_91 rfl ?_
            refine z_iload hZ (pc := 92) dX10_will_92 rfl ?_
            refine cV_i hZ (pc := 94) dX10_will_94 lk_X10_295 mn_X6_hoursCalled mv_X6_hoursCalled (c_X6_hoursCalled (h := nI i) (p := x) hn h2 hso hwN hAB hB) rc_3 rfl rfl (Nat.le_of_ble_eq_true rfl) (by decide) (by decide) (by decide) (by decide) ?_
            refine z_top (y := nI (F (nI i))) (by rw [hF]; rfl) ?_
            refine z_iadd hZ (pc := 97) dX10_will_97 ?_
            refine z_top (y := nI (sumN (fun k => F (nI k)) (i + 1))) (nI_add _ _) ?_
            refine q_istore_9_7 hZ (pc := 98) dX10_will_98 rfl ?_
            refine q_iinc_9_8 hZ (pc := 100) dX10_will_100 rfl ?_
            refine z_goto hZ (pc := 103) (tgt := 70) dX10_will_103 rfl ?_
            exact z_back hZ (ih70 (i + 1) (by omega) (by omega)) rfl ⟨rfl, rfl, rfl, rfl, rfl, rfl, rfl, rfl, zi (nI_inc i), trivial⟩
      exact z_back hZ (lp70 (H + 1) 0 (Nat.zero_le _) (by omega)) rfl ⟨rfl, rfl, rfl, rfl, rfl, rfl, rfl, rfl, rfl, trivial⟩
    · skip
      refine z_iload hZ (pc := 61) dX10_will_61 rfl ?_
      refine zx_i hZ (pc := 63) (by decide) (by decide) dX10_will_63 FitR.int ?_
      exact ⟨rfl, rfl, hok, c28, by rw [nI_clamp (by omega), nI_clamp (by omega), ← hF, willV, if_pos c58]⟩
  · skip
    exact z_iae hX (pc := 31) (n := 3) txm_293 dX10_will_31 dX10_will_34 (Or.inr ⟨rfl, dX10_will_35⟩) dX10_will_38 dX10_will_41 (by decide) (Nat.le_of_ble_eq_true rfl) (by decide) (by decide) ⟨rfl, Or.inr ⟨rfl, hok, Int32.not_le.mp c28⟩⟩
theorem c_X10_dry {l : Launch} {D : va_G} {cA : Nat → ClassId} {o a : Nat → Nat} {v : ZV} {g : ZG} {x : Int32} {n H : Nat} (hn : v 9 = nI n) (h2 : n ≤ 200) (hH : v 15 = nI H) (h10 : H ≤ 10) (hfr : ∀ t, t < n → ∃ k, k < 10 ∧ T5 g 1 t = nI k) : MF l D cA o a yX10_dry cX10_dry 2 (some .int) 8 1 6 [(.ref (o 0)), .int x] v g (fun v2 g2 r => v2 = v ∧ g2 = g ∧ inB x 1 99 = true ∧ r = some (.int (nI ((2 ^ H - 1) ^^^ ((2 ^ H - 1) &&& weptB (T5 g 5) (T5 g 1) (T5 g 2) ((if n = 0 then 0 else T5 g 2 (n - 1)) - 24 * x) n))))) (fun En => En = sIAE ∧ inB x 1 99 = false) := by
  refine MF.of (by decide) rfl (Nat.le_of_ble_eq_true rfl) (by simp [Value.category]) (fun Z hX => ?_)
  have hZ := hX.toZR
  refine z_iload_n hZ (pc := 0) dX10_dry_0 rfl ?_
  refine z_iconst hZ (pc := 1) (v := 1) dX10_dry_1 (by decide) ?_
  refine z_icmp_lt hZ (pc := 2) (tgt := 11) dX10_dry_2 rfl (fun c2 => ?_) (fun c2 => ?_)
  · skip
    exact z_iae hX (pc := 11) (n := 3) (txm_310) dX10_dry_11 dX10_dry_14 (Or.inr ⟨rfl, dX10_dry_15⟩) dX10_dry_18 dX10_dry_21 (by decide) (Nat.le_of_ble_eq_true rfl) (by decide) (by decide) ⟨rfl, rfl, by simp [inB, Int32.not_le.mpr c2]⟩
  · skip
    refine z_iload_n hZ (pc := 5) dX10_dry_5 rfl ?_
    refine z_bipush hZ (pc := 6) (v := 99) dX10_dry_6 (by decide) ?_
    refine z_icmp_le hZ (pc := 8) (tgt := 22) dX10_dry_8 rfl (fun c8 => ?_) (fun c8 => ?_)
    · skip
      have hok : inB x 1 99 = true := by simp [inB, Int32.not_lt.mp c2, c8]
      refine z_iconst hZ (pc := 22) (v := 1) dX10_dry_22 (by decide) ?_
      refine z_aload_n hZ (pc := 23) dX10_dry_23 rfl ?_
      refine gC_0_10 hZ (pc := 24) fl_X10_75 dX10_dry_24 ?_
      refine gC_5_0 hZ (pc := 27) fl_X10_128 dX10_dry_27 ?_
      refine z_top hH ?_
      refine z_ishl hZ (pc := 30) dX10_dry_30 ?_
      refine z_top (y := nI (2 ^ H)) (sh_one H (by omega)) ?_
      refine z_iconst hZ (pc := 31) (v := 1) dX10_dry_31 (by decide) ?_
      refine z_isub hZ (pc := 32) dX10_dry_32 ?_
      refine z_top (y := nI (2 ^ H - 1)) (nI_sub1 (Nat.two_pow_pos H)) ?_
      refine z_aload_n hZ (pc := 33) dX10_dry_33 rfl ?_
      refine gC_0_1 hZ (pc := 34) fl_X10_19 dX10_dry_34 ?_
      refine z_aload_n hZ (pc := 37) dX10_dry_37 rfl ?_
      refine gC_0_1 hZ (pc := 38) fl_X10_19 dX10_dry_38 ?_
      refine cV_i hZ (pc := 41) dX10_dry_41 lk_X10_149 mn_X6_nowHour mv_X6_nowHour (c_X6_nowHour hn h2) rc_3 rfl rfl (Nat.le_of_ble_eq_true rfl) (by decide) (by decide) (by decide) (by decide) ?_
      refine z_bipush hZ (pc := 44) (v := 24) dX10_dry_44 (by decide) ?_
      refine z_iload_n hZ (pc := 46) dX10_dry_46 rfl ?_
      refine z_imul hZ (pc := 47) dX10_dry_47 ?_
      refine z_isub hZ (pc := 48) dX10_dry_48 ?_
      refine cV_i hZ (pc := 49) dX10_dry_49 lk_X10_312 mn_X6_weptBehind mv_X6_weptBehind (c_X6_weptBehind hn h2 hfr) rc_3 rfl rfl (Nat.le_of_ble_eq_true rfl) (by decide) (by decide) (by decide) (by decide) ?_
      refine z_iconst hZ (pc := 52) (v := (-1)) dX10_dry_52 (by decide) ?_
      refine z_ixor hZ (pc := 53) dX10_dry_53 ?_
      refine z_iand hZ (pc := 54) dX10_dry_54 ?_
      refine z_top (y := nI ((2 ^ H - 1) ^^^ ((2 ^ H - 1) &&& weptB (T5 g 5) (T5 g 1) (T5 g 2) ((if n = 0 then 0 else T5 g 2 (n - 1)) - 24 * x) n))) (by rw [i32_rest2, fa_and, fa_xor]) ?_
      refine zx_i hZ (pc := 55) (by decide) (by decide) dX10_dry_55 FitR.int ?_
      exact ⟨rfl, rfl, hok, rfl⟩
    · skip
      exact z_iae hX (pc := 11) (n := 3) (txm_310) dX10_dry_11 dX10_dry_14 (Or.inr ⟨rfl, dX10_dry_15⟩) dX10_dry_18 dX10_dry_21 (by decide) (Nat.le_of_ble_eq_true rfl) (by decide) (by decide) ⟨rfl, rfl, by simp [inB, c8]⟩
theorem tell_T5 {g g2 : ZG} {n : Nat} {x0 x1 x2 x3 x4 x5 : Int32} (h : g2 5 = upd (upd (upd (upd (upd (upd (g 5) (6 * n) x0) (6 * n + 1) x1) (6 * n + 2) x2) (6 * n + 3) x3) (6 * n + 4) x4) (6 * n + 5) x5) : (∀ j t, j < 6 → t ≠ n → T5 g2 j t = T5 g j t) ∧ T5 g2 0 n = x0 ∧ T5 g2 1 n = x1 ∧ T5 g2 2 n = x2 ∧ T5 g2 3 n = x3 ∧ T5 g2 4 n = x4 ∧ T5 g2 5 n = x5 := by
  unfold T5
  rw [h]
  refine ⟨fun j t hj ht => ?_, ?_, ?_, ?_, ?_, ?_, ?_⟩
  · rw [upd_off (by omega), upd_off (by omega), upd_off (by omega), upd_off (by omega), upd_off (by omega), upd_off (by omega)]
  · rw [upd_off (by omega), upd_off (by omega), upd_off (by omega), upd_off (by omega), upd_off (by omega)]; exact upd_at
  · rw [upd_off (by omega), upd_off (by omega), upd_off (by omega), upd_off (by omega), upd_at]
  · rw [upd_off (by omega), upd_off (by omega), upd_off (by omega), upd_at]
  · rw [upd_off (by omega), upd_off (by omega), upd_at]
  · rw [upd_off (by omega), upd_at]
  · rw [upd_at]
abbrev v0s : Nat → Int32 := fun _ => 0
theorem c_X10_weep {l : Launch} {D : va_G} {cA : Nat → ClassId} {o a : Nat → Nat} {v : ZV} {g : ZG} {x hr gr : Int32} {n P R A : Nat} {ops : Nat → Nat → Int32} {m : Nat → Nat} (hn : v 9 = nI n) (h2 : n ≤ 200) (hP : v 16 = nI P) (hP6 : P ≤ 16) (hX9 : ExC v g R A ops m) : MF l D cA o a yX10_weep cX10_weep 6 (some .int) 8 1 6 [(.ref (o 0)), .int x, .int hr, .int gr] v g (fun v2 g2 r => inI x P = true ∧ (if (n < 200 ∧ ¬ hr < (if n = 0 then 0 else T5 g 2 (n - 1)) ∧ hr ≤ 2399 ∧ ¬ gr < 0 ∧ gr ≤ 9) then v2 = va_up v 9 (nI (n + 1)) ∧ (∀ j, j ≠ 0 → j ≠ 5 → j ≠ 24 → g2 j = g j) ∧ (∀ j t, j < 6 → t ≠ n → T5 g2 j t = T5 g j t) ∧ T5 g2 0 n = x ∧ T5 g2 1 n = g 9 x.toNatClampNeg ∧ T5 g2 2 n = hr ∧ T5 g2 3 n = gr ∧ T5 g2 4 n = nI (fb_ct (onP (T5 g 1) (T5 g 2) (g 9 x.toNatClampNeg) (hr / 24)) n) ∧ T5 g2 5 n = bI (allB (holdE (vals7 (g 9 x.toNatClampNeg) x gr (g 19 x.toNatClampNeg) (hr / 24) (hr - hr / 24 * 24) (nI (fb_ct (onP (T5 g 1) (T5 g 2) (g 9 x.toNatClampNeg) (hr / 24)) n)) v0s) ops m) R) ∧ r = some (.int (nI (n + 1))) else v2 = v ∧ g2 = va_up g 10 (upd (g 10) 1 (g 10 1 + 1)) ∧ r = some (.int (-1)))) (fun En => En = sNSE ∧ inI x P = false) := by
  refine MF.of (by decide) rfl (Nat.le_of_ble_eq_true rfl) (by simp [Value.category]) (fun Z hX => ?_)
  have hZ := hX.toZR
  refine z_aload_n hZ (pc := 0) dX10_weep_0 rfl ?_
  refine z_iload_n hZ (pc := 1) dX10_weep_1 rfl ?_
  refine cVX hX (pc := 2) (mc' := 1) (ms' := 6) dX10_weep_2 (List.mem_of_getElem? (i := 831) (by decide +kernel)) mn_X10_needPerson mv_X10_needPerson (c_X10_needPerson hP hP6) rc_0 rfl rfl (Nat.le_of_ble_eq_true rfl) (by decide) (by decide) (by decide) (by decide) (fun En h => h) (fun v2 g2 r h => ?_)
  obtain ⟨e1, e2, rfl, hi⟩ := h
  subst v2
  subst g2
  refine z_aload_n hZ (pc := 5) dX10_weep_5 rfl ?_
  refine gC_0_1 hZ (pc := 6) fl_X10_19 dX10_weep_6 ?_
  refine gC_3_0 hZ (pc := 9) fl_X10_140 dX10_weep_9 ?_
  refine z_sipush hZ (pc := 12) (v := 200) dX10_weep_12 (by decide) ?_
  refine z_top (y := 200) rfl ?_
  refine z_icmp_ge hZ (pc := 15) (tgt := 46) dX10_weep_15 rfl (fun c15 => ?_) (fun c15 => ?_)
  · skip
    refine z_aload_n hZ (pc := 46) dX10_weep_46 rfl ?_
    refine gC_0_1 hZ (pc := 47) fl_X10_19 dX10_weep_47 ?_
    refine z_iconst hZ (pc := 50) (v := 1) dX10_weep_50 (by decide) ?_
    refine cV_v hZ (pc := 51) dX10_weep_51 lk_X10_115 mn_X6_countRefused mv_X6_countRefused (c_X6_countRefused (w := 1) (by decide)) rc_3 rfl rfl (Nat.le_of_ble_eq_true rfl) (by decide) (by decide) (by decide) (by decide) ?_
    refine z_iconst hZ (pc := 54) (v := (-1)) dX10_weep_54 (by decide) ?_
    refine zx_i hZ (pc := 55) (by decide) (by decide) dX10_weep_55 FitR.int ?_
    exact ⟨hi, by rw [if_neg (fun q => absurd (show (200 : Int32) ≤ v 9 from c15) (by rw [hn]; exact fun z => by have := (nI_leI (a := 200) (b := n) (by omega) (by omega)).mp z; omega))]; exact ⟨rfl, rfl, rfl⟩⟩
  · skip
    refine z_iload_n hZ (pc := 18) dX10_weep_18 rfl ?_
    refine z_aload_n hZ (pc := 19) dX10_weep_19 rfl ?_
    refine gC_0_1 hZ (pc := 20) fl_X10_19 dX10_weep_20 ?_
    refine cV_i hZ (pc := 23) dX10_weep_23 lk_X10_149 mn_X6_nowHour mv_X6_nowHour (c_X6_nowHour hn h2) rc_3 rfl rfl (Nat.le_of_ble_eq_true rfl) (by decide) (by decide) (by decide) (by decide) ?_
    refine z_icmp_lt hZ (pc := 26) (tgt := 46) dX10_weep_26 rfl (fun c26 => ?_) (fun c26 => ?_)
    · skip
      refine z_aload_n hZ (pc := 46) dX10_weep_46 rfl ?_
      refine gC_0_1 hZ (pc := 47) fl_X10_19 dX10_weep_47 ?_
      refine z_iconst hZ (pc := 50) (v := 1) dX10_weep_50 (by decide) ?_
      refine cV_v hZ (pc := 51) dX10_weep_51 lk_X10_115 mn_X6_countRefused mv_X6_countRefused (c_X6_countRefused (w := 1) (by decide)) rc_3 rfl rfl (Nat.le_of_ble_eq_true rfl) (by decide) (by decide) (by decide) (by decide) ?_
      refine z_iconst hZ (pc := 54) (v := (-1)) dX10_weep_54 (by decide) ?_
      refine zx_i hZ (pc := 55) (by decide) (by decide) dX10_weep_55 FitR.int ?_
      exact ⟨hi, by rw [if_neg (fun q => q.2.1 c26)]; exact ⟨rfl, rfl, rfl⟩⟩
    · skip
      refine z_iload_n hZ (pc := 29) dX10_weep_29 rfl ?_
      refine z_sipush hZ (pc := 30) (v := 2399) dX10_weep_30 (by decide) ?_
      refine z_icmp_gt hZ (pc := 33) (tgt := 46) dX10_weep_33 rfl (fun c33 => ?_) (fun c33 => ?_)
      · skip
        refine z_aload_n hZ (pc := 46) dX10_weep_46 rfl ?_
        refine gC_0_1 hZ (pc := 47) fl_X10_19 dX10_weep_47 ?_
        refine z_iconst hZ (pc := 50) (v := 1) dX10_weep_50 (by decide) ?_
        refine cV_v hZ (pc := 51) dX10_weep_51 lk_X10_115 mn_X6_countRefused mv_X6_countRefused (c_X6_countRefused (w := 1) (by decide)) rc_3 rfl rfl (Nat.le_of_ble_eq_true rfl) (by decide) (by decide) (by decide) (by decide) ?_
        refine z_iconst hZ (pc := 54) (v := (-1)) dX10_weep_54 (by decide) ?_
        refine zx_i hZ (pc := 55) (by decide) (by decide) dX10_weep_55 FitR.int ?_
        exact ⟨hi, by rw [if_neg (fun q => Int32.not_lt.mpr q.2.2.1 c33)]; exact ⟨rfl, rfl, rfl⟩⟩
      · skip
        refine z_iload_n hZ (pc := 36) dX10_weep_36 rfl ?_
        refine z_if_lt hZ (pc := 37) (tgt := 46) dX10_weep_37 rfl (fun c37 => ?_) (fun c37 => ?_)
        · skip
          refine z_aload_n hZ (pc := 46) dX10_weep_46 rfl ?_
          refine gC_0_1 hZ (pc := 47) fl_X10_19 dX10_weep_47 ?_
          refine z_iconst hZ (pc := 50) (v := 1) dX10_weep_50 (by decide) ?_
          refine cV_v hZ (pc := 51) dX10_weep_51 lk_X10_115 mn_X6_countRefused mv_X6_countRefused (c_X6_countRefused (w := 1) (by decide)) rc_3 rfl rfl (Nat.le_of_ble_eq_true rfl) (by decide) (by decide) (by decide) (by decide) ?_
          refine z_iconst hZ (pc := 54) (v := (-1)) dX10_weep_54 (by decide) ?_
          refine zx_i hZ (pc := 55) (by decide) (by decide) dX10_weep_55 FitR.int ?_
          exact ⟨hi, by rw [if_neg (fun q => q.2.2.2.1 c37)]; exact ⟨rfl, rfl, rfl⟩⟩
        · skip
          refine z_iload_n hZ (pc := 40) dX10_weep_40 rfl ?_
          refine z_bipush hZ (pc := 41) (v := 9) dX10_weep_41 (by decide) ?_
          refine z_icmp_le hZ (pc := 43) (tgt := 56) dX10_weep_43 rfl (fun c43 => ?_) (fun c43 => ?_)
          · skip
            have hok : (n < 200 ∧ ¬ hr < (if n = 0 then 0 else T5 g 2 (n - 1)) ∧ hr ≤ 2399 ∧ ¬ gr < 0 ∧ gr ≤ 9) := ⟨by
              rcases Nat.lt_or_ge n 200 with q | q
              · exact q
              · exact absurd (show (200 : Int32) ≤ v 9 by rw [hn]; exact nI_le (a := 200) q (by omega)) c15, c26, Int32.not_lt.mp c33, c37, c43⟩
            obtain ⟨k, hk, rfl⟩ := inI_t hi (by omega)
            refine z_aload_n hZ (pc := 56) dX10_weep_56 rfl ?_
            refine gC_0_1 hZ (pc := 57) fl_X10_19 dX10_weep_57 ?_
            refine gC_3_7 hZ (pc := 60) fl_X10_166 dX10_weep_60 ?_
            refine z_iload_n hZ (pc := 63) dX10_weep_63 rfl ?_
            refine cS_i hZ (pc := 64) dX10_weep_64 lk_X10_159 mn_X10_at ms_X10_at (c_X10_atn (j := 9) (n := k) (by decide) (by show k < 16; omega)) rfl rfl (Nat.le_of_ble_eq_true rfl) (by decide) (by decide) (by decide) (by decide) ?_
            refine q_istore_6_4 hZ (pc := 67) dX10_weep_67 rfl ?_
            refine z_aload_n hZ (pc := 69) dX10_weep_69 rfl ?_
            refine gC_0_1 hZ (pc := 70) fl_X10_19 dX10_weep_70 ?_
            refine z_iload hZ (pc := 73) dX10_weep_73 rfl ?_
            refine z_iload_n hZ (pc := 75) dX10_weep_75 rfl ?_
            refine z_bipush hZ (pc := 76) (v := 24) dX10_weep_76 (by decide) ?_
            refine z_idiv hZ (pc := 78) dX10_weep_78 (by decide) ?_
            refine cV_i hZ (pc := 79) dX10_weep_79 lk_X10_186 mn_X6_tearsOn mv_X6_tearsOn (c_X6_tearsOn hn h2) rc_3 rfl rfl (Nat.le_of_ble_eq_true rfl) (by decide) (by decide) (by decide) (by decide) ?_
            refine q_istore_6_5 hZ (pc := 82) dX10_weep_82 rfl ?_
            refine z_aload_n hZ (pc := 84) dX10_weep_84 rfl ?_
            refine z_iload hZ (pc := 85) dX10_weep_85 rfl ?_
            refine z_iload_n hZ (pc := 87) dX10_weep_87 rfl ?_
            refine z_iload_n hZ (pc := 88) dX10_weep_88 rfl ?_
            refine z_aload_n hZ (pc := 89) dX10_weep_89 rfl ?_
            refine gC_0_10 hZ (pc := 90) fl_X10_75 dX10_weep_90 ?_
            refine gC_5_7 hZ (pc := 93) fl_X10_172 dX10_weep_93 ?_
            refine z_iload_n hZ (pc := 96) dX10_weep_96 rfl ?_
            refine cS_i hZ (pc := 97) dX10_weep_97 lk_X10_159 mn_X10_at ms_X10_at (c_X10_atn (j := 19) (n := k) (by decide) (by show k < 16; omega)) rfl rfl (Nat.le_of_ble_eq_true rfl) (by decide) (by decide) (by decide) (by decide) ?_
            refine z_iload_n hZ (pc := 100) dX10_weep_100 rfl ?_
            refine z_iload hZ (pc := 101) dX10_weep_101 rfl ?_
            refine cV_v hZ (pc := 103) dX10_weep_103 lk_X10_189 mn_X10_setValues mv_X10_setValues (c_X10_setValues) rc_0 rfl rfl (Nat.le_of_ble_eq_true rfl) (by decide) (by decide) (by decide) (by decide) ?_
            refine z_aload_n hZ (pc := 106) dX10_weep_106 rfl ?_
            refine gC_0_1 hZ (pc := 107) fl_X10_19 dX10_weep_107 ?_
            refine z_aload_n hZ (pc := 110) dX10_weep_110 rfl ?_
            refine gC_0_9 hZ (pc := 111) fl_X10_68 dX10_weep_111 ?_
            refine z_iload_n hZ (pc := 114) dX10_weep_114 rfl ?_
            refine z_aload_n hZ (pc := 115) dX10_weep_115 rfl ?_
            refine gC_0_10 hZ (pc := 116) fl_X10_75 dX10_weep_116 ?_
            refine z_aload_n hZ (pc := 119) dX10_weep_119 rfl ?_
            refine gC_0_9 hZ (pc := 120) fl_X10_68 dX10_weep_120 ?_
            refine cV hZ (pc := 123) dX10_weep_123 lk_X10_193 mn_X0_rulesHold mv_X0_rulesHold (c_X0_rulesHold (R := R) (A := A) (ops := ops) (m := m) (ExC_mv hX9 rfl rfl rfl rfl rfl rfl)) rc_5 rfl rfl (Nat.le_of_ble_eq_true rfl) (by decide) (by decide) (by decide) (by decide) ?_
            intro v2 g2 r h
            obtain ⟨e1, hg2, rfl⟩ := h
            subst v2
            refine cV_v hZ (pc := 126) dX10_weep_126 lk_X10_197 mn_X6_tell mv_X6_tell (c_X6_tell (n := n) (b := allB (holdE (va_up g 0 (vals7 (g 9 k) (nI k) gr (g 19 k) (hr / 24) (hr - hr / 24 * 24) (nI (fb_ct (onP (T5 g 1) (T5 g 2) (g 9 k) (hr / 24)) n)) (g 0)) 0) ops m) R) hn hok.1) rc_3 rfl rfl (Nat.le_of_ble_eq_true rfl) (by decide) (by decide) (by decide) (by decide) ?_
            refine z_aload_n hZ (pc := 129) dX10_weep_129 rfl ?_
            refine gC_0_1 hZ (pc := 130) fl_X10_19 dX10_weep_130 ?_
            refine gC_3_0 hZ (pc := 133) fl_X10_140 dX10_weep_133 ?_
            refine zx_i hZ (pc := 136) (by decide) (by decide) dX10_weep_136 FitR.int ?_
            have hT := tell_T5 (g := g2) (g2 := va_up g2 5 (upd (upd (upd (upd (upd (upd (g2 5) (6 * n) (g2 0 1)) (6 * n + 1) (g2 0 0)) (6 * n + 2) hr) (6 * n + 3) (g2 0 2)) (6 * n + 4) (g2 0 6)) (6 * n + 5) (bI (allB (holdE (va_up g 0 (vals7 (g 9 k) (nI k) gr (g 19 k) (hr / 24) (hr - hr / 24 * 24) (nI (fb_ct (onP (T5 g 1) (T5 g 2) (g 9 k) (hr / 24)) n)) (g 0)) 0) ops m) R)))) up_at
            have e0 : g2 0 = (vals7 (g 9 k) (nI k) gr (g 19 k) (hr / 24) (hr - hr / 24 * 24) (nI (fb_ct (onP (T5 g 1) (T5 g 2) (g 9 k) (hr / 24)) n)) (g 0)) := (hg2 0 (by decide)).trans up_at
            have e5 : g2 5 = g 5 := hg2 5 (by decide)
            obtain ⟨t0, t1, t2, t3, t4, t5, t6⟩ := hT
            have q1 : g2 0 1 = nI k := (congrFun e0 1).trans rfl
            have q0 : g2 0 0 = g 9 k := (congrFun e0 0).trans rfl
            have q2 : g2 0 2 = gr := (congrFun e0 2).trans rfl
            have q6 : g2 0 6 = nI (fb_ct (onP (T5 g 1) (T5 g 2) (g 9 k) (hr / 24)) n) := (congrFun e0 6).trans rfl
            have ec : allB (holdE (va_up g 0 (vals7 (g 9 k) (nI k) gr (g 19 k) (hr / 24) (hr - hr / 24 * 24) (nI (fb_ct (onP (T5 g 1) (T5 g 2) (g 9 k) (hr / 24)) n)) (g 0)) 0) ops m) R = allB (holdE (vals7 (g 9 k) (nI k) gr (g 19 k) (hr / 24) (hr - hr / 24 * 24) (nI (fb_ct (onP (T5 g 1) (T5 g 2) (g 9 k) (hr / 24)) n)) v0s) ops m) R := allB_cong (fun e he => holdE_cong (ExC_wfR hX9 he) (fun j hj => by rw [up_at]; exact vals7_cong j hj))
            exact ⟨hi, by rw [nI_clamp (by omega), if_pos hok]; exact ⟨rfl, fun j h0 h5 h24 => (up_off h5).trans ((hg2 j h24).trans (up_off h0)), fun j t hj ht => (t0 j t hj ht).trans (congrFun (T5_off e5 j) t), t1.trans q1, t2.trans q0, t3, t4.trans q2, t5.trans q6, t6.trans (congrArg bI ec), rfl⟩⟩
          · skip
            refine z_aload_n hZ (pc := 46) dX10_weep_46 rfl ?_
            refine gC_0_1 hZ (pc := 47) fl_X10_19 dX10_weep_47 ?_
            refine z_iconst hZ (pc := 50) (v := 1) dX10_weep_50 (by decide) ?_
            refine cV_v hZ (pc := 51) dX10_weep_51 lk_X10_115 mn_X6_countRefused mv_X6_countRefused (c_X6_countRefused (w := 1) (by decide)) rc_3 rfl rfl (Nat.le_of_ble_eq_true rfl) (by decide) (by decide) (by decide) (by decide) ?_
            refine z_iconst hZ (pc := 54) (v := (-1)) dX10_weep_54 (by decide) ?_
            refine zx_i hZ (pc := 55) (by decide) (by decide) dX10_weep_55 FitR.int ?_
            exact ⟨hi, by rw [if_neg (fun q => c43 q.2.2.2.2)]; exact ⟨rfl, rfl, rfl⟩⟩
