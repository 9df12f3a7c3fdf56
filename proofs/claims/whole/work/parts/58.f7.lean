def shv : Nat → Int32
  | 0 => 24
  | 1 => 16
  | 2 => 8
  | 3 => 0
  | _ => -8
theorem shv_s : ∀ i, i < 4 → shv i + Int32.ofInt (-8) = shv (i + 1) := by decide
theorem shv_neg : ∀ i, i ≤ 4 → (shv i < 0 ↔ i = 4) := by decide
def bytV (x : Int32) (i : Nat) : Int32 := (x >>> (shv i &&& 31)) &&& 255
/-- the first bytes of a number, laid from T on -/
def tapF (f : Nat → Int32) (T : Nat) (x : Int32) : Nat → Nat → Int32
  | 0 => f
  | i + 1 => upd (tapF f T x i) (T + i) (bytV x i)
theorem c_X7_tapeNumber {l : Launch} {D : va_G} {cA : Nat → ClassId} {o a : Nat → Nat} {v : ZV} {g : ZG} {x : Int32} {T : Nat} (hT : v 7 = nI T) (h7 : T + 4 ≤ 700) : MG l D cA (WC o a cA) yX7_tapeNumber cX7_tapeNumber 3 none 1 [(.ref (o 2)), .int x] v g (PF (va_up v 7 (nI (T + 4))) (va_up g 1 (tapF (g 1) T x 4)) (none)) := by
  refine MG.of (by decide) rfl (Nat.le_of_ble_eq_true rfl) (by simp [Value.category]) (fun Z hZ => ?_)
  refine z_bipush hZ (pc := 0) (v := 24) dX7_tapeNumber_0 (by decide) ?_
  refine q_istore_n_3_2 hZ (pc := 2) dX7_tapeNumber_2 rfl ?_
  have lp3 : ∀ (f i : Nat), i ≤ 4 → 4 - i < f → Z 0 0 (WC o a cA (va_up v 7 (nI (T + i))) (va_up g 1 (tapF (g 1) T x i))) [some (.ref (o 2)), some (.int x), some (.int (shv i))] [] 3 := by
    intro f
    induction f with
    | zero => intro i _ hf; exact absurd hf (Nat.not_lt_zero _)
    | succ f ih3 =>
      intro i hi hf
      refine z_iload_n hZ (pc := 3) dX7_tapeNumber_3 rfl ?_
      refine z_if_lt hZ (pc := 4) (tgt := 41) dX7_tapeNumber_4 rfl (fun c4 => ?_) (fun c4 => ?_)
      · skip
        have e4 : i = 4 := (shv_neg i hi).mp c4
        subst e4
        refine zr_v hZ (pc := 41) dX7_tapeNumber_41 ?_
        exact ⟨rfl, rfl, rfl⟩
      · skip
        have hi4 : i < 4 := by
          rcases Nat.lt_or_ge i 4 with q | q
          · exact q
          · exact absurd ((shv_neg i hi).mpr (by omega)) c4
        refine z_aload_n hZ (pc := 7) dX7_tapeNumber_7 rfl ?_
        refine gC_2_0 hZ (pc := 8) fl_X7_9 dX7_tapeNumber_8 ?_
        refine z_aload_n hZ (pc := 11) dX7_tapeNumber_11 rfl ?_
        refine gC_2_1 hZ (pc := 12) fl_X7_15 dX7_tapeNumber_12 ?_
        refine z_iload_n hZ (pc := 15) dX7_tapeNumber_15 rfl ?_
        refine z_iload_n hZ (pc := 16) dX7_tapeNumber_16 rfl ?_
        refine z_ishr hZ (pc := 17) dX7_tapeNumber_17 ?_
        refine z_sipush hZ (pc := 18) (v := 255) dX7_tapeNumber_18 (by decide) ?_
        refine z_iand hZ (pc := 21) dX7_tapeNumber_21 ?_
        refine cS_v hZ (pc := 22) dX7_tapeNumber_22 lk_X7_31 mn_X10_put ms_X10_put (c_X10_putn (j := 1) (n := T + i) (by decide) (by show T + i < 700; omega)) rfl rfl (Nat.le_of_ble_eq_true rfl) (by decide) (by decide) (Nat.zero_le _) (Nat.zero_le _) ?_
        refine z_aload_n hZ (pc := 25) dX7_tapeNumber_25 rfl ?_
        refine z_dup hZ (pc := 26) dX7_tapeNumber_26 rfl ?_
        refine gC_2_1 hZ (pc := 27) fl_X7_15 dX7_tapeNumber_27 ?_
        refine z_iconst hZ (pc := 30) (v := 1) dX7_tapeNumber_30 (by decide) ?_
        refine z_iadd hZ (pc := 31) dX7_tapeNumber_31 ?_
        refine z_top (y := nI (T + i + 1)) (nI_1 _) ?_
        refine pC_2_1 hZ (pc := 32) fl_X7_15 dX7_tapeNumber_32 ?_
        refine q_iinc_3_2 hZ (pc := 35) dX7_tapeNumber_35 rfl ?_
        refine z_goto hZ (pc := 38) (tgt := 3) dX7_tapeNumber_38 rfl ?_
        exact z_back hZ (ih3 (i + 1) (by omega) (by omega)) (WC_eq up_twice (by rw [up_twice, up_at]; rfl)) ⟨rfl, rfl, zi (shv_s i hi4), trivial⟩
  exact z_back hZ (lp3 5 0 (by omega) (by omega)) (WC_eq (by rw [Nat.add_zero, ← hT, up_self]) (by rw [tapF, up_self])) ⟨rfl, rfl, rfl, trivial⟩
theorem c_X10_feed {l : Launch} {D : va_G} {cA : Nat → ClassId} {o a : Nat → Nat} {v : ZV} {g : ZG} {A B C D1 E : Int32} {T : Nat} (hT : v 7 = nI T) (h7 : T ≤ 700) : MG l D cA (WC o a cA) yX10_feed cX10_feed 6 (some .int) 3 [(.ref (o 0)), .int A, .int B, .int C, .int D1, .int E] v g (fun v2 g2 r => if T + 20 ≤ 700 then v2 = va_up v 7 (nI (T + 20)) ∧ g2 = va_up g 1 (tapF (tapF (tapF (tapF (tapF (g 1) T A 4) (T + 4) B 4) (T + 8) C 4) (T + 12) D1 4) (T + 16) E 4) ∧ r = some (.int (nI (T + 20))) else v2 = v ∧ g2 = g ∧ r = some (.int (-1))) := by
  refine MG.of (by decide) rfl (Nat.le_of_ble_eq_true rfl) (by simp [Value.category]) (fun Z hZ => ?_)
  refine z_aload_n hZ (pc := 0) dX10_feed_0 rfl ?_
  refine gC_0_0 hZ (pc := 1) fl_X10_10 dX10_feed_1 ?_
  refine gC_1_0 hZ (pc := 4) fl_X10_87 dX10_feed_4 ?_
  refine gC_2_1 hZ (pc := 7) fl_X10_91 dX10_feed_7 ?_
  refine z_bipush hZ (pc := 10) (v := 20) dX10_feed_10 (by decide) ?_
  refine z_iadd hZ (pc := 12) dX10_feed_12 ?_
  refine z_top (y := nI (T + 20)) (by rw [hT]; exact nI_add T 20) ?_
  refine z_sipush hZ (pc := 13) (v := 700) dX10_feed_13 (by decide) ?_
  refine z_icmp_le hZ (pc := 16) (tgt := 21) dX10_feed_16 rfl (fun c16 => ?_) (fun c16 => ?_)
  · skip
    have hl : T + 20 ≤ 700 := (nI_leI (a := T + 20) (b := 700) (by omega) (by omega)).mp c16
    refine z_aload_n hZ (pc := 21) dX10_feed_21 rfl ?_
    refine gC_0_0 hZ (pc := 22) fl_X10_10 dX10_feed_22 ?_
    refine gC_1_0 hZ (pc := 25) fl_X10_87 dX10_feed_25 ?_
    refine z_iload_n hZ (pc := 28) dX10_feed_28 rfl ?_
    refine cV_v hZ (pc := 29) dX10_feed_29 lk_X10_96 mn_X7_tapeNumber mv_X7_tapeNumber (c_X7_tapeNumber (T := T) hT (by omega)) rc_2 rfl rfl (Nat.le_of_ble_eq_true rfl) (by decide) (by decide) (Nat.zero_le _) (Nat.zero_le _) ?_
    refine z_aload_n hZ (pc := 32) dX10_feed_32 rfl ?_
    refine gC_0_0 hZ (pc := 33) fl_X10_10 dX10_feed_33 ?_
    refine gC_1_0 hZ (pc := 36) fl_X10_87 dX10_feed_36 ?_
    refine z_iload_n hZ (pc := 39) dX10_feed_39 rfl ?_
    refine cV_v hZ (pc := 40) dX10_feed_40 lk_X10_96 mn_X7_tapeNumber mv_X7_tapeNumber (c_X7_tapeNumber (T := T + 4) rfl (by omega)) rc_2 rfl rfl (Nat.le_of_ble_eq_true rfl) (by decide) (by decide) (Nat.zero_le _) (Nat.zero_le _) ?_
    refine z_aload_n hZ (pc := 43) dX10_feed_43 rfl ?_
    refine gC_0_0 hZ (pc := 44) fl_X10_10 dX10_feed_44 ?_
    refine gC_1_0 hZ (pc := 47) fl_X10_87 dX10_feed_47 ?_
    refine z_iload_n hZ (pc := 50) dX10_feed_50 rfl ?_
    refine cV_v hZ (pc := 51) dX10_feed_51 lk_X10_96 mn_X7_tapeNumber mv_X7_tapeNumber (c_X7_tapeNumber (T := T + 8) rfl (by omega)) rc_2 rfl rfl (Nat.le_of_ble_eq_true rfl) (by decide) (by decide) (Nat.zero_le _) (Nat.zero_le _) ?_
    refine z_aload_n hZ (pc := 54) dX10_feed_54 rfl ?_
    refine gC_0_0 hZ (pc := 55) fl_X10_10 dX10_feed_55 ?_
    refine gC_1_0 hZ (pc := 58) fl_X10_87 dX10_feed_58 ?_
    refine z_iload hZ (pc := 61) dX10_feed_61 rfl ?_
    refine cV_v hZ (pc := 63) dX10_feed_63 lk_X10_96 mn_X7_tapeNumber mv_X7_tapeNumber (c_X7_tapeNumber (T := T + 12) rfl (by omega)) rc_2 rfl rfl (Nat.le_of_ble_eq_true rfl) (by decide) (by decide) (Nat.zero_le _) (Nat.zero_le _) ?_
    refine z_aload_n hZ (pc := 66) dX10_feed_66 rfl ?_
    refine gC_0_0 hZ (pc := 67) fl_X10_10 dX10_feed_67 ?_
    refine gC_1_0 hZ (pc := 70) fl_X10_87 dX10_feed_70 ?_
    refine z_iload hZ (pc := 73) dX10_feed_73 rfl ?_
    refine cV_v hZ (pc := 75) dX10_feed_75 lk_X10_96 mn_X7_tapeNumber mv_X7_tapeNumber (c_X7_tapeNumber (T := T + 16) rfl (by omega)) rc_2 rfl rfl (Nat.le_of_ble_eq_true rfl) (by decide) (by decide) (Nat.zero_le _) (Nat.zero_le _) ?_
    refine z_aload_n hZ (pc := 78) dX10_feed_78 rfl ?_
    refine gC_0_0 hZ (pc := 79) fl_X10_10 dX10_feed_79 ?_
    refine gC_1_0 hZ (pc := 82) fl_X10_87 dX10_feed_82 ?_
    refine gC_2_1 hZ (pc := 85) fl_X10_91 dX10_feed_85 ?_
    refine zr_i hZ (pc := 88) dX10_feed_88 FitR.int ?_
    exact (by rw [if_pos hl]; exact ⟨by simp only [up_twice], by simp only [up_twice, up_at], rfl⟩)
  · skip
    refine z_iconst hZ (pc := 19) (v := (-1)) dX10_feed_19 (by decide) ?_
    refine zr_i hZ (pc := 20) dX10_feed_20 FitR.int ?_
    exact (by rw [if_neg (fun z => c16 (nI_le (b := 700) z (by omega)))]; exact ⟨rfl, rfl, rfl⟩)
