/-! the register beside the true row of a day -/
def stpR (reg : Nat → Int32) (p : Int32) (C : Nat → Nat) : Nat → Nat
  | 0 => C 0 + 999
  | j + 1 => min (C j + (if reg j = p then 0 else 1000)) (min (stpR reg p C j + 1000) (C (j + 1) + 999))
theorem stpR_le (reg : Nat → Int32) (p : Int32) (C : Nat → Nat) : ∀ j, stpR reg p C j ≤ C j + 999
  | 0 => Nat.le_refl _
  | j + 1 => by rw [stpR]; omega
theorem stpR_cong {reg reg' : Nat → Int32} {p : Int32} {C C' : Nat → Nat} : ∀ {j : Nat}, (∀ k, k < j → reg k = reg' k) → (∀ k, k ≤ j → C k = C' k) → stpR reg p C j = stpR reg' p C' j
  | 0, _, h => by rw [stpR, stpR, h 0 (Nat.le_refl _)]
  | j + 1, hr, h => by rw [stpR, stpR, stpR_cong (j := j) (fun k hk => hr k (by omega)) (fun k hk => h k (by omega)), h j (by omega), h (j + 1) (by omega), hr j (by omega)]
def dayB (wh : Nat → Int32) (d : Int32) : Nat → Bool := fun t => decide (wh t / 24 = d)
def cRw (reg wo wh : Nat → Int32) (d : Int32) : Nat → Nat → Nat
  | 0 => fun j => 1000 * j
  | t + 1 => if wh t / 24 = d then stpR reg (wo t) (cRw reg wo wh d t) else cRw reg wo wh d t
theorem cRw_le (reg wo wh : Nat → Int32) (d : Int32) : ∀ t j, cRw reg wo wh d t j ≤ 1000 * j + 999 * t
  | 0, j => by show 1000 * j ≤ _; omega
  | t + 1, j => by
    have h1 := cRw_le reg wo wh d t j
    have h2 := stpR_le reg (wo t) (cRw reg wo wh d t) j
    have h3 : cRw reg wo wh d t j + 999 ≤ 1000 * j + 999 * (t + 1) := by omega
    have h4 : cRw reg wo wh d t j ≤ 1000 * j + 999 * (t + 1) := by omega
    rw [cRw]
    split
    · exact Nat.le_trans h2 h3
    · exact h4
def chN (x : Nat) : Nat := (x + 999) / 1000
def gpN (x : Nat) : Nat := (x + 999) / 1000 * 1000 - x
theorem c_X3_addTrueOne {l : Launch} {D : va_G} {cA : Nat → ClassId} {o a : Nat → Nat} {v : ZV} {g : ZG} {m : Nat} {p : Int32} {C : Nat → Nat} (hm : v 11 = nI m) (h40 : m ≤ 40) (hC : ∀ j, j ≤ m → g 39 j = nI (C j)) (hB : ∀ j, j ≤ m → C j ≤ 1000000) : MG l D cA (WC o a cA) yX3_addTrueOne cX3_addTrueOne 8 none 1 [(.ref (o 11)), (.ref (o 3)), .int p] v g (fun v2 g2 r => v2 = v ∧ (∀ j, j ≠ 39 → g2 j = g j) ∧ (∀ j, j ≤ m → g2 39 j = nI (stpR (g 8) p C j)) ∧ r = none) := by
  refine MG.of (by decide) rfl (Nat.le_of_ble_eq_true rfl) (by simp [Value.category]) (fun Z hZ => ?_)
  have hS : ∀ j, j ≤ m → stpR (g 8) p C j ≤ 1000999 := fun j hj => by
    have h1 := stpR_le (g 8) p C j
    have h2 := hB j hj
    omega
  refine z_aload_n hZ (pc := 0) dX3_addTrueOne_0 rfl ?_
  refine gC_11_3 hZ (pc := 1) fl_X3_21 dX3_addTrueOne_1 ?_
  refine z_iconst hZ (pc := 4) (v := 0) dX3_addTrueOne_4 (by decide) ?_
  refine cS_i hZ (pc := 5) dX3_addTrueOne_5 lk_X3_49 mn_X10_at ms_X10_at (c_X10_atn (j := 39) (n := 0) (by decide) (by decide)) rfl rfl (Nat.le_of_ble_eq_true rfl) (by decide) (by decide) (Nat.zero_le _) (Nat.zero_le _) ?_
  refine z_top (hC 0 (Nat.zero_le _)) ?_
  refine q_istore_n_8_3 hZ (pc := 8) dX3_addTrueOne_8 rfl ?_
  refine z_aload_n hZ (pc := 9) dX3_addTrueOne_9 rfl ?_
  refine gC_11_3 hZ (pc := 10) fl_X3_21 dX3_addTrueOne_10 ?_
  refine z_iconst hZ (pc := 13) (v := 0) dX3_addTrueOne_13 (by decide) ?_
  refine z_iload_n hZ (pc := 14) dX3_addTrueOne_14 rfl ?_
  refine z_sipush hZ (pc := 15) (v := 999) dX3_addTrueOne_15 (by decide) ?_
  refine z_iadd hZ (pc := 18) dX3_addTrueOne_18 ?_
  refine z_top (y := nI (stpR (g 8) p C 0)) (by rw [stpR, ← nI_add]; rfl) ?_
  refine cS_v hZ (pc := 19) dX3_addTrueOne_19 lk_X3_30 mn_X10_put ms_X10_put (c_X10_putn (j := 39) (n := 0) (by decide) (by decide)) rfl rfl (Nat.le_of_ble_eq_true rfl) (by decide) (by decide) (Nat.zero_le _) (Nat.zero_le _) ?_
  refine z_iconst hZ (pc := 22) (v := 1) dX3_addTrueOne_22 (by decide) ?_
  refine q_istore_8_4 hZ (pc := 23) dX3_addTrueOne_23 rfl ?_
  have lp25 : ∀ (f q : Nat) (T : Nat → Int32), q ≤ m → m - q < f → (∀ j, j ≤ q → T j = nI (stpR (g 8) p C j)) → (∀ j, q < j → j ≤ m → T j = nI (C j)) → Z 0 0 (WC o a cA v (va_up g 39 T)) [some (.ref (o 11)), some (.ref (o 3)), some (.int p), some (.int (nI (C q))), some (.int (nI (q + 1))), none, none, none] [] 25 := by
    intro f
    induction f with
    | zero => intro q _ _ hf; exact absurd hf (Nat.not_lt_zero _)
    | succ f ih25 =>
      intro q T hq hfq hT1 hT2
      refine z_iload hZ (pc := 25) dX3_addTrueOne_25 rfl ?_
      refine z_aload_n hZ (pc := 27) dX3_addTrueOne_27 rfl ?_
      refine gC_3_2 hZ (pc := 28) fl_X3_25 dX3_addTrueOne_28 ?_
      refine z_top hm ?_
      refine z_icmp_gt hZ (pc := 31) (tgt := 122) dX3_addTrueOne_31 rfl (fun c31 => ?_) (fun c31 => ?_)
      · skip
        have e : q = m := by
          have := (nI_ltI (a := m) (b := q + 1) (by omega) (by omega)).mp c31
          omega
        subst e
        refine zr_v hZ (pc := 122) dX3_addTrueOne_122 ?_
        exact ⟨rfl, fun j hj => up_off hj, fun j hj => by rw [up_at]; exact hT1 j hj, rfl⟩
      · skip
        have hl : q < m := by
          rcases Nat.lt_or_ge q m with z | z
          · exact z
          · exact absurd (nI_lt (a := m) (b := q + 1) (by omega) (by omega)) c31
        have hBq := hB q (by omega)
        have hBs := hB (q + 1) (by omega)
        have hSq := hS q (by omega)
        refine z_aload_n hZ (pc := 34) dX3_addTrueOne_34 rfl ?_
        refine gC_11_3 hZ (pc := 35) fl_X3_21 dX3_addTrueOne_35 ?_
        refine z_iload hZ (pc := 38) dX3_addTrueOne_38 rfl ?_
        refine cS_i hZ (pc := 40) dX3_addTrueOne_40 lk_X3_49 mn_X10_at ms_X10_at (c_X10_atn (j := 39) (n := q + 1) (by decide) (by show q + 1 < 41; omega)) rfl rfl (Nat.le_of_ble_eq_true rfl) (by decide) (by decide) (Nat.zero_le _) (Nat.zero_le _) ?_
        refine z_top (y := nI (C (q + 1))) (by rw [up_at]; exact hT2 (q + 1) (by omega) (by omega)) ?_
        refine q_istore_8_5 hZ (pc := 43) dX3_addTrueOne_43 rfl ?_
        refine z_iload_n hZ (pc := 45) dX3_addTrueOne_45 rfl ?_
        refine z_aload_n hZ (pc := 46) dX3_addTrueOne_46 rfl ?_
        refine gC_3_6 hZ (pc := 47) fl_X3_53 dX3_addTrueOne_47 ?_
        refine z_iload hZ (pc := 50) dX3_addTrueOne_50 rfl ?_
        refine z_iconst hZ (pc := 52) (v := 1) dX3_addTrueOne_52 (by decide) ?_
        refine z_isub hZ (pc := 53) dX3_addTrueOne_53 ?_
        refine z_top (y := nI q) (nI_pred q) ?_
        refine cS_i hZ (pc := 54) dX3_addTrueOne_54 lk_X3_49 mn_X10_at ms_X10_at (c_X10_atn (j := 8) (n := q) (by decide) (by show q < 40; omega)) rfl rfl (Nat.le_of_ble_eq_true rfl) (by decide) (by decide) (Nat.zero_le _) (Nat.zero_le _) ?_
        refine z_top (y := g 8 q) rfl ?_
        refine z_iload_n hZ (pc := 57) dX3_addTrueOne_57 rfl ?_
        refine z_icmp_ne hZ (pc := 58) (tgt := 65) dX3_addTrueOne_58 rfl (fun c58 => ?_) (fun c58 => ?_)
        · skip
          refine z_sipush hZ (pc := 65) (v := 1000) dX3_addTrueOne_65 (by decide) ?_
          refine z_iadd hZ (pc := 68) dX3_addTrueOne_68 ?_
          refine z_top (y := nI (C q + (if g 8 q = p then 0 else 1000))) (by rw [if_neg c58, ← nI_add]; rfl) ?_
          refine q_istore_8_6 hZ (pc := 69) dX3_addTrueOne_69 rfl ?_
          refine z_aload_n hZ (pc := 71) dX3_addTrueOne_71 rfl ?_
          refine gC_11_3 hZ (pc := 72) fl_X3_21 dX3_addTrueOne_72 ?_
          refine z_iload hZ (pc := 75) dX3_addTrueOne_75 rfl ?_
          refine z_iconst hZ (pc := 77) (v := 1) dX3_addTrueOne_77 (by decide) ?_
          refine z_isub hZ (pc := 78) dX3_addTrueOne_78 ?_
          refine z_top (y := nI q) (nI_pred q) ?_
          refine cS_i hZ (pc := 79) dX3_addTrueOne_79 lk_X3_49 mn_X10_at ms_X10_at (c_X10_atn (j := 39) (n := q) (by decide) (by show q < 41; omega)) rfl rfl (Nat.le_of_ble_eq_true rfl) (by decide) (by decide) (Nat.zero_le _) (Nat.zero_le _) ?_
          refine z_top (y := nI (stpR (g 8) p C q)) (by rw [up_at]; exact hT1 q (by omega)) ?_
          refine z_sipush hZ (pc := 82) (v := 1000) dX3_addTrueOne_82 (by decide) ?_
          refine z_iadd hZ (pc := 85) dX3_addTrueOne_85 ?_
          refine z_top (y := nI (stpR (g 8) p C q + 1000)) (by rw [← nI_add]; rfl) ?_
          refine q_istore_8_7 hZ (pc := 86) dX3_addTrueOne_86 rfl ?_
          refine z_aload_n hZ (pc := 88) dX3_addTrueOne_88 rfl ?_
          refine gC_11_3 hZ (pc := 89) fl_X3_21 dX3_addTrueOne_89 ?_
          refine z_iload hZ (pc := 92) dX3_addTrueOne_92 rfl ?_
          refine z_iload hZ (pc := 94) dX3_addTrueOne_94 rfl ?_
          refine z_iload hZ (pc := 96) dX3_addTrueOne_96 rfl ?_
          refine z_iload hZ (pc := 98) dX3_addTrueOne_98 rfl ?_
          refine z_sipush hZ (pc := 100) (v := 999) dX3_addTrueOne_100 (by decide) ?_
          refine z_iadd hZ (pc := 103) dX3_addTrueOne_103 ?_
          refine z_top (y := nI (C (q + 1) + 999)) (by rw [← nI_add]; rfl) ?_
          refine z_min hZ (pc := 104) dX3_addTrueOne_104 (List.mem_of_getElem? (i := 1100) (by decide +kernel)) (List.mem_of_getElem? (i := 500) (by decide +kernel)) (List.mem_of_getElem? (i := 135) (by decide +kernel)) (List.mem_of_getElem? (i := 501) (by decide +kernel)) (Nat.le_of_ble_eq_true rfl) (by decide) (Nat.zero_le _) (Nat.zero_le _) ?_
          refine z_top (nI_min (stpR (g 8) p C q + 1000) (C (q + 1) + 999) (by omega) (by omega)) ?_
          refine z_min hZ (pc := 107) dX3_addTrueOne_107 (List.mem_of_getElem? (i := 1100) (by decide +kernel)) (List.mem_of_getElem? (i := 500) (by decide +kernel)) (List.mem_of_getElem? (i := 135) (by decide +kernel)) (List.mem_of_getElem? (i := 501) (by decide +kernel)) (Nat.le_of_ble_eq_true rfl) (by decide) (Nat.zero_le _) (Nat.zero_le _) ?_
          refine z_top (y := nI (stpR (g 8) p C (q + 1))) (by rw [nI_min _ _ (by split <;> omega) (by omega)]; rfl) ?_
          refine cS_v hZ (pc := 110) dX3_addTrueOne_110 lk_X3_30 mn_X10_put ms_X10_put (c_X10_putn (j := 39) (n := q + 1) (by decide) (by show q + 1 < 41; omega)) rfl rfl (Nat.le_of_ble_eq_true rfl) (by decide) (by decide) (Nat.zero_le _) (Nat.zero_le _) ?_
          refine z_iload hZ (pc := 113) dX3_addTrueOne_113 rfl ?_
          refine q_istore_n_8_3 hZ (pc := 115) dX3_addTrueOne_115 rfl ?_
          refine q_iinc_8_4 hZ (pc := 116) dX3_addTrueOne_116 rfl ?_
          refine z_goto hZ (pc := 119) (tgt := 25) dX3_addTrueOne_119 rfl ?_
          exact z_back hZ (ih25 (q + 1) (upd T (q + 1) (nI (stpR (g 8) p C (q + 1)))) (by omega) (by omega) (fun j hj => by
            by_cases e : j = q + 1
            · rw [e, upd_at]
            · rw [upd_off e]; exact hT1 j (by omega)) (fun j h1 h2 => by rw [upd_off (by omega)]; exact hT2 j (by omega) h2)) (WC_eq rfl (by rw [up_twice, up_at])) ⟨rfl, rfl, rfl, rfl, zi (nI_inc _), trivial⟩
        · skip
          refine z_iconst hZ (pc := 61) (v := 0) dX3_addTrueOne_61 (by decide) ?_
          refine z_goto hZ (pc := 62) (tgt := 68) dX3_addTrueOne_62 rfl ?_
          refine z_iadd hZ (pc := 68) dX3_addTrueOne_68 ?_
          refine z_top (y := nI (C q + (if g 8 q = p then 0 else 1000))) (by rw [if_pos c58, Nat.add_zero, show (0 : Int32) = nI 0 from rfl, nI_add, Nat.add_zero]) ?_
          refine q_istore_8_6 hZ (pc := 69) dX3_addTrueOne_69 rfl ?_
          refine z_aload_n hZ (pc := 71) dX3_addTrueOne_71 rfl ?_
          refine gC_11_3 hZ (pc := 72) fl_X3_21 dX3_addTrueOne_72 ?_
          refine z_iload hZ (pc := 75) dX3_addTrueOne_75 rfl ?_
          refine z_iconst hZ (pc := 77) (v := 1) dX3_addTrueOne_77 (by decide) ?_
          refine z_isub hZ (pc := 78) dX3_addTrueOne_78 ?_
          refine z_top (y := nI q) (nI_pred q) ?_
          refine cS_i hZ (pc := 79) dX3_addTrueOne_79 lk_X3_49 mn_X10_at ms_X10_at (c_X10_atn (j := 39) (n := q) (by decide) (by show q < 41; omega)) rfl rfl (Nat.le_of_ble_eq_true rfl) (by decide) (by decide) (Nat.zero_le _) (Nat.zero_le _) ?_
          refine z_top (y := nI (stpR (g 8) p C q)) (by rw [up_at]; exact hT1 q (by omega)) ?_
          refine z_sipush hZ (pc := 82) (v := 1000) dX3_addTrueOne_82 (by decide) ?_
          refine z_iadd hZ (pc := 85) dX3_addTrueOne_85 ?_
          refine z_top (y := nI (stpR (g 8) p C q + 1000)) (by rw [← nI_add]; rfl) ?_
          refine q_istore_8_7 hZ (pc := 86) dX3_addTrueOne_86 rfl ?_
          refine z_aload_n hZ (pc := 88) dX3_addTrueOne_88 rfl ?_
          refine gC_11_3 hZ (pc := 89) fl_X3_21 dX3_addTrueOne_89 ?_
          refine z_iload hZ (pc := 92) dX3_addTrueOne_92 rfl ?_
          refine z_iload hZ (pc := 94) dX3_addTrueOne_94 rfl ?_
          refine z_iload hZ (pc := 96) dX3_addTrueOne_96 rfl ?_
          refine z_iload hZ (pc := 98) dX3_addTrueOne_98 rfl ?_
          refine z_sipush hZ (pc := 100) (v := 999) dX3_addTrueOne_100 (by decide) ?_
          refine z_iadd hZ (pc := 103) dX3_addTrueOne_103 ?_
          refine z_top (y := nI (C (q + 1) + 999)) (by rw [← nI_add]; rfl) ?_
          refine z_min hZ (pc := 104) dX3_addTrueOne_104 (List.mem_of_getElem? (i := 1100) (by decide +kernel)) (List.mem_of_getElem? (i := 500) (by decide +kernel)) (List.mem_of_getElem? (i := 135) (by decide +kernel)) (List.mem_of_getElem? (i := 501) (by decide +kernel)) (Nat.le_of_ble_eq_true rfl) (by decide) (Nat.zero_le _) (Nat.zero_le _) ?_
          refine z_top (nI_min (stpR (g 8) p C q + 1000) (C (q + 1) + 999) (by omega) (by omega)) ?_
          refine z_min hZ (pc := 107) dX3_addTrueOne_107 (List.mem_of_getElem? (i := 1100) (by decide +kernel)) (List.mem_of_getElem? (i := 500) (by decide +kernel)) (List.mem_of_getElem? (i := 135) (by decide +kernel)) (List.mem_of_getElem? (i := 501) (by decide +kernel)) (Nat.le_of_ble_eq_true rfl) (by decide) (Nat.zero_le _) (Nat.zero_le _) ?_
          refine z_top (y := nI (stpR (g 8) p C (q + 1))) (by rw [nI_min _ _ (by split <;> omega) (by omega)]; rfl) ?_
          refine cS_v hZ (pc := 110) dX3_addTrueOne_110 lk_X3_30 mn_X10_put ms_X10_put (c_X10_putn (j := 39) (n := q + 1) (by decide) (by show q + 1 < 41; omega)) rfl rfl (Nat.le_of_ble_eq_true rfl) (by decide) (by decide) (Nat.zero_le _) (Nat.zero_le _) ?_
          refine z_iload hZ (pc := 113) dX3_addTrueOne_113 rfl ?_
          refine q_istore_n_8_3 hZ (pc := 115) dX3_addTrueOne_115 rfl ?_
          refine q_iinc_8_4 hZ (pc := 116) dX3_addTrueOne_116 rfl ?_
          refine z_goto hZ (pc := 119) (tgt := 25) dX3_addTrueOne_119 rfl ?_
          exact z_back hZ (ih25 (q + 1) (upd T (q + 1) (nI (stpR (g 8) p C (q + 1)))) (by omega) (by omega) (fun j hj => by
            by_cases e : j = q + 1
            · rw [e, upd_at]
            · rw [upd_off e]; exact hT1 j (by omega)) (fun j h1 h2 => by rw [upd_off (by omega)]; exact hT2 j (by omega) h2)) (WC_eq rfl (by rw [up_twice, up_at])) ⟨rfl, rfl, rfl, rfl, zi (nI_inc _), trivial⟩
  exact z_back hZ (lp25 (m + 1) 0 (upd (g 39) 0 (nI (stpR (g 8) p C 0))) (Nat.zero_le _) (by omega) (fun j hj => by rw [show j = 0 by omega, upd_at]) (fun j h1 h2 => by rw [upd_off (by omega)]; exact hC j h2)) rfl ⟨rfl, rfl, rfl, rfl, rfl, trivial⟩
theorem c_X3_compare {l : Launch} {D : va_G} {cA : Nat → ClassId} {o a : Nat → Nat} {v : ZV} {g : ZG} {n m : Nat} {d : Int32} (hm : v 11 = nI m) (h40 : m ≤ 40) (hn : v 9 = nI n) (h2 : n ≤ 200) : MG l D cA (WC o a cA) yX3_compare cX3_compare 4 none 3 [(.ref (o 11)), (.ref (o 3)), .int d] v g (fun v2 g2 r => r = none ∧ (∀ j, j ≠ 30 → j ≠ 31 → j ≠ 32 → v2 j = v j) ∧ (∀ j, j ≠ 39 → g2 j = g j) ∧ v2 30 = nI (chN (cRw (g 8) (T5 g 0) (T5 g 2) d n m)) ∧ v2 31 = nI (gpN (cRw (g 8) (T5 g 0) (T5 g 2) d n m)) ∧ v2 32 = nI (fb_ct (dayB (T5 g 2) d) n)) := by
  refine MG.of (by decide) rfl (Nat.le_of_ble_eq_true rfl) (by simp [Value.category]) (fun Z hZ => ?_)
  refine z_iconst hZ (pc := 0) (v := 0) dX3_compare_0 (by decide) ?_
  refine q_istore_n_4_3 hZ (pc := 1) dX3_compare_1 rfl ?_
  have lp2 : ∀ (f j : Nat) (T : Nat → Int32), j ≤ m + 1 → m + 1 - j < f → (∀ k, k < j → T k = nI (1000 * k)) → Z 0 0 (WC o a cA v (va_up g 39 T)) [some (.ref (o 11)), some (.ref (o 3)), some (.int d), some (.int (nI j))] [] 2 := by
    intro f
    induction f with
    | zero => intro j _ _ hf; exact absurd hf (Nat.not_lt_zero _)
    | succ f ih2 =>
      intro j T hj1 hfj hT
      refine z_iload_n hZ (pc := 2) dX3_compare_2 rfl ?_
      refine z_aload_n hZ (pc := 3) dX3_compare_3 rfl ?_
      refine gC_3_2 hZ (pc := 4) fl_X3_25 dX3_compare_4 ?_
      refine z_top hm ?_
      refine z_icmp_gt hZ (pc := 7) (tgt := 29) dX3_compare_7 rfl (fun c7 => ?_) (fun c7 => ?_)
      · skip
        have e : j = m + 1 := by
          have := (nI_ltI (a := m) (b := j) (by omega) (by omega)).mp c7
          omega
        subst e
        refine z_aload_n hZ (pc := 29) dX3_compare_29 rfl ?_
        refine z_iconst hZ (pc := 30) (v := 0) dX3_compare_30 (by decide) ?_
        refine pC_11_2 hZ (pc := 31) fl_X3_18 dX3_compare_31 ?_
        refine z_iconst hZ (pc := 34) (v := 0) dX3_compare_34 (by decide) ?_
        refine q_istore_n_4_3 hZ (pc := 35) dX3_compare_35 rfl ?_
        have lp36 : ∀ (f t : Nat) (g1 : ZG), t ≤ n → n - t < f → (∀ j, j ≠ 39 → g1 j = g j) → (∀ j, j ≤ m → g1 39 j = nI (cRw (g 8) (T5 g 0) (T5 g 2) d t j)) → Z 0 0 (WC o a cA (va_up v 32 (nI (fb_ct (dayB (T5 g 2) d) t))) g1) [some (.ref (o 11)), some (.ref (o 3)), some (.int d), some (.int (nI t))] [] 36 := by
          intro f
          induction f with
          | zero => intro t _ _ hf; exact absurd hf (Nat.not_lt_zero _)
          | succ f ih36 =>
            intro t g1 ht hft hg1 hC
            refine z_iload_n hZ (pc := 36) dX3_compare_36 rfl ?_
            refine z_aload_n hZ (pc := 37) dX3_compare_37 rfl ?_
            refine gC_3_0 hZ (pc := 38) fl_X3_34 dX3_compare_38 ?_
            refine z_icmp_ge hZ (pc := 41) (tgt := 80) dX3_compare_41 rfl (fun c41 => ?_) (fun c41 => ?_)
            · skip
              have e : t = n := lp_ge hn (by omega) ht c41
              subst e
              obtain ⟨c, hc⟩ : ∃ c, c = (cRw (g 8) (T5 g 0) (T5 g 2) d t m) := ⟨_, rfl⟩
              have hcl : c ≤ 1000000 := by
                have := cRw_le (g 8) (T5 g 0) (T5 g 2) d t m
                omega
              have hch : chN c ≤ 2000 := by unfold chN; omega
              refine z_aload_n hZ (pc := 80) dX3_compare_80 rfl ?_
              refine gC_11_3 hZ (pc := 81) fl_X3_21 dX3_compare_81 ?_
              refine z_aload_n hZ (pc := 84) dX3_compare_84 rfl ?_
              refine gC_3_2 hZ (pc := 85) fl_X3_25 dX3_compare_85 ?_
              refine z_top hm ?_
              refine cS_i hZ (pc := 88) dX3_compare_88 lk_X3_49 mn_X10_at ms_X10_at (c_X10_atn (j := 39) (n := m) (by decide) (by show m < 41; omega)) rfl rfl (Nat.le_of_ble_eq_true rfl) (by decide) (by decide) (Nat.zero_le _) (Nat.zero_le _) ?_
              refine z_top (y := nI c) (by rw [hc]; exact hC m (Nat.le_refl _)) ?_
              refine q_istore_n_4_3 hZ (pc := 91) dX3_compare_91 rfl ?_
              refine z_aload_n hZ (pc := 92) dX3_compare_92 rfl ?_
              refine z_iload_n hZ (pc := 93) dX3_compare_93 rfl ?_
              refine z_sipush hZ (pc := 94) (v := 1000) dX3_compare_94 (by decide) ?_
              refine z_iadd hZ (pc := 97) dX3_compare_97 ?_
              refine z_iconst hZ (pc := 98) (v := 1) dX3_compare_98 (by decide) ?_
              refine z_isub hZ (pc := 99) dX3_compare_99 ?_
              refine z_sipush hZ (pc := 100) (v := 1000) dX3_compare_100 (by decide) ?_
              refine z_idiv hZ (pc := 103) dX3_compare_103 (by decide) ?_
              refine z_top (y := nI (chN c)) (by rw [show nI c + 1000 = nI (c + 1000) from nI_add c 1000, show nI (c + 1000) - 1 = nI (c + 999) from pk_sub (b := 1) (by omega)]; exact pk_div (d := 1000) (by omega) (by omega) (by omega)) ?_
              refine pC_11_0 hZ (pc := 104) fl_X3_11 dX3_compare_104 ?_
              refine z_aload_n hZ (pc := 107) dX3_compare_107 rfl ?_
              refine z_aload_n hZ (pc := 108) dX3_compare_108 rfl ?_
              refine gC_11_0 hZ (pc := 109) fl_X3_11 dX3_compare_109 ?_
              refine z_sipush hZ (pc := 112) (v := 1000) dX3_compare_112 (by decide) ?_
              refine z_imul hZ (pc := 115) dX3_compare_115 ?_
              refine z_iload_n hZ (pc := 116) dX3_compare_116 rfl ?_
              refine z_isub hZ (pc := 117) dX3_compare_117 ?_
              refine z_top (y := nI (gpN c)) (by rw [show (va_up (va_up v 32 (nI (fb_ct (dayB (T5 g 2) d) t))) 30 (nI (chN c))) 30 = nI (chN c) from rfl, show nI (chN c) * 1000 = nI (chN c * 1000) from pk_mul _ 1000, pk_sub (by unfold chN; omega)]; rfl) ?_
              refine pC_11_1 hZ (pc := 118) fl_X3_15 dX3_compare_118 ?_
              refine zr_v hZ (pc := 121) dX3_compare_121 ?_
              exact ⟨rfl, fun j h1 h2 h3 => by simp only [va_up, if_neg h1, if_neg h2, if_neg h3], hg1, by rw [← hc]; rfl, by rw [← hc]; rfl, rfl⟩
            · skip
              have hl : t < n := lp_lt hn (by omega) ht c41
              refine z_aload_n hZ (pc := 44) dX3_compare_44 rfl ?_
              refine z_iload_n hZ (pc := 45) dX3_compare_45 rfl ?_
              refine cV_i hZ (pc := 46) dX3_compare_46 lk_X3_37 mn_X6_dayOf mv_X6_dayOf (c_X6_dayOf (i := t) (by omega)) rc_3 rfl rfl (Nat.le_of_ble_eq_true rfl) (by decide) (by decide) (Nat.zero_le _) (Nat.zero_le _) ?_
              refine z_top (y := T5 g 2 t / 24) (by rw [T5_off (hg1 5 (by decide))]) ?_
              refine z_iload_n hZ (pc := 49) dX3_compare_49 rfl ?_
              refine z_icmp_ne hZ (pc := 50) (tgt := 74) dX3_compare_50 rfl (fun c50 => ?_) (fun c50 => ?_)
              · skip
                refine q_iinc_4_3 hZ (pc := 74) dX3_compare_74 rfl ?_
                refine z_goto hZ (pc := 77) (tgt := 36) dX3_compare_77 rfl ?_
                exact z_back hZ (ih36 (t + 1) g1 (by omega) (by omega) hg1 (fun j hj => by rw [cRw, if_neg c50]; exact hC j hj)) (WC_eq (by rw [fb_ct_succ, dayB, decide_eq_false c50]; rfl) rfl) ⟨rfl, rfl, rfl, zi (nI_inc t), trivial⟩
              · skip
                refine z_aload_n hZ (pc := 53) dX3_compare_53 rfl ?_
                refine z_aload_n hZ (pc := 54) dX3_compare_54 rfl ?_
                refine z_aload_n hZ (pc := 55) dX3_compare_55 rfl ?_
                refine z_iload_n hZ (pc := 56) dX3_compare_56 rfl ?_
                refine z_iconst hZ (pc := 57) (v := 0) dX3_compare_57 (by decide) ?_
                refine cV_i hZ (pc := 58) dX3_compare_58 lk_X3_41 mn_X6_tearsNumber mv_X6_tearsNumber (c_X6_tn (i := t) (j := 0) (by omega) (by decide)) rc_3 rfl rfl (Nat.le_of_ble_eq_true rfl) (by decide) (by decide) (Nat.zero_le _) (Nat.zero_le _) ?_
                refine z_top (y := T5 g 0 t) (by rw [T5_off (hg1 5 (by decide))]) ?_
                refine cV hZ (pc := 61) dX3_compare_61 lk_X3_45 mn_X3_addTrueOne mv_X3_addTrueOne (c_X3_addTrueOne (m := m) (C := cRw (g 8) (T5 g 0) (T5 g 2) d t) hm h40 hC (fun j hj => by have h1 := cRw_le (g 8) (T5 g 0) (T5 g 2) d t j; omega)) rc_11 rfl rfl (Nat.le_of_ble_eq_true rfl) (by decide) (by decide) (Nat.zero_le _) (Nat.zero_le _) ?_
                intro v2 g2 r h
                obtain ⟨rfl, hg2, hC2, rfl⟩ := h
                refine z_aload_n hZ (pc := 64) dX3_compare_64 rfl ?_
                refine z_dup hZ (pc := 65) dX3_compare_65 rfl ?_
                refine gC_11_2 hZ (pc := 66) fl_X3_18 dX3_compare_66 ?_
                refine z_iconst hZ (pc := 69) (v := 1) dX3_compare_69 (by decide) ?_
                refine z_iadd hZ (pc := 70) dX3_compare_70 ?_
                refine z_top (y := nI (fb_ct (dayB (T5 g 2) d) t + 1)) (nI_1 _) ?_
                refine pC_11_2 hZ (pc := 71) fl_X3_18 dX3_compare_71 ?_
                refine q_iinc_4_3 hZ (pc := 74) dX3_compare_74 rfl ?_
                refine z_goto hZ (pc := 77) (tgt := 36) dX3_compare_77 rfl ?_
                exact z_back hZ (ih36 (t + 1) g2 (by omega) (by omega) (fun j hj => (hg2 j hj).trans (hg1 j hj)) (fun j hj => by rw [cRw, if_pos c50, hC2 j hj, hg1 8 (by decide)])) (WC_eq (by rw [up_twice, fb_ct_succ, dayB, decide_eq_true c50]; rfl) rfl) ⟨rfl, rfl, rfl, zi (nI_inc t), trivial⟩
        exact z_back hZ (lp36 (n + 1) 0 (va_up g 39 T) (Nat.zero_le _) (by omega) (fun j hj => up_off hj) (fun j hj => by rw [up_at]; exact hT j (by omega))) rfl ⟨rfl, rfl, rfl, rfl, trivial⟩
      · skip
        have hj : j ≤ m := by
          rcases Nat.lt_or_ge m j with z | z
          · exact absurd (nI_lt z (by omega)) c7
          · exact z
        refine z_aload_n hZ (pc := 10) dX3_compare_10 rfl ?_
        refine gC_11_3 hZ (pc := 11) fl_X3_21 dX3_compare_11 ?_
        refine z_iload_n hZ (pc := 14) dX3_compare_14 rfl ?_
        refine z_iload_n hZ (pc := 15) dX3_compare_15 rfl ?_
        refine z_sipush hZ (pc := 16) (v := 1000) dX3_compare_16 (by decide) ?_
        refine z_imul hZ (pc := 19) dX3_compare_19 ?_
        refine z_top (y := nI (1000 * j)) (by rw [show (1000 : Int32) = nI 1000 from rfl, pk_mul, Nat.mul_comm]) ?_
        refine cS_v hZ (pc := 20) dX3_compare_20 lk_X3_30 mn_X10_put ms_X10_put (c_X10_putn (j := 39) (n := j) (by decide) (by show j < 41; omega)) rfl rfl (Nat.le_of_ble_eq_true rfl) (by decide) (by decide) (Nat.zero_le _) (Nat.zero_le _) ?_
        refine q_iinc_4_3 hZ (pc := 23) dX3_compare_23 rfl ?_
        refine z_goto hZ (pc := 26) (tgt := 2) dX3_compare_26 rfl ?_
        exact z_back hZ (ih2 (j + 1) (upd T j (nI (1000 * j))) (by omega) (by omega) (lt_s (fun k hk => by rw [upd_off (by omega)]; exact hT k hk) upd_at)) (WC_eq rfl (by rw [up_twice, up_at])) ⟨rfl, rfl, rfl, zi (nI_inc j), trivial⟩
  exact z_back hZ (lp2 (m + 2) 0 (g 39) (Nat.zero_le _) (by omega) (fun k hk => absurd hk (Nat.not_lt_zero _))) (WC_eq rfl up_self.symm) ⟨rfl, rfl, rfl, rfl, trivial⟩
