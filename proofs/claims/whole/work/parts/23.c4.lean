/-- EXPRS: codes (the class's), heights, the row of what waits -/
def htE (ops : Nat → Int32) : Nat → Nat
  | 0 => 0
  | i + 1 => if -8 < ops i then htE ops i + 1 else if ops i = -8 then htE ops i else htE ops i - 1
def rwE (vals ops f0 : Nat → Int32) : Nat → Nat → Int32
  | 0 => f0
  | i + 1 => if 0 ≤ ops i then upd (rwE vals ops f0 i) (htE ops i) (ops i) else if -8 < ops i then upd (rwE vals ops f0 i) (htE ops i) (vals (-1 - ops i).toNatClampNeg) else if ops i = -8 then upd (rwE vals ops f0 i) (htE ops i - 1) (if rwE vals ops f0 i (htE ops i - 1) = 0 then 1 else 0) else upd (rwE vals ops f0 i) (htE ops i - 2) (joinS (ops i) (rwE vals ops f0 i (htE ops i - 2)) (rwE vals ops f0 i (htE ops i - 1)))
def wfE (ops : Nat → Int32) (m : Nat) : Prop := (∀ i, i < m → -17 < ops i ∧ (-8 < ops i → htE ops i + 1 ≤ 60) ∧ (ops i = -8 → 1 ≤ htE ops i) ∧ (ops i < -8 → 2 ≤ htE ops i)) ∧ htE ops m = 1
def exprS (vals ops : Nat → Int32) (m : Nat) : Int32 := rwE vals ops (fun _ => 0) m 0
theorem i32_tri (c : Int32) : -8 < c ∨ c = -8 ∨ c < -8 := by
  rcases Int.lt_trichotomy c.toInt (-8) with h | h | h
  · exact Or.inr (Or.inr (Int32.lt_iff_toInt_lt.mpr h))
  · exact Or.inr (Or.inl (Int32.toInt_inj.mp h))
  · exact Or.inl (Int32.lt_iff_toInt_lt.mpr h)
theorem htE_le {ops : Nat → Int32} {m : Nat} (h : wfE ops m) : ∀ i, i ≤ m → htE ops i ≤ 60
  | 0, _ => by simp [htE]
  | i + 1, hi => by
    have h1 := htE_le h i (by omega)
    obtain ⟨-, h2, h3, h4⟩ := h.1 i (by omega)
    rw [htE]
    split
    · exact h2 (by assumption)
    · split <;> omega
theorem rwE_ind {vals vals' ops f f' : Nat → Int32} {m : Nat} (h : wfE ops m) (hv : ∀ j, j < 7 → vals j = vals' j) (hval : ∀ i, i < m → ops i < 0 → -8 < ops i → (-1 - ops i).toNatClampNeg < 7) : ∀ i, i ≤ m → ∀ k, k < htE ops i → rwE vals ops f i k = rwE vals' ops f' i k
  | 0, _, k, hk => absurd hk (by simp [htE])
  | i + 1, hi, k, hk => by
    have ih := rwE_ind (f := f) (f' := f') h hv hval i (by omega)
    obtain ⟨-, h2, h3, h4⟩ := h.1 i (by omega)
    rw [htE] at hk
    rw [rwE, rwE]
    by_cases c0 : 0 ≤ ops i
    · have c8 : -8 < ops i := Int32.lt_of_lt_of_le (by decide) c0
      rw [if_pos c8] at hk
      rw [if_pos c0, if_pos c0]
      by_cases hk2 : k = htE ops i
      · simp [upd, hk2]
      · simp only [upd, if_neg hk2]; exact ih k (by omega)
    · rw [if_neg c0, if_neg c0]
      by_cases c8 : -8 < ops i
      · rw [if_pos c8] at hk
        rw [if_pos c8, if_pos c8]
        by_cases hk2 : k = htE ops i
        · simp only [upd, if_pos hk2]
          exact hv _ (hval i (by omega) (Int32.not_le.mp c0) c8)
        · simp only [upd, if_neg hk2]; exact ih k (by omega)
      · rw [if_neg c8] at hk
        rw [if_neg c8, if_neg c8]
        by_cases c9 : ops i = -8
        · rw [if_pos c9] at hk
          have := h3 c9
          rw [if_pos c9, if_pos c9]
          by_cases hk2 : k = htE ops i - 1
          · simp only [upd, if_pos hk2, ih (htE ops i - 1) (by omega)]
          · simp only [upd, if_neg hk2]; exact ih k (by omega)
        · rw [if_neg c9] at hk
          have := h4 ((i32_tri (ops i)).resolve_left c8 |>.resolve_left c9)
          rw [if_neg c9, if_neg c9]
          by_cases hk2 : k = htE ops i - 2
          · simp only [upd, if_pos hk2, ih (htE ops i - 2) (by omega), ih (htE ops i - 1) (by omega)]
          · simp only [upd, if_neg hk2]; exact ih k (by omega)
theorem val_ix {c : Int32} (h0 : c < 0) (h8 : -8 < c) : ∃ j : Nat, j < 7 ∧ -1 - c = nI j ∧ (-1 - c).toNatClampNeg = j := by
  have a1 : c.toInt < 0 := Int32.lt_iff_toInt_lt.mp h0
  have a2 : -8 < c.toInt := Int32.lt_iff_toInt_lt.mp h8
  have e : c.toInt = -1 ∨ c.toInt = -2 ∨ c.toInt = -3 ∨ c.toInt = -4 ∨ c.toInt = -5 ∨ c.toInt = -6 ∨ c.toInt = -7 := by omega
  rcases e with e | e | e | e | e | e | e
  · have e2 : c = -1 := Int32.toInt_inj.mp e
    subst e2; exact ⟨0, by decide, by decide, by decide⟩
  · have e2 : c = -2 := Int32.toInt_inj.mp e
    subst e2; exact ⟨1, by decide, by decide, by decide⟩
  · have e2 : c = -3 := Int32.toInt_inj.mp e
    subst e2; exact ⟨2, by decide, by decide, by decide⟩
  · have e2 : c = -4 := Int32.toInt_inj.mp e
    subst e2; exact ⟨3, by decide, by decide, by decide⟩
  · have e2 : c = -5 := Int32.toInt_inj.mp e
    subst e2; exact ⟨4, by decide, by decide, by decide⟩
  · have e2 : c = -6 := Int32.toInt_inj.mp e
    subst e2; exact ⟨5, by decide, by decide, by decide⟩
  · have e2 : c = -7 := Int32.toInt_inj.mp e
    subst e2; exact ⟨6, by decide, by decide, by decide⟩
theorem val_lt {c : Int32} (h0 : c < 0) (h8 : -8 < c) : (-1 - c).toNatClampNeg < 7 := by
  obtain ⟨j, hj, -, e⟩ := val_ix h0 h8
  omega
theorem rwE_expr {vals ops f : Nat → Int32} {m : Nat} (h : wfE ops m) : rwE vals ops f m 0 = exprS vals ops m := rwE_ind h (fun _ _ => rfl) (fun _ _ h0 h8 => val_lt h0 h8) m (Nat.le_refl _) 0 (by rw [h.2]; omega)
theorem exprS_cong {vals vals' ops : Nat → Int32} {m : Nat} (h : wfE ops m) (hv : ∀ j, j < 7 → vals j = vals' j) : exprS vals ops m = exprS vals' ops m := rwE_ind h hv (fun _ _ h0 h8 => val_lt h0 h8) m (Nat.le_refl _) 0 (by rw [h.2]; omega)
theorem htE_push {ops : Nat → Int32} {i : Nat} (h : -8 < ops i) : htE ops (i + 1) = htE ops i + 1 := by rw [htE, if_pos h]
theorem htE_not {ops : Nat → Int32} {i : Nat} (h : ops i = -8) : htE ops (i + 1) = htE ops i := by rw [htE, if_neg (by rw [h]; decide), if_pos h]
theorem htE_two {ops : Nat → Int32} {i : Nat} (h : ops i < -8) : htE ops (i + 1) = htE ops i - 1 := by
  have h1 : ¬ -8 < ops i := fun q => absurd (Int32.lt_iff_toInt_lt.mp q) (by have := Int32.lt_iff_toInt_lt.mp h; omega)
  have h2 : ¬ ops i = -8 := fun q => by rw [q] at h; exact absurd h (by decide)
  rw [htE, if_neg h1, if_neg h2]
theorem rwE_num {vals ops f : Nat → Int32} {i : Nat} (h : 0 ≤ ops i) : rwE vals ops f (i + 1) = upd (rwE vals ops f i) (htE ops i) (ops i) := by rw [rwE, if_pos h]
theorem rwE_val {vals ops f : Nat → Int32} {i : Nat} (h : ops i < 0) (h8 : -8 < ops i) : rwE vals ops f (i + 1) = upd (rwE vals ops f i) (htE ops i) (vals (-1 - ops i).toNatClampNeg) := by rw [rwE, if_neg (Int32.not_le.mpr h), if_pos h8]
theorem rwE_not {vals ops f : Nat → Int32} {i : Nat} (h : ops i = -8) : rwE vals ops f (i + 1) = upd (rwE vals ops f i) (htE ops i - 1) (if rwE vals ops f i (htE ops i - 1) = 0 then 1 else 0) := by rw [rwE, if_neg (by rw [h]; decide), if_neg (by rw [h]; decide), if_pos h]
theorem rwE_two {vals ops f : Nat → Int32} {i : Nat} (h : ops i < -8) : rwE vals ops f (i + 1) = upd (rwE vals ops f i) (htE ops i - 2) (joinS (ops i) (rwE vals ops f i (htE ops i - 2)) (rwE vals ops f i (htE ops i - 1))) := by
  have h0 : ¬ 0 ≤ ops i := fun q => absurd (Int32.le_iff_toInt_le.mp q) (by have := Int32.lt_iff_toInt_lt.mp h; have e : (-8 : Int32).toInt = -8 := (by decide); have e2 : (0 : Int32).toInt = 0 := (by decide); omega)
  have h1 : ¬ -8 < ops i := fun q => absurd (Int32.lt_iff_toInt_lt.mp q) (by have := Int32.lt_iff_toInt_lt.mp h; omega)
  have h2 : ¬ ops i = -8 := fun q => by rw [q] at h; exact absurd h (by decide)
  rw [rwE, if_neg h0, if_neg h1, if_neg h2]
/-- an EXPR as the class's row of codes holds it -/
def CodeC (code : Nat → Int32) (cN : Nat) (ops : Nat → Int32) (m b : Nat) : Prop := b + m < cN ∧ cN ≤ 700 ∧ (∀ i, i < m → code (b + i) = ops i) ∧ code (b + m) = -17 ∧ wfE ops m
theorem c_X0_exprValue {l : Launch} {D : va_G} {cA : Nat → ClassId} {o a : Nat → Nat} {v : ZV} {g : ZG} {cN m b : Nat} {ops : Nat → Int32} (hc : v 19 = nI cN) (hC : CodeC (g 23) cN ops m b) : MG l D cA (WC o a cA) yX0_exprValue cX0_exprValue 6 (some .int) 1 [(.ref (o 5)), .int (nI b), (.ref (a 0))] v g (fun v2 g2 r => v2 = v ∧ (∀ j, j ≠ 24 → g2 j = g j) ∧ r = some (.int (exprS (g 0) ops m))) := by
  refine MG.of (by decide) rfl (Nat.le_of_ble_eq_true rfl) (by simp [Value.category]) (fun Z hZ => ?_)
  obtain ⟨hbm, hcN, hop, hend, hwf⟩ := id hC
  refine z_iconst hZ (pc := 0) (v := 0) dX0_exprValue_0 (by decide) ?_
  refine q_istore_n_6_3 hZ (pc := 1) dX0_exprValue_1 rfl ?_
  refine z_iload_n hZ (pc := 2) dX0_exprValue_2 rfl ?_
  refine q_istore_6_4 hZ (pc := 3) dX0_exprValue_3 rfl ?_
  have lp5 : ∀ f i : Nat, i ≤ m → m - i < f → Z 0 0 (WC o a cA v (va_up g 24 (rwE (g 0) ops (g 24) i))) [some (.ref (o 5)), some (.int (nI b)), some (.ref (a 0)), some (.int (nI (htE ops i))), some (.int (nI (b + i))), none] [] 5 := by
    intro f
    induction f with
    | zero => intro i _ hf; exact absurd hf (Nat.not_lt_zero _)
    | succ f ih =>
      intro i hi hf
      refine z_iload hZ (pc := 5) dX0_exprValue_5 rfl ?_
      refine z_aload_n hZ (pc := 7) dX0_exprValue_7 rfl ?_
      refine gC_5_4 hZ (pc := 8) fl_X0_52 dX0_exprValue_8 ?_
      refine z_icmp_ge hZ (pc := 11) (tgt := 165) dX0_exprValue_11 rfl (fun c11 => ?_) (fun c11 => ?_)
      · skip
        exact absurd (hc ▸ c11 : nI cN ≤ nI (b + i)) (nI_ge (by omega) (by omega))
      · skip
        skip
        refine z_aload_n hZ (pc := 14) dX0_exprValue_14 rfl ?_
        refine gC_5_11 hZ (pc := 15) fl_X0_30 dX0_exprValue_15 ?_
        refine z_iload hZ (pc := 18) dX0_exprValue_18 rfl ?_
        refine cS_i hZ (pc := 20) dX0_exprValue_20 lk_X0_61 mn_X10_at ms_X10_at (c_X10_atn (j := 23) (n := b + i) (by decide) (by show b + i < 700; omega)) rfl rfl (Nat.le_of_ble_eq_true rfl) (by decide) (by decide) (Nat.zero_le _) (Nat.zero_le _) ?_
        refine q_istore_6_5 hZ (pc := 23) dX0_exprValue_23 rfl ?_
        refine z_iload hZ (pc := 25) dX0_exprValue_25 rfl ?_
        refine z_bipush hZ (pc := 27) (v := (-17)) dX0_exprValue_27 (by decide) ?_
        refine z_icmp_ne hZ (pc := 29) (tgt := 35) dX0_exprValue_29 rfl (fun c29 => ?_) (fun c29 => ?_)
        · skip
          have him : i < m := by
            rcases Nat.lt_or_ge i m with h | h
            · exact h
            · have e : i = m := by omega
              subst e
              exact absurd hend c29
          obtain ⟨w1, w2, w3, w4⟩ := hwf.1 i him
          have hht := htE_le hwf i (by omega)
          have eop : va_up g 24 (rwE (g 0) ops (g 24) i) 23 (b + i) = ops i := hop i him
          rw [eop] at c29 ⊢
          refine z_iload hZ (pc := 35) dX0_exprValue_35 rfl ?_
          refine z_if_lt hZ (pc := 37) (tgt := 56) dX0_exprValue_37 rfl (fun c37 => ?_) (fun c37 => ?_)
          · skip
            refine z_iload hZ (pc := 56) dX0_exprValue_56 rfl ?_
            refine z_bipush hZ (pc := 58) (v := (-8)) dX0_exprValue_58 (by decide) ?_
            refine z_icmp_le hZ (pc := 60) (tgt := 85) dX0_exprValue_60 rfl (fun c60 => ?_) (fun c60 => ?_)
            · skip
              refine z_iload hZ (pc := 85) dX0_exprValue_85 rfl ?_
              refine z_bipush hZ (pc := 87) (v := (-8)) dX0_exprValue_87 (by decide) ?_
              refine z_icmp_ne hZ (pc := 89) (tgt := 123) dX0_exprValue_89 rfl (fun c89 => ?_) (fun c89 => ?_)
              · skip
                have c9 : ops i < -8 := by
                  rcases i32_tri (ops i) with h | h | h
                  · exact absurd c60 (Int32.not_le.mpr h)
                  · exact absurd h c89
                  · exact h
                have hp := w4 c9
                obtain ⟨z, hz⟩ : ∃ z, htE ops i = z + 1 := ⟨htE ops i - 1, by omega⟩
                refine q_iinc_6_3 hZ (pc := 123) dX0_exprValue_123 rfl ?_
                refine z_drop hZ (L' := [some (.ref (o 5)), some (.int (nI b)), some (.ref (a 0)), some (.int (nI (htE ops i - 1))), some (.int (nI (b + i))), some (.int (ops i))]) ⟨rfl, rfl, rfl, zi (by rw [hz]; exact nI_dec z), rfl, rfl, trivial⟩ ?_
                refine z_aload_n hZ (pc := 126) dX0_exprValue_126 rfl ?_
                refine gC_5_12 hZ (pc := 127) fl_X0_33 dX0_exprValue_127 ?_
                refine z_iload_n hZ (pc := 130) dX0_exprValue_130 rfl ?_
                refine z_iconst hZ (pc := 131) (v := 1) dX0_exprValue_131 (by decide) ?_
                refine z_isub hZ (pc := 132) dX0_exprValue_132 ?_
                refine z_top (y := nI (htE ops i - 2)) (by rw [nI_sub1 (by omega)]; rfl) ?_
                refine z_iload hZ (pc := 133) dX0_exprValue_133 rfl ?_
                refine z_aload_n hZ (pc := 135) dX0_exprValue_135 rfl ?_
                refine gC_5_12 hZ (pc := 136) fl_X0_33 dX0_exprValue_136 ?_
                refine z_iload_n hZ (pc := 139) dX0_exprValue_139 rfl ?_
                refine z_iconst hZ (pc := 140) (v := 1) dX0_exprValue_140 (by decide) ?_
                refine z_isub hZ (pc := 141) dX0_exprValue_141 ?_
                refine z_top (y := nI (htE ops i - 2)) (by rw [nI_sub1 (by omega)]; rfl) ?_
                refine cS_i hZ (pc := 142) dX0_exprValue_142 lk_X0_61 mn_X10_at ms_X10_at (c_X10_atn (j := 24) (n := htE ops i - 2) (by decide) (by show htE ops i - 2 < 64; omega)) rfl rfl (Nat.le_of_ble_eq_true rfl) (by decide) (by decide) (Nat.zero_le _) (Nat.zero_le _) ?_
                refine z_aload_n hZ (pc := 145) dX0_exprValue_145 rfl ?_
                refine gC_5_12 hZ (pc := 146) fl_X0_33 dX0_exprValue_146 ?_
                refine z_iload_n hZ (pc := 149) dX0_exprValue_149 rfl ?_
                refine cS_i hZ (pc := 150) dX0_exprValue_150 lk_X0_61 mn_X10_at ms_X10_at (c_X10_atn (j := 24) (n := htE ops i - 1) (by decide) (by show htE ops i - 1 < 64; omega)) rfl rfl (Nat.le_of_ble_eq_true rfl) (by decide) (by decide) (Nat.zero_le _) (Nat.zero_le _) ?_
                refine cS_i hZ (pc := 153) dX0_exprValue_153 lk_X0_73 mn_X0_join ms_X0_join (c_X0_join) rfl rfl (Nat.le_of_ble_eq_true rfl) (by decide) (by decide) (Nat.zero_le _) (Nat.zero_le _) ?_
                refine cS_v hZ (pc := 156) dX0_exprValue_156 lk_X0_65 mn_X10_put ms_X10_put (c_X10_putn (j := 24) (n := htE ops i - 2) (by decide) (by show htE ops i - 2 < 64; omega)) rfl rfl (Nat.le_of_ble_eq_true rfl) (by decide) (by decide) (Nat.zero_le _) (Nat.zero_le _) ?_
                refine q_iinc_6_4 hZ (pc := 159) dX0_exprValue_159 rfl ?_
                refine z_goto hZ (pc := 162) (tgt := 5) dX0_exprValue_162 rfl ?_
                exact z_back hZ (ih (i + 1) (by omega) (by omega)) (WC_eq rfl (by rw [up_twice]; exact congrArg _ (by rw [rwE_two c9]; rfl))) ⟨rfl, rfl, rfl, zi (by rw [htE_two c9]), zi (nI_inc _), trivial⟩
              · skip
                have hp := w3 c89
                refine z_aload_n hZ (pc := 92) dX0_exprValue_92 rfl ?_
                refine gC_5_12 hZ (pc := 93) fl_X0_33 dX0_exprValue_93 ?_
                refine z_iload_n hZ (pc := 96) dX0_exprValue_96 rfl ?_
                refine z_iconst hZ (pc := 97) (v := 1) dX0_exprValue_97 (by decide) ?_
                refine z_isub hZ (pc := 98) dX0_exprValue_98 ?_
                refine z_top (y := nI (htE ops i - 1)) (nI_sub1 (by omega)) ?_
                refine z_aload_n hZ (pc := 99) dX0_exprValue_99 rfl ?_
                refine gC_5_12 hZ (pc := 100) fl_X0_33 dX0_exprValue_100 ?_
                refine z_iload_n hZ (pc := 103) dX0_exprValue_103 rfl ?_
                refine z_iconst hZ (pc := 104) (v := 1) dX0_exprValue_104 (by decide) ?_
                refine z_isub hZ (pc := 105) dX0_exprValue_105 ?_
                refine z_top (y := nI (htE ops i - 1)) (nI_sub1 (by omega)) ?_
                refine cS_i hZ (pc := 106) dX0_exprValue_106 lk_X0_61 mn_X10_at ms_X10_at (c_X10_atn (j := 24) (n := htE ops i - 1) (by decide) (by show htE ops i - 1 < 64; omega)) rfl rfl (Nat.le_of_ble_eq_true rfl) (by decide) (by decide) (Nat.zero_le _) (Nat.zero_le _) ?_
                refine z_if_ne hZ (pc := 109) (tgt := 116) dX0_exprValue_109 rfl (fun c109 => ?_) (fun c109 => ?_)
                · skip
                  refine z_iconst hZ (pc := 116) (v := 0) dX0_exprValue_116 (by decide) ?_
                  refine cS_v hZ (pc := 117) dX0_exprValue_117 lk_X0_65 mn_X10_put ms_X10_put (c_X10_putn (j := 24) (n := htE ops i - 1) (by decide) (by show htE ops i - 1 < 64; omega)) rfl rfl (Nat.le_of_ble_eq_true rfl) (by decide) (by decide) (Nat.zero_le _) (Nat.zero_le _) ?_
                  refine z_goto hZ (pc := 120) (tgt := 159) dX0_exprValue_120 rfl ?_
                  refine q_iinc_6_4 hZ (pc := 159) dX0_exprValue_159 rfl ?_
                  refine z_goto hZ (pc := 162) (tgt := 5) dX0_exprValue_162 rfl ?_
                  exact z_back hZ (ih (i + 1) (by omega) (by omega)) (WC_eq rfl (by rw [up_twice]; exact congrArg _ (by rw [up_at] at c109; rw [rwE_not c89, if_neg c109]; rfl))) ⟨rfl, rfl, rfl, zi (by rw [htE_not c89]), zi (nI_inc _), trivial⟩
                · skip
                  refine z_iconst hZ (pc := 112) (v := 1) dX0_exprValue_112 (by decide) ?_
                  refine z_goto hZ (pc := 113) (tgt := 117) dX0_exprValue_113 rfl ?_
                  refine cS_v hZ (pc := 117) dX0_exprValue_117 lk_X0_65 mn_X10_put ms_X10_put (c_X10_putn (j := 24) (n := htE ops i - 1) (by decide) (by show htE ops i - 1 < 64; omega)) rfl rfl (Nat.le_of_ble_eq_true rfl) (by decide) (by decide) (Nat.zero_le _) (Nat.zero_le _) ?_
                  refine z_goto hZ (pc := 120) (tgt := 159) dX0_exprValue_120 rfl ?_
                  refine q_iinc_6_4 hZ (pc := 159) dX0_exprValue_159 rfl ?_
                  refine z_goto hZ (pc := 162) (tgt := 5) dX0_exprValue_162 rfl ?_
                  exact z_back hZ (ih (i + 1) (by omega) (by omega)) (WC_eq rfl (by rw [up_twice]; exact congrArg _ (by rw [up_at] at c109; rw [rwE_not c89, if_pos c109]; rfl))) ⟨rfl, rfl, rfl, zi (by rw [htE_not c89]), zi (nI_inc _), trivial⟩
            · skip
              have c8 : -8 < ops i := Int32.not_le.mp c60
              have hp := w2 c8
              obtain ⟨z, hz, ez, ez2⟩ := val_ix c37 c8
              refine z_aload_n hZ (pc := 63) dX0_exprValue_63 rfl ?_
              refine gC_5_12 hZ (pc := 64) fl_X0_33 dX0_exprValue_64 ?_
              refine z_iload_n hZ (pc := 67) dX0_exprValue_67 rfl ?_
              refine z_aload_n hZ (pc := 68) dX0_exprValue_68 rfl ?_
              refine z_iconst hZ (pc := 69) (v := (-1)) dX0_exprValue_69 (by decide) ?_
              refine z_iload hZ (pc := 70) dX0_exprValue_70 rfl ?_
              refine z_isub hZ (pc := 72) dX0_exprValue_72 ?_
              refine z_top ez ?_
              refine cS_i hZ (pc := 73) dX0_exprValue_73 lk_X0_61 mn_X10_at ms_X10_at (c_X10_atn (j := 0) (n := z) (by decide) hz) rfl rfl (Nat.le_of_ble_eq_true rfl) (by decide) (by decide) (Nat.zero_le _) (Nat.zero_le _) ?_
              refine cS_v hZ (pc := 76) dX0_exprValue_76 lk_X0_65 mn_X10_put ms_X10_put (c_X10_putn (j := 24) (n := htE ops i) (by decide) (by show htE ops i < 64; omega)) rfl rfl (Nat.le_of_ble_eq_true rfl) (by decide) (by decide) (Nat.zero_le _) (Nat.zero_le _) ?_
              refine q_iinc_6_3 hZ (pc := 79) dX0_exprValue_79 rfl ?_
              refine z_goto hZ (pc := 82) (tgt := 159) dX0_exprValue_82 rfl ?_
              refine q_iinc_6_4 hZ (pc := 159) dX0_exprValue_159 rfl ?_
              refine z_goto hZ (pc := 162) (tgt := 5) dX0_exprValue_162 rfl ?_
              exact z_back hZ (ih (i + 1) (by omega) (by omega)) (WC_eq rfl (by rw [up_twice]; exact congrArg _ (by rw [rwE_val c37 c8, ez2]; rfl))) ⟨rfl, rfl, rfl, zi (by rw [htE_push c8]; exact nI_inc _), zi (nI_inc _), trivial⟩
          · skip
            have c8 : -8 < ops i := Int32.lt_of_lt_of_le (by decide) (Int32.not_lt.mp c37)
            have hp := w2 c8
            refine z_aload_n hZ (pc := 40) dX0_exprValue_40 rfl ?_
            refine gC_5_12 hZ (pc := 41) fl_X0_33 dX0_exprValue_41 ?_
            refine z_iload_n hZ (pc := 44) dX0_exprValue_44 rfl ?_
            refine z_iload hZ (pc := 45) dX0_exprValue_45 rfl ?_
            refine cS_v hZ (pc := 47) dX0_exprValue_47 lk_X0_65 mn_X10_put ms_X10_put (c_X10_putn (j := 24) (n := htE ops i) (by decide) (by show htE ops i < 64; omega)) rfl rfl (Nat.le_of_ble_eq_true rfl) (by decide) (by decide) (Nat.zero_le _) (Nat.zero_le _) ?_
            refine q_iinc_6_3 hZ (pc := 50) dX0_exprValue_50 rfl ?_
            refine z_goto hZ (pc := 53) (tgt := 159) dX0_exprValue_53 rfl ?_
            refine q_iinc_6_4 hZ (pc := 159) dX0_exprValue_159 rfl ?_
            refine z_goto hZ (pc := 162) (tgt := 5) dX0_exprValue_162 rfl ?_
            exact z_back hZ (ih (i + 1) (by omega) (by omega)) (WC_eq rfl (by rw [up_twice]; exact congrArg _ (by rw [rwE_num (Int32.not_lt.mp c37)]; rfl))) ⟨rfl, rfl, rfl, zi (by rw [htE_push c8]; exact nI_inc _), zi (nI_inc _), trivial⟩
        · skip
          refine z_goto hZ (pc := 32) (tgt := 165) dX0_exprValue_32 rfl ?_
          have him : i = m := by
            rcases Nat.lt_or_ge i m with h | h
            · rw [show va_up g 24 (rwE (g 0) ops (g 24) i) 23 = g 23 from rfl, hop i h] at c29
              have := (hwf.1 i h).1
              rw [c29] at this
              exact absurd this (by decide)
            · omega
          subst him
          refine z_aload_n hZ (pc := 165) dX0_exprValue_165 rfl ?_
          refine gC_5_12 hZ (pc := 166) fl_X0_33 dX0_exprValue_166 ?_
          refine z_iconst hZ (pc := 169) (v := 0) dX0_exprValue_169 (by decide) ?_
          refine cS_i hZ (pc := 170) dX0_exprValue_170 lk_X0_61 mn_X10_at ms_X10_at (c_X10_atn (j := 24) (n := 0) (by decide) (by decide)) rfl rfl (Nat.le_of_ble_eq_true rfl) (by decide) (by decide) (Nat.zero_le _) (Nat.zero_le _) ?_
          refine zr_i hZ (pc := 173) dX0_exprValue_173 FitR.int ?_
          exact ⟨rfl, fun j hj => up_off hj, by rw [← rwE_expr hwf]; rfl⟩
  exact z_back hZ (lp5 (m + 1) 0 (Nat.zero_le _) (by omega)) (WC_eq rfl (by rw [rwE, up_self])) ⟨rfl, rfl, rfl, rfl, rfl, trivial⟩
def allB (p : Nat → Bool) : Nat → Bool
  | 0 => true
  | n + 1 => allB p n && p n
theorem allB_no {p : Nat → Bool} {i : Nat} (h : p i = false) : ∀ {n : Nat}, i < n → allB p n = false
  | 0, hi => absurd hi (by omega)
  | n + 1, hi => by
    rw [allB]
    by_cases e : i = n
    · subst e; simp [h]
    · rw [allB_no h (by omega)]; rfl
theorem allB_cong {p q : Nat → Bool} : ∀ {n : Nat}, (∀ k, k < n → p k = q k) → allB p n = allB q n
  | 0, _ => rfl
  | n + 1, h => by rw [allB, allB, allB_cong (fun k hk => h k (by omega)), h n (by omega)]
/-- the class's RULES and ASKS: e 0 .. 3 rules, 4 .. 9 asks -/
def ExC (v : ZV) (g : ZG) (R A : Nat) (ops : Nat → Nat → Int32) (m : Nat → Nat) : Prop := ∃ (cN : Nat) (b : Nat → Nat), v 19 = nI cN ∧ v 17 = nI R ∧ v 18 = nI A ∧ R ≤ 4 ∧ A ≤ 6 ∧ (∀ e, e < R → g 21 e = nI (b e) ∧ CodeC (g 23) cN (ops e) (m e) (b e)) ∧ ∀ e, e < A → g 22 e = nI (b (4 + e)) ∧ CodeC (g 23) cN (ops (4 + e)) (m (4 + e)) (b (4 + e))
/-- an EXPR holds of values -/
def holdE (vals : Nat → Int32) (ops : Nat → Nat → Int32) (m : Nat → Nat) (e : Nat) : Bool := decide (exprS vals (ops e) (m e) ≠ 0)
theorem c_X0_rulesHold {l : Launch} {D : va_G} {cA : Nat → ClassId} {o a : Nat → Nat} {v : ZV} {g : ZG} {R A : Nat} {ops : Nat → Nat → Int32} {m : Nat → Nat} (hX : ExC v g R A ops m) : MG l D cA (WC o a cA) yX0_rulesHold cX0_rulesHold 3 (some .boolean) 2 [(.ref (o 5)), (.ref (a 0))] v g (fun v2 g2 r => v2 = v ∧ (∀ j, j ≠ 24 → g2 j = g j) ∧ r = some (.int (bI (allB (holdE (g 0) ops m) R)))) := by
  refine MG.of (by decide) rfl (Nat.le_of_ble_eq_true rfl) (by simp [Value.category]) (fun Z hZ => ?_)
  obtain ⟨cN, b, hc, hR, hA, hR4, hA6, hE, hE2⟩ := hX
  refine z_iconst hZ (pc := 0) (v := 0) dX0_rulesHold_0 (by decide) ?_
  refine q_istore_n_3_2 hZ (pc := 1) dX0_rulesHold_1 rfl ?_
  have lp2 : ∀ (f i : Nat) (g1 : ZG), i ≤ R → R - i < f → (∀ j, j ≠ 24 → g1 j = g j) → allB (holdE (g 0) ops m) i = true → Z 0 0 (WC o a cA v g1) [some (.ref (o 5)), some (.ref (a 0)), some (.int (nI i))] [] 2 := by
    intro f
    induction f with
    | zero => intro i _ _ hf; exact absurd hf (Nat.not_lt_zero _)
    | succ f ih =>
      intro i g1 hi hf hg1 hall
      refine z_iload_n hZ (pc := 2) dX0_rulesHold_2 rfl ?_
      refine z_aload_n hZ (pc := 3) dX0_rulesHold_3 rfl ?_
      refine gC_5_2 hZ (pc := 4) fl_X0_46 dX0_rulesHold_4 ?_
      refine z_icmp_ge hZ (pc := 7) (tgt := 34) dX0_rulesHold_7 rfl (fun c7 => ?_) (fun c7 => ?_)
      · skip
        have e : R = i := (lp_ge hR (by omega) hi c7).symm
        subst e
        refine z_iconst hZ (pc := 34) (v := 1) dX0_rulesHold_34 (by decide) ?_
        refine zr_i hZ (pc := 35) dX0_rulesHold_35 FitR.b1 ?_
        exact ⟨rfl, hg1, by rw [hall]; rfl⟩
      · skip
        have hl : i < R := lp_lt hR (by omega) hi c7
        refine z_aload_n hZ (pc := 10) dX0_rulesHold_10 rfl ?_
        refine z_aload_n hZ (pc := 11) dX0_rulesHold_11 rfl ?_
        refine gC_5_9 hZ (pc := 12) fl_X0_24 dX0_rulesHold_12 ?_
        refine z_iload_n hZ (pc := 15) dX0_rulesHold_15 rfl ?_
        refine cS_i hZ (pc := 16) dX0_rulesHold_16 lk_X0_61 mn_X10_at ms_X10_at (c_X10_atn (j := 21) (n := i) (by decide) (by show i < 4; omega)) rfl rfl (Nat.le_of_ble_eq_true rfl) (by decide) (by decide) (Nat.zero_le _) (Nat.zero_le _) ?_
        refine z_top (y := nI (b i)) (by rw [hg1 21 (by decide)]; exact (hE i hl).1) ?_
        refine z_aload_n hZ (pc := 19) dX0_rulesHold_19 rfl ?_
        refine cV hZ (pc := 20) dX0_rulesHold_20 lk_X0_69 mn_X0_exprValue mv_X0_exprValue (c_X0_exprValue (cN := cN) (m := m i) (b := b i) (ops := ops i) hc (by rw [hg1 23 (by decide)]; exact (hE i hl).2)) rc_5 rfl rfl (Nat.le_of_ble_eq_true rfl) (by decide) (by decide) (Nat.zero_le _) (Nat.zero_le _) ?_
        intro v2 g2 r h
        obtain ⟨rfl, hg2, rfl⟩ := h
        rw [hg1 0 (by decide)]
        refine z_if_ne hZ (pc := 23) (tgt := 28) dX0_rulesHold_23 rfl (fun c23 => ?_) (fun c23 => ?_)
        · skip
          refine q_iinc_3_2 hZ (pc := 28) dX0_rulesHold_28 rfl ?_
          refine z_goto hZ (pc := 31) (tgt := 2) dX0_rulesHold_31 rfl ?_
          exact z_back hZ (ih (i + 1) g2 (by omega) (by omega) (fun j hj => (hg2 j hj).trans (hg1 j hj)) (by rw [allB, hall]; simp [holdE, c23])) rfl ⟨rfl, rfl, zi (nI_inc i), trivial⟩
        · skip
          refine z_iconst hZ (pc := 26) (v := 0) dX0_rulesHold_26 (by decide) ?_
          refine zr_i hZ (pc := 27) dX0_rulesHold_27 FitR.b0 ?_
          exact ⟨rfl, fun j hj => (hg2 j hj).trans (hg1 j hj), by rw [allB_no (i := i) (by simp [holdE, c23]) hl]; rfl⟩
  exact z_back hZ (lp2 (R + 1) 0 g (Nat.zero_le _) (by omega) (fun _ _ => rfl) rfl) rfl ⟨rfl, rfl, rfl, trivial⟩
theorem c_X0_askHolds {l : Launch} {D : va_G} {cA : Nat → ClassId} {o a : Nat → Nat} {v : ZV} {g : ZG} {R A e : Nat} {ops : Nat → Nat → Int32} {m : Nat → Nat} (hX : ExC v g R A ops m) (he : e < A) : MG l D cA (WC o a cA) yX0_askHolds cX0_askHolds 3 (some .boolean) 2 [(.ref (o 5)), .int (nI e), (.ref (a 0))] v g (fun v2 g2 r => v2 = v ∧ (∀ j, j ≠ 24 → g2 j = g j) ∧ r = some (.int (bI (holdE (g 0) ops m (4 + e))))) := by
  refine MG.of (by decide) rfl (Nat.le_of_ble_eq_true rfl) (by simp [Value.category]) (fun Z hZ => ?_)
  obtain ⟨cN, b, hc, hR, hA, hR4, hA6, hE, hE2⟩ := hX
  refine z_aload_n hZ (pc := 0) dX0_askHolds_0 rfl ?_
  refine z_aload_n hZ (pc := 1) dX0_askHolds_1 rfl ?_
  refine gC_5_10 hZ (pc := 2) fl_X0_27 dX0_askHolds_2 ?_
  refine z_iload_n hZ (pc := 5) dX0_askHolds_5 rfl ?_
  refine cS_i hZ (pc := 6) dX0_askHolds_6 lk_X0_61 mn_X10_at ms_X10_at (c_X10_atn (j := 22) (n := e) (by decide) (by show e < 6; omega)) rfl rfl (Nat.le_of_ble_eq_true rfl) (by decide) (by decide) (Nat.zero_le _) (Nat.zero_le _) ?_
  refine z_top (y := nI (b (4 + e))) (hE2 e he).1 ?_
  refine z_aload_n hZ (pc := 9) dX0_askHolds_9 rfl ?_
  refine cV hZ (pc := 10) dX0_askHolds_10 lk_X0_69 mn_X0_exprValue mv_X0_exprValue (c_X0_exprValue (cN := cN) (m := m (4 + e)) (b := b (4 + e)) (ops := ops (4 + e)) hc (hE2 e he).2) rc_5 rfl rfl (Nat.le_of_ble_eq_true rfl) (by decide) (by decide) (Nat.zero_le _) (Nat.zero_le _) ?_
  intro v2 g2 r h
  obtain ⟨rfl, hg2, rfl⟩ := h
  refine z_if_eq hZ (pc := 13) (tgt := 20) dX0_askHolds_13 rfl (fun c13 => ?_) (fun c13 => ?_)
  · skip
    refine z_iconst hZ (pc := 20) (v := 0) dX0_askHolds_20 (by decide) ?_
    refine zr_i hZ (pc := 21) dX0_askHolds_21 FitR.b0 ?_
    exact ⟨rfl, hg2, by simp [holdE, c13, bI]⟩
  · skip
    refine z_iconst hZ (pc := 16) (v := 1) dX0_askHolds_16 (by decide) ?_
    refine z_goto hZ (pc := 17) (tgt := 21) dX0_askHolds_17 rfl ?_
    refine zr_i hZ (pc := 21) dX0_askHolds_21 FitR.b1 ?_
    exact ⟨rfl, hg2, by simp [holdE, c13, bI]⟩
theorem bI_ne {b : Bool} (h : ¬ bI b = 0) : b = true := by
  cases b
  · exact absurd rfl h
  · rfl
theorem bit_off {b k : Nat} (hb : b < 2 ^ 31) (hk : k < 31) (h : ¬ (nI b >>> (nI k &&& 31)) &&& 1 = 1) : b.testBit k = false := by
  cases h2 : b.testBit k
  · rfl
  · exact absurd ((bit_one hb hk).mpr h2) h
/-- the values of a house, by what it is called by -/
def valsH (wo gr wh be hi : Nat → Int32) (k : Nat) (c : Int32) : Nat → Int32 := if c = -1 then vals7 (nI k) 99 0 0 0 0 0 (fun _ => 0) else vals7 (nI k) (wo c.toNatClampNeg) (gr c.toNatClampNeg) (hi (wo c.toNatClampNeg).toNatClampNeg) (wh c.toNatClampNeg / 24) (wh c.toNatClampNeg - wh c.toNatClampNeg / 24 * 24) (be c.toNatClampNeg) (fun _ => 0)
theorem vals7_cong {x0 x1 x2 x3 x4 x5 x6 : Int32} {f f' : Nat → Int32} : ∀ j, j < 7 → vals7 x0 x1 x2 x3 x4 x5 x6 f j = vals7 x0 x1 x2 x3 x4 x5 x6 f' j := by
  intro j hj
  unfold vals7 upd
  by_cases h6 : j = 6
  · simp [h6]
  by_cases h5 : j = 5
  · simp [h5]
  by_cases h4 : j = 4
  · simp [h4]
  by_cases h3 : j = 3
  · simp [h3]
  by_cases h2 : j = 2
  · simp [h2]
  by_cases h1 : j = 1
  · simp [h1]
  have h0 : j = 0 := by omega
  simp [h0]
theorem T5_off {g g' : ZG} (h : g' 5 = g 5) (k : Nat) : T5 g' k = T5 g k := by unfold T5; rw [h]
theorem holdE_cong {vals vals' : Nat → Int32} {ops : Nat → Nat → Int32} {m : Nat → Nat} {e : Nat} (h : wfE (ops e) (m e)) (hv : ∀ j, j < 7 → vals j = vals' j) : holdE vals ops m e = holdE vals' ops m e := by unfold holdE; rw [exprS_cong h hv]
theorem ExC_wfA {v : ZV} {g : ZG} {R A : Nat} {ops : Nat → Nat → Int32} {m : Nat → Nat} (h : ExC v g R A ops m) {e : Nat} (he : e < A) : wfE (ops (4 + e)) (m (4 + e)) := by
  obtain ⟨cN, b, hc, hR, hA, hR4, hA6, hE, hE2⟩ := h
  exact (hE2 e he).2.2.2.2.2
theorem ExC_wfR {v : ZV} {g : ZG} {R A : Nat} {ops : Nat → Nat → Int32} {m : Nat → Nat} (h : ExC v g R A ops m) {e : Nat} (he : e < R) : wfE (ops e) (m e) := by
  obtain ⟨cN, b, hc, hR, hA, hR4, hA6, hE, hE2⟩ := h
  exact (hE e he).2.2.2.2.2
theorem ExC_mv {v v' : ZV} {g g' : ZG} {R A : Nat} {ops : Nat → Nat → Int32} {m : Nat → Nat} (h : ExC v g R A ops m) (h1 : v' 17 = v 17) (h2 : v' 18 = v 18) (h3 : v' 19 = v 19) (h4 : g' 21 = g 21) (h5 : g' 22 = g 22) (h6 : g' 23 = g 23) : ExC v' g' R A ops m := by
  obtain ⟨cN, b, hc, hR, hA, hR4, hA6, hE, hE2⟩ := h
  exact ⟨cN, b, h3.trans hc, h1.trans hR, h2.trans hA, hR4, hA6, by rw [h4, h6]; exact hE, by rw [h5, h6]; exact hE2⟩
theorem c_X10_holdsNow {l : Launch} {D : va_G} {cA : Nat → ClassId} {o a : Nat → Nat} {v : ZV} {g : ZG} {R A e k : Nat} {ops : Nat → Nat → Int32} {m : Nat → Nat} (hX : ExC v g R A ops m) (he : e < A) (hk : k < 10) (hcb : g 33 k = -1 ∨ ∃ t, t < 200 ∧ g 33 k = nI t) (hwo : ∀ t, t < 200 → g 33 k = nI t → ∃ p, p < 16 ∧ T5 g 0 t = nI p) : MG l D cA (WC o a cA) yX10_holdsNow cX10_holdsNow 5 (some .boolean) 3 [(.ref (o 0)), .int (nI e), .int (nI k)] v g (fun v2 g2 r => v2 = v ∧ (∀ j, j ≠ 24 → j ≠ 0 → g2 j = g j) ∧ r = some (.int (bI (holdE (valsH (T5 g 0) (T5 g 3) (T5 g 2) (T5 g 4) (g 19) k (g 33 k)) ops m (4 + e))))) := by
  refine MG.of (by decide) rfl (Nat.le_of_ble_eq_true rfl) (by simp [Value.category]) (fun Z hZ => ?_)
  refine z_aload_n hZ (pc := 0) dX10_holdsNow_0 rfl ?_
  refine gC_0_3 hZ (pc := 1) fl_X10_29 dX10_holdsNow_1 ?_
  refine gC_7_0 hZ (pc := 4) fl_X10_332 dX10_holdsNow_4 ?_
  refine z_iload_n hZ (pc := 7) dX10_holdsNow_7 rfl ?_
  refine cS_i hZ (pc := 8) dX10_holdsNow_8 lk_X10_159 mn_X10_at ms_X10_at (c_X10_atn (j := 33) (n := k) (by decide) hk) rfl rfl (Nat.le_of_ble_eq_true rfl) (by decide) (by decide) (Nat.zero_le _) (Nat.zero_le _) ?_
  refine q_istore_n_5_3 hZ (pc := 11) dX10_holdsNow_11 rfl ?_
  refine z_iload_n hZ (pc := 12) dX10_holdsNow_12 rfl ?_
  refine z_iconst hZ (pc := 13) (v := (-1)) dX10_holdsNow_13 (by decide) ?_
  refine z_icmp_ne hZ (pc := 14) (tgt := 31) dX10_holdsNow_14 rfl (fun c14 => ?_) (fun c14 => ?_)
  · skip
    obtain ⟨t, ht, et⟩ := hcb.resolve_left c14
    obtain ⟨p, hp, ep⟩ := hwo t ht et
    rw [et]
    refine z_aload_n hZ (pc := 31) dX10_holdsNow_31 rfl ?_
    refine gC_0_1 hZ (pc := 32) fl_X10_19 dX10_holdsNow_32 ?_
    refine z_iload_n hZ (pc := 35) dX10_holdsNow_35 rfl ?_
    refine z_iconst hZ (pc := 36) (v := 0) dX10_holdsNow_36 (by decide) ?_
    refine cV_i hZ (pc := 37) dX10_holdsNow_37 lk_X10_206 mn_X6_tearsNumber mv_X6_tearsNumber (c_X6_tn (i := t) (j := 0) ht (by decide)) rc_3 rfl rfl (Nat.le_of_ble_eq_true rfl) (by decide) (by decide) (Nat.zero_le _) (Nat.zero_le _) ?_
    refine q_istore_5_4 hZ (pc := 40) dX10_holdsNow_40 rfl ?_
    refine z_aload_n hZ (pc := 42) dX10_holdsNow_42 rfl ?_
    refine z_iload_n hZ (pc := 43) dX10_holdsNow_43 rfl ?_
    refine z_iload hZ (pc := 44) dX10_holdsNow_44 rfl ?_
    refine z_aload_n hZ (pc := 46) dX10_holdsNow_46 rfl ?_
    refine gC_0_1 hZ (pc := 47) fl_X10_19 dX10_holdsNow_47 ?_
    refine z_iload_n hZ (pc := 50) dX10_holdsNow_50 rfl ?_
    refine z_iconst hZ (pc := 51) (v := 3) dX10_holdsNow_51 (by decide) ?_
    refine cV_i hZ (pc := 52) dX10_holdsNow_52 lk_X10_206 mn_X6_tearsNumber mv_X6_tearsNumber (c_X6_tn (i := t) (j := 3) ht (by decide)) rc_3 rfl rfl (Nat.le_of_ble_eq_true rfl) (by decide) (by decide) (Nat.zero_le _) (Nat.zero_le _) ?_
    refine z_aload_n hZ (pc := 55) dX10_holdsNow_55 rfl ?_
    refine gC_0_10 hZ (pc := 56) fl_X10_75 dX10_holdsNow_56 ?_
    refine gC_5_7 hZ (pc := 59) fl_X10_172 dX10_holdsNow_59 ?_
    refine z_iload hZ (pc := 62) dX10_holdsNow_62 rfl ?_
    refine z_top ep ?_
    refine cS_i hZ (pc := 64) dX10_holdsNow_64 lk_X10_159 mn_X10_at ms_X10_at (c_X10_atn (j := 19) (n := p) (by decide) hp) rfl rfl (Nat.le_of_ble_eq_true rfl) (by decide) (by decide) (Nat.zero_le _) (Nat.zero_le _) ?_
    refine z_aload_n hZ (pc := 67) dX10_holdsNow_67 rfl ?_
    refine gC_0_1 hZ (pc := 68) fl_X10_19 dX10_holdsNow_68 ?_
    refine z_iload_n hZ (pc := 71) dX10_holdsNow_71 rfl ?_
    refine z_iconst hZ (pc := 72) (v := 2) dX10_holdsNow_72 (by decide) ?_
    refine cV_i hZ (pc := 73) dX10_holdsNow_73 lk_X10_206 mn_X6_tearsNumber mv_X6_tearsNumber (c_X6_tn (i := t) (j := 2) ht (by decide)) rc_3 rfl rfl (Nat.le_of_ble_eq_true rfl) (by decide) (by decide) (Nat.zero_le _) (Nat.zero_le _) ?_
    refine z_aload_n hZ (pc := 76) dX10_holdsNow_76 rfl ?_
    refine gC_0_1 hZ (pc := 77) fl_X10_19 dX10_holdsNow_77 ?_
    refine z_iload_n hZ (pc := 80) dX10_holdsNow_80 rfl ?_
    refine z_iconst hZ (pc := 81) (v := 4) dX10_holdsNow_81 (by decide) ?_
    refine cV_i hZ (pc := 82) dX10_holdsNow_82 lk_X10_206 mn_X6_tearsNumber mv_X6_tearsNumber (c_X6_tn (i := t) (j := 4) ht (by decide)) rc_3 rfl rfl (Nat.le_of_ble_eq_true rfl) (by decide) (by decide) (Nat.zero_le _) (Nat.zero_le _) ?_
    refine cV_v hZ (pc := 85) dX10_holdsNow_85 lk_X10_189 mn_X10_setValues mv_X10_setValues (c_X10_setValues) rc_0 rfl rfl (Nat.le_of_ble_eq_true rfl) (by decide) (by decide) (Nat.zero_le _) (Nat.zero_le _) ?_
    refine z_aload_n hZ (pc := 88) dX10_holdsNow_88 rfl ?_
    refine gC_0_10 hZ (pc := 89) fl_X10_75 dX10_holdsNow_89 ?_
    refine z_iload_n hZ (pc := 92) dX10_holdsNow_92 rfl ?_
    refine z_aload_n hZ (pc := 93) dX10_holdsNow_93 rfl ?_
    refine gC_0_9 hZ (pc := 94) fl_X10_68 dX10_holdsNow_94 ?_
    refine cV hZ (pc := 97) dX10_holdsNow_97 lk_X10_335 mn_X0_askHolds mv_X0_askHolds (c_X0_askHolds (R := R) (A := A) (e := e) (ops := ops) (m := m) (ExC_mv hX rfl rfl rfl rfl rfl rfl) he) rc_5 rfl rfl (Nat.le_of_ble_eq_true rfl) (by decide) (by decide) (Nat.zero_le _) (Nat.zero_le _) ?_
    intro v2 g2 r h
    obtain ⟨rfl, hg2, rfl⟩ := h
    refine zr_i hZ (pc := 100) dX10_holdsNow_100 FitR.bI ?_
    exact ⟨rfl, fun j h1 h2 => (hg2 j h1).trans (up_off h2), congrArg (fun z => some (Value.int (bI z))) (holdE_cong (ExC_wfA hX he) (fun j hj => by rw [valsH, if_neg c14, et, nI_clamp (by omega), ep, nI_clamp (by omega), up_at]; exact vals7_cong j hj))⟩
  · skip
    refine z_aload_n hZ (pc := 17) dX10_holdsNow_17 rfl ?_
    refine z_iload_n hZ (pc := 18) dX10_holdsNow_18 rfl ?_
    refine z_bipush hZ (pc := 19) (v := 99) dX10_holdsNow_19 (by decide) ?_
    refine z_iconst hZ (pc := 21) (v := 0) dX10_holdsNow_21 (by decide) ?_
    refine z_iconst hZ (pc := 22) (v := 0) dX10_holdsNow_22 (by decide) ?_
    refine z_iconst hZ (pc := 23) (v := 0) dX10_holdsNow_23 (by decide) ?_
    refine z_iconst hZ (pc := 24) (v := 0) dX10_holdsNow_24 (by decide) ?_
    refine cV_v hZ (pc := 25) dX10_holdsNow_25 lk_X10_189 mn_X10_setValues mv_X10_setValues (c_X10_setValues) rc_0 rfl rfl (Nat.le_of_ble_eq_true rfl) (by decide) (by decide) (Nat.zero_le _) (Nat.zero_le _) ?_
    refine z_goto hZ (pc := 28) (tgt := 88) dX10_holdsNow_28 rfl ?_
    refine z_aload_n hZ (pc := 88) dX10_holdsNow_88 rfl ?_
    refine gC_0_10 hZ (pc := 89) fl_X10_75 dX10_holdsNow_89 ?_
    refine z_iload_n hZ (pc := 92) dX10_holdsNow_92 rfl ?_
    refine z_aload_n hZ (pc := 93) dX10_holdsNow_93 rfl ?_
    refine gC_0_9 hZ (pc := 94) fl_X10_68 dX10_holdsNow_94 ?_
    refine cV hZ (pc := 97) dX10_holdsNow_97 lk_X10_335 mn_X0_askHolds mv_X0_askHolds (c_X0_askHolds (R := R) (A := A) (e := e) (ops := ops) (m := m) (ExC_mv hX rfl rfl rfl rfl rfl rfl) he) rc_5 rfl rfl (Nat.le_of_ble_eq_true rfl) (by decide) (by decide) (Nat.zero_le _) (Nat.zero_le _) ?_
    intro v2 g2 r h
    obtain ⟨rfl, hg2, rfl⟩ := h
    refine zr_i hZ (pc := 100) dX10_holdsNow_100 FitR.bI ?_
    exact ⟨rfl, fun j h1 h2 => (hg2 j h1).trans (up_off h2), congrArg (fun z => some (Value.int (bI z))) (holdE_cong (ExC_wfA hX he) (fun j hj => by rw [valsH, if_pos c14, up_at]; exact vals7_cong j hj))⟩
theorem c_X10_housesOfAsk {l : Launch} {D : va_G} {cA : Nat → ClassId} {o a : Nat → Nat} {v : ZV} {g : ZG} {R A e b H : Nat} {ops : Nat → Nat → Int32} {m : Nat → Nat} (hX : ExC v g R A ops m) (he : e < A) (hb : b < 1024) (hH : v 15 = nI H) (h10 : H ≤ 10) (hcb : ∀ k, k < 10 → g 33 k = -1 ∨ ∃ t, t < 200 ∧ g 33 k = nI t) (hwo : ∀ k, k < 10 → ∀ t, t < 200 → g 33 k = nI t → ∃ p, p < 16 ∧ T5 g 0 t = nI p) : MG l D cA (WC o a cA) yX10_housesOfAsk cX10_housesOfAsk 5 (some .int) 4 [(.ref (o 0)), .int (nI e), .int (nI b)] v g (fun v2 g2 r => v2 = v ∧ (∀ j, j ≠ 24 → j ≠ 0 → g2 j = g j) ∧ r = some (.int (nI (bitN (fun k => b.testBit k && holdE (valsH (T5 g 0) (T5 g 3) (T5 g 2) (T5 g 4) (g 19) k (g 33 k)) ops m (4 + e)) H)))) := by
  refine MG.of (by decide) rfl (Nat.le_of_ble_eq_true rfl) (by simp [Value.category]) (fun Z hZ => ?_)
  refine z_iconst hZ (pc := 0) (v := 0) dX10_housesOfAsk_0 (by decide) ?_
  refine q_istore_n_5_3 hZ (pc := 1) dX10_housesOfAsk_1 rfl ?_
  refine z_iconst hZ (pc := 2) (v := 0) dX10_housesOfAsk_2 (by decide) ?_
  refine q_istore_5_4 hZ (pc := 3) dX10_housesOfAsk_3 rfl ?_
  have lp5 : ∀ (f i : Nat) (g1 : ZG), i ≤ H → H - i < f → (∀ j, j ≠ 24 → j ≠ 0 → g1 j = g j) → Z 0 0 (WC o a cA v g1) [some (.ref (o 0)), some (.int (nI e)), some (.int (nI b)), some (.int (nI (bitN (fun k => b.testBit k && holdE (valsH (T5 g 0) (T5 g 3) (T5 g 2) (T5 g 4) (g 19) k (g 33 k)) ops m (4 + e)) i))), some (.int (nI i))] [] 5 := by
    intro f
    induction f with
    | zero => intro i _ _ hf; exact absurd hf (Nat.not_lt_zero _)
    | succ f ih =>
      intro i g1 hi hf hg1
      refine z_iload hZ (pc := 5) dX10_housesOfAsk_5 rfl ?_
      refine z_aload_n hZ (pc := 7) dX10_housesOfAsk_7 rfl ?_
      refine gC_0_10 hZ (pc := 8) fl_X10_75 dX10_housesOfAsk_8 ?_
      refine gC_5_0 hZ (pc := 11) fl_X10_128 dX10_housesOfAsk_11 ?_
      refine z_icmp_ge hZ (pc := 14) (tgt := 50) dX10_housesOfAsk_14 rfl (fun c14 => ?_) (fun c14 => ?_)
      · skip
        have ee : H = i := (lp_ge hH (by omega) hi c14).symm
        subst ee
        refine z_iload_n hZ (pc := 50) dX10_housesOfAsk_50 rfl ?_
        refine zr_i hZ (pc := 51) dX10_housesOfAsk_51 FitR.int ?_
        exact ⟨rfl, hg1, rfl⟩
      · skip
        have hl : i < H := lp_lt hH (by omega) hi c14
        refine z_iload_n hZ (pc := 17) dX10_housesOfAsk_17 rfl ?_
        refine z_iload hZ (pc := 18) dX10_housesOfAsk_18 rfl ?_
        refine z_ishr hZ (pc := 20) dX10_housesOfAsk_20 ?_
        refine z_iconst hZ (pc := 21) (v := 1) dX10_housesOfAsk_21 (by decide) ?_
        refine z_iand hZ (pc := 22) dX10_housesOfAsk_22 ?_
        refine z_iconst hZ (pc := 23) (v := 1) dX10_housesOfAsk_23 (by decide) ?_
        refine z_icmp_ne hZ (pc := 24) (tgt := 44) dX10_housesOfAsk_24 rfl (fun c24 => ?_) (fun c24 => ?_)
        · skip
          refine q_iinc_5_4 hZ (pc := 44) dX10_housesOfAsk_44 rfl ?_
          refine z_goto hZ (pc := 47) (tgt := 5) dX10_housesOfAsk_47 rfl ?_
          exact z_back hZ (ih (i + 1) g1 (by omega) (by omega) (hg1)) rfl ⟨rfl, rfl, rfl, zi (or_no (by rw [bit_off (by omega) (by omega) c24]; rfl)), zi (nI_inc i), trivial⟩
        · skip
          refine z_aload_n hZ (pc := 27) dX10_housesOfAsk_27 rfl ?_
          refine z_iload_n hZ (pc := 28) dX10_housesOfAsk_28 rfl ?_
          refine z_iload hZ (pc := 29) dX10_housesOfAsk_29 rfl ?_
          refine cV hZ (pc := 31) dX10_housesOfAsk_31 lk_X10_260 mn_X10_holdsNow mv_X10_holdsNow (c_X10_holdsNow (R := R) (A := A) (e := e) (k := i) (ops := ops) (m := m) (ExC_mv hX rfl rfl rfl (hg1 21 (by decide) (by decide)) (hg1 22 (by decide) (by decide)) (hg1 23 (by decide) (by decide))) he (by omega) (by rw [hg1 33 (by decide) (by decide)]; exact hcb i (by omega)) (by rw [hg1 33 (by decide) (by decide), T5_off (hg1 5 (by decide) (by decide))]; exact hwo i (by omega))) rc_0 rfl rfl (Nat.le_of_ble_eq_true rfl) (by decide) (by decide) (Nat.zero_le _) (Nat.zero_le _) ?_
          intro v2 g2 r h
          obtain ⟨rfl, hg2, rfl⟩ := h
          rw [T5_off (hg1 5 (by decide) (by decide)), T5_off (hg1 5 (by decide) (by decide)), T5_off (hg1 5 (by decide) (by decide)), T5_off (hg1 5 (by decide) (by decide)), hg1 33 (by decide) (by decide), hg1 19 (by decide) (by decide)]
          refine z_if_eq hZ (pc := 34) (tgt := 44) dX10_housesOfAsk_34 rfl (fun c34 => ?_) (fun c34 => ?_)
          · skip
            refine q_iinc_5_4 hZ (pc := 44) dX10_housesOfAsk_44 rfl ?_
            refine z_goto hZ (pc := 47) (tgt := 5) dX10_housesOfAsk_47 rfl ?_
            exact z_back hZ (ih (i + 1) g2 (by omega) (by omega) (fun j h1 h2 => (hg2 j h1 h2).trans (hg1 j h1 h2))) rfl ⟨rfl, rfl, rfl, zi (or_no (by rw [bI_eq.mp c34, Bool.and_false])), zi (nI_inc i), trivial⟩
          · skip
            refine z_iload_n hZ (pc := 37) dX10_housesOfAsk_37 rfl ?_
            refine z_iconst hZ (pc := 38) (v := 1) dX10_housesOfAsk_38 (by decide) ?_
            refine z_iload hZ (pc := 39) dX10_housesOfAsk_39 rfl ?_
            refine z_ishl hZ (pc := 41) dX10_housesOfAsk_41 ?_
            refine z_ior hZ (pc := 42) dX10_housesOfAsk_42 ?_
            refine q_istore_n_5_3 hZ (pc := 43) dX10_housesOfAsk_43 rfl ?_
            refine q_iinc_5_4 hZ (pc := 44) dX10_housesOfAsk_44 rfl ?_
            refine z_goto hZ (pc := 47) (tgt := 5) dX10_housesOfAsk_47 rfl ?_
            exact z_back hZ (ih (i + 1) g2 (by omega) (by omega) (fun j h1 h2 => (hg2 j h1 h2).trans (hg1 j h1 h2))) rfl ⟨rfl, rfl, rfl, zi (or_bit (by omega) (by rw [(bit_one (by omega) (by omega)).mp c24, Bool.true_and]; exact bI_ne c34)), zi (nI_inc i), trivial⟩
  exact z_back hZ (lp5 (H + 1) 0 g (Nat.zero_le _) (by omega) (fun _ _ _ => rfl)) rfl ⟨rfl, rfl, rfl, rfl, rfl, trivial⟩
