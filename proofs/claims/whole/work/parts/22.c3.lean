/-- nobody comes out: of the first persons -/
def nobS (home ch : Nat → Int32) (h : Int32) : Nat → Int32
  | 0 => 1000000
  | p + 1 => if home p = h then nobS home ch h p * (1000 - ch p) / 1000 else nobS home ch h p
theorem nobS_cong {home home' ch ch' : Nat → Int32} {h : Int32} : ∀ {n : Nat}, (∀ p, p < n → home p = home' p) → (∀ p, p < n → ch p = ch' p) → nobS home ch h n = nobS home' ch' h n
  | 0, _, _ => rfl
  | n + 1, h1, h2 => by rw [nobS, nobS, nobS_cong (fun p hp => h1 p (by omega)) (fun p hp => h2 p (by omega)), h1 n (by omega), h2 n (by omega)]
theorem c_X4_nobodyOf {l : Launch} {D : va_G} {cA : Nat → ClassId} {o a : Nat → Nat} {v : ZV} {g : ZG} {n : Nat} {h : Int32} (hn : v 16 = nI n) (h16 : n ≤ 16) : MG l D cA (WC o a cA) yX4_nobodyOf cX4_nobodyOf 6 (some .int) 1 [(.ref (o 12)), (.ref (o 5)), (.ref (a 9)), .int h] v g (PF v g (some (.int (nobS (g 9) (g 18) h n)))) := by
  refine MG.of (by decide) rfl (Nat.le_of_ble_eq_true rfl) (by simp [Value.category]) (fun Z hZ => ?_)
  refine z_ldc hZ (pc := 0) (v := 1000000) dX4_nobodyOf_0 (List.mem_of_getElem? (i := 1126) (by decide +kernel)) ?_
  refine q_istore_6_4 hZ (pc := 2) dX4_nobodyOf_2 rfl ?_
  refine z_iconst hZ (pc := 4) (v := 0) dX4_nobodyOf_4 (by decide) ?_
  refine q_istore_6_5 hZ (pc := 5) dX4_nobodyOf_5 rfl ?_
  have lp7 : ∀ f i : Nat, i ≤ n → n - i < f → Z 0 0 (WC o a cA v g) [some (.ref (o 12)), some (.ref (o 5)), some (.ref (a 9)), some (.int h), some (.int (nobS (g 9) (g 18) h i)), some (.int (nI i))] [] 7 := by
    intro f
    induction f with
    | zero => intro i _ hf; exact absurd hf (Nat.not_lt_zero _)
    | succ f ih7 =>
      intro i hi7 hf7
      refine z_iload hZ (pc := 7) dX4_nobodyOf_7 rfl ?_
      refine z_aload_n hZ (pc := 9) dX4_nobodyOf_9 rfl ?_
      refine gC_5_1 hZ (pc := 10) fl_X4_26 dX4_nobodyOf_10 ?_
      refine z_icmp_ge hZ (pc := 13) (tgt := 54) dX4_nobodyOf_13 rfl (fun c13 => ?_) (fun c13 => ?_)
      · skip
        have e7 : n = i := (lp_ge hn (by omega) hi7 c13).symm
        subst e7
        refine z_iload hZ (pc := 54) dX4_nobodyOf_54 rfl ?_
        refine zr_i hZ (pc := 56) dX4_nobodyOf_56 FitR.int ?_
        exact ⟨rfl, rfl, rfl⟩
      · skip
        have hl7 : i < n := lp_lt hn (by omega) hi7 c13
        refine z_aload_n hZ (pc := 16) dX4_nobodyOf_16 rfl ?_
        refine z_iload hZ (pc := 17) dX4_nobodyOf_17 rfl ?_
        refine cS_i hZ (pc := 19) dX4_nobodyOf_19 lk_X4_32 mn_X10_at ms_X10_at (c_X10_atn (j := 9) (n := i) (by decide) (by show i < 16; omega)) rfl rfl (Nat.le_of_ble_eq_true rfl) (by decide) (by decide) (Nat.zero_le _) (Nat.zero_le _) ?_
        refine z_iload_n hZ (pc := 22) dX4_nobodyOf_22 rfl ?_
        refine z_icmp_ne hZ (pc := 23) (tgt := 48) dX4_nobodyOf_23 rfl (fun c23 => ?_) (fun c23 => ?_)
        · skip
          refine q_iinc_6_5 hZ (pc := 48) dX4_nobodyOf_48 rfl ?_
          refine z_goto hZ (pc := 51) (tgt := 7) dX4_nobodyOf_51 rfl ?_
          exact z_back hZ (ih7 (i + 1) hl7 (by omega)) (rfl) ⟨rfl, rfl, rfl, rfl, zi (by rw [nobS, if_neg c23]), zi (nI_inc i), trivial⟩
        · skip
          refine z_iload hZ (pc := 26) dX4_nobodyOf_26 rfl ?_
          refine z_sipush hZ (pc := 28) (v := 1000) dX4_nobodyOf_28 (by decide) ?_
          refine z_aload_n hZ (pc := 31) dX4_nobodyOf_31 rfl ?_
          refine gC_5_6 hZ (pc := 32) fl_X4_36 dX4_nobodyOf_32 ?_
          refine z_iload hZ (pc := 35) dX4_nobodyOf_35 rfl ?_
          refine cS_i hZ (pc := 37) dX4_nobodyOf_37 lk_X4_32 mn_X10_at ms_X10_at (c_X10_atn (j := 18) (n := i) (by decide) (by show i < 16; omega)) rfl rfl (Nat.le_of_ble_eq_true rfl) (by decide) (by decide) (Nat.zero_le _) (Nat.zero_le _) ?_
          refine z_isub hZ (pc := 40) dX4_nobodyOf_40 ?_
          refine z_imul hZ (pc := 41) dX4_nobodyOf_41 ?_
          refine z_sipush hZ (pc := 42) (v := 1000) dX4_nobodyOf_42 (by decide) ?_
          refine z_idiv hZ (pc := 45) dX4_nobodyOf_45 (by decide) ?_
          refine q_istore_6_4 hZ (pc := 46) dX4_nobodyOf_46 rfl ?_
          refine q_iinc_6_5 hZ (pc := 48) dX4_nobodyOf_48 rfl ?_
          refine z_goto hZ (pc := 51) (tgt := 7) dX4_nobodyOf_51 rfl ?_
          exact z_back hZ (ih7 (i + 1) hl7 (by omega)) (rfl) ⟨rfl, rfl, rfl, rfl, zi (by rw [nobS, if_pos c23]), zi (nI_inc i), trivial⟩
  exact z_back hZ (lp7 (n - 0 + 1) 0 (Nat.zero_le _) (by omega)) (rfl) ⟨rfl, rfl, rfl, rfl, rfl, rfl, trivial⟩
/-- one more of the others -/
def addR (c : Nat → Int32) (o : Nat) (ch : Int32) : Nat → Int32 := fun k => if k ≤ o then (c k * (1000 - ch) + (if k = 0 then 0 else c (k - 1) * ch)) / 1000 else c k
def addRm (c : Nat → Int32) (o : Nat) (ch : Int32) (m : Nat) : Nat → Int32 := fun k => if k < m then c k else addR c o ch k
theorem addRm_top (c : Nat → Int32) (o : Nat) (ch : Int32) : addRm c o ch (o + 1) = c := by
  funext k
  unfold addRm addR
  by_cases h : k < o + 1
  · rw [if_pos h]
  · rw [if_neg h, if_neg (by omega)]
theorem addRm_0 (c : Nat → Int32) (o : Nat) (ch : Int32) : addRm c o ch 0 = addR c o ch := by
  funext k; simp [addRm]
theorem addRm_s (c : Nat → Int32) (o : Nat) (ch : Int32) (k : Nat) (hk : k ≤ o) : upd (addRm c o ch (k + 1)) k ((addRm c o ch (k + 1) k * (1000 - ch) + (if k = 0 then 0 else addRm c o ch (k + 1) (k - 1) * ch)) / 1000) = addRm c o ch k := by
  have e1 : addRm c o ch (k + 1) k = c k := by simp [addRm]
  have e2 : addRm c o ch (k + 1) (k - 1) = c (k - 1) := by unfold addRm; rw [if_pos (by omega)]
  funext j
  by_cases hj : j = k
  · subst hj
    rw [e1, e2]
    simp [upd, addRm, addR, hk]
  · simp only [upd, if_neg hj, addRm]
    by_cases h2 : j < k
    · rw [if_pos h2, if_pos (by omega)]
    · rw [if_neg h2, if_neg (by omega)]
theorem nI_dec (k : Nat) : nI (k + 1) + Int32.ofInt (-1) = nI k := pk_m1 k
theorem m1_neg : nI 0 + Int32.ofInt (-1) < 0 := by decide
theorem at_m1 (f : Nat → Int32) (n : Nat) : atf n f (nI 0 - 1) = 0 := by
  have h : nI 0 - 1 < 0 := by decide
  rw [atf, if_pos h]
theorem c_X4_addOther {l : Launch} {D : va_G} {cA : Nat → ClassId} {o a : Nat → Nat} {v : ZV} {g : ZG} {k : Nat} {ch : Int32} (hk : k ≤ 16) : MG l D cA (WC o a cA) yX4_addOther cX4_addOther 6 none 1 [(.ref (o 12)), .int (nI k), .int ch] v g (PF v (va_up g 40 (addR (g 40) k ch)) (none)) := by
  refine MG.of (by decide) rfl (Nat.le_of_ble_eq_true rfl) (by simp [Value.category]) (fun Z hZ => ?_)
  refine z_iload_n hZ (pc := 0) dX4_addOther_0 rfl ?_
  refine q_istore_n_6_3 hZ (pc := 1) dX4_addOther_1 rfl ?_
  have lp2 : ∀ f m : Nat, m ≤ k + 1 → m < f → Z 0 0 (WC o a cA v (va_up g 40 (addRm (g 40) k ch m))) [some (.ref (o 12)), some (.int (nI k)), some (.int ch), some (.int (nI m + Int32.ofInt (-1))), none, none] [] 2 := by
    intro f
    induction f with
    | zero => intro m _ hf; exact absurd hf (Nat.not_lt_zero _)
    | succ f ih =>
      intro m hm1 hf
      refine z_iload_n hZ (pc := 2) dX4_addOther_2 rfl ?_
      refine z_if_lt hZ (pc := 3) (tgt := 59) dX4_addOther_3 rfl (fun c3 => ?_) (fun c3 => ?_)
      · skip
        have hm : m = 0 := by
          rcases Nat.eq_zero_or_pos m with h | h
          · exact h
          · obtain ⟨q, rfl⟩ : ∃ q, m = q + 1 := ⟨m - 1, by omega⟩
            rw [nI_dec] at c3
            exact absurd c3 (nI_pos (by omega))
        subst hm
        refine zr_v hZ (pc := 59) dX4_addOther_59 ?_
        exact ⟨rfl, by rw [addRm_0], rfl⟩
      · skip
        obtain ⟨q, rfl⟩ : ∃ q, m = q + 1 := ⟨m - 1, by
          rcases Nat.eq_zero_or_pos m with h | h
          · subst h; exact absurd m1_neg c3
          · omega⟩
        rw [nI_dec]
        refine z_aload_n hZ (pc := 6) dX4_addOther_6 rfl ?_
        refine gC_12_0 hZ (pc := 7) fl_X4_9 dX4_addOther_7 ?_
        refine z_iload_n hZ (pc := 10) dX4_addOther_10 rfl ?_
        refine cS_i hZ (pc := 11) dX4_addOther_11 lk_X4_32 mn_X10_at ms_X10_at (c_X10_atn (j := 40) (n := q) (by decide) (by show q < 17; omega)) rfl rfl (Nat.le_of_ble_eq_true rfl) (by decide) (by decide) (Nat.zero_le _) (Nat.zero_le _) ?_
        refine z_sipush hZ (pc := 14) (v := 1000) dX4_addOther_14 (by decide) ?_
        refine z_iload_n hZ (pc := 17) dX4_addOther_17 rfl ?_
        refine z_isub hZ (pc := 18) dX4_addOther_18 ?_
        refine z_imul hZ (pc := 19) dX4_addOther_19 ?_
        refine q_istore_6_4 hZ (pc := 20) dX4_addOther_20 rfl ?_
        refine z_aload_n hZ (pc := 22) dX4_addOther_22 rfl ?_
        refine gC_12_0 hZ (pc := 23) fl_X4_9 dX4_addOther_23 ?_
        refine z_iload_n hZ (pc := 26) dX4_addOther_26 rfl ?_
        refine z_iconst hZ (pc := 27) (v := 1) dX4_addOther_27 (by decide) ?_
        refine z_isub hZ (pc := 28) dX4_addOther_28 ?_
        have eat : MG l D cA (WC o a cA) yX10_at cX10_at 2 (some .int) 0 [.ref (a 40), .int (nI q - 1)] v (va_up g 40 (addRm (g 40) k ch (q + 1))) (PF v (va_up g 40 (addRm (g 40) k ch (q + 1))) (some (.int (if q = 0 then 0 else addRm (g 40) k ch (q + 1) (q - 1))))) := by
          by_cases h0 : q = 0
          · subst h0
            have h := c_X10_at (l := l) (D := D) (cA := cA) (o := o) (a := a) (v := v) (g := va_up g 40 (addRm (g 40) k ch (0 + 1))) (j := 40) (i := nI 0 - 1) (by decide)
            rw [at_m1] at h
            rw [if_pos rfl]
            exact h
          · have e : nI q - 1 = nI (q - 1) := by
              obtain ⟨z, rfl⟩ : ∃ z, q = z + 1 := ⟨q - 1, by omega⟩
              exact nI_pred z
            rw [e, if_neg h0]
            exact c_X10_atn (j := 40) (n := q - 1) (by decide) (by show q - 1 < 17; omega)
        refine cS_i hZ (pc := 29) dX4_addOther_29 lk_X4_32 mn_X10_at ms_X10_at (eat) rfl rfl (Nat.le_of_ble_eq_true rfl) (by decide) (by decide) (Nat.zero_le _) (Nat.zero_le _) ?_
        refine z_iload_n hZ (pc := 32) dX4_addOther_32 rfl ?_
        refine z_imul hZ (pc := 33) dX4_addOther_33 ?_
        refine q_istore_6_5 hZ (pc := 34) dX4_addOther_34 rfl ?_
        refine z_aload_n hZ (pc := 36) dX4_addOther_36 rfl ?_
        refine gC_12_0 hZ (pc := 37) fl_X4_9 dX4_addOther_37 ?_
        refine z_iload_n hZ (pc := 40) dX4_addOther_40 rfl ?_
        refine z_iload hZ (pc := 41) dX4_addOther_41 rfl ?_
        refine z_iload hZ (pc := 43) dX4_addOther_43 rfl ?_
        refine z_iadd hZ (pc := 45) dX4_addOther_45 ?_
        refine z_sipush hZ (pc := 46) (v := 1000) dX4_addOther_46 (by decide) ?_
        refine z_idiv hZ (pc := 49) dX4_addOther_49 (by decide) ?_
        refine cS_v hZ (pc := 50) dX4_addOther_50 lk_X4_22 mn_X10_put ms_X10_put (c_X10_putn (j := 40) (n := q) (by decide) (by show q < 17; omega)) rfl rfl (Nat.le_of_ble_eq_true rfl) (by decide) (by decide) (Nat.zero_le _) (Nat.zero_le _) ?_
        refine q_iinc_6_3 hZ (pc := 53) dX4_addOther_53 rfl ?_
        refine z_goto hZ (pc := 56) (tgt := 2) dX4_addOther_56 rfl ?_
        exact z_back hZ (ih q (by omega) (by omega)) (WC_eq rfl (by
          rw [up_twice]
          refine congrArg _ ?_
          rw [← addRm_s (g 40) k ch q (by omega)]
          by_cases h0 : q = 0
          · subst h0; simp [up_at]
          · simp [up_at, h0])) ⟨rfl, rfl, rfl, rfl, trivial⟩
  exact z_back hZ (lp2 (k + 2) (k + 1) (Nat.le_refl _) (by omega)) (WC_eq rfl (by rw [addRm_top, up_self])) ⟨rfl, rfl, rfl, zi (nI_dec k).symm, trivial⟩
/-- the others, and by how many of them come out: of the first persons -/
def lsO (home : Nat → Int32) (p : Nat) : Nat → Nat := fb_ct (fun q => decide (q ≠ p) && decide (home q = home p))
def lsR (home ch : Nat → Int32) (p : Nat) (row : Nat → Int32) : Nat → Nat → Int32
  | 0 => row
  | q + 1 => if q ≠ p ∧ home q = home p then addR (lsR home ch p row q) (lsO home p (q + 1)) (ch q) else lsR home ch p row q
def sumS (row : Nat → Int32) (ch : Int32) : Nat → Int32
  | 0 => 0
  | m + 1 => sumS row ch m + row m * ch / 1000 / (nI m + 1)
def row0 : Nat → Int32 := fun k => if k = 0 then 1000000 else 0
def lastS (home ch : Nat → Int32) (p P : Nat) : Int32 := sumS (lsR home ch p row0 P) (ch p) (lsO home p P + 1)
theorem addR_cong {c c' : Nat → Int32} {o k : Nat} {ch : Int32} (h : ∀ j, j ≤ k → c j = c' j) : addR c o ch k = addR c' o ch k := by
  unfold addR
  rw [h k (Nat.le_refl _), h (k - 1) (by omega)]
theorem lsR_cong {home ch row row' : Nat → Int32} {p N : Nat} (h : ∀ j, j < N → row j = row' j) : ∀ (q j : Nat), j < N → lsR home ch p row q j = lsR home ch p row' q j
  | 0, j, hj => h j hj
  | q + 1, j, hj => by
    rw [lsR, lsR]
    split
    · exact addR_cong (fun i hi => lsR_cong h q i (by omega))
    · exact lsR_cong h q j hj
theorem sumS_cong {row row' : Nat → Int32} {ch : Int32} : ∀ {m : Nat}, (∀ j, j < m → row j = row' j) → sumS row ch m = sumS row' ch m
  | 0, _ => rfl
  | m + 1, h => by rw [sumS, sumS, sumS_cong (fun j hj => h j (by omega)), h m (by omega)]
theorem lsO_le (home : Nat → Int32) (p q : Nat) : lsO home p q ≤ q := fb_ct_le _ _
theorem lsO_s (home : Nat → Int32) (p q : Nat) : lsO home p (q + 1) = lsO home p q + (if q ≠ p ∧ home q = home p then 1 else 0) := by
  unfold lsO
  rw [fb_ct_succ]
  by_cases h1 : q ≠ p <;> by_cases h2 : home q = home p <;> simp [h1, h2]
theorem lsO_lt {home : Nat → Int32} {p : Nat} : ∀ {q : Nat}, p < q → lsO home p q < q
  | 0, h => absurd h (by omega)
  | q + 1, h => by
    rw [lsO_s]
    rcases Nat.lt_or_ge p q with h2 | h2
    · have := lsO_lt (home := home) h2
      split <;> omega
    · have e : q = p := by omega
      have := lsO_le home p q
      rw [if_neg (by simp [e])]
      omega
theorem c_X4_lastOf {l : Launch} {D : va_G} {cA : Nat → ClassId} {o a : Nat → Nat} {v : ZV} {g : ZG} {n p : Nat} (hn : v 16 = nI n) (h16 : n ≤ 16) (hp : p < n) : MG l D cA (WC o a cA) yX4_lastOf cX4_lastOf 7 (some .int) 2 [(.ref (o 12)), (.ref (o 5)), (.ref (a 9)), .int (nI p)] v g (fun v2 g2 r => v2 = v ∧ (∀ j, j ≠ 40 → g2 j = g j) ∧ r = some (.int (lastS (g 9) (g 18) p n))) := by
  refine MG.of (by decide) rfl (Nat.le_of_ble_eq_true rfl) (by simp [Value.category]) (fun Z hZ => ?_)
  obtain ⟨rw, hrw⟩ : ∃ rw : Nat → Int32, rw = upd (fillf 17 (g 40) 0) 0 1000000 := ⟨_, rfl⟩
  have hO : lsO (g 9) p n < n := lsO_lt hp
  refine z_aload_n hZ (pc := 0) dX4_lastOf_0 rfl ?_
  refine gC_12_0 hZ (pc := 1) fl_X4_9 dX4_lastOf_1 ?_
  refine z_iconst hZ (pc := 4) (v := 0) dX4_lastOf_4 (by decide) ?_
  refine cS_v hZ (pc := 5) dX4_lastOf_5 lk_X4_15 mn_J7_fill_53178 ms_J7_fill_53178 (c_J7_fill_53178 (j := 40) (by decide)) rfl rfl (Nat.le_of_ble_eq_true rfl) (by decide) (by decide) (Nat.zero_le _) (Nat.zero_le _) ?_
  refine z_aload_n hZ (pc := 8) dX4_lastOf_8 rfl ?_
  refine gC_12_0 hZ (pc := 9) fl_X4_9 dX4_lastOf_9 ?_
  refine z_iconst hZ (pc := 12) (v := 0) dX4_lastOf_12 (by decide) ?_
  refine z_ldc hZ (pc := 13) (v := 1000000) dX4_lastOf_13 (List.mem_of_getElem? (i := 1126) (by decide +kernel)) ?_
  refine cS_v hZ (pc := 15) dX4_lastOf_15 lk_X4_22 mn_X10_put ms_X10_put (c_X10_putn (j := 40) (n := 0) (by decide) (by decide)) rfl rfl (Nat.le_of_ble_eq_true rfl) (by decide) (by decide) (Nat.zero_le _) (Nat.zero_le _) ?_
  refine z_iconst hZ (pc := 18) (v := 0) dX4_lastOf_18 (by decide) ?_
  refine q_istore_7_4 hZ (pc := 19) dX4_lastOf_19 rfl ?_
  refine z_iconst hZ (pc := 21) (v := 0) dX4_lastOf_21 (by decide) ?_
  refine q_istore_7_5 hZ (pc := 22) dX4_lastOf_22 rfl ?_
  have lp24 : ∀ f i : Nat, i ≤ n → n - i < f → Z 0 0 (WC o a cA v (va_up g 40 (lsR (g 9) (g 18) p rw i))) [some (.ref (o 12)), some (.ref (o 5)), some (.ref (a 9)), some (.int (nI p)), some (.int (nI (lsO (g 9) p i))), some (.int (nI i)), none] [] 24 := by
    intro f
    induction f with
    | zero => intro i _ hf; exact absurd hf (Nat.not_lt_zero _)
    | succ f ih24 =>
      intro i hi24 hf24
      refine z_iload hZ (pc := 24) dX4_lastOf_24 rfl ?_
      refine z_aload_n hZ (pc := 26) dX4_lastOf_26 rfl ?_
      refine gC_5_1 hZ (pc := 27) fl_X4_26 dX4_lastOf_27 ?_
      refine z_icmp_ge hZ (pc := 30) (tgt := 77) dX4_lastOf_30 rfl (fun c30 => ?_) (fun c30 => ?_)
      · skip
        have e24 : n = i := (lp_ge hn (by omega) hi24 c30).symm
        subst e24
        refine z_iconst hZ (pc := 77) (v := 0) dX4_lastOf_77 (by decide) ?_
        refine q_istore_7_5 hZ (pc := 78) dX4_lastOf_78 rfl ?_
        refine z_iconst hZ (pc := 80) (v := 0) dX4_lastOf_80 (by decide) ?_
        refine q_istore_7_6 hZ (pc := 81) dX4_lastOf_81 rfl ?_
        have lp83 : ∀ f i : Nat, i ≤ lsO (g 9) p n + 1 → lsO (g 9) p n + 1 - i < f → Z 0 0 (WC o a cA v (va_up g 40 (lsR (g 9) (g 18) p rw n))) [some (.ref (o 12)), some (.ref (o 5)), some (.ref (a 9)), some (.int (nI p)), some (.int (nI (lsO (g 9) p n))), some (.int (sumS (lsR (g 9) (g 18) p rw n) (g 18 p) i)), some (.int (nI i))] [] 83 := by
          intro f
          induction f with
          | zero => intro i _ hf; exact absurd hf (Nat.not_lt_zero _)
          | succ f ih83 =>
            intro i hi83 hf83
            refine z_iload hZ (pc := 83) dX4_lastOf_83 rfl ?_
            refine z_iload hZ (pc := 85) dX4_lastOf_85 rfl ?_
            refine z_icmp_gt hZ (pc := 87) (tgt := 128) dX4_lastOf_87 rfl (fun c87 => ?_) (fun c87 => ?_)
            · skip
              have e83 : i = lsO (g 9) p n + 1 := by
                have h1 := (nI_ltI (a := lsO (g 9) p n) (b := i) (by omega) (by omega)).mp c87
                omega
              subst e83
              refine z_iload hZ (pc := 128) dX4_lastOf_128 rfl ?_
              refine zr_i hZ (pc := 130) dX4_lastOf_130 FitR.int ?_
              exact ⟨rfl, fun j hj => up_off hj, by
                rw [lastS]
                refine congrArg (fun z => some (Value.int z)) (sumS_cong (fun j hj => lsR_cong (N := 17) (fun k hk => ?_) n j (by omega)))
                rw [hrw, row0]
                by_cases h0 : k = 0
                · subst h0; simp [upd]
                · simp [upd, h0, fillf, hk]⟩
            · skip
              have hl83 : i < lsO (g 9) p n + 1 := by
                rcases Nat.lt_or_ge (lsO (g 9) p n) i with h | h
                · exact absurd (nI_lt h (by omega)) c87
                · omega
              refine z_iload hZ (pc := 90) dX4_lastOf_90 rfl ?_
              refine z_aload_n hZ (pc := 92) dX4_lastOf_92 rfl ?_
              refine gC_12_0 hZ (pc := 93) fl_X4_9 dX4_lastOf_93 ?_
              refine z_iload hZ (pc := 96) dX4_lastOf_96 rfl ?_
              refine cS_i hZ (pc := 98) dX4_lastOf_98 lk_X4_32 mn_X10_at ms_X10_at (c_X10_atn (j := 40) (n := i) (by decide) (by show i < 17; omega)) rfl rfl (Nat.le_of_ble_eq_true rfl) (by decide) (by decide) (Nat.zero_le _) (Nat.zero_le _) ?_
              refine z_aload_n hZ (pc := 101) dX4_lastOf_101 rfl ?_
              refine gC_5_6 hZ (pc := 102) fl_X4_36 dX4_lastOf_102 ?_
              refine z_iload_n hZ (pc := 105) dX4_lastOf_105 rfl ?_
              refine cS_i hZ (pc := 106) dX4_lastOf_106 lk_X4_32 mn_X10_at ms_X10_at (c_X10_atn (j := 18) (n := p) (by decide) (by show p < 16; omega)) rfl rfl (Nat.le_of_ble_eq_true rfl) (by decide) (by decide) (Nat.zero_le _) (Nat.zero_le _) ?_
              refine z_imul hZ (pc := 109) dX4_lastOf_109 ?_
              refine z_sipush hZ (pc := 110) (v := 1000) dX4_lastOf_110 (by decide) ?_
              refine z_idiv hZ (pc := 113) dX4_lastOf_113 (by decide) ?_
              refine z_iload hZ (pc := 114) dX4_lastOf_114 rfl ?_
              refine z_iconst hZ (pc := 116) (v := 1) dX4_lastOf_116 (by decide) ?_
              refine z_iadd hZ (pc := 117) dX4_lastOf_117 ?_
              refine z_idiv hZ (pc := 118) dX4_lastOf_118 (by rw [nI_1]; exact nI_ne0 (by omega) (by omega)) ?_
              refine z_iadd hZ (pc := 119) dX4_lastOf_119 ?_
              refine q_istore_7_5 hZ (pc := 120) dX4_lastOf_120 rfl ?_
              refine q_iinc_7_6 hZ (pc := 122) dX4_lastOf_122 rfl ?_
              refine z_goto hZ (pc := 125) (tgt := 83) dX4_lastOf_125 rfl ?_
              exact z_back hZ (ih83 (i + 1) (by omega) (by omega)) rfl ⟨rfl, rfl, rfl, rfl, rfl, rfl, zi (nI_inc i), trivial⟩
        exact z_back hZ (lp83 (lsO (g 9) p n + 2) 0 (Nat.zero_le _) (by omega)) rfl ⟨rfl, rfl, rfl, rfl, rfl, rfl, rfl, trivial⟩
      · skip
        have hl24 : i < n := lp_lt hn (by omega) hi24 c30
        refine z_iload hZ (pc := 33) dX4_lastOf_33 rfl ?_
        refine z_iload_n hZ (pc := 35) dX4_lastOf_35 rfl ?_
        refine z_icmp_eq hZ (pc := 36) (tgt := 71) dX4_lastOf_36 rfl (fun c36 => ?_) (fun c36 => ?_)
        · skip
          refine q_iinc_7_5 hZ (pc := 71) dX4_lastOf_71 rfl ?_
          refine z_goto hZ (pc := 74) (tgt := 24) dX4_lastOf_74 rfl ?_
          exact z_back hZ (ih24 (i + 1) hl24 (by omega)) (WC_eq rfl (by rw [lsR, if_neg (fun q => q.1 ((nI_eq (by omega) (by omega)).mp c36))])) ⟨rfl, rfl, rfl, rfl, zi (by rw [lsO_s, if_neg (fun q => q.1 ((nI_eq (by omega) (by omega)).mp c36))]; rfl), zi (nI_inc i), trivial⟩
        · skip
          refine z_aload_n hZ (pc := 39) dX4_lastOf_39 rfl ?_
          refine z_iload hZ (pc := 40) dX4_lastOf_40 rfl ?_
          refine cS_i hZ (pc := 42) dX4_lastOf_42 lk_X4_32 mn_X10_at ms_X10_at (c_X10_atn (j := 9) (n := i) (by decide) (by show i < 16; omega)) rfl rfl (Nat.le_of_ble_eq_true rfl) (by decide) (by decide) (Nat.zero_le _) (Nat.zero_le _) ?_
          refine z_aload_n hZ (pc := 45) dX4_lastOf_45 rfl ?_
          refine z_iload_n hZ (pc := 46) dX4_lastOf_46 rfl ?_
          refine cS_i hZ (pc := 47) dX4_lastOf_47 lk_X4_32 mn_X10_at ms_X10_at (c_X10_atn (j := 9) (n := p) (by decide) (by show p < 16; omega)) rfl rfl (Nat.le_of_ble_eq_true rfl) (by decide) (by decide) (Nat.zero_le _) (Nat.zero_le _) ?_
          refine z_icmp_ne hZ (pc := 50) (tgt := 71) dX4_lastOf_50 rfl (fun c50 => ?_) (fun c50 => ?_)
          · skip
            refine q_iinc_7_5 hZ (pc := 71) dX4_lastOf_71 rfl ?_
            refine z_goto hZ (pc := 74) (tgt := 24) dX4_lastOf_74 rfl ?_
            exact z_back hZ (ih24 (i + 1) hl24 (by omega)) (WC_eq rfl (by rw [lsR, if_neg (fun q => c50 q.2)])) ⟨rfl, rfl, rfl, rfl, zi (by rw [lsO_s, if_neg (fun q => c50 q.2)]; rfl), zi (nI_inc i), trivial⟩
          · skip
            have hne : i ≠ p := fun q => c36 (by rw [q])
            refine z_drop hZ (L' := [some (.ref (o 12)), some (.ref (o 5)), some (.ref (a 9)), some (.int (nI p)), some (.int (nI (lsO (g 9) p i))), some (.int (nI i)), none]) ⟨rfl, rfl, rfl, rfl, rfl, rfl, trivial⟩ ?_
            refine q_iinc_7_4 hZ (pc := 53) dX4_lastOf_53 rfl ?_
            refine z_drop hZ (L' := [some (.ref (o 12)), some (.ref (o 5)), some (.ref (a 9)), some (.int (nI p)), some (.int (nI (lsO (g 9) p (i + 1)))), some (.int (nI i)), none]) ⟨rfl, rfl, rfl, rfl, zi (by rw [lsO_s, if_pos ⟨hne, c50⟩]; exact nI_1 _), rfl, trivial⟩ ?_
            refine z_aload_n hZ (pc := 56) dX4_lastOf_56 rfl ?_
            refine z_iload hZ (pc := 57) dX4_lastOf_57 rfl ?_
            refine z_aload_n hZ (pc := 59) dX4_lastOf_59 rfl ?_
            refine gC_5_6 hZ (pc := 60) fl_X4_36 dX4_lastOf_60 ?_
            refine z_iload hZ (pc := 63) dX4_lastOf_63 rfl ?_
            refine cS_i hZ (pc := 65) dX4_lastOf_65 lk_X4_32 mn_X10_at ms_X10_at (c_X10_atn (j := 18) (n := i) (by decide) (by show i < 16; omega)) rfl rfl (Nat.le_of_ble_eq_true rfl) (by decide) (by decide) (Nat.zero_le _) (Nat.zero_le _) ?_
            refine cV_v hZ (pc := 68) dX4_lastOf_68 lk_X4_39 mn_X4_addOther mv_X4_addOther (c_X4_addOther (k := lsO (g 9) p (i + 1)) (by have := lsO_le (g 9) p (i + 1); omega)) rc_12 rfl rfl (Nat.le_of_ble_eq_true rfl) (by decide) (by decide) (Nat.zero_le _) (Nat.zero_le _) ?_
            refine q_iinc_7_5 hZ (pc := 71) dX4_lastOf_71 rfl ?_
            refine z_goto hZ (pc := 74) (tgt := 24) dX4_lastOf_74 rfl ?_
            exact z_back hZ (ih24 (i + 1) hl24 (by omega)) (WC_eq rfl (by rw [up_twice, lsR, if_pos ⟨hne, c50⟩]; rfl)) ⟨rfl, rfl, rfl, rfl, zi (rfl), zi (nI_inc i), trivial⟩
  exact z_back hZ (lp24 (n - 0 + 1) 0 (Nat.zero_le _) (by omega)) (WC_eq rfl (by rw [up_twice, hrw]; rfl)) ⟨rfl, rfl, rfl, rfl, rfl, rfl, trivial⟩
