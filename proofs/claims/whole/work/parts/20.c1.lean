theorem c_X10_at {l : Launch} {D : va_G} {cA : Nat → ClassId} {o a : Nat → Nat} {v : ZV} {g : ZG} {j : Nat} {i : Int32} (hj : j < 41) : MG l D cA (WC o a cA) yX10_at cX10_at 2 (some .int) 0 [(.ref (a j)), .int i] v g (PF v g (some (.int (atf (lenC j) (g j) i)))) := by
  refine MG.of (by decide) rfl (Nat.le_of_ble_eq_true rfl) (by simp [Value.category]) (fun Z hZ => ?_)
  refine z_iload_n hZ (pc := 0) dX10_at_0 rfl ?_
  refine z_if_lt hZ (pc := 1) (tgt := 16) dX10_at_1 rfl (fun c1 => ?_) (fun c1 => ?_)
  · skip
    refine z_iconst hZ (pc := 16) (v := 0) dX10_at_16 (by decide) ?_
    refine zr_i hZ (pc := 17) dX10_at_17 FitR.int ?_
    exact ⟨rfl, rfl, by simp only [atf, if_pos c1]⟩
  · skip
    refine z_iload_n hZ (pc := 4) dX10_at_4 rfl ?_
    refine z_aload_n hZ (pc := 5) dX10_at_5 rfl ?_
    refine nC hZ (pc := 6) hj dX10_at_6 ?_
    refine z_icmp_ge hZ (pc := 7) (tgt := 16) dX10_at_7 rfl (fun c7 => ?_) (fun c7 => ?_)
    · skip
      refine z_iconst hZ (pc := 16) (v := 0) dX10_at_16 (by decide) ?_
      refine zr_i hZ (pc := 17) dX10_at_17 FitR.int ?_
      exact ⟨rfl, rfl, by simp only [atf, if_neg c1, if_pos c7]⟩
    · skip
      refine z_aload_n hZ (pc := 10) dX10_at_10 rfl ?_
      refine z_iload_n hZ (pc := 11) dX10_at_11 rfl ?_
      refine lC hZ (pc := 12) hj dX10_at_12 (vp_in_cmp (lenC_lt j hj) c1 c7) ?_
      refine z_goto hZ (pc := 13) (tgt := 17) dX10_at_13 rfl ?_
      refine zr_i hZ (pc := 17) dX10_at_17 FitR.int ?_
      exact ⟨rfl, rfl, by simp only [atf, if_neg c1, if_neg c7]⟩
theorem c_X10_put {l : Launch} {D : va_G} {cA : Nat → ClassId} {o a : Nat → Nat} {v : ZV} {g : ZG} {j : Nat} {i x : Int32} (hj : j < 41) : MG l D cA (WC o a cA) yX10_put cX10_put 3 none 0 [(.ref (a j)), .int i, .int x] v g (PF v (va_up g j (putf (lenC j) (g j) i x)) (none)) := by
  refine MG.of (by decide) rfl (Nat.le_of_ble_eq_true rfl) (by simp [Value.category]) (fun Z hZ => ?_)
  refine z_iload_n hZ (pc := 0) dX10_put_0 rfl ?_
  refine z_if_lt hZ (pc := 1) (tgt := 14) dX10_put_1 rfl (fun c1 => ?_) (fun c1 => ?_)
  · skip
    refine zr_v hZ (pc := 14) dX10_put_14 ?_
    exact ⟨rfl, by simp only [putf, if_pos c1, up_self], rfl⟩
  · skip
    refine z_iload_n hZ (pc := 4) dX10_put_4 rfl ?_
    refine z_aload_n hZ (pc := 5) dX10_put_5 rfl ?_
    refine nC hZ (pc := 6) hj dX10_put_6 ?_
    refine z_icmp_ge hZ (pc := 7) (tgt := 14) dX10_put_7 rfl (fun c7 => ?_) (fun c7 => ?_)
    · skip
      refine zr_v hZ (pc := 14) dX10_put_14 ?_
      exact ⟨rfl, by simp only [putf, if_neg c1, if_pos c7, up_self], rfl⟩
    · skip
      refine z_aload_n hZ (pc := 10) dX10_put_10 rfl ?_
      refine z_iload_n hZ (pc := 11) dX10_put_11 rfl ?_
      refine z_iload_n hZ (pc := 12) dX10_put_12 rfl ?_
      refine sC hZ (pc := 13) hj dX10_put_13 (vp_in_cmp (lenC_lt j hj) c1 c7) ?_
      refine zr_v hZ (pc := 14) dX10_put_14 ?_
      exact ⟨rfl, by simp only [putf, if_neg c1, if_neg c7], rfl⟩
theorem c_X10_atn {l : Launch} {D : va_G} {cA : Nat → ClassId} {o a : Nat → Nat} {v : ZV} {g : ZG} {j n : Nat} (hj : j < 41) (hn : n < lenC j) : MG l D cA (WC o a cA) yX10_at cX10_at 2 (some .int) 0 [.ref (a j), .int (nI n)] v g (PF v g (some (.int (g j n)))) := by
  have h := c_X10_at (l := l) (D := D) (cA := cA) (o := o) (a := a) (v := v) (g := g) (i := nI n) hj
  rwa [atf_nI hn (lenC_lt j hj)] at h
theorem c_X10_putn {l : Launch} {D : va_G} {cA : Nat → ClassId} {o a : Nat → Nat} {v : ZV} {g : ZG} {j n : Nat} {x : Int32} (hj : j < 41) (hn : n < lenC j) : MG l D cA (WC o a cA) yX10_put cX10_put 3 none 0 [.ref (a j), .int (nI n), .int x] v g (PF v (va_up g j (upd (g j) n x)) none) := by
  have h := c_X10_put (l := l) (D := D) (cA := cA) (o := o) (a := a) (v := v) (g := g) (i := nI n) (x := x) hj
  rwa [putf_nI hn (lenC_lt j hj)] at h
theorem c_X6_tearsNumber {l : Launch} {D : va_G} {cA : Nat → ClassId} {o a : Nat → Nat} {v : ZV} {g : ZG} {t w : Int32}  : MG l D cA (WC o a cA) yX6_tearsNumber cX6_tearsNumber 3 (some .int) 1 [(.ref (o 3)), .int t, .int w] v g (PF v g (some (.int (atf 1200 (g 5) (t * 6 + w))))) := by
  refine MG.of (by decide) rfl (Nat.le_of_ble_eq_true rfl) (by simp [Value.category]) (fun Z hZ => ?_)
  refine z_aload_n hZ (pc := 0) dX6_tearsNumber_0 rfl ?_
  refine gC_3_3 hZ (pc := 1) fl_X6_21 dX6_tearsNumber_1 ?_
  refine z_iload_n hZ (pc := 4) dX6_tearsNumber_4 rfl ?_
  refine z_bipush hZ (pc := 5) (v := 6) dX6_tearsNumber_5 (by decide) ?_
  refine z_imul hZ (pc := 7) dX6_tearsNumber_7 ?_
  refine z_iload_n hZ (pc := 8) dX6_tearsNumber_8 rfl ?_
  refine z_iadd hZ (pc := 9) dX6_tearsNumber_9 ?_
  refine cS_i hZ (pc := 10) dX6_tearsNumber_10 lk_X6_47 mn_X10_at ms_X10_at (c_X10_at (j := 5) (by decide)) rfl rfl (Nat.le_of_ble_eq_true rfl) (by decide) (by decide) (Nat.zero_le _) (Nat.zero_le _) ?_
  refine zr_i hZ (pc := 13) dX6_tearsNumber_13 FitR.int ?_
  exact ⟨rfl, rfl, rfl⟩
/-- a number of tears -/
def T5 (g : ZG) (j : Nat) : Nat → Int32 := fun t => g 5 (6 * t + j)
theorem ix6 (i j : Nat) : nI i * 6 + nI j = nI (6 * i + j) := by
  rw [show (6 : Int32) = nI 6 from rfl, pk_mul, nI_add, Nat.mul_comm]
theorem c_X6_tn {l : Launch} {D : va_G} {cA : Nat → ClassId} {o a : Nat → Nat} {v : ZV} {g : ZG} {i j : Nat} (hi : i < 200) (hj : j < 6) : MG l D cA (WC o a cA) yX6_tearsNumber cX6_tearsNumber 3 (some .int) 1 [.ref (o 3), .int (nI i), .int (nI j)] v g (PF v g (some (.int (T5 g j i)))) := by
  have h := c_X6_tearsNumber (l := l) (D := D) (cA := cA) (o := o) (a := a) (v := v) (g := g) (t := nI i) (w := nI j)
  rwa [ix6, atf_nI (by omega) (by decide)] at h
def nowS (v : ZV) (g : ZG) : Int32 := if v 9 = 0 then 0 else T5 g 2 ((v 9).toNatClampNeg - 1)
theorem nowS_nI {v : ZV} {g : ZG} {n : Nat} (hn : v 9 = nI n) (h2 : n ≤ 200) : nowS v g = if n = 0 then 0 else T5 g 2 (n - 1) := by
  unfold nowS
  rw [hn, nI_clamp (by omega)]
  by_cases h : n = 0
  · subst h; rfl
  · rw [if_neg h, if_neg (nI_ne0 (by omega) (by omega))]
theorem c_X6_nowHour {l : Launch} {D : va_G} {cA : Nat → ClassId} {o a : Nat → Nat} {v : ZV} {g : ZG} {n : Nat} (hn : v 9 = nI n) (h2 : n ≤ 200) : MG l D cA (WC o a cA) yX6_nowHour cX6_nowHour 1 (some .int) 2 [(.ref (o 3))] v g (PF v g (some (.int (if n = 0 then 0 else T5 g 2 (n - 1))))) := by
  refine MG.of (by decide) rfl (Nat.le_of_ble_eq_true rfl) (by simp [Value.category]) (fun Z hZ => ?_)
  refine z_aload_n hZ (pc := 0) dX6_nowHour_0 rfl ?_
  refine gC_3_0 hZ (pc := 1) fl_X6_9 dX6_nowHour_1 ?_
  refine z_if_ne hZ (pc := 4) (tgt := 11) dX6_nowHour_4 rfl (fun c4 => ?_) (fun c4 => ?_)
  · skip
    have h0 : 0 < n := by
      rcases Nat.eq_zero_or_pos n with h | h
      · subst h; exact absurd hn c4
      · exact h
    refine z_aload_n hZ (pc := 11) dX6_nowHour_11 rfl ?_
    refine z_aload_n hZ (pc := 12) dX6_nowHour_12 rfl ?_
    refine gC_3_0 hZ (pc := 13) fl_X6_9 dX6_nowHour_13 ?_
    refine z_iconst hZ (pc := 16) (v := 1) dX6_nowHour_16 (by decide) ?_
    refine z_isub hZ (pc := 17) dX6_nowHour_17 ?_
    refine z_top (y := nI (n - 1)) (by rw [hn]; exact pk_sub h0) ?_
    refine z_iconst hZ (pc := 18) (v := 2) dX6_nowHour_18 (by decide) ?_
    refine cV_i hZ (pc := 19) dX6_nowHour_19 lk_X6_55 mn_X6_tearsNumber mv_X6_tearsNumber (c_X6_tn (i := n - 1) (j := 2) (by omega) (by decide)) rc_3 rfl rfl (Nat.le_of_ble_eq_true rfl) (by decide) (by decide) (Nat.zero_le _) (Nat.zero_le _) ?_
    refine zr_i hZ (pc := 22) dX6_nowHour_22 FitR.int ?_
    exact ⟨rfl, rfl, by rw [if_neg (by omega)]⟩
  · skip
    refine z_iconst hZ (pc := 7) (v := 0) dX6_nowHour_7 (by decide) ?_
    refine z_goto hZ (pc := 8) (tgt := 22) dX6_nowHour_8 rfl ?_
    refine zr_i hZ (pc := 22) dX6_nowHour_22 FitR.int ?_
    exact ⟨rfl, rfl, by
      have h0 : n = 0 := by
        rcases Nat.eq_zero_or_pos n with h | h
        · exact h
        · exact absurd (hn ▸ c4) (nI_ne0 h (by omega))
      rw [if_pos h0]⟩
theorem c_X6_dayOf {l : Launch} {D : va_G} {cA : Nat → ClassId} {o a : Nat → Nat} {v : ZV} {g : ZG} {i : Nat} (hi : i < 200) : MG l D cA (WC o a cA) yX6_dayOf cX6_dayOf 2 (some .int) 2 [(.ref (o 3)), .int (nI i)] v g (PF v g (some (.int (T5 g 2 i / 24)))) := by
  refine MG.of (by decide) rfl (Nat.le_of_ble_eq_true rfl) (by simp [Value.category]) (fun Z hZ => ?_)
  refine z_aload_n hZ (pc := 0) dX6_dayOf_0 rfl ?_
  refine z_iload_n hZ (pc := 1) dX6_dayOf_1 rfl ?_
  refine z_iconst hZ (pc := 2) (v := 2) dX6_dayOf_2 (by decide) ?_
  refine cV_i hZ (pc := 3) dX6_dayOf_3 lk_X6_55 mn_X6_tearsNumber mv_X6_tearsNumber (c_X6_tn (i := i) (j := 2) hi (by decide)) rc_3 rfl rfl (Nat.le_of_ble_eq_true rfl) (by decide) (by decide) (Nat.zero_le _) (Nat.zero_le _) ?_
  refine z_bipush hZ (pc := 6) (v := 24) dX6_dayOf_6 (by decide) ?_
  refine z_idiv hZ (pc := 8) dX6_dayOf_8 (by decide) ?_
  refine zr_i hZ (pc := 9) dX6_dayOf_9 FitR.int ?_
  exact ⟨rfl, rfl, rfl⟩
/-- tears of a house, of a day -/
def onP (fr wh : Nat → Int32) (h d : Int32) (t : Nat) : Bool := decide (fr t = h) && decide (wh t / 24 = d)
theorem c_X6_tearsOn {l : Launch} {D : va_G} {cA : Nat → ClassId} {o a : Nat → Nat} {v : ZV} {g : ZG} {n : Nat} {h d : Int32} (hn : v 9 = nI n) (h2 : n ≤ 200) : MG l D cA (WC o a cA) yX6_tearsOn cX6_tearsOn 5 (some .int) 3 [(.ref (o 3)), .int h, .int d] v g (PF v g (some (.int (nI (fb_ct (onP (T5 g 1) (T5 g 2) h d) n))))) := by
  refine MG.of (by decide) rfl (Nat.le_of_ble_eq_true rfl) (by simp [Value.category]) (fun Z hZ => ?_)
  refine z_iconst hZ (pc := 0) (v := 0) dX6_tearsOn_0 (by decide) ?_
  refine q_istore_n_5_3 hZ (pc := 1) dX6_tearsOn_1 rfl ?_
  refine z_iconst hZ (pc := 2) (v := 0) dX6_tearsOn_2 (by decide) ?_
  refine q_istore_5_4 hZ (pc := 3) dX6_tearsOn_3 rfl ?_
  have lp5 : ∀ f i : Nat, i ≤ n → n - i < f → Z 0 0 (WC o a cA v g) [some (.ref (o 3)), some (.int h), some (.int d), some (.int (nI (fb_ct (onP (T5 g 1) (T5 g 2) h d) i))), some (.int (nI i))] [] 5 := by
    intro f
    induction f with
    | zero => intro i _ hf; exact absurd hf (Nat.not_lt_zero _)
    | succ f ih5 =>
      intro i hi5 hf5
      refine z_iload hZ (pc := 5) dX6_tearsOn_5 rfl ?_
      refine z_aload_n hZ (pc := 7) dX6_tearsOn_7 rfl ?_
      refine gC_3_0 hZ (pc := 8) fl_X6_9 dX6_tearsOn_8 ?_
      refine z_icmp_ge hZ (pc := 11) (tgt := 44) dX6_tearsOn_11 rfl (fun c11 => ?_) (fun c11 => ?_)
      · skip
        have e5 : n = i := (lp_ge hn (by omega) hi5 c11).symm
        subst e5
        refine z_iload_n hZ (pc := 44) dX6_tearsOn_44 rfl ?_
        refine zr_i hZ (pc := 45) dX6_tearsOn_45 FitR.int ?_
        exact ⟨rfl, rfl, rfl⟩
      · skip
        have hl5 : i < n := lp_lt hn (by omega) hi5 c11
        refine z_aload_n hZ (pc := 14) dX6_tearsOn_14 rfl ?_
        refine z_iload hZ (pc := 15) dX6_tearsOn_15 rfl ?_
        refine z_iconst hZ (pc := 17) (v := 1) dX6_tearsOn_17 (by decide) ?_
        refine cV_i hZ (pc := 18) dX6_tearsOn_18 lk_X6_55 mn_X6_tearsNumber mv_X6_tearsNumber (c_X6_tn (i := i) (j := 1) (by omega) (by decide)) rc_3 rfl rfl (Nat.le_of_ble_eq_true rfl) (by decide) (by decide) (Nat.zero_le _) (Nat.zero_le _) ?_
        refine z_iload_n hZ (pc := 21) dX6_tearsOn_21 rfl ?_
        refine z_icmp_ne hZ (pc := 22) (tgt := 38) dX6_tearsOn_22 rfl (fun c22 => ?_) (fun c22 => ?_)
        · skip
          refine q_iinc_5_4 hZ (pc := 38) dX6_tearsOn_38 rfl ?_
          refine z_goto hZ (pc := 41) (tgt := 5) dX6_tearsOn_41 rfl ?_
          exact z_back hZ (ih5 (i + 1) hl5 (by omega)) (rfl) ⟨rfl, rfl, rfl, zi (by simp [fb_ct_succ, onP, c22]), zi (nI_inc i), trivial⟩
        · skip
          refine z_aload_n hZ (pc := 25) dX6_tearsOn_25 rfl ?_
          refine z_iload hZ (pc := 26) dX6_tearsOn_26 rfl ?_
          refine cV_i hZ (pc := 28) dX6_tearsOn_28 lk_X6_59 mn_X6_dayOf mv_X6_dayOf (c_X6_dayOf (i := i) (by omega)) rc_3 rfl rfl (Nat.le_of_ble_eq_true rfl) (by decide) (by decide) (Nat.zero_le _) (Nat.zero_le _) ?_
          refine z_iload_n hZ (pc := 31) dX6_tearsOn_31 rfl ?_
          refine z_icmp_ne hZ (pc := 32) (tgt := 38) dX6_tearsOn_32 rfl (fun c32 => ?_) (fun c32 => ?_)
          · skip
            refine q_iinc_5_4 hZ (pc := 38) dX6_tearsOn_38 rfl ?_
            refine z_goto hZ (pc := 41) (tgt := 5) dX6_tearsOn_41 rfl ?_
            exact z_back hZ (ih5 (i + 1) hl5 (by omega)) (rfl) ⟨rfl, rfl, rfl, zi (by simp [fb_ct_succ, onP, c22, c32]), zi (nI_inc i), trivial⟩
          · skip
            refine q_iinc_5_3 hZ (pc := 35) dX6_tearsOn_35 rfl ?_
            refine q_iinc_5_4 hZ (pc := 38) dX6_tearsOn_38 rfl ?_
            refine z_goto hZ (pc := 41) (tgt := 5) dX6_tearsOn_41 rfl ?_
            exact z_back hZ (ih5 (i + 1) hl5 (by omega)) (rfl) ⟨rfl, rfl, rfl, zi (by simp [fb_ct_succ, onP, c22, c32, nI_1]), zi (nI_inc i), trivial⟩
  exact z_back hZ (lp5 (n - 0 + 1) 0 (Nat.zero_le _) (by omega)) (rfl) ⟨rfl, rfl, rfl, rfl, rfl, trivial⟩
/-- a row filled up to n -/
def fillf (n : Nat) (f : Nat → Int32) (x : Int32) : Nat → Int32 := fun j => if j < n then x else f j
theorem fillf_0 (f : Nat → Int32) (x : Int32) : fillf 0 f x = f := by funext j; simp [fillf]
theorem fillf_s (n : Nat) (f : Nat → Int32) (x : Int32) : upd (fillf n f x) n x = fillf (n + 1) f x := by
  funext j
  by_cases h : j = n
  · subst h; simp [fillf, upd]
  · simp only [upd, if_neg h, fillf]
    by_cases h2 : j < n
    · rw [if_pos h2, if_pos (by omega)]
    · rw [if_neg h2, if_neg (by omega)]
theorem WC_eq {o a : Nat → Nat} {cA : Nat → ClassId} {v v' : ZV} {g g' : ZG} (h1 : v = v') (h2 : g = g') : WC o a cA v g = WC o a cA v' g' := by rw [h1, h2]
theorem c_J7_fill_53178 {l : Launch} {D : va_G} {cA : Nat → ClassId} {o a : Nat → Nat} {v : ZV} {g : ZG} {j : Nat} {x : Int32} (hj : j < 41) : MG l D cA (WC o a cA) yJ7_fill_53178 cJ7_fill_53178 4 none 0 [(.ref (a j)), .int x] v g (PF v (va_up g j (fillf (lenC j) (g j) x)) (none)) := by
  refine MG.of (by decide) rfl (Nat.le_of_ble_eq_true rfl) (by simp [Value.category]) (fun Z hZ => ?_)
  refine z_iconst hZ (pc := 0) (v := 0) dJ7_fill_53178_0 (by decide) ?_
  refine q_istore_n_4_2 hZ (pc := 1) dJ7_fill_53178_1 rfl ?_
  refine z_aload_n hZ (pc := 2) dJ7_fill_53178_2 rfl ?_
  refine nC hZ (pc := 3) hj dJ7_fill_53178_3 ?_
  refine q_istore_n_4_3 hZ (pc := 4) dJ7_fill_53178_4 rfl ?_
  have lp5 : ∀ f i : Nat, i ≤ lenC j → lenC j - i < f → Z 0 0 (WC o a cA v (va_up g j (fillf i (g j) x))) [some (.ref (a j)), some (.int x), some (.int (nI i)), some (.int (nI (lenC j)))] [] 5 := by
    intro f
    induction f with
    | zero => intro i _ hf; exact absurd hf (Nat.not_lt_zero _)
    | succ f ih5 =>
      intro i hi5 hf5
      refine z_iload_n hZ (pc := 5) dJ7_fill_53178_5 rfl ?_
      refine z_iload_n hZ (pc := 6) dJ7_fill_53178_6 rfl ?_
      refine z_icmp_ge hZ (pc := 7) (tgt := 20) dJ7_fill_53178_7 rfl (fun c7 => ?_) (fun c7 => ?_)
      · skip
        have e5 : i = lenC j := lp_ge (rfl : nI (lenC j) = nI (lenC j)) (lenC_lt j hj) hi5 c7
        rw [e5]
        refine zr_v hZ (pc := 20) dJ7_fill_53178_20 ?_
        exact ⟨rfl, rfl, rfl⟩
      · skip
        have hl5 : i < lenC j := lp_lt (rfl : nI (lenC j) = nI (lenC j)) (lenC_lt j hj) hi5 c7
        refine z_aload_n hZ (pc := 10) dJ7_fill_53178_10 rfl ?_
        refine z_iload_n hZ (pc := 11) dJ7_fill_53178_11 rfl ?_
        refine z_iload_n hZ (pc := 12) dJ7_fill_53178_12 rfl ?_
        refine sC hZ (pc := 13) hj dJ7_fill_53178_13 (vp_in_nI hl5 (lenC_lt j hj)) ?_
        refine q_iinc_4_2 hZ (pc := 14) dJ7_fill_53178_14 rfl ?_
        refine z_goto hZ (pc := 17) (tgt := 5) dJ7_fill_53178_17 rfl ?_
        exact z_back hZ (ih5 (i + 1) hl5 (by omega)) (WC_eq rfl (by rw [up_twice, up_at, nI_clamp (Nat.lt_trans hl5 (lenC_lt j hj)), fillf_s])) ⟨rfl, rfl, zi (nI_inc i), rfl, trivial⟩
  exact z_back hZ (lp5 (lenC j - 0 + 1) 0 (Nat.zero_le _) (by omega)) (WC_eq rfl (by rw [fillf_0, up_self])) ⟨rfl, rfl, rfl, rfl, trivial⟩
def bcE (x : Int32) : Int32 :=
  let i1 := x - ((x.toUInt32 >>> ((1 : Int32).toUInt32 &&& Int32.toUInt32 31)).toInt32 &&& 1431655765)
  let i2 := (i1 &&& 858993459) + ((i1.toUInt32 >>> ((2 : Int32).toUInt32 &&& Int32.toUInt32 31)).toInt32 &&& 858993459)
  let i3 := (i2 + (i2.toUInt32 >>> ((4 : Int32).toUInt32 &&& Int32.toUInt32 31)).toInt32) &&& 252645135
  let i4 := i3 + (i3.toUInt32 >>> ((8 : Int32).toUInt32 &&& Int32.toUInt32 31)).toInt32
  let i5 := i4 + (i4.toUInt32 >>> ((16 : Int32).toUInt32 &&& Int32.toUInt32 31)).toInt32
  i5 &&& 63
theorem bc_tab : ∀ b, b < 1024 → bcE (nI b) = nI (popc b) := by decide +kernel
theorem c_J6_bitCount_0f7a4 {l : Launch} {D : va_G} {cA : Nat → ClassId} {o a : Nat → Nat} {v : ZV} {g : ZG} {b : Nat} (hb : b < 1024) : MG l D cA (WC o a cA) yJ6_bitCount_0f7a4 cJ6_bitCount_0f7a4 1 (some .int) 0 [.int (nI b)] v g (PF v g (some (.int (nI (popc b))))) := by
  refine MG.of (by decide) rfl (Nat.le_of_ble_eq_true rfl) (by simp [Value.category]) (fun Z hZ => ?_)
  refine z_iload_n hZ (pc := 0) dJ6_bitCount_0f7a4_0 rfl ?_
  refine z_iload_n hZ (pc := 1) dJ6_bitCount_0f7a4_1 rfl ?_
  refine z_iconst hZ (pc := 2) (v := 1) dJ6_bitCount_0f7a4_2 (by decide) ?_
  refine z_iushr hZ (pc := 3) dJ6_bitCount_0f7a4_3 ?_
  refine z_ldcw hZ (pc := 4) (v := 1431655765) dJ6_bitCount_0f7a4_4 (List.mem_of_getElem? (i := 975) (by decide +kernel)) ?_
  refine z_iand hZ (pc := 7) dJ6_bitCount_0f7a4_7 ?_
  refine z_isub hZ (pc := 8) dJ6_bitCount_0f7a4_8 ?_
  refine q_istore_n_1_0 hZ (pc := 9) dJ6_bitCount_0f7a4_9 rfl ?_
  refine z_iload_n hZ (pc := 10) dJ6_bitCount_0f7a4_10 rfl ?_
  refine z_ldcw hZ (pc := 11) (v := 858993459) dJ6_bitCount_0f7a4_11 (List.mem_of_getElem? (i := 976) (by decide +kernel)) ?_
  refine z_iand hZ (pc := 14) dJ6_bitCount_0f7a4_14 ?_
  refine z_iload_n hZ (pc := 15) dJ6_bitCount_0f7a4_15 rfl ?_
  refine z_iconst hZ (pc := 16) (v := 2) dJ6_bitCount_0f7a4_16 (by decide) ?_
  refine z_iushr hZ (pc := 17) dJ6_bitCount_0f7a4_17 ?_
  refine z_ldcw hZ (pc := 18) (v := 858993459) dJ6_bitCount_0f7a4_18 (List.mem_of_getElem? (i := 976) (by decide +kernel)) ?_
  refine z_iand hZ (pc := 21) dJ6_bitCount_0f7a4_21 ?_
  refine z_iadd hZ (pc := 22) dJ6_bitCount_0f7a4_22 ?_
  refine q_istore_n_1_0 hZ (pc := 23) dJ6_bitCount_0f7a4_23 rfl ?_
  refine z_iload_n hZ (pc := 24) dJ6_bitCount_0f7a4_24 rfl ?_
  refine z_iload_n hZ (pc := 25) dJ6_bitCount_0f7a4_25 rfl ?_
  refine z_iconst hZ (pc := 26) (v := 4) dJ6_bitCount_0f7a4_26 (by decide) ?_
  refine z_iushr hZ (pc := 27) dJ6_bitCount_0f7a4_27 ?_
  refine z_iadd hZ (pc := 28) dJ6_bitCount_0f7a4_28 ?_
  refine z_ldcw hZ (pc := 29) (v := 252645135) dJ6_bitCount_0f7a4_29 (List.mem_of_getElem? (i := 977) (by decide +kernel)) ?_
  refine z_iand hZ (pc := 32) dJ6_bitCount_0f7a4_32 ?_
  refine q_istore_n_1_0 hZ (pc := 33) dJ6_bitCount_0f7a4_33 rfl ?_
  refine z_iload_n hZ (pc := 34) dJ6_bitCount_0f7a4_34 rfl ?_
  refine z_iload_n hZ (pc := 35) dJ6_bitCount_0f7a4_35 rfl ?_
  refine z_bipush hZ (pc := 36) (v := 8) dJ6_bitCount_0f7a4_36 (by decide) ?_
  refine z_iushr hZ (pc := 38) dJ6_bitCount_0f7a4_38 ?_
  refine z_iadd hZ (pc := 39) dJ6_bitCount_0f7a4_39 ?_
  refine q_istore_n_1_0 hZ (pc := 40) dJ6_bitCount_0f7a4_40 rfl ?_
  refine z_iload_n hZ (pc := 41) dJ6_bitCount_0f7a4_41 rfl ?_
  refine z_iload_n hZ (pc := 42) dJ6_bitCount_0f7a4_42 rfl ?_
  refine z_bipush hZ (pc := 43) (v := 16) dJ6_bitCount_0f7a4_43 (by decide) ?_
  refine z_iushr hZ (pc := 45) dJ6_bitCount_0f7a4_45 ?_
  refine z_iadd hZ (pc := 46) dJ6_bitCount_0f7a4_46 ?_
  refine q_istore_n_1_0 hZ (pc := 47) dJ6_bitCount_0f7a4_47 rfl ?_
  refine z_iload_n hZ (pc := 48) dJ6_bitCount_0f7a4_48 rfl ?_
  refine z_bipush hZ (pc := 49) (v := 63) dJ6_bitCount_0f7a4_49 (by decide) ?_
  refine z_iand hZ (pc := 51) dJ6_bitCount_0f7a4_51 ?_
  refine zr_i hZ (pc := 52) dJ6_bitCount_0f7a4_52 FitR.int ?_
  exact ⟨rfl, rfl, by rw [← bc_tab b hb]; rfl⟩
theorem ext_le {P : Nat → Prop} {s e : Nat} (h : ∀ t, s ≤ t → t < e → P t) (he : P e) : ∀ t, s ≤ t → t < e + 1 → P t := fun t h1 h2 => by
  rcases Nat.lt_or_ge t e with q | q
  · exact h t h1 q
  · have e9 : t = e := by omega
    rw [e9]; exact he
/-- by which of the first tears a house is called, whatever their hour -/
def lastC (co fr : Nat → Int32) (h : Int32) : Nat → Int32
  | 0 => -1
  | t + 1 => if co t = 1 ∧ fr t = h then nI t else lastC co fr h t
theorem lastC_or (co fr : Nat → Int32) (h : Int32) : ∀ n, lastC co fr h n = -1 ∨ ∃ t, t < n ∧ lastC co fr h n = nI t
  | 0 => Or.inl rfl
  | n + 1 => by
    rw [lastC]
    split
    · exact Or.inr ⟨n, by omega, rfl⟩
    · rcases lastC_or co fr h n with e | ⟨t, ht, e⟩
      · exact Or.inl e
      · exact Or.inr ⟨t, by omega, e⟩
/-- the name by the tears c (-1: none) -/
def nm2 (wo : Nat → Int32) (c : Int32) : Int32 := if c = -1 then -1 else wo c.toNatClampNeg
/-- the houses of a name, by what they are called by -/
def hsN (wo row : Nat → Int32) (p : Int32) (H : Nat) : Nat := bitN (fun k => decide (nm2 wo (row k) = p)) H
theorem lastC_put {co fr R : Nat → Int32} {e : Nat} (hf : ∃ k, k < 10 ∧ fr e = nI k) (hR : ∀ k, k < 10 → R k = lastC co fr (nI k) e) (hc : co e = 1) : ∀ k, k < 10 → putf 10 R (fr e) (nI e) k = lastC co fr (nI k) (e + 1) := by
  obtain ⟨k0, hk0, ef⟩ := hf
  intro k hk
  rw [ef, putf_nI hk0 (by decide), lastC, ef]
  by_cases h : k = k0
  · subst h; simp [upd, hc]
  · have h2 : ¬ nI k0 = nI k := fun q => h ((nI_eq (by omega) (by omega)).mp q).symm
    simp [upd, h, h2, hR k hk]
theorem lastC_no {co fr R : Nat → Int32} {e : Nat} (hR : ∀ k, k < 10 → R k = lastC co fr (nI k) e) (hc : ¬ co e = 1) : ∀ k, k < 10 → R k = lastC co fr (nI k) (e + 1) := by
  intro k hk
  rw [lastC, if_neg (fun q => hc q.1)]
  exact hR k hk
theorem c_X2_callOn {l : Launch} {D : va_G} {cA : Nat → ClassId} {o a : Nat → Nat} {v : ZV} {g : ZG} {n s : Nat} {hr : Int32} (hn : v 9 = nI n) (h2 : n ≤ 200) (hs : v 25 = nI s) (hsn : s ≤ n) (hfr : ∀ t, t < n → ∃ k, k < 10 ∧ T5 g 1 t = nI k) (hI : ∀ k, k < 10 → g 33 k = lastC (T5 g 5) (T5 g 1) (nI k) s) : MG l D cA (WC o a cA) yX2_callOn cX2_callOn 3 none 2 [(.ref (o 7)), (.ref (o 3)), .int hr] v g (fun v2 g2 r => r = none ∧ ∃ (e : Nat) (R : Nat → Int32), s ≤ e ∧ e ≤ n ∧ (∀ t, s ≤ t → t < e → T5 g 2 t ≤ hr) ∧ (e < n → hr < T5 g 2 e) ∧ (∀ k, k < 10 → R k = lastC (T5 g 5) (T5 g 1) (nI k) e) ∧ v2 = va_up v 25 (nI e) ∧ g2 = va_up g 33 R) := by
  refine MG.of (by decide) rfl (Nat.le_of_ble_eq_true rfl) (by simp [Value.category]) (fun Z hZ => ?_)
  have lp0 : ∀ (f e : Nat) (R : Nat → Int32), s ≤ e → e ≤ n → n - e < f → (∀ t, s ≤ t → t < e → T5 g 2 t ≤ hr) → (∀ k, k < 10 → R k = lastC (T5 g 5) (T5 g 1) (nI k) e) → Z 0 0 (WC o a cA (va_up v 25 (nI e)) (va_up g 33 R)) [some (.ref (o 7)), some (.ref (o 3)), some (.int hr)] [] 0 := by
    intro f
    induction f with
    | zero => intro e R _ _ hf; exact absurd hf (Nat.not_lt_zero _)
    | succ f ih =>
      intro e R hse he hf hle hR
      refine z_aload_n hZ (pc := 0) dX2_callOn_0 rfl ?_
      refine gC_7_1 hZ (pc := 1) fl_X2_15 dX2_callOn_1 ?_
      refine z_aload_n hZ (pc := 4) dX2_callOn_4 rfl ?_
      refine gC_3_0 hZ (pc := 5) fl_X2_29 dX2_callOn_5 ?_
      refine z_icmp_ge hZ (pc := 8) (tgt := 70) dX2_callOn_8 rfl (fun c8 => ?_) (fun c8 => ?_)
      · skip
        refine zr_v hZ (pc := 70) dX2_callOn_70 ?_
        exact ⟨rfl, e, R, hse, he, hle, fun q => absurd q (by have := lp_ge hn (by omega) he c8; omega), hR, rfl, rfl⟩
      · skip
        have hl : e < n := lp_lt hn (by omega) he c8
        refine z_aload_n hZ (pc := 11) dX2_callOn_11 rfl ?_
        refine z_aload_n hZ (pc := 12) dX2_callOn_12 rfl ?_
        refine gC_7_1 hZ (pc := 13) fl_X2_15 dX2_callOn_13 ?_
        refine z_iconst hZ (pc := 16) (v := 2) dX2_callOn_16 (by decide) ?_
        refine cV_i hZ (pc := 17) dX2_callOn_17 lk_X2_34 mn_X6_tearsNumber mv_X6_tearsNumber (c_X6_tn (i := e) (j := 2) (by omega) (by decide)) rc_3 rfl rfl (Nat.le_of_ble_eq_true rfl) (by decide) (by decide) (Nat.zero_le _) (Nat.zero_le _) ?_
        refine z_iload_n hZ (pc := 20) dX2_callOn_20 rfl ?_
        refine z_icmp_gt hZ (pc := 21) (tgt := 70) dX2_callOn_21 rfl (fun c21 => ?_) (fun c21 => ?_)
        · skip
          refine zr_v hZ (pc := 70) dX2_callOn_70 ?_
          exact ⟨rfl, e, R, hse, he, hle, fun _ => c21, hR, rfl, rfl⟩
        · skip
          refine z_aload_n hZ (pc := 24) dX2_callOn_24 rfl ?_
          refine z_aload_n hZ (pc := 25) dX2_callOn_25 rfl ?_
          refine gC_7_1 hZ (pc := 26) fl_X2_15 dX2_callOn_26 ?_
          refine z_iconst hZ (pc := 29) (v := 5) dX2_callOn_29 (by decide) ?_
          refine cV_i hZ (pc := 30) dX2_callOn_30 lk_X2_34 mn_X6_tearsNumber mv_X6_tearsNumber (c_X6_tn (i := e) (j := 5) (by omega) (by decide)) rc_3 rfl rfl (Nat.le_of_ble_eq_true rfl) (by decide) (by decide) (Nat.zero_le _) (Nat.zero_le _) ?_
          refine z_iconst hZ (pc := 33) (v := 1) dX2_callOn_33 (by decide) ?_
          refine z_icmp_ne hZ (pc := 34) (tgt := 57) dX2_callOn_34 rfl (fun c34 => ?_) (fun c34 => ?_)
          · skip
            refine z_aload_n hZ (pc := 57) dX2_callOn_57 rfl ?_
            refine z_dup hZ (pc := 58) dX2_callOn_58 rfl ?_
            refine gC_7_1 hZ (pc := 59) fl_X2_15 dX2_callOn_59 ?_
            refine z_iconst hZ (pc := 62) (v := 1) dX2_callOn_62 (by decide) ?_
            refine z_iadd hZ (pc := 63) dX2_callOn_63 ?_
            refine pC_7_1 hZ (pc := 64) fl_X2_15 dX2_callOn_64 ?_
            refine z_goto hZ (pc := 67) (tgt := 0) dX2_callOn_67 rfl ?_
            exact z_back hZ (ih (e + 1) R (by omega) (by omega) (by omega) (ext_le hle (Int32.not_lt.mp c21)) (lastC_no hR c34)) (WC_eq (by rw [up_twice]; exact congrArg _ (nI_1 e)) rfl) ⟨rfl, rfl, rfl, trivial⟩
          · skip
            refine z_aload_n hZ (pc := 37) dX2_callOn_37 rfl ?_
            refine gC_7_0 hZ (pc := 38) fl_X2_9 dX2_callOn_38 ?_
            refine z_aload_n hZ (pc := 41) dX2_callOn_41 rfl ?_
            refine z_aload_n hZ (pc := 42) dX2_callOn_42 rfl ?_
            refine gC_7_1 hZ (pc := 43) fl_X2_15 dX2_callOn_43 ?_
            refine z_iconst hZ (pc := 46) (v := 1) dX2_callOn_46 (by decide) ?_
            refine cV_i hZ (pc := 47) dX2_callOn_47 lk_X2_34 mn_X6_tearsNumber mv_X6_tearsNumber (c_X6_tn (i := e) (j := 1) (by omega) (by decide)) rc_3 rfl rfl (Nat.le_of_ble_eq_true rfl) (by decide) (by decide) (Nat.zero_le _) (Nat.zero_le _) ?_
            refine z_aload_n hZ (pc := 50) dX2_callOn_50 rfl ?_
            refine gC_7_1 hZ (pc := 51) fl_X2_15 dX2_callOn_51 ?_
            refine cS_v hZ (pc := 54) dX2_callOn_54 lk_X2_38 mn_X10_put ms_X10_put (c_X10_put (j := 33) (by decide)) rfl rfl (Nat.le_of_ble_eq_true rfl) (by decide) (by decide) (Nat.zero_le _) (Nat.zero_le _) ?_
            refine z_aload_n hZ (pc := 57) dX2_callOn_57 rfl ?_
            refine z_dup hZ (pc := 58) dX2_callOn_58 rfl ?_
            refine gC_7_1 hZ (pc := 59) fl_X2_15 dX2_callOn_59 ?_
            refine z_iconst hZ (pc := 62) (v := 1) dX2_callOn_62 (by decide) ?_
            refine z_iadd hZ (pc := 63) dX2_callOn_63 ?_
            refine pC_7_1 hZ (pc := 64) fl_X2_15 dX2_callOn_64 ?_
            refine z_goto hZ (pc := 67) (tgt := 0) dX2_callOn_67 rfl ?_
            exact z_back hZ (ih (e + 1) (putf 10 R (T5 g 1 e) (nI e)) (by omega) (by omega) (by omega) (ext_le hle (Int32.not_lt.mp c21)) (lastC_put (hfr e hl) hR c34)) (WC_eq (by rw [up_twice]; exact congrArg _ (nI_1 e)) (by rw [up_twice]; rfl)) ⟨rfl, rfl, rfl, trivial⟩
  exact z_back hZ (lp0 (n - s + 1) s (g 33) (Nat.le_refl _) hsn (by omega) (fun t h1 h3 => absurd h3 (by omega)) hI) (WC_eq (by rw [← hs, up_self]) up_self.symm) ⟨rfl, rfl, rfl, trivial⟩
theorem c_X2_callAt {l : Launch} {D : va_G} {cA : Nat → ClassId} {o a : Nat → Nat} {v : ZV} {g : ZG} {n : Nat} {hr : Int32} (hn : v 9 = nI n) (h2 : n ≤ 200) (hfr : ∀ t, t < n → ∃ k, k < 10 ∧ T5 g 1 t = nI k) : MG l D cA (WC o a cA) yX2_callAt cX2_callAt 3 none 3 [(.ref (o 7)), (.ref (o 3)), .int hr] v g (fun v2 g2 r => r = none ∧ ∃ (e : Nat) (R : Nat → Int32), e ≤ n ∧ (∀ t, t < e → T5 g 2 t ≤ hr) ∧ (e < n → hr < T5 g 2 e) ∧ (∀ k, k < 10 → R k = lastC (T5 g 5) (T5 g 1) (nI k) e) ∧ v2 = va_up v 25 (nI e) ∧ g2 = va_up g 33 R) := by
  refine MG.of (by decide) rfl (Nat.le_of_ble_eq_true rfl) (by simp [Value.category]) (fun Z hZ => ?_)
  refine z_aload_n hZ (pc := 0) dX2_callAt_0 rfl ?_
  refine gC_7_0 hZ (pc := 1) fl_X2_9 dX2_callAt_1 ?_
  refine z_iconst hZ (pc := 4) (v := (-1)) dX2_callAt_4 (by decide) ?_
  refine cS_v hZ (pc := 5) dX2_callAt_5 lk_X2_19 mn_J7_fill_53178 ms_J7_fill_53178 (c_J7_fill_53178 (j := 33) (by decide)) rfl rfl (Nat.le_of_ble_eq_true rfl) (by decide) (by decide) (Nat.zero_le _) (Nat.zero_le _) ?_
  refine z_aload_n hZ (pc := 8) dX2_callAt_8 rfl ?_
  refine z_iconst hZ (pc := 9) (v := 0) dX2_callAt_9 (by decide) ?_
  refine pC_7_1 hZ (pc := 10) fl_X2_15 dX2_callAt_10 ?_
  refine z_aload_n hZ (pc := 13) dX2_callAt_13 rfl ?_
  refine z_aload_n hZ (pc := 14) dX2_callAt_14 rfl ?_
  refine z_iload_n hZ (pc := 15) dX2_callAt_15 rfl ?_
  refine cV hZ (pc := 16) dX2_callAt_16 lk_X2_25 mn_X2_callOn mv_X2_callOn (c_X2_callOn (n := n) (s := 0) hn h2 rfl (Nat.zero_le _) hfr (fun k hk => by show fillf 10 (g 33) (-1) k = -1; simp [fillf, hk])) rc_7 rfl rfl (Nat.le_of_ble_eq_true rfl) (by decide) (by decide) (Nat.zero_le _) (Nat.zero_le _) ?_
  intro v2 g2 r h
  obtain ⟨rfl, e, R, h1, h3, h4, h5, h6, rfl, rfl⟩ := h
  refine zr_v hZ (pc := 19) dX2_callAt_19 ?_
  exact ⟨rfl, e, R, h3, fun t ht => h4 t (Nat.zero_le _) ht, h5, h6, up_twice, up_twice⟩
theorem c_X2_nameOf {l : Launch} {D : va_G} {cA : Nat → ClassId} {o a : Nat → Nat} {v : ZV} {g : ZG} {k : Nat} (hk : k < 10) (hcb : g 33 k = -1 ∨ ∃ t, t < 200 ∧ g 33 k = nI t) : MG l D cA (WC o a cA) yX2_nameOf cX2_nameOf 4 (some .int) 2 [(.ref (o 7)), (.ref (o 3)), .int (nI k)] v g (PF v g (some (.int (nm2 (T5 g 0) (g 33 k))))) := by
  refine MG.of (by decide) rfl (Nat.le_of_ble_eq_true rfl) (by simp [Value.category]) (fun Z hZ => ?_)
  refine z_aload_n hZ (pc := 0) dX2_nameOf_0 rfl ?_
  refine gC_7_0 hZ (pc := 1) fl_X2_9 dX2_nameOf_1 ?_
  refine z_iload_n hZ (pc := 4) dX2_nameOf_4 rfl ?_
  refine cS_i hZ (pc := 5) dX2_nameOf_5 lk_X2_42 mn_X10_at ms_X10_at (c_X10_atn (j := 33) (n := k) (by decide) hk) rfl rfl (Nat.le_of_ble_eq_true rfl) (by decide) (by decide) (Nat.zero_le _) (Nat.zero_le _) ?_
  refine q_istore_n_4_3 hZ (pc := 8) dX2_nameOf_8 rfl ?_
  refine z_iload_n hZ (pc := 9) dX2_nameOf_9 rfl ?_
  refine z_iconst hZ (pc := 10) (v := (-1)) dX2_nameOf_10 (by decide) ?_
  refine z_icmp_ne hZ (pc := 11) (tgt := 18) dX2_nameOf_11 rfl (fun c11 => ?_) (fun c11 => ?_)
  · skip
    obtain ⟨t, ht, e⟩ := hcb.resolve_left c11
    rw [e]
    refine z_aload_n hZ (pc := 18) dX2_nameOf_18 rfl ?_
    refine z_iload_n hZ (pc := 19) dX2_nameOf_19 rfl ?_
    refine z_iconst hZ (pc := 20) (v := 0) dX2_nameOf_20 (by decide) ?_
    refine cV_i hZ (pc := 21) dX2_nameOf_21 lk_X2_34 mn_X6_tearsNumber mv_X6_tearsNumber (c_X6_tn (i := t) (j := 0) ht (by decide)) rc_3 rfl rfl (Nat.le_of_ble_eq_true rfl) (by decide) (by decide) (Nat.zero_le _) (Nat.zero_le _) ?_
    refine zr_i hZ (pc := 24) dX2_nameOf_24 FitR.int ?_
    exact ⟨rfl, rfl, by rw [nm2, if_neg c11, e, nI_clamp (by omega)]⟩
  · skip
    refine z_iconst hZ (pc := 14) (v := (-1)) dX2_nameOf_14 (by decide) ?_
    refine z_goto hZ (pc := 15) (tgt := 24) dX2_nameOf_15 rfl ?_
    refine zr_i hZ (pc := 24) dX2_nameOf_24 FitR.int ?_
    exact ⟨rfl, rfl, by rw [nm2, if_pos c11]⟩
theorem c_X2_housesOf {l : Launch} {D : va_G} {cA : Nat → ClassId} {o a : Nat → Nat} {v : ZV} {g : ZG} {p : Int32} (hcb : ∀ k, k < 10 → g 33 k = -1 ∨ ∃ t, t < 200 ∧ g 33 k = nI t) : MG l D cA (WC o a cA) yX2_housesOf cX2_housesOf 5 (some .int) 3 [(.ref (o 7)), (.ref (o 3)), .int p] v g (PF v g (some (.int (nI (hsN (T5 g 0) (g 33) p 10))))) := by
  refine MG.of (by decide) rfl (Nat.le_of_ble_eq_true rfl) (by simp [Value.category]) (fun Z hZ => ?_)
  refine z_iconst hZ (pc := 0) (v := 0) dX2_housesOf_0 (by decide) ?_
  refine q_istore_n_5_3 hZ (pc := 1) dX2_housesOf_1 rfl ?_
  refine z_iconst hZ (pc := 2) (v := 0) dX2_housesOf_2 (by decide) ?_
  refine q_istore_5_4 hZ (pc := 3) dX2_housesOf_3 rfl ?_
  have lp5 : ∀ f i : Nat, i ≤ 10 → 10 - i < f → Z 0 0 (WC o a cA v g) [some (.ref (o 7)), some (.ref (o 3)), some (.int p), some (.int (nI (hsN (T5 g 0) (g 33) p i))), some (.int (nI i))] [] 5 := by
    intro f
    induction f with
    | zero => intro i _ hf; exact absurd hf (Nat.not_lt_zero _)
    | succ f ih5 =>
      intro i hi5 hf5
      refine z_iload hZ (pc := 5) dX2_housesOf_5 rfl ?_
      refine z_bipush hZ (pc := 7) (v := 10) dX2_housesOf_7 (by decide) ?_
      refine z_icmp_ge hZ (pc := 9) (tgt := 36) dX2_housesOf_9 rfl (fun c9 => ?_) (fun c9 => ?_)
      · skip
        have e5 : 10 = i := (lp_ge (rfl : (10 : Int32) = nI 10) (by decide) hi5 c9).symm
        subst e5
        refine z_iload_n hZ (pc := 36) dX2_housesOf_36 rfl ?_
        refine zr_i hZ (pc := 37) dX2_housesOf_37 FitR.int ?_
        exact ⟨rfl, rfl, rfl⟩
      · skip
        have hl5 : i < 10 := lp_lt (rfl : (10 : Int32) = nI 10) (by decide) hi5 c9
        refine z_aload_n hZ (pc := 12) dX2_housesOf_12 rfl ?_
        refine z_aload_n hZ (pc := 13) dX2_housesOf_13 rfl ?_
        refine z_iload hZ (pc := 14) dX2_housesOf_14 rfl ?_
        refine cV_i hZ (pc := 16) dX2_housesOf_16 lk_X2_46 mn_X2_nameOf mv_X2_nameOf (c_X2_nameOf (k := i) hl5 (hcb i hl5)) rc_7 rfl rfl (Nat.le_of_ble_eq_true rfl) (by decide) (by decide) (Nat.zero_le _) (Nat.zero_le _) ?_
        refine z_iload_n hZ (pc := 19) dX2_housesOf_19 rfl ?_
        refine z_icmp_ne hZ (pc := 20) (tgt := 30) dX2_housesOf_20 rfl (fun c20 => ?_) (fun c20 => ?_)
        · skip
          refine q_iinc_5_4 hZ (pc := 30) dX2_housesOf_30 rfl ?_
          refine z_goto hZ (pc := 33) (tgt := 5) dX2_housesOf_33 rfl ?_
          exact z_back hZ (ih5 (i + 1) hl5 (by omega)) (rfl) ⟨rfl, rfl, rfl, zi (or_no (by simp [c20])), zi (nI_inc i), trivial⟩
        · skip
          refine z_iload_n hZ (pc := 23) dX2_housesOf_23 rfl ?_
          refine z_iconst hZ (pc := 24) (v := 1) dX2_housesOf_24 (by decide) ?_
          refine z_iload hZ (pc := 25) dX2_housesOf_25 rfl ?_
          refine z_ishl hZ (pc := 27) dX2_housesOf_27 ?_
          refine z_ior hZ (pc := 28) dX2_housesOf_28 ?_
          refine q_istore_n_5_3 hZ (pc := 29) dX2_housesOf_29 rfl ?_
          refine q_iinc_5_4 hZ (pc := 30) dX2_housesOf_30 rfl ?_
          refine z_goto hZ (pc := 33) (tgt := 5) dX2_housesOf_33 rfl ?_
          exact z_back hZ (ih5 (i + 1) hl5 (by omega)) (rfl) ⟨rfl, rfl, rfl, zi (or_bit (by omega) (by simp [c20])), zi (nI_inc i), trivial⟩
  exact z_back hZ (lp5 (10 - 0 + 1) 0 (Nat.zero_le _) (by omega)) (rfl) ⟨rfl, rfl, rfl, rfl, rfl, trivial⟩
theorem lowb_is {b i : Nat} (h1 : ∀ j, j < i → b.testBit j = false) (h2 : i = 10 ∨ (i < 10 ∧ b.testBit i = true)) : lowb b = i := by
  have h3 := lowb_le b
  rcases Nat.lt_trichotomy (lowb b) i with h | h | h
  · have h4 := h1 _ h
    have h5 : b.testBit (lowb b) = true := fa_first_yes (fun k => b.testBit k) 10 (by show lowb b < 10; omega)
    rw [h4] at h5; cases h5
  · exact h
  · rcases h2 with e | ⟨e, e2⟩
    · omega
    · have := lowb_no b i h
      rw [this] at e2; cases e2
theorem c_X2_leastOf {l : Launch} {D : va_G} {cA : Nat → ClassId} {o a : Nat → Nat} {v : ZV} {g : ZG} {b : Nat} (hb : b < 1024) : MG l D cA (WC o a cA) yX2_leastOf cX2_leastOf 2 (some .int) 0 [.int (nI b)] v g (PF v g (some (.int (nI (lowb b))))) := by
  refine MG.of (by decide) rfl (Nat.le_of_ble_eq_true rfl) (by simp [Value.category]) (fun Z hZ => ?_)
  refine z_iconst hZ (pc := 0) (v := 0) dX2_leastOf_0 (by decide) ?_
  refine q_istore_n_2_1 hZ (pc := 1) dX2_leastOf_1 rfl ?_
  have lp2 : ∀ f i : Nat, i ≤ 10 → 10 - i < f → (∀ j, j < i → b.testBit j = false) → Z 0 0 (WC o a cA v g) [some (.int (nI b)), some (.int (nI i))] [] 2 := by
    intro f
    induction f with
    | zero => intro i _ hf; exact absurd hf (Nat.not_lt_zero _)
    | succ f ih =>
      intro i hi hf hno
      refine z_iload_n hZ (pc := 2) dX2_leastOf_2 rfl ?_
      refine z_bipush hZ (pc := 3) (v := 10) dX2_leastOf_3 (by decide) ?_
      refine z_icmp_ge hZ (pc := 5) (tgt := 22) dX2_leastOf_5 rfl (fun c5 => ?_) (fun c5 => ?_)
      · skip
        have e2 : i = 10 := lp_ge (rfl : (10 : Int32) = nI 10) (by decide) hi c5
        refine z_iload_n hZ (pc := 22) dX2_leastOf_22 rfl ?_
        refine zr_i hZ (pc := 23) dX2_leastOf_23 FitR.int ?_
        exact ⟨rfl, rfl, by rw [lowb_is hno (Or.inl e2)]⟩
      · skip
        have hl : i < 10 := lp_lt (rfl : (10 : Int32) = nI 10) (by decide) hi c5
        refine z_iload_n hZ (pc := 8) dX2_leastOf_8 rfl ?_
        refine z_iload_n hZ (pc := 9) dX2_leastOf_9 rfl ?_
        refine z_ishr hZ (pc := 10) dX2_leastOf_10 ?_
        refine z_iconst hZ (pc := 11) (v := 1) dX2_leastOf_11 (by decide) ?_
        refine z_iand hZ (pc := 12) dX2_leastOf_12 ?_
        refine z_if_ne hZ (pc := 13) (tgt := 22) dX2_leastOf_13 rfl (fun c13 => ?_) (fun c13 => ?_)
        · skip
          skip
          refine z_iload_n hZ (pc := 22) dX2_leastOf_22 rfl ?_
          refine zr_i hZ (pc := 23) dX2_leastOf_23 FitR.int ?_
          exact ⟨rfl, rfl, by rw [lowb_is hno (Or.inr ⟨hl, by cases h : b.testBit i; exact absurd ((bit_zero (by omega) (by omega)).mpr h) c13; rfl⟩)]⟩
        · skip
          refine q_iinc_2_1 hZ (pc := 16) dX2_leastOf_16 rfl ?_
          refine z_goto hZ (pc := 19) (tgt := 2) dX2_leastOf_19 rfl ?_
          exact z_back hZ (ih (i + 1) (by omega) (by omega) (lt_s hno ((bit_zero (by omega) (by omega)).mp c13))) rfl ⟨rfl, zi (nI_inc i), trivial⟩
  exact z_back hZ (lp2 11 0 (by omega) (by omega) (fun j hj => absurd hj (by omega))) rfl ⟨rfl, rfl, trivial⟩
