/-! where the tokens stand -/
def nbN (t : Nat → Int32) (n p : Nat) : Nat := p + fa_first (fun i => !blkB (t (p + i))) (n - p)
def tokS (t : Nat → Int32) (n : Nat) : Nat → Nat
  | 0 => nbN t n 0
  | i + 1 => nbN t n (endN t n (tokS t n i))
def tKd (t : Nat → Int32) (n i : Nat) : Int32 := if tokS t n i < n then kndK t (tokS t n i) (endN t n (tokS t n i)) else 0
def tNm (t : Nat → Int32) (n i : Nat) : Int32 := if tokS t n i < n then numV t (tokS t n i) (endN t n (tokS t n i)) else 0
theorem first_0 {p : Nat → Bool} {n : Nat} (h : p 0 = true) : fa_first p n = 0 := by
  rcases Nat.eq_zero_or_pos n with q | q
  · subst q; rfl
  · exact first_at (fun k hk => absurd hk (Nat.not_lt_zero _)) q h
theorem nb_no {t : Nat → Int32} {n s : Nat} (h : blkB (t s) = false) : nbN t n s = s := by
  unfold nbN
  rw [first_0 (by show (!blkB (t (s + 0))) = true; rw [Nat.add_zero, h]; rfl)]
  rfl
theorem nb_ge {t : Nat → Int32} {n s : Nat} (h : n ≤ s) : nbN t n s = s := by
  unfold nbN
  rw [show n - s = 0 by omega]
  rfl
theorem nb_le {t : Nat → Int32} {n s : Nat} (h : s ≤ n) : nbN t n s ≤ n := by
  have := fa_first_le (fun i => !blkB (t (s + i))) (n - s)
  unfold nbN
  omega
theorem nb_from {t : Nat → Int32} {n s : Nat} : s ≤ nbN t n s := by unfold nbN; omega
theorem nb_blk {t : Nat → Int32} {n s : Nat} (hs : s < n) (h : blkB (t s) = true) : nbN t n s = nbN t n (s + 1) := by
  unfold nbN
  have hle := fa_first_le (fun i => !blkB (t (s + 1 + i))) (n - (s + 1))
  have hno := fa_first_no (fun i => !blkB (t (s + 1 + i))) (n - (s + 1))
  have hyes := fa_first_yes (fun i => !blkB (t (s + 1 + i))) (n - (s + 1))
  generalize hq : fa_first (fun i => !blkB (t (s + 1 + i))) (n - (s + 1)) = q at hle hno hyes
  have h0 : ∀ k, k < q + 1 → (fun i => !blkB (t (s + i))) k = false := by
    intro k hk
    cases k with
    | zero => show (!blkB (t (s + 0))) = false; rw [Nat.add_zero, h]; rfl
    | succ k =>
      have := hno k (by omega)
      show (!blkB (t (s + (k + 1)))) = false
      rw [show s + (k + 1) = s + 1 + k by omega]
      exact this
  have e : fa_first (fun i => !blkB (t (s + i))) (n - s) = q + 1 := by
    rcases Nat.lt_or_ge q (n - (s + 1)) with g | g
    · refine first_at h0 (by omega) ?_
      show (!blkB (t (s + (q + 1)))) = true
      rw [show s + (q + 1) = s + 1 + q by omega]
      exact hyes g
    · have h1 := first_ge (n := n - s) h0 (by omega)
      have h2 := fa_first_le (fun i => !blkB (t (s + i))) (n - s)
      omega
  rw [e]
  omega
/-- what comes first at it is no blank -/
theorem nb_yes {t : Nat → Int32} {n s : Nat} (h : nbN t n s < n) : blkB (t (nbN t n s)) = false := by
  have h1 := fa_first_yes (fun i => !blkB (t (s + i))) (n - s) (by unfold nbN at h; omega)
  unfold nbN
  cases hb : blkB (t (s + fa_first (fun i => !blkB (t (s + i))) (n - s)))
  · rfl
  · simp only [hb] at h1; exact absurd h1 (by decide)
theorem inB_blk {c : Int32} (h : blkB c = true) : inB c 97 122 = false ∧ inB c 48 57 = false := by
  unfold blkB at h
  rcases Bool.or_eq_true_iff.mp h with h | h <;> rw [of_decide_eq_true h] <;> decide
theorem likB_no {t : Nat → Int32} {s q : Nat} (h : inB (t s) 97 122 = false) (h2 : inB (t s) 48 57 = false) : likB t s q = false := by rw [likB, h, h2]; rfl
theorem endN_1 {t : Nat → Int32} {n s : Nat} (h : inB (t s) 97 122 = false) (h2 : inB (t s) 48 57 = false) : endN t n s = s + 1 := by
  unfold endN
  rw [first_0 (by show (!likB t s (s + 1 + 0)) = true; rw [likB_no h h2]; rfl)]
theorem endN_blk {t : Nat → Int32} {n s : Nat} (h : blkB (t s) = true) : endN t n s = s + 1 := endN_1 (inB_blk h).1 (inB_blk h).2
def SPI (n : Nat) (v : ZV) (g : ZG) (s m : Nat) (v' : ZV) (g' : ZG) : Prop := m ≤ s ∧ nbN (g 1) n s = tokS (g 1) n m ∧ (∀ i, i < m → tokS (g 1) n i < n) ∧ v' 8 = nI m ∧ v' 7 = 0 ∧ (∀ i, i < m → g' 2 i = tKd (g 1) n i ∧ g' 3 i = nI (tokS (g 1) n i) ∧ g' 4 i = tNm (g 1) n i) ∧ (∀ k, k ≠ 7 → k ≠ 8 → v' k = v k) ∧ (∀ k, k ≠ 2 → k ≠ 3 → k ≠ 4 → g' k = g k)
theorem up3_2 {g : ZG} {a b c : Nat → Int32} : (va_up (va_up (va_up g 2 a) 3 b) 4 c) 2 = a := rfl
theorem up3_3 {g : ZG} {a b c : Nat → Int32} : (va_up (va_up (va_up g 2 a) 3 b) 4 c) 3 = b := rfl
theorem up3_4 {g : ZG} {a b c : Nat → Int32} : (va_up (va_up (va_up g 2 a) 3 b) 4 c) 4 = c := rfl
theorem up3_o {g : ZG} {a b c : Nat → Int32} {k : Nat} (h2 : k ≠ 2) (h3 : k ≠ 3) (h4 : k ≠ 4) : (va_up (va_up (va_up g 2 a) 3 b) 4 c) k = g k := by
  simp only [va_up, h2, h3, h4, if_false]
theorem rows_add {t : Nat → Int32} {n m : Nat} {g' : ZG} {kd st nb : Int32} (h : ∀ i, i < m → g' 2 i = tKd t n i ∧ g' 3 i = nI (tokS t n i) ∧ g' 4 i = tNm t n i) (h1 : kd = tKd t n m) (h2 : st = nI (tokS t n m)) (h3 : nb = tNm t n m) :
    ∀ i, i < m + 1 → (va_up (va_up (va_up g' 2 (upd (g' 2) m kd)) 3 (upd (g' 3) m st)) 4 (upd (g' 4) m nb)) 2 i = tKd t n i ∧ (va_up (va_up (va_up g' 2 (upd (g' 2) m kd)) 3 (upd (g' 3) m st)) 4 (upd (g' 4) m nb)) 3 i = nI (tokS t n i) ∧ (va_up (va_up (va_up g' 2 (upd (g' 2) m kd)) 3 (upd (g' 3) m st)) 4 (upd (g' 4) m nb)) 4 i = tNm t n i := by
  intro i hi
  rw [up3_2, up3_3, up3_4]
  rcases Nat.lt_or_ge i m with q | q
  · rw [upd_off (by omega), upd_off (by omega), upd_off (by omega)]
    exact h i q
  · have e : i = m := by omega
    subst e
    rw [upd_at, upd_at, upd_at]
    exact ⟨h1, h2, h3⟩
theorem SPI_blk {n : Nat} {v : ZV} {g : ZG} {s m : Nat} {v' : ZV} {g' : ZG} (h : SPI n v g s m v' g') (hs : s < n) (hb : blkB (g 1 s) = true) : SPI n v g (endN (g 1) n s) m v' g' := by
  obtain ⟨h1, h2, h3⟩ := h
  rw [endN_blk hb]
  exact ⟨by omega, by rw [← h2, nb_blk hs hb], h3⟩
theorem SPI_tok {n : Nat} {v : ZV} {g : ZG} {s m : Nat} {v' : ZV} {g' : ZG} (h : SPI n v g s m v' g') (hs : s < n) (hb : blkB (g 1 s) = false) : SPI n v g (endN (g 1) n s) (m + 1) (va_up v' 8 (nI (m + 1))) (va_up (va_up (va_up g' 2 (upd (g' 2) m (kndK (g 1) s (endN (g 1) n s)))) 3 (upd (g' 3) m (nI s))) 4 (upd (g' 4) m (numV (g 1) s (endN (g 1) n s)))) := by
  obtain ⟨h1, h2, h3, h4, h5, h6, h7, h8⟩ := h
  have e : tokS (g 1) n m = s := by rw [← h2, nb_no hb]
  refine ⟨Nat.succ_le_of_lt (Nat.lt_of_le_of_lt h1 (endN_gt _ _ _)), by rw [tokS, e], fun i hi => ?_, by rw [up_at], by rw [up_off (by decide)]; exact h5, rows_add h6 ?_ (by rw [e]) ?_, fun k k7 k8 => by rw [up_off k8]; exact h7 k k7 k8, fun k k2 k3 k4 => by rw [up3_o k2 k3 k4]; exact h8 k k2 k3 k4⟩
  · rcases Nat.lt_or_ge i m with q | q
    · exact h3 i q
    · rw [show i = m by omega, e]; exact hs
  · rw [tKd, e, if_pos hs]
  · rw [tNm, e, if_pos hs]
/-- the text is cut -/
def SPE (n : Nat) (v : ZV) (g : ZG) (m : Nat) (v' : ZV) (g' : ZG) : Prop := m ≤ n ∧ tokS (g 1) n m = n ∧ (∀ i, i < m → tokS (g 1) n i < n) ∧ v' 7 = 0 ∧ (∀ i, i < m + 1 → g' 2 i = tKd (g 1) n i ∧ g' 3 i = nI (tokS (g 1) n i) ∧ g' 4 i = tNm (g 1) n i) ∧ (∀ k, k ≠ 7 → k ≠ 8 → v' k = v k) ∧ (∀ k, k ≠ 2 → k ≠ 3 → k ≠ 4 → g' k = g k)
theorem SPI_end {n : Nat} {v : ZV} {g : ZG} {m : Nat} {v' : ZV} {g' : ZG} (h : SPI n v g n m v' g') : SPE n v g m (va_up v' 8 (nI (m + 1))) (va_up (va_up (va_up g' 2 (upd (g' 2) m 0)) 3 (upd (g' 3) m (nI n))) 4 (upd (g' 4) m 0)) := by
  obtain ⟨h1, h2, h3, h4, h5, h6, h7, h8⟩ := h
  have e : tokS (g 1) n m = n := by rw [← h2, nb_ge (Nat.le_refl _)]
  refine ⟨h1, e, h3, by rw [up_off (by decide)]; exact h5, rows_add h6 ?_ (by rw [e]) ?_, fun k k7 k8 => by rw [up_off k8]; exact h7 k k7 k8, fun k k2 k3 k4 => by rw [up3_o k2 k3 k4]; exact h8 k k2 k3 k4⟩
  · rw [tKd, e, if_neg (Nat.lt_irrefl _)]
  · rw [tNm, e, if_neg (Nat.lt_irrefl _)]
theorem c_X7_split {l : Launch} {D : va_G} {cA : Nat → ClassId} {o a : Nat → Nat} {v : ZV} {g : ZG} {aK aV : Nat → Nat} {n : Nat} (hn : n ≤ 700) : MGY l D cA aK aV (WC o a cA) yX7_split cX7_split 5 none 7 [(.ref (o 2)), .int (nI n)] v g (fun v2 g2 r => r = none ∧ ∃ m, SPE n v g m v2 g2) := by
  refine MGY.of (by decide) rfl (Nat.le_of_ble_eq_true rfl) (by simp [Value.category]) (fun Z hY => ?_)
  have hZ := hY.toZR
  refine z_aload_n hZ (pc := 0) dX7_split_0 rfl ?_
  refine z_iconst hZ (pc := 1) (v := 0) dX7_split_1 (by decide) ?_
  refine pC_2_2 hZ (pc := 2) fl_X7_19 dX7_split_2 ?_
  refine z_aload_n hZ (pc := 5) dX7_split_5 rfl ?_
  refine z_iconst hZ (pc := 6) (v := 0) dX7_split_6 (by decide) ?_
  refine pC_2_1 hZ (pc := 7) fl_X7_15 dX7_split_7 ?_
  refine z_iconst hZ (pc := 10) (v := 0) dX7_split_10 (by decide) ?_
  refine q_istore_n_5_2 hZ (pc := 11) dX7_split_11 rfl ?_
  refine z_iconst hZ (pc := 12) (v := 0) dX7_split_12 (by decide) ?_
  refine q_istore_n_5_3 hZ (pc := 13) dX7_split_13 rfl ?_
  have lp14 : ∀ (f k s m : Nat) (v' : ZV) (g' : ZG), k ≤ s → s ≤ n → n - s < f → SPI n v g s m v' g' → Z 0 0 (WC o a cA v' g') [some (.ref (o 2)), some (.int (nI n)), some (.int (nI s)), some (.int (nI k)), none] [] 14 := by
    intro f
    induction f with
    | zero => intro k s m v' g' _ _ hf; exact absurd hf (Nat.not_lt_zero _)
    | succ f ih14 =>
      intro k s m v' g' hks hsn hf hI
      refine z_iload_n hZ (pc := 14) dX7_split_14 rfl ?_
      refine z_iload_n hZ (pc := 15) dX7_split_15 rfl ?_
      refine z_icmp_ge hZ (pc := 16) (tgt := 74) dX7_split_16 rfl (fun c16 => ?_) (fun c16 => ?_)
      · skip
        have e0 : n ≤ k := (nI_leI (by omega) (by omega)).mp c16
        have e1 : s = n := by omega
        subst e1
        refine z_aload_n hZ (pc := 74) dX7_split_74 rfl ?_
        refine z_iconst hZ (pc := 75) (v := 0) dX7_split_75 (by decide) ?_
        refine z_iload_n hZ (pc := 76) dX7_split_76 rfl ?_
        refine z_iconst hZ (pc := 77) (v := 0) dX7_split_77 (by decide) ?_
        refine cV_v hZ (pc := 78) dX7_split_78 lk_X7_53 mn_X7_add mv_X7_add (c_X7_add hI.2.2.2.1 (by have := hI.1; omega)) rc_2 rfl rfl (Nat.le_of_ble_eq_true rfl) (by decide) (by decide) (Nat.zero_le _) (Nat.zero_le _) ?_
        refine zr_v hZ (pc := 81) dX7_split_81 ?_
        exact ⟨rfl, m, SPI_end hI⟩
      · skip
        refine z_iload_n hZ (pc := 19) dX7_split_19 rfl ?_
        refine z_iload_n hZ (pc := 20) dX7_split_20 rfl ?_
        refine z_icmp_ge hZ (pc := 21) (tgt := 74) dX7_split_21 rfl (fun c21 => ?_) (fun c21 => ?_)
        · skip
          have e1 : s = n := lp_ge rfl (by omega) (by omega) c21
          subst e1
          refine z_aload_n hZ (pc := 74) dX7_split_74 rfl ?_
          refine z_iconst hZ (pc := 75) (v := 0) dX7_split_75 (by decide) ?_
          refine z_iload_n hZ (pc := 76) dX7_split_76 rfl ?_
          refine z_iconst hZ (pc := 77) (v := 0) dX7_split_77 (by decide) ?_
          refine cV_v hZ (pc := 78) dX7_split_78 lk_X7_53 mn_X7_add mv_X7_add (c_X7_add hI.2.2.2.1 (by have := hI.1; omega)) rc_2 rfl rfl (Nat.le_of_ble_eq_true rfl) (by decide) (by decide) (Nat.zero_le _) (Nat.zero_le _) ?_
          refine zr_v hZ (pc := 81) dX7_split_81 ?_
          exact ⟨rfl, m, SPI_end hI⟩
        · skip
          have hs : s < n := lp_lt rfl (by omega) (by omega) c21
          have hg1 : g' 1 = g 1 := hI.2.2.2.2.2.2.2 1 (by decide) (by decide) (by decide)
          refine z_aload_n hZ (pc := 24) dX7_split_24 rfl ?_
          refine z_iload_n hZ (pc := 25) dX7_split_25 rfl ?_
          refine z_iload_n hZ (pc := 26) dX7_split_26 rfl ?_
          refine cV_i hZ (pc := 27) dX7_split_27 lk_X7_35 mn_X7_endOf mv_X7_endOf (c_X7_endOf hs hn) rc_2 rfl rfl (Nat.le_of_ble_eq_true rfl) (by decide) (by decide) (Nat.zero_le _) (Nat.zero_le _) ?_
          refine q_istore_5_4 hZ (pc := 30) dX7_split_30 rfl ?_
          refine z_aload_n hZ (pc := 32) dX7_split_32 rfl ?_
          refine gC_2_0 hZ (pc := 33) fl_X7_9 dX7_split_33 ?_
          refine z_iload_n hZ (pc := 36) dX7_split_36 rfl ?_
          refine cS_i hZ (pc := 37) dX7_split_37 lk_X7_39 mn_X10_at ms_X10_at (c_X10_atn (j := 1) (n := s) (by decide) (by show s < 700; omega)) rfl rfl (Nat.le_of_ble_eq_true rfl) (by decide) (by decide) (Nat.zero_le _) (Nat.zero_le _) ?_
          refine cS_i hZ (pc := 40) dX7_split_40 lk_X7_43 mn_X7_isBlank ms_X7_isBlank (c_X7_isBlank) rfl rfl (Nat.le_of_ble_eq_true rfl) (by decide) (by decide) (Nat.zero_le _) (Nat.zero_le _) ?_
          refine z_if_ne hZ (pc := 43) (tgt := 65) dX7_split_43 rfl (fun c43 => ?_) (fun c43 => ?_)
          · skip
            refine z_iload hZ (pc := 65) dX7_split_65 rfl ?_
            refine q_istore_n_5_2 hZ (pc := 67) dX7_split_67 rfl ?_
            refine q_iinc_5_3 hZ (pc := 68) dX7_split_68 rfl ?_
            refine z_goto hZ (pc := 71) (tgt := 14) dX7_split_71 rfl ?_
            exact z_back hZ (ih14 (k + 1) (endN (g' 1) n s) m _ _ (by have := endN_gt (g' 1) n s; omega) (endN_le _ hs) (by have := endN_gt (g' 1) n s; omega) (by rw [hg1]; exact SPI_blk hI hs (by rw [← hg1]; exact bI_ne c43))) rfl ⟨rfl, rfl, rfl, zi (nI_inc _), trivial⟩
          · skip
            refine z_aload_n hZ (pc := 46) dX7_split_46 rfl ?_
            refine z_aload_n hZ (pc := 47) dX7_split_47 rfl ?_
            refine z_iload_n hZ (pc := 48) dX7_split_48 rfl ?_
            refine z_iload hZ (pc := 49) dX7_split_49 rfl ?_
            refine cVY hY (pc := 51) dX7_split_51 lk_X7_47 mn_X7_kindOf mv_X7_kindOf (c_X7_kindOf (endN_gt _ _ _) (Nat.le_trans (endN_le _ hs) hn)) rc_2 rfl rfl (Nat.le_of_ble_eq_true rfl) (by decide) (by decide) (Nat.zero_le _) (Nat.zero_le _) (fun v2 g2 r h => ?_)
            obtain ⟨e1, e2, rfl⟩ := h
            subst v2
            subst g2
            refine z_iload_n hZ (pc := 54) dX7_split_54 rfl ?_
            refine z_aload_n hZ (pc := 55) dX7_split_55 rfl ?_
            refine z_iload_n hZ (pc := 56) dX7_split_56 rfl ?_
            refine z_iload hZ (pc := 57) dX7_split_57 rfl ?_
            refine cV_i hZ (pc := 59) dX7_split_59 lk_X7_50 mn_X7_numberOf mv_X7_numberOf (c_X7_numberOf (Nat.le_of_lt (endN_gt _ _ _)) (Nat.le_trans (endN_le _ hs) hn)) rc_2 rfl rfl (Nat.le_of_ble_eq_true rfl) (by decide) (by decide) (Nat.zero_le _) (Nat.zero_le _) ?_
            refine cV_v hZ (pc := 62) dX7_split_62 lk_X7_53 mn_X7_add mv_X7_add (c_X7_add hI.2.2.2.1 (by have := hI.1; omega)) rc_2 rfl rfl (Nat.le_of_ble_eq_true rfl) (by decide) (by decide) (Nat.zero_le _) (Nat.zero_le _) ?_
            refine z_iload hZ (pc := 65) dX7_split_65 rfl ?_
            refine q_istore_n_5_2 hZ (pc := 67) dX7_split_67 rfl ?_
            refine q_iinc_5_3 hZ (pc := 68) dX7_split_68 rfl ?_
            refine z_goto hZ (pc := 71) (tgt := 14) dX7_split_71 rfl ?_
            exact z_back hZ (ih14 (k + 1) (endN (g' 1) n s) (m + 1) _ _ (by have := endN_gt (g' 1) n s; omega) (endN_le _ hs) (by have := endN_gt (g' 1) n s; omega) (by rw [hg1]; exact SPI_tok hI hs (by rw [← hg1]; exact bI_eq.mp c43))) rfl ⟨rfl, rfl, rfl, zi (nI_inc _), trivial⟩
  exact z_back hZ (lp14 (n + 1) 0 0 0 _ _ (Nat.le_refl _) (Nat.zero_le _) (by omega) ⟨Nat.le_refl _, rfl, fun i hi => absurd hi (Nat.not_lt_zero _), rfl, rfl, fun i hi => absurd hi (Nat.not_lt_zero _), fun k k7 k8 => by rw [up_off k7, up_off k8], fun _ _ _ _ => rfl⟩) rfl ⟨rfl, rfl, rfl, rfl, trivial⟩
