/-- within 0 .. n - 1 -/
def inI (x : Int32) (n : Nat) : Bool := decide (0 ≤ x.toInt) && decide (x.toInt < n)
theorem inI_t {x : Int32} {n : Nat} (h : inI x n = true) (hn : n < 2 ^ 31) : ∃ k, k < n ∧ x = nI k := by
  simp only [inI, Bool.and_eq_true, decide_eq_true_eq] at h
  exact vp_in_of (vp_in_iff.mpr h) hn
theorem inI_nI {k n : Nat} (hk : k < 2 ^ 31) : inI (nI k) n = decide (k < n) := by
  unfold inI
  rw [nI_toInt hk]
  simp
theorem inI_neg {x : Int32} {n : Nat} (h : x < 0) : inI x n = false := by
  have h1 : x.toInt < 0 := Int32.lt_iff_toInt_lt.mp h
  simp [inI]; omega
theorem inI_big {x : Int32} {n : Nat} (hn : n < 2 ^ 31) (h : nI n ≤ x) : inI x n = false := by
  have h1 : (nI n).toInt ≤ x.toInt := Int32.le_iff_toInt_le.mp h
  rw [nI_toInt hn] at h1
  simp [inI]; omega
theorem inI_in {x : Int32} {n : Nat} (hn : n < 2 ^ 31) (h1 : ¬ x < 0) (h2 : ¬ nI n ≤ x) : inI x n = true := by
  obtain ⟨k, hk, rfl⟩ := nI_of h1
  rw [inI_nI hk]
  rcases Nat.lt_or_ge k n with h | h
  · simp [h]
  · exact absurd (nI_le h hk) h2
def inB (x a b : Int32) : Bool := decide (a ≤ x) && decide (x ≤ b)
theorem inB_inI {x : Int32} {n : Nat} (hn : n < 2 ^ 31) : inB x 0 (nI n - 1) = inI x n := by
  rcases Nat.eq_zero_or_pos n with h0 | h0
  · subst h0
    have e : (nI 0 - 1 : Int32) = -1 := by decide
    rw [e, inB]
    by_cases h : x < 0
    · have h1 : ¬ (0 : Int32) ≤ x := Int32.not_le.mpr h
      rw [inI_neg h]; simp [h1]
    · have h2 : ¬ x ≤ -1 := by
        intro q
        have a1 : x.toInt ≤ -1 := Int32.le_iff_toInt_le.mp q
        have a2 : ¬ x.toInt < 0 := fun z => h (Int32.lt_iff_toInt_lt.mpr z)
        omega
      rw [inI_big hn (Int32.not_lt.mp h)]; simp [h2]
  · rw [nI_sub1 h0, inB]
    by_cases h : x < 0
    · have h1 : ¬ (0 : Int32) ≤ x := Int32.not_le.mpr h
      rw [inI_neg h]; simp [h1]
    · obtain ⟨k, hk, rfl⟩ := nI_of h
      rw [inI_nI hk]
      have h1 : (0 : Int32) ≤ nI k := nI_pos' hk
      have h2 : nI k ≤ nI (n - 1) ↔ k ≤ n - 1 := nI_leI hk (by omega)
      simp only [h1, h2, decide_true, Bool.true_and]
      congr 1
      apply propext
      omega
theorem c_X11_isIn {l : Launch} {D : va_G} {cA : Nat → ClassId} {r : Nat} {a : Nat → Nat} {s0 s1 : Nat → Option Nat} {v : ZV} {g : ZG} {x y z : Int32}  : MG l D cA (WM r a cA s0 s1) yX11_isIn cX11_isIn 3 (some .boolean) 0 [.int x, .int y, .int z] v g (PF v g (some (.int (bI (inB x y z))))) := by
  refine MG.of (by decide) rfl (Nat.le_of_ble_eq_true rfl) (by simp [Value.category]) (fun Z hZ => ?_)
  refine z_iload_n hZ (pc := 0) dX11_isIn_0 rfl ?_
  refine z_iload_n hZ (pc := 1) dX11_isIn_1 rfl ?_
  refine z_icmp_lt hZ (pc := 2) (tgt := 14) dX11_isIn_2 rfl (fun c2 => ?_) (fun c2 => ?_)
  · skip
    refine z_iconst hZ (pc := 14) (v := 0) dX11_isIn_14 (by decide) ?_
    refine zr_i hZ (pc := 15) dX11_isIn_15 FitR.b0 ?_
    exact ⟨rfl, rfl, by simp [inB, bI, Int32.not_le.mpr c2]⟩
  · skip
    refine z_iload_n hZ (pc := 5) dX11_isIn_5 rfl ?_
    refine z_iload_n hZ (pc := 6) dX11_isIn_6 rfl ?_
    refine z_icmp_gt hZ (pc := 7) (tgt := 14) dX11_isIn_7 rfl (fun c7 => ?_) (fun c7 => ?_)
    · skip
      refine z_iconst hZ (pc := 14) (v := 0) dX11_isIn_14 (by decide) ?_
      refine zr_i hZ (pc := 15) dX11_isIn_15 FitR.b0 ?_
      exact ⟨rfl, rfl, by simp [inB, bI, Int32.not_le.mpr c7]⟩
    · skip
      refine z_iconst hZ (pc := 10) (v := 1) dX11_isIn_10 (by decide) ?_
      refine z_goto hZ (pc := 11) (tgt := 15) dX11_isIn_11 rfl ?_
      refine zr_i hZ (pc := 15) dX11_isIn_15 FitR.b1 ?_
      exact ⟨rfl, rfl, by simp [inB, bI, Int32.not_lt.mp c2, Int32.not_lt.mp c7]⟩
theorem c_X11_fail {l : Launch} {D : va_G} {cA : Nat → ClassId} {r : Nat} {a : Nat → Nat} {s0 s1 : Nat → Option Nat} {v : ZV} {g : ZG} {c : Int32}  : MG l D cA (WM r a cA s0 s1) yX11_fail cX11_fail 2 (some .int) 0 [(.ref r), .int c] v g (PF (va_up v 2 c) g (some (.int 0))) := by
  refine MG.of (by decide) rfl (Nat.le_of_ble_eq_true rfl) (by simp [Value.category]) (fun Z hZ => ?_)
  refine z_aload_n hZ (pc := 0) dX11_fail_0 rfl ?_
  refine z_iload_n hZ (pc := 1) dX11_fail_1 rfl ?_
  refine pM_2 hZ (pc := 2) fl_X11_160 dX11_fail_2 ?_
  refine z_iconst hZ (pc := 5) (v := 0) dX11_fail_5 (by decide) ?_
  refine zr_i hZ (pc := 6) dX11_fail_6 FitR.int ?_
  exact ⟨rfl, rfl, rfl⟩
theorem c_X11_isHouse {l : Launch} {D : va_G} {cA : Nat → ClassId} {r : Nat} {a : Nat → Nat} {s0 s1 : Nat → Option Nat} {v : ZV} {g : ZG} {x : Int32} {n : Nat} (hn : g 3 0 = nI n) (h9 : n < 2 ^ 31) : MG l D cA (WM r a cA s0 s1) yX11_isHouse cX11_isHouse 2 (some .boolean) 1 [(.ref r), .int x] v g (PF v g (some (.int (bI (inI x n))))) := by
  refine MG.of (by decide) rfl (Nat.le_of_ble_eq_true rfl) (by simp [Value.category]) (fun Z hZ => ?_)
  refine z_iload_n hZ (pc := 0) dX11_isHouse_0 rfl ?_
  refine z_iconst hZ (pc := 1) (v := 0) dX11_isHouse_1 (by decide) ?_
  refine z_aload_n hZ (pc := 2) dX11_isHouse_2 rfl ?_
  refine gM_3 hZ (pc := 3) fl_X11_40 dX11_isHouse_3 ?_
  refine z_iconst hZ (pc := 6) (v := 0) dX11_isHouse_6 (by decide) ?_
  refine lMn_3 hZ (pc := 7) (q := 0) dX11_isHouse_7 (by omega) ?_
  refine z_iconst hZ (pc := 8) (v := 1) dX11_isHouse_8 (by decide) ?_
  refine z_isub hZ (pc := 9) dX11_isHouse_9 ?_
  refine cS_i hZ (pc := 10) dX11_isHouse_10 lk_X11_163 mn_X11_isIn ms_X11_isIn (c_X11_isIn) rfl rfl (Nat.le_of_ble_eq_true rfl) (by decide) (by decide) (Nat.zero_le _) (Nat.zero_le _) ?_
  refine zr_i hZ (pc := 13) dX11_isHouse_13 FitR.bI ?_
  exact ⟨rfl, rfl, by rw [hn, inB_inI h9]⟩
theorem c_X11_isPerson {l : Launch} {D : va_G} {cA : Nat → ClassId} {r : Nat} {a : Nat → Nat} {s0 s1 : Nat → Option Nat} {v : ZV} {g : ZG} {x : Int32} {n : Nat} (hn : g 3 1 = nI n) (h9 : n < 2 ^ 31) : MG l D cA (WM r a cA s0 s1) yX11_isPerson cX11_isPerson 2 (some .boolean) 1 [(.ref r), .int x] v g (PF v g (some (.int (bI (inI x n))))) := by
  refine MG.of (by decide) rfl (Nat.le_of_ble_eq_true rfl) (by simp [Value.category]) (fun Z hZ => ?_)
  refine z_iload_n hZ (pc := 0) dX11_isPerson_0 rfl ?_
  refine z_iconst hZ (pc := 1) (v := 0) dX11_isPerson_1 (by decide) ?_
  refine z_aload_n hZ (pc := 2) dX11_isPerson_2 rfl ?_
  refine gM_3 hZ (pc := 3) fl_X11_40 dX11_isPerson_3 ?_
  refine z_iconst hZ (pc := 6) (v := 1) dX11_isPerson_6 (by decide) ?_
  refine lMn_3 hZ (pc := 7) (q := 1) dX11_isPerson_7 (by omega) ?_
  refine z_iconst hZ (pc := 8) (v := 1) dX11_isPerson_8 (by decide) ?_
  refine z_isub hZ (pc := 9) dX11_isPerson_9 ?_
  refine cS_i hZ (pc := 10) dX11_isPerson_10 lk_X11_163 mn_X11_isIn ms_X11_isIn (c_X11_isIn) rfl rfl (Nat.le_of_ble_eq_true rfl) (by decide) (by decide) (Nat.zero_le _) (Nat.zero_le _) ?_
  refine zr_i hZ (pc := 13) dX11_isPerson_13 FitR.bI ?_
  exact ⟨rfl, rfl, by rw [hn, inB_inI h9]⟩
theorem c_X11_isHour {l : Launch} {D : va_G} {cA : Nat → ClassId} {r : Nat} {a : Nat → Nat} {s0 s1 : Nat → Option Nat} {v : ZV} {g : ZG} {x : Int32}  : MG l D cA (WM r a cA s0 s1) yX11_isHour cX11_isHour 1 (some .boolean) 1 [.int x] v g (PF v g (some (.int (bI (inI x 2400))))) := by
  refine MG.of (by decide) rfl (Nat.le_of_ble_eq_true rfl) (by simp [Value.category]) (fun Z hZ => ?_)
  refine z_iload_n hZ (pc := 0) dX11_isHour_0 rfl ?_
  refine z_iconst hZ (pc := 1) (v := 0) dX11_isHour_1 (by decide) ?_
  refine z_sipush hZ (pc := 2) (v := 2399) dX11_isHour_2 (by decide) ?_
  refine cS_i hZ (pc := 5) dX11_isHour_5 lk_X11_163 mn_X11_isIn ms_X11_isIn (c_X11_isIn) rfl rfl (Nat.le_of_ble_eq_true rfl) (by decide) (by decide) (Nat.zero_le _) (Nat.zero_le _) ?_
  refine zr_i hZ (pc := 8) dX11_isHour_8 FitR.bI ?_
  exact ⟨rfl, rfl, by rw [show (2399 : Int32) = nI 2400 - 1 from by decide, inB_inI (by decide)]⟩
/-- the latest of the first n tears that count, out of a house, of an hour or ahead; -1 -/
def cbS (co fr wh : Nat → Int32) (h hr : Int32) : Nat → Int32
  | 0 => -1
  | t + 1 => if co t = 1 ∧ fr t = h ∧ wh t ≤ hr then nI t else cbS co fr wh h hr t
theorem cbS_or (co fr wh : Nat → Int32) (h hr : Int32) : ∀ n, cbS co fr wh h hr n = -1 ∨ ∃ t, t < n ∧ cbS co fr wh h hr n = nI t
  | 0 => Or.inl rfl
  | n + 1 => by
    rw [cbS]
    split
    · exact Or.inr ⟨n, by omega, rfl⟩
    · rcases cbS_or co fr wh h hr n with e | ⟨t, ht, e⟩
      · exact Or.inl e
      · exact Or.inr ⟨t, by omega, e⟩
theorem cbS_cong {co fr wh co' fr' wh' : Nat → Int32} {h hr : Int32} : ∀ {n : Nat}, (∀ t, t < n → co t = co' t) → (∀ t, t < n → fr t = fr' t) → (∀ t, t < n → wh t = wh' t) → cbS co fr wh h hr n = cbS co' fr' wh' h hr n
  | 0, _, _, _ => rfl
  | n + 1, h1, h2, h3 => by rw [cbS, cbS, h1 n (by omega), h2 n (by omega), h3 n (by omega), cbS_cong (fun t ht => h1 t (by omega)) (fun t ht => h2 t (by omega)) (fun t ht => h3 t (by omega))]
def hsT (wo co fr wh : Nat → Int32) (n : Nat) (p hr : Int32) (H : Nat) : Nat := bitN (fun k => decide (nm2 wo (cbS co fr wh (nI k) hr n) = p)) H
theorem c_X11_calledBy {l : Launch} {D : va_G} {cA : Nat → ClassId} {r : Nat} {a : Nat → Nat} {s0 s1 : Nat → Option Nat} {v : ZV} {g : ZG} {n : Nat} {h hr : Int32} (hn : v 12 = nI n) (h2 : n ≤ 200) (hco : ∀ t, t < n → g 18 t = 0 ∨ g 18 t = 1) : MG l D cA (WM r a cA s0 s1) yX11_calledBy cX11_calledBy 4 (some .int) 0 [(.ref r), .int h, .int hr] v g (PF v g (some (.int (cbS (g 18) (g 14) (g 15) h hr n)))) := by
  refine MG.of (by decide) rfl (Nat.le_of_ble_eq_true rfl) (by simp [Value.category]) (fun Z hZ => ?_)
  refine z_aload_n hZ (pc := 0) dX11_calledBy_0 rfl ?_
  refine gM_12 hZ (pc := 1) fl_X11_296 dX11_calledBy_1 ?_
  refine z_iconst hZ (pc := 4) (v := 1) dX11_calledBy_4 (by decide) ?_
  refine z_isub hZ (pc := 5) dX11_calledBy_5 ?_
  refine q_istore_n_4_3 hZ (pc := 6) dX11_calledBy_6 rfl ?_
  have lp7 : ∀ f m : Nat, m ≤ n → m < f → cbS (g 18) (g 14) (g 15) h hr n = cbS (g 18) (g 14) (g 15) h hr m → Z 0 0 (WM r a cA s0 s1 v g) [some (.ref r), some (.int h), some (.int hr), some (.int (nI m + Int32.ofInt (-1)))] [] 7 := by
    intro f
    induction f with
    | zero => intro m _ hf; exact absurd hf (Nat.not_lt_zero _)
    | succ f ih =>
      intro m hm1 hf hme
      refine z_iload_n hZ (pc := 7) dX11_calledBy_7 rfl ?_
      refine z_if_lt hZ (pc := 8) (tgt := 48) dX11_calledBy_8 rfl (fun c8 => ?_) (fun c8 => ?_)
      · skip
        have hm : m = 0 := by
          rcases Nat.eq_zero_or_pos m with h | h
          · exact h
          · obtain ⟨q, rfl⟩ : ∃ q, m = q + 1 := ⟨m - 1, by omega⟩
            rw [nI_dec] at c8
            exact absurd c8 (nI_pos (by omega))
        subst hm
        refine z_iconst hZ (pc := 48) (v := (-1)) dX11_calledBy_48 (by decide) ?_
        refine zr_i hZ (pc := 49) dX11_calledBy_49 FitR.int ?_
        exact ⟨rfl, rfl, by rw [hme]; rfl⟩
      · skip
        obtain ⟨q, rfl⟩ : ∃ q, m = q + 1 := ⟨m - 1, by
          rcases Nat.eq_zero_or_pos m with h | h
          · subst h; exact absurd m1_neg c8
          · omega⟩
        rw [nI_dec]
        refine z_aload_n hZ (pc := 11) dX11_calledBy_11 rfl ?_
        refine gM_18 hZ (pc := 12) fl_X11_83 dX11_calledBy_12 ?_
        refine z_iload_n hZ (pc := 15) dX11_calledBy_15 rfl ?_
        refine lMn_18 hZ (pc := 16) dX11_calledBy_16 (by omega) ?_
        refine z_if_eq hZ (pc := 17) (tgt := 42) dX11_calledBy_17 rfl (fun c17 => ?_) (fun c17 => ?_)
        · skip
          refine q_iinc_4_3 hZ (pc := 42) dX11_calledBy_42 rfl ?_
          refine z_goto hZ (pc := 45) (tgt := 7) dX11_calledBy_45 rfl ?_
          exact z_back hZ (ih q (by omega) (by omega) (by rw [hme, cbS, if_neg (fun z => by rw [z.1] at c17; exact absurd c17 (by decide))])) rfl ⟨rfl, rfl, rfl, rfl, trivial⟩
        · skip
          refine z_aload_n hZ (pc := 20) dX11_calledBy_20 rfl ?_
          refine gM_14 hZ (pc := 21) fl_X11_72 dX11_calledBy_21 ?_
          refine z_iload_n hZ (pc := 24) dX11_calledBy_24 rfl ?_
          refine lMn_14 hZ (pc := 25) dX11_calledBy_25 (by omega) ?_
          refine z_iload_n hZ (pc := 26) dX11_calledBy_26 rfl ?_
          refine z_icmp_ne hZ (pc := 27) (tgt := 42) dX11_calledBy_27 rfl (fun c27 => ?_) (fun c27 => ?_)
          · skip
            refine q_iinc_4_3 hZ (pc := 42) dX11_calledBy_42 rfl ?_
            refine z_goto hZ (pc := 45) (tgt := 7) dX11_calledBy_45 rfl ?_
            exact z_back hZ (ih q (by omega) (by omega) (by rw [hme, cbS, if_neg (fun z => c27 z.2.1)])) rfl ⟨rfl, rfl, rfl, rfl, trivial⟩
          · skip
            refine z_aload_n hZ (pc := 30) dX11_calledBy_30 rfl ?_
            refine gM_15 hZ (pc := 31) fl_X11_75 dX11_calledBy_31 ?_
            refine z_iload_n hZ (pc := 34) dX11_calledBy_34 rfl ?_
            refine lMn_15 hZ (pc := 35) dX11_calledBy_35 (by omega) ?_
            refine z_iload_n hZ (pc := 36) dX11_calledBy_36 rfl ?_
            refine z_icmp_gt hZ (pc := 37) (tgt := 42) dX11_calledBy_37 rfl (fun c37 => ?_) (fun c37 => ?_)
            · skip
              refine q_iinc_4_3 hZ (pc := 42) dX11_calledBy_42 rfl ?_
              refine z_goto hZ (pc := 45) (tgt := 7) dX11_calledBy_45 rfl ?_
              exact z_back hZ (ih q (by omega) (by omega) (by rw [hme, cbS, if_neg (fun z => Int32.not_le.mpr c37 z.2.2)])) rfl ⟨rfl, rfl, rfl, rfl, trivial⟩
            · skip
              refine z_iload_n hZ (pc := 40) dX11_calledBy_40 rfl ?_
              refine zr_i hZ (pc := 41) dX11_calledBy_41 FitR.int ?_
              exact ⟨rfl, rfl, by rw [hme, cbS, if_pos ⟨(hco q (by omega)).resolve_left c17, c27, Int32.not_lt.mp c37⟩]⟩
  exact z_back hZ (lp7 (n + 1) n (Nat.le_refl _) (by omega) rfl) rfl ⟨rfl, rfl, rfl, zi (by rw [hn, sub_m1]), trivial⟩
theorem c_X11_nameOf {l : Launch} {D : va_G} {cA : Nat → ClassId} {r : Nat} {a : Nat → Nat} {s0 s1 : Nat → Option Nat} {v : ZV} {g : ZG} {n : Nat} {h hr : Int32} (hn : v 12 = nI n) (h2 : n ≤ 200) (hco : ∀ t, t < n → g 18 t = 0 ∨ g 18 t = 1) : MG l D cA (WM r a cA s0 s1) yX11_nameOf cX11_nameOf 4 (some .int) 1 [(.ref r), .int h, .int hr] v g (PF v g (some (.int (nm2 (g 13) (cbS (g 18) (g 14) (g 15) h hr n))))) := by
  refine MG.of (by decide) rfl (Nat.le_of_ble_eq_true rfl) (by simp [Value.category]) (fun Z hZ => ?_)
  refine z_aload_n hZ (pc := 0) dX11_nameOf_0 rfl ?_
  refine z_iload_n hZ (pc := 1) dX11_nameOf_1 rfl ?_
  refine z_iload_n hZ (pc := 2) dX11_nameOf_2 rfl ?_
  refine cV_i hZ (pc := 3) dX11_nameOf_3 lk_X11_335 mn_X11_calledBy mv_X11_calledBy (c_X11_calledBy hn h2 hco) rc_M rfl rfl (Nat.le_of_ble_eq_true rfl) (by decide) (by decide) (Nat.zero_le _) (Nat.zero_le _) ?_
  refine q_istore_n_4_3 hZ (pc := 6) dX11_nameOf_6 rfl ?_
  refine z_iload_n hZ (pc := 7) dX11_nameOf_7 rfl ?_
  refine z_iconst hZ (pc := 8) (v := (-1)) dX11_nameOf_8 (by decide) ?_
  refine z_icmp_ne hZ (pc := 9) (tgt := 16) dX11_nameOf_9 rfl (fun c9 => ?_) (fun c9 => ?_)
  · skip
    obtain ⟨t, ht, e⟩ := (cbS_or (g 18) (g 14) (g 15) h hr n).resolve_left c9
    rw [e]
    refine z_aload_n hZ (pc := 16) dX11_nameOf_16 rfl ?_
    refine gM_13 hZ (pc := 17) fl_X11_69 dX11_nameOf_17 ?_
    refine z_iload_n hZ (pc := 20) dX11_nameOf_20 rfl ?_
    refine lMn_13 hZ (pc := 21) dX11_nameOf_21 (by omega) ?_
    refine zr_i hZ (pc := 22) dX11_nameOf_22 FitR.int ?_
    exact ⟨rfl, rfl, by rw [nm2, if_neg c9, e, nI_clamp (by omega)]⟩
  · skip
    refine z_iconst hZ (pc := 12) (v := (-1)) dX11_nameOf_12 (by decide) ?_
    refine z_goto hZ (pc := 13) (tgt := 22) dX11_nameOf_13 rfl ?_
    refine zr_i hZ (pc := 22) dX11_nameOf_22 FitR.int ?_
    exact ⟨rfl, rfl, by rw [nm2, if_pos c9]⟩
theorem c_X11_housesOf {l : Launch} {D : va_G} {cA : Nat → ClassId} {r : Nat} {a : Nat → Nat} {s0 s1 : Nat → Option Nat} {v : ZV} {g : ZG} {n H : Nat} {p hr : Int32} (hn : v 12 = nI n) (h2 : n ≤ 200) (hco : ∀ t, t < n → g 18 t = 0 ∨ g 18 t = 1) (hH : g 3 0 = nI H) (h10 : H ≤ 10) : MG l D cA (WM r a cA s0 s1) yX11_housesOf cX11_housesOf 5 (some .int) 2 [(.ref r), .int p, .int hr] v g (PF v g (some (.int (nI (hsT (g 13) (g 18) (g 14) (g 15) n p hr H))))) := by
  refine MG.of (by decide) rfl (Nat.le_of_ble_eq_true rfl) (by simp [Value.category]) (fun Z hZ => ?_)
  refine z_iconst hZ (pc := 0) (v := 0) dX11_housesOf_0 (by decide) ?_
  refine q_istore_n_5_3 hZ (pc := 1) dX11_housesOf_1 rfl ?_
  refine z_iconst hZ (pc := 2) (v := 0) dX11_housesOf_2 (by decide) ?_
  refine q_istore_5_4 hZ (pc := 3) dX11_housesOf_3 rfl ?_
  have lp5 : ∀ f i : Nat, i ≤ H → H - i < f → Z 0 0 (WM r a cA s0 s1 v g) [some (.ref r), some (.int p), some (.int hr), some (.int (nI (hsT (g 13) (g 18) (g 14) (g 15) n p hr i))), some (.int (nI i))] [] 5 := by
    intro f
    induction f with
    | zero => intro i _ hf; exact absurd hf (Nat.not_lt_zero _)
    | succ f ih5 =>
      intro i hi5 hf5
      refine z_iload hZ (pc := 5) dX11_housesOf_5 rfl ?_
      refine z_aload_n hZ (pc := 7) dX11_housesOf_7 rfl ?_
      refine gM_3 hZ (pc := 8) fl_X11_40 dX11_housesOf_8 ?_
      refine z_iconst hZ (pc := 11) (v := 0) dX11_housesOf_11 (by decide) ?_
      refine lMn_3 hZ (pc := 12) (q := 0) dX11_housesOf_12 (by omega) ?_
      refine z_icmp_ge hZ (pc := 13) (tgt := 44) dX11_housesOf_13 rfl (fun c13 => ?_) (fun c13 => ?_)
      · skip
        have e5 : H = i := (lp_ge hH (by omega) hi5 c13).symm
        subst e5
        refine z_iload_n hZ (pc := 44) dX11_housesOf_44 rfl ?_
        refine zr_i hZ (pc := 45) dX11_housesOf_45 FitR.int ?_
        exact ⟨rfl, rfl, rfl⟩
      · skip
        have hl5 : i < H := lp_lt hH (by omega) hi5 c13
        refine z_iload_n hZ (pc := 16) dX11_housesOf_16 rfl ?_
        refine z_aload_n hZ (pc := 17) dX11_housesOf_17 rfl ?_
        refine z_iload hZ (pc := 18) dX11_housesOf_18 rfl ?_
        refine z_iload_n hZ (pc := 20) dX11_housesOf_20 rfl ?_
        refine cV_i hZ (pc := 21) dX11_housesOf_21 lk_X11_341 mn_X11_nameOf mv_X11_nameOf (c_X11_nameOf hn h2 hco) rc_M rfl rfl (Nat.le_of_ble_eq_true rfl) (by decide) (by decide) (Nat.zero_le _) (Nat.zero_le _) ?_
        refine z_iload_n hZ (pc := 24) dX11_housesOf_24 rfl ?_
        refine z_icmp_ne hZ (pc := 25) (tgt := 35) dX11_housesOf_25 rfl (fun c25 => ?_) (fun c25 => ?_)
        · skip
          refine z_iconst hZ (pc := 35) (v := 0) dX11_housesOf_35 (by decide) ?_
          refine z_ior hZ (pc := 36) dX11_housesOf_36 ?_
          refine q_istore_n_5_3 hZ (pc := 37) dX11_housesOf_37 rfl ?_
          refine q_iinc_5_4 hZ (pc := 38) dX11_housesOf_38 rfl ?_
          refine z_goto hZ (pc := 41) (tgt := 5) dX11_housesOf_41 rfl ?_
          exact z_back hZ (ih5 (i + 1) hl5 (by omega)) (rfl) ⟨rfl, rfl, rfl, zi (by rw [show ∀ x : Int32, x ||| 0 = x from fun x => by simp]; exact or_no (by simp [c25])), zi (nI_inc i), trivial⟩
        · skip
          refine z_iconst hZ (pc := 28) (v := 1) dX11_housesOf_28 (by decide) ?_
          refine z_iload hZ (pc := 29) dX11_housesOf_29 rfl ?_
          refine z_ishl hZ (pc := 31) dX11_housesOf_31 ?_
          refine z_goto hZ (pc := 32) (tgt := 36) dX11_housesOf_32 rfl ?_
          refine z_ior hZ (pc := 36) dX11_housesOf_36 ?_
          refine q_istore_n_5_3 hZ (pc := 37) dX11_housesOf_37 rfl ?_
          refine q_iinc_5_4 hZ (pc := 38) dX11_housesOf_38 rfl ?_
          refine z_goto hZ (pc := 41) (tgt := 5) dX11_housesOf_41 rfl ?_
          exact z_back hZ (ih5 (i + 1) hl5 (by omega)) (rfl) ⟨rfl, rfl, rfl, zi (or_bit (by omega) (by simp [c25])), zi (nI_inc i), trivial⟩
  exact z_back hZ (lp5 (H - 0 + 1) 0 (Nat.zero_le _) (by omega)) (rfl) ⟨rfl, rfl, rfl, rfl, rfl, trivial⟩
theorem c_X11_bitsOf {l : Launch} {D : va_G} {cA : Nat → ClassId} {r : Nat} {a : Nat → Nat} {s0 s1 : Nat → Option Nat} {v : ZV} {g : ZG} {b : Nat} (hb : b < 1024) : MG l D cA (WM r a cA s0 s1) yX11_bitsOf cX11_bitsOf 3 (some .int) 0 [.int (nI b)] v g (PF v g (some (.int (nI (popc b))))) := by
  refine MG.of (by decide) rfl (Nat.le_of_ble_eq_true rfl) (by simp [Value.category]) (fun Z hZ => ?_)
  refine z_iconst hZ (pc := 0) (v := 0) dX11_bitsOf_0 (by decide) ?_
  refine q_istore_n_3_1 hZ (pc := 1) dX11_bitsOf_1 rfl ?_
  refine z_iload_n hZ (pc := 2) dX11_bitsOf_2 rfl ?_
  refine q_istore_n_3_2 hZ (pc := 3) dX11_bitsOf_3 rfl ?_
  have lp4 : ∀ f c m : Nat, c < 1024 → m + popc c = popc b → c < f → Z 0 0 (WM r a cA s0 s1 v g) [some (.int (nI b)), some (.int (nI m)), some (.int (nI c))] [] 4 := by
    intro f
    induction f with
    | zero => intro c m _ _ hf; exact absurd hf (Nat.not_lt_zero _)
    | succ f ih =>
      intro c m hc hs hf
      refine z_iload_n hZ (pc := 4) dX11_bitsOf_4 rfl ?_
      refine z_if_eq hZ (pc := 5) (tgt := 20) dX11_bitsOf_5 rfl (fun c5 => ?_) (fun c5 => ?_)
      · skip
        have hc0 : c = 0 := by
          rcases Nat.eq_zero_or_pos c with h | h
          · exact h
          · exact absurd c5 (nI_ne0 h (by omega))
        subst hc0
        refine z_iload_n hZ (pc := 20) dX11_bitsOf_20 rfl ?_
        refine zr_i hZ (pc := 21) dX11_bitsOf_21 FitR.int ?_
        exact ⟨rfl, rfl, by rw [← hs, popc_0, Nat.add_zero]⟩
      · skip
        have hc0 : 0 < c := by
          rcases Nat.eq_zero_or_pos c with h | h
          · subst h; exact absurd rfl c5
          · exact h
        have ht := (popc_tab c hc).resolve_left (by omega)
        refine q_iinc_3_1 hZ (pc := 8) dX11_bitsOf_8 rfl ?_
        refine z_iload_n hZ (pc := 11) dX11_bitsOf_11 rfl ?_
        refine z_iload_n hZ (pc := 12) dX11_bitsOf_12 rfl ?_
        refine z_iconst hZ (pc := 13) (v := 1) dX11_bitsOf_13 (by decide) ?_
        refine z_isub hZ (pc := 14) dX11_bitsOf_14 ?_
        refine z_iand hZ (pc := 15) dX11_bitsOf_15 ?_
        refine q_istore_n_3_2 hZ (pc := 16) dX11_bitsOf_16 rfl ?_
        refine z_goto hZ (pc := 17) (tgt := 4) dX11_bitsOf_17 rfl ?_
        exact z_back hZ (ih (c &&& (c - 1)) (m + 1) (by omega) (by omega) (by omega)) rfl ⟨rfl, zi (nI_inc m), zi (by rw [nI_sub1 hc0]; exact fa_and _ _), trivial⟩
  exact z_back hZ (lp4 (b + 1) b 0 hb (by omega) (by omega)) rfl ⟨rfl, rfl, rfl, trivial⟩
theorem c_X11_firstOf {l : Launch} {D : va_G} {cA : Nat → ClassId} {r : Nat} {a : Nat → Nat} {s0 s1 : Nat → Option Nat} {v : ZV} {g : ZG} {b : Nat} (hb : b < 1024) (h0 : b ≠ 0) : MG l D cA (WM r a cA s0 s1) yX11_firstOf cX11_firstOf 2 (some .int) 0 [.int (nI b)] v g (PF v g (some (.int (nI (lowb b))))) := by
  refine MG.of (by decide) rfl (Nat.le_of_ble_eq_true rfl) (by simp [Value.category]) (fun Z hZ => ?_)
  refine z_iconst hZ (pc := 0) (v := 0) dX11_firstOf_0 (by decide) ?_
  refine q_istore_n_2_1 hZ (pc := 1) dX11_firstOf_1 rfl ?_
  have lp2 : ∀ f i : Nat, i ≤ 10 → 11 - i < f → (∀ j, j < i → b.testBit j = false) → Z 0 0 (WM r a cA s0 s1 v g) [some (.int (nI b)), some (.int (nI i))] [] 2 := by
    intro f
    induction f with
    | zero => intro i _ hf; exact absurd hf (Nat.not_lt_zero _)
    | succ f ih =>
      intro i hi hf hno
      have hi10 : i < 10 := by
        rcases Nat.lt_or_ge i 10 with h | h
        · exact h
        · have h5 := (lowb_tab b hb).resolve_left h0
          rw [hno _ (by omega)] at h5
          cases h5.2
      refine z_iload_n hZ (pc := 2) dX11_firstOf_2 rfl ?_
      refine z_iload_n hZ (pc := 3) dX11_firstOf_3 rfl ?_
      refine z_ishr hZ (pc := 4) dX11_firstOf_4 ?_
      refine z_iconst hZ (pc := 5) (v := 1) dX11_firstOf_5 (by decide) ?_
      refine z_iand hZ (pc := 6) dX11_firstOf_6 ?_
      refine z_if_ne hZ (pc := 7) (tgt := 16) dX11_firstOf_7 rfl (fun c7 => ?_) (fun c7 => ?_)
      · skip
        refine z_iload_n hZ (pc := 16) dX11_firstOf_16 rfl ?_
        refine zr_i hZ (pc := 17) dX11_firstOf_17 FitR.int ?_
        exact ⟨rfl, rfl, by rw [lowb_is hno (Or.inr ⟨hi10, by
          cases h : b.testBit i
          · exact absurd ((bit_zero (by omega) (by omega)).mpr h) c7
          · rfl⟩)]⟩
      · skip
        refine q_iinc_2_1 hZ (pc := 10) dX11_firstOf_10 rfl ?_
        refine z_goto hZ (pc := 13) (tgt := 2) dX11_firstOf_13 rfl ?_
        exact z_back hZ (ih (i + 1) (by omega) (by omega) (lt_s hno ((bit_zero (by omega) (by omega)).mp c7))) rfl ⟨rfl, zi (nI_inc i), trivial⟩
  exact z_back hZ (lp2 12 0 (by omega) (by omega) (fun j hj => absurd hj (by omega))) rfl ⟨rfl, rfl, trivial⟩
theorem c_X11_beforeOf {l : Launch} {D : va_G} {cA : Nat → ClassId} {r : Nat} {a : Nat → Nat} {s0 s1 : Nat → Option Nat} {v : ZV} {g : ZG} {n : Nat} {h hr : Int32} (hn : v 12 = nI n) (h2 : n ≤ 200) : MG l D cA (WM r a cA s0 s1) yX11_beforeOf cX11_beforeOf 5 (some .int) 0 [(.ref r), .int h, .int hr] v g (PF v g (some (.int (nI (fb_ct (onP (g 14) (g 15) h (hr / 24)) n))))) := by
  refine MG.of (by decide) rfl (Nat.le_of_ble_eq_true rfl) (by simp [Value.category]) (fun Z hZ => ?_)
  refine z_iconst hZ (pc := 0) (v := 0) dX11_beforeOf_0 (by decide) ?_
  refine q_istore_n_5_3 hZ (pc := 1) dX11_beforeOf_1 rfl ?_
  refine z_iconst hZ (pc := 2) (v := 0) dX11_beforeOf_2 (by decide) ?_
  refine q_istore_5_4 hZ (pc := 3) dX11_beforeOf_3 rfl ?_
  have lp5 : ∀ f i : Nat, i ≤ n → n - i < f → Z 0 0 (WM r a cA s0 s1 v g) [some (.ref r), some (.int h), some (.int hr), some (.int (nI (fb_ct (onP (g 14) (g 15) h (hr / 24)) i))), some (.int (nI i))] [] 5 := by
    intro f
    induction f with
    | zero => intro i _ hf; exact absurd hf (Nat.not_lt_zero _)
    | succ f ih5 =>
      intro i hi5 hf5
      refine z_iload hZ (pc := 5) dX11_beforeOf_5 rfl ?_
      refine z_aload_n hZ (pc := 7) dX11_beforeOf_7 rfl ?_
      refine gM_12 hZ (pc := 8) fl_X11_296 dX11_beforeOf_8 ?_
      refine z_icmp_ge hZ (pc := 11) (tgt := 56) dX11_beforeOf_11 rfl (fun c11 => ?_) (fun c11 => ?_)
      · skip
        have e5 : n = i := (lp_ge hn (by omega) hi5 c11).symm
        subst e5
        refine z_iload_n hZ (pc := 56) dX11_beforeOf_56 rfl ?_
        refine zr_i hZ (pc := 57) dX11_beforeOf_57 FitR.int ?_
        exact ⟨rfl, rfl, rfl⟩
      · skip
        have hl5 : i < n := lp_lt hn (by omega) hi5 c11
        refine z_iload_n hZ (pc := 14) dX11_beforeOf_14 rfl ?_
        refine z_aload_n hZ (pc := 15) dX11_beforeOf_15 rfl ?_
        refine gM_14 hZ (pc := 16) fl_X11_72 dX11_beforeOf_16 ?_
        refine z_iload hZ (pc := 19) dX11_beforeOf_19 rfl ?_
        refine lMn_14 hZ (pc := 21) dX11_beforeOf_21 (by omega) ?_
        refine z_iload_n hZ (pc := 22) dX11_beforeOf_22 rfl ?_
        refine z_icmp_ne hZ (pc := 23) (tgt := 47) dX11_beforeOf_23 rfl (fun c23 => ?_) (fun c23 => ?_)
        · skip
          refine z_iconst hZ (pc := 47) (v := 0) dX11_beforeOf_47 (by decide) ?_
          refine z_iadd hZ (pc := 48) dX11_beforeOf_48 ?_
          refine q_istore_n_5_3 hZ (pc := 49) dX11_beforeOf_49 rfl ?_
          refine q_iinc_5_4 hZ (pc := 50) dX11_beforeOf_50 rfl ?_
          refine z_goto hZ (pc := 53) (tgt := 5) dX11_beforeOf_53 rfl ?_
          exact z_back hZ (ih5 (i + 1) hl5 (by omega)) (rfl) ⟨rfl, rfl, rfl, zi (by simp [fb_ct_succ, onP, c23]), zi (nI_inc i), trivial⟩
        · skip
          refine z_aload_n hZ (pc := 26) dX11_beforeOf_26 rfl ?_
          refine gM_15 hZ (pc := 27) fl_X11_75 dX11_beforeOf_27 ?_
          refine z_iload hZ (pc := 30) dX11_beforeOf_30 rfl ?_
          refine lMn_15 hZ (pc := 32) dX11_beforeOf_32 (by omega) ?_
          refine z_bipush hZ (pc := 33) (v := 24) dX11_beforeOf_33 (by decide) ?_
          refine z_idiv hZ (pc := 35) dX11_beforeOf_35 (by decide) ?_
          refine z_iload_n hZ (pc := 36) dX11_beforeOf_36 rfl ?_
          refine z_bipush hZ (pc := 37) (v := 24) dX11_beforeOf_37 (by decide) ?_
          refine z_idiv hZ (pc := 39) dX11_beforeOf_39 (by decide) ?_
          refine z_icmp_ne hZ (pc := 40) (tgt := 47) dX11_beforeOf_40 rfl (fun c40 => ?_) (fun c40 => ?_)
          · skip
            refine z_iconst hZ (pc := 47) (v := 0) dX11_beforeOf_47 (by decide) ?_
            refine z_iadd hZ (pc := 48) dX11_beforeOf_48 ?_
            refine q_istore_n_5_3 hZ (pc := 49) dX11_beforeOf_49 rfl ?_
            refine q_iinc_5_4 hZ (pc := 50) dX11_beforeOf_50 rfl ?_
            refine z_goto hZ (pc := 53) (tgt := 5) dX11_beforeOf_53 rfl ?_
            exact z_back hZ (ih5 (i + 1) hl5 (by omega)) (rfl) ⟨rfl, rfl, rfl, zi (by simp [fb_ct_succ, onP, c23, c40]), zi (nI_inc i), trivial⟩
          · skip
            refine z_iconst hZ (pc := 43) (v := 1) dX11_beforeOf_43 (by decide) ?_
            refine z_goto hZ (pc := 44) (tgt := 48) dX11_beforeOf_44 rfl ?_
            refine z_iadd hZ (pc := 48) dX11_beforeOf_48 ?_
            refine q_istore_n_5_3 hZ (pc := 49) dX11_beforeOf_49 rfl ?_
            refine q_iinc_5_4 hZ (pc := 50) dX11_beforeOf_50 rfl ?_
            refine z_goto hZ (pc := 53) (tgt := 5) dX11_beforeOf_53 rfl ?_
            exact z_back hZ (ih5 (i + 1) hl5 (by omega)) (rfl) ⟨rfl, rfl, rfl, zi (by simp [fb_ct_succ, onP, c23, c40, nI_1]), zi (nI_inc i), trivial⟩
  exact z_back hZ (lp5 (n - 0 + 1) 0 (Nat.zero_le _) (by omega)) (rfl) ⟨rfl, rfl, rfl, rfl, rfl, trivial⟩
theorem c_X11_now {l : Launch} {D : va_G} {cA : Nat → ClassId} {r : Nat} {a : Nat → Nat} {s0 s1 : Nat → Option Nat} {v : ZV} {g : ZG} {n : Nat} (hn : v 12 = nI n) (h2 : n ≤ 200) : MG l D cA (WM r a cA s0 s1) yX11_now cX11_now 1 (some .int) 0 [(.ref r)] v g (PF v g (some (.int (if n = 0 then 0 else g 15 (n - 1))))) := by
  refine MG.of (by decide) rfl (Nat.le_of_ble_eq_true rfl) (by simp [Value.category]) (fun Z hZ => ?_)
  refine z_aload_n hZ (pc := 0) dX11_now_0 rfl ?_
  refine gM_12 hZ (pc := 1) fl_X11_296 dX11_now_1 ?_
  refine z_if_ne hZ (pc := 4) (tgt := 11) dX11_now_4 rfl (fun c4 => ?_) (fun c4 => ?_)
  · skip
    have h0 : 0 < n := by
      rcases Nat.eq_zero_or_pos n with h | h
      · subst h; exact absurd hn c4
      · exact h
    refine z_aload_n hZ (pc := 11) dX11_now_11 rfl ?_
    refine gM_15 hZ (pc := 12) fl_X11_75 dX11_now_12 ?_
    refine z_aload_n hZ (pc := 15) dX11_now_15 rfl ?_
    refine gM_12 hZ (pc := 16) fl_X11_296 dX11_now_16 ?_
    refine z_iconst hZ (pc := 19) (v := 1) dX11_now_19 (by decide) ?_
    refine z_isub hZ (pc := 20) dX11_now_20 ?_
    refine z_top (y := nI (n - 1)) (by rw [hn]; exact pk_sub h0) ?_
    refine lMn_15 hZ (pc := 21) dX11_now_21 (by omega) ?_
    refine zr_i hZ (pc := 22) dX11_now_22 FitR.int ?_
    exact ⟨rfl, rfl, by rw [if_neg (by omega)]⟩
  · skip
    refine z_iconst hZ (pc := 7) (v := 0) dX11_now_7 (by decide) ?_
    refine z_goto hZ (pc := 8) (tgt := 22) dX11_now_8 rfl ?_
    refine zr_i hZ (pc := 22) dX11_now_22 FitR.int ?_
    exact ⟨rfl, rfl, by
      have h0 : n = 0 := by
        rcases Nat.eq_zero_or_pos n with h | h
        · exact h
        · exact absurd (hn ▸ c4) (nI_ne0 h (by omega))
      rw [if_pos h0]⟩
/-- what a letter means, by its houses -/
def meantS (b : Nat) : Int32 := if b = 0 then -1 else if popc b = 1 then nI (lowb b) else -2
theorem hsT_lt (wo co fr wh : Nat → Int32) (n : Nat) (p hr : Int32) {H : Nat} (h : H ≤ 10) : hsT wo co fr wh n p hr H < 1024 := Nat.lt_of_lt_of_le (bitN_lt _ _) (Nat.le_trans (Nat.pow_le_pow_right (by omega) h) (by decide))
theorem c_X11_meant {l : Launch} {D : va_G} {cA : Nat → ClassId} {r : Nat} {a : Nat → Nat} {s0 s1 : Nat → Option Nat} {v : ZV} {g : ZG} {n H k : Nat} (hn : v 12 = nI n) (h2 : n ≤ 200) (hco : ∀ t, t < n → g 18 t = 0 ∨ g 18 t = 1) (hH : g 3 0 = nI H) (h10 : H ≤ 10) (hk : k < 40) : MG l D cA (WM r a cA s0 s1) yX11_meant cX11_meant 3 (some .int) 3 [(.ref r), .int (nI k)] v g (PF v g (some (.int (meantS (hsT (g 13) (g 18) (g 14) (g 15) n (g 21 k) (g 22 k) H))))) := by
  refine MG.of (by decide) rfl (Nat.le_of_ble_eq_true rfl) (by simp [Value.category]) (fun Z hZ => ?_)
  have hb := hsT_lt (g 13) (g 18) (g 14) (g 15) n (g 21 k) (g 22 k) h10
  refine z_aload_n hZ (pc := 0) dX11_meant_0 rfl ?_
  refine z_aload_n hZ (pc := 1) dX11_meant_1 rfl ?_
  refine gM_21 hZ (pc := 2) fl_X11_86 dX11_meant_2 ?_
  refine z_iload_n hZ (pc := 5) dX11_meant_5 rfl ?_
  refine lMn_21 hZ (pc := 6) dX11_meant_6 (by omega) ?_
  refine z_aload_n hZ (pc := 7) dX11_meant_7 rfl ?_
  refine gM_22 hZ (pc := 8) fl_X11_89 dX11_meant_8 ?_
  refine z_iload_n hZ (pc := 11) dX11_meant_11 rfl ?_
  refine lMn_22 hZ (pc := 12) dX11_meant_12 (by omega) ?_
  refine cV_i hZ (pc := 13) dX11_meant_13 lk_X11_344 mn_X11_housesOf mv_X11_housesOf (c_X11_housesOf (n := n) (H := H) hn h2 hco hH h10) rc_M rfl rfl (Nat.le_of_ble_eq_true rfl) (by decide) (by decide) (Nat.zero_le _) (Nat.zero_le _) ?_
  refine q_istore_n_3_2 hZ (pc := 16) dX11_meant_16 rfl ?_
  refine z_iload_n hZ (pc := 17) dX11_meant_17 rfl ?_
  refine z_if_ne hZ (pc := 18) (tgt := 25) dX11_meant_18 rfl (fun c18 => ?_) (fun c18 => ?_)
  · skip
    have h0 : hsT (g 13) (g 18) (g 14) (g 15) n (g 21 k) (g 22 k) H ≠ 0 := fun q => c18 (by rw [q]; rfl)
    have h1 : popc (hsT (g 13) (g 18) (g 14) (g 15) n (g 21 k) (g 22 k) H) ≠ 0 := fun q => h0 ((popc_pos _ hb).mp q)
    have hp10 := popc_le (hsT (g 13) (g 18) (g 14) (g 15) n (g 21 k) (g 22 k) H)
    refine z_iload_n hZ (pc := 25) dX11_meant_25 rfl ?_
    refine cS_i hZ (pc := 26) dX11_meant_26 lk_X11_347 mn_X11_bitsOf ms_X11_bitsOf (c_X11_bitsOf hb) rfl rfl (Nat.le_of_ble_eq_true rfl) (by decide) (by decide) (Nat.zero_le _) (Nat.zero_le _) ?_
    refine z_iconst hZ (pc := 29) (v := 1) dX11_meant_29 (by decide) ?_
    refine z_icmp_le hZ (pc := 30) (tgt := 38) dX11_meant_30 rfl (fun c30 => ?_) (fun c30 => ?_)
    · skip
      refine z_iload_n hZ (pc := 38) dX11_meant_38 rfl ?_
      refine cS_i hZ (pc := 39) dX11_meant_39 lk_X11_350 mn_X11_firstOf ms_X11_firstOf (c_X11_firstOf hb h0) rfl rfl (Nat.le_of_ble_eq_true rfl) (by decide) (by decide) (Nat.zero_le _) (Nat.zero_le _) ?_
      refine zr_i hZ (pc := 42) dX11_meant_42 FitR.int ?_
      have h3 := (nI_leI (a := popc (hsT (g 13) (g 18) (g 14) (g 15) n (g 21 k) (g 22 k) H)) (b := 1) (by omega) (by omega)).mp c30
      exact ⟨rfl, rfl, by rw [meantS, if_neg h0, if_pos (by omega)]⟩
    · skip
      refine z_bipush hZ (pc := 33) (v := (-2)) dX11_meant_33 (by decide) ?_
      refine z_goto hZ (pc := 35) (tgt := 42) dX11_meant_35 rfl ?_
      refine zr_i hZ (pc := 42) dX11_meant_42 FitR.int ?_
      have h3 : ¬ popc (hsT (g 13) (g 18) (g 14) (g 15) n (g 21 k) (g 22 k) H) = 1 := fun q => c30 (by rw [q]; decide)
      exact ⟨rfl, rfl, by rw [meantS, if_neg h0, if_neg h3]⟩
  · skip
    refine z_iconst hZ (pc := 21) (v := (-1)) dX11_meant_21 (by decide) ?_
    refine z_goto hZ (pc := 22) (tgt := 42) dX11_meant_22 rfl ?_
    refine zr_i hZ (pc := 42) dX11_meant_42 FitR.int ?_
    have h3 : hsT (g 13) (g 18) (g 14) (g 15) n (g 21 k) (g 22 k) H = 0 := by
      rcases Nat.eq_zero_or_pos (hsT (g 13) (g 18) (g 14) (g 15) n (g 21 k) (g 22 k) H) with q | q
      · exact q
      · exact absurd c18 (nI_ne0 q (by omega))
    exact ⟨rfl, rfl, by rw [meantS, if_pos h3]⟩
