/-! words of the text -/
def wdL (t : Nat → Int32) (s n : Nat) : List Int32 := (List.range n).map (fun k => t (s + k))
theorem wdL_len {t : Nat → Int32} {s n : Nat} : (wdL t s n).length = n := by simp [wdL]
theorem wdL_get {t : Nat → Int32} {s n k : Nat} (h : k < n) : (wdL t s n).getD k 0 = t (s + k) := by
  rw [List.getD_eq_getElem?_getD, wdL, List.getElem?_map, List.getElem?_range h]
  rfl
theorem wd_eq {t : Nat → Int32} {s n : Nat} {w : List Int32} (h : n = w.length) (hk : ∀ k, k < n → t (s + k) = w.getD k 0) : wdL t s n = w := by
  subst h
  apply List.ext_getElem?
  intro i
  rcases Nat.lt_or_ge i w.length with q | q
  · have h1 := wdL_get (t := t) (s := s) q
    rw [hk i q, List.getD_eq_getElem?_getD, List.getD_eq_getElem?_getD] at h1
    rw [List.getElem?_eq_getElem (by rw [wdL_len]; exact q), List.getElem?_eq_getElem q] at h1 ⊢
    exact congrArg some h1
  · rw [List.getElem?_eq_none (by rw [wdL_len]; exact q), List.getElem?_eq_none q]
theorem wd_ne1 {t : Nat → Int32} {s n : Nat} {w : List Int32} (h : ¬ n = w.length) : ¬ wdL t s n = w := fun e => h (by rw [← e, wdL_len])
theorem wd_ne2 {t : Nat → Int32} {s n k : Nat} {w : List Int32} (hk : k < n) (h : ¬ t (s + k) = w.getD k 0) : ¬ wdL t s n = w := fun e => h (by rw [← e, wdL_get hk])
theorem bD0 {p : Prop} [Decidable p] (h : bI (decide p) = 0) : ¬ p := by
  by_cases q : p
  · rw [decide_eq_true q] at h; exact absurd h (by decide)
  · exact q
theorem bD1 {p : Prop} [Decidable p] (h : ¬ bI (decide p) = 0) : p := by
  by_cases q : p
  · exact q
  · rw [decide_eq_false q] at h; exact absurd rfl h
abbrev wr (i : Nat) : List Int32 := wrd.getD i []
def kvL (l : List Int32) : Int32 := if l = wr 0 then -1 else if l = wr 1 then -2 else if l = wr 2 then -3 else if l = wr 3 then -4 else if l = wr 4 then -5 else if l = wr 5 then -6 else if l = wr 6 then -7 else 11
def kwL (l : List Int32) : Int32 := if l = wr 7 then -8 else if l = wr 8 then -9 else if l = wr 9 then -10 else if l = wr 10 then 6 else if l = wr 11 then 7 else if l = wr 12 then 8 else if l = wr 13 then 9 else if l = wr 14 then 10 else 11
def sgK (c : Int32) : Int32 := if c = 59 then 3 else if c = 40 then 4 else if c = 41 then 5 else if c = 43 then -13 else if c = 45 then -14 else if c = 42 then -15 else if c = 47 then -16 else if c = 60 then -11 else if c = 61 then -12 else 2
def wkL (l : List Int32) : Int32 := if kvL l = 11 then kwL l else kvL l
def kndK (t : Nat → Int32) (s e : Nat) : Int32 := if inB (t s) 48 57 = true then 1 else if inB (t s) 97 122 = true then wkL (wdL t s (e - s)) else sgK (t s)
theorem nlt_of4 {x : Nat} (h : x < 2 ^ 31) (c : ¬ nI x ≤ 4) : 4 < x := by
  rcases Nat.lt_or_ge 4 x with q | q
  · exact q
  · exact absurd (nI_le (a := x) (b := 4) q (by decide)) c
theorem nle_of4 {x : Nat} (h : x < 2 ^ 31) (c : nI x ≤ 4) : ¬ 4 < x := fun q => absurd c (Int32.not_le.mpr (nI_lt (a := 4) (b := x) q h))
theorem bI_f0 {b : Bool} (h : bI b = 0) : b = false := bI_eq.mp h
theorem c_X7_numberOf {l : Launch} {D : va_G} {cA : Nat → ClassId} {o a : Nat → Nat} {v : ZV} {g : ZG} {s e : Nat} (hs : s ≤ e) (he : e ≤ 700) : MG l D cA (WC o a cA) yX7_numberOf cX7_numberOf 5 (some .int) 2 [(.ref (o 2)), .int (nI s), .int (nI e)] v g (PF v g (some (.int (numV (g 1) s e)))) := by
  refine MG.of (by decide) rfl (Nat.le_of_ble_eq_true rfl) (by simp [Value.category]) (fun Z hZ => ?_)
  refine z_iload_n hZ (pc := 0) dX7_numberOf_0 rfl ?_
  refine z_iload_n hZ (pc := 1) dX7_numberOf_1 rfl ?_
  refine z_isub hZ (pc := 2) dX7_numberOf_2 ?_
  refine z_top (y := nI (e - s)) (pk_sub hs) ?_
  refine z_iconst hZ (pc := 3) (v := 4) dX7_numberOf_3 (by decide) ?_
  refine z_icmp_le hZ (pc := 4) (tgt := 11) dX7_numberOf_4 rfl (fun c4 => ?_) (fun c4 => ?_)
  · skip
    refine z_iconst hZ (pc := 11) (v := 0) dX7_numberOf_11 (by decide) ?_
    refine q_istore_n_5_3 hZ (pc := 12) dX7_numberOf_12 rfl ?_
    refine z_iload_n hZ (pc := 13) dX7_numberOf_13 rfl ?_
    refine q_istore_5_4 hZ (pc := 14) dX7_numberOf_14 rfl ?_
    have lp16 : ∀ (f k : Nat), s + k ≤ e → e - (s + k) < f → Z 0 0 (WC o a cA v g) [some (.ref (o 2)), some (.int (nI s)), some (.int (nI e)), some (.int (numD (g 1) s k)), some (.int (nI (s + k)))] [] 16 := by
      intro f
      induction f with
      | zero => intro k _ hf; exact absurd hf (Nat.not_lt_zero _)
      | succ f ih16 =>
        intro k hk hf
        refine z_iload hZ (pc := 16) dX7_numberOf_16 rfl ?_
        refine z_iload_n hZ (pc := 18) dX7_numberOf_18 rfl ?_
        refine z_icmp_ge hZ (pc := 19) (tgt := 46) dX7_numberOf_19 rfl (fun c19 => ?_) (fun c19 => ?_)
        · skip
          have e1 : s + k = e := lp_ge rfl (by omega) (by omega) c19
          refine z_iload_n hZ (pc := 46) dX7_numberOf_46 rfl ?_
          refine zr_i hZ (pc := 47) dX7_numberOf_47 FitR.int ?_
          exact ⟨rfl, rfl, by rw [numV, if_neg (nle_of4 (by omega) c4), show e - s = k by omega]⟩
        · skip
          have hl : s + k < e := lp_lt rfl (by omega) (by omega) c19
          refine z_bipush hZ (pc := 22) (v := 10) dX7_numberOf_22 (by decide) ?_
          refine z_iload_n hZ (pc := 24) dX7_numberOf_24 rfl ?_
          refine z_imul hZ (pc := 25) dX7_numberOf_25 ?_
          refine z_aload_n hZ (pc := 26) dX7_numberOf_26 rfl ?_
          refine gC_2_0 hZ (pc := 27) fl_X7_9 dX7_numberOf_27 ?_
          refine z_iload hZ (pc := 30) dX7_numberOf_30 rfl ?_
          refine cS_i hZ (pc := 32) dX7_numberOf_32 lk_X7_39 mn_X10_at ms_X10_at (c_X10_atn (j := 1) (n := s + k) (by decide) (by show s + k < 700; omega)) rfl rfl (Nat.le_of_ble_eq_true rfl) (by decide) (by decide) (Nat.zero_le _) (Nat.zero_le _) ?_
          refine z_iadd hZ (pc := 35) dX7_numberOf_35 ?_
          refine z_bipush hZ (pc := 36) (v := 48) dX7_numberOf_36 (by decide) ?_
          refine z_isub hZ (pc := 38) dX7_numberOf_38 ?_
          refine q_istore_n_5_3 hZ (pc := 39) dX7_numberOf_39 rfl ?_
          refine q_iinc_5_4 hZ (pc := 40) dX7_numberOf_40 rfl ?_
          refine z_goto hZ (pc := 43) (tgt := 16) dX7_numberOf_43 rfl ?_
          exact z_back hZ (ih16 (k + 1) (by omega) (by omega)) rfl ⟨rfl, rfl, rfl, rfl, zi (nI_inc _), trivial⟩
    exact z_back hZ (lp16 (e - s + 1) 0 (by omega) (by omega)) rfl ⟨rfl, rfl, rfl, rfl, rfl, trivial⟩
  · skip
    refine z_sipush hZ (pc := 7) (v := 10000) dX7_numberOf_7 (by decide) ?_
    refine zr_i hZ (pc := 10) dX7_numberOf_10 FitR.int ?_
    exact ⟨rfl, rfl, by rw [numV, if_pos (nlt_of4 (by omega) c4)]⟩
theorem c_X7_isWord {l : Launch} {D : va_G} {cA : Nat → ClassId} {o a : Nat → Nat} {v : ZV} {g : ZG} {aK aV : Nat → Nat} {s e i : Nat} (hi : i < nSt) (hs : s ≤ e) (he : e ≤ 700) : MGY l D cA aK aV (WC o a cA) yX7_isWord cX7_isWord 5 (some .boolean) 4 [(.ref (o 2)), .int (nI s), .int (nI e), (.ref (aK i))] v g (PF v g (some (.int (bI (decide (wdL (g 1) s (e - s) = wr i)))))) := by
  refine MGY.of (by decide) rfl (Nat.le_of_ble_eq_true rfl) (by simp [Value.category]) (fun Z hY => ?_)
  have hZ := hY.toZR
  have hwn : (wr i).length < 2 ^ 31 := (wrd_ok i hi).1
  refine z_iload_n hZ (pc := 0) dX7_isWord_0 rfl ?_
  refine z_iload_n hZ (pc := 1) dX7_isWord_1 rfl ?_
  refine z_isub hZ (pc := 2) dX7_isWord_2 ?_
  refine z_top (y := nI (e - s)) (pk_sub hs) ?_
  refine z_aload_n hZ (pc := 3) dX7_isWord_3 rfl ?_
  refine zy_callV hY (pc := 4) (As := []) dX7_isWord_4 lk_X7_107 mn_J0_length_8abf5 mv_J0_length_8abf5 (c_J0_length hi) (sO hi) rfl rfl (Nat.le_of_ble_eq_true rfl) (by decide) (by decide) (Nat.zero_le _) (Nat.zero_le _) ?_
  refine z_icmp_eq hZ (pc := 7) (tgt := 12) dX7_isWord_7 rfl (fun c7 => ?_) (fun c7 => ?_)
  · skip
    have hq : e - s = (wr i).length := (nI_eq (by omega) hwn).mp c7
    refine z_iconst hZ (pc := 12) (v := 0) dX7_isWord_12 (by decide) ?_
    refine q_istore_5_4 hZ (pc := 13) dX7_isWord_13 rfl ?_
    have lp15 : ∀ f k : Nat, k ≤ (wr i).length → (wr i).length - k < f → (∀ j, j < k → g 1 (s + j) = (wr i).getD j 0) → Z 0 0 (WC o a cA v g) [some (.ref (o 2)), some (.int (nI s)), some (.int (nI e)), some (.ref (aK i)), some (.int (nI k))] [] 15 := by
      intro f
      induction f with
      | zero => intro k _ hf; exact absurd hf (Nat.not_lt_zero _)
      | succ f ih15 =>
        intro k hk hf hlk
        refine z_iload hZ (pc := 15) dX7_isWord_15 rfl ?_
        refine z_aload_n hZ (pc := 17) dX7_isWord_17 rfl ?_
        refine zy_callV hY (pc := 18) (As := []) dX7_isWord_18 lk_X7_107 mn_J0_length_8abf5 mv_J0_length_8abf5 (c_J0_length hi) (sO hi) rfl rfl (Nat.le_of_ble_eq_true rfl) (by decide) (by decide) (Nat.zero_le _) (Nat.zero_le _) ?_
        refine z_icmp_ge hZ (pc := 21) (tgt := 52) dX7_isWord_21 rfl (fun c21 => ?_) (fun c21 => ?_)
        · skip
          have e1 : k = (wr i).length := lp_ge rfl hwn (by omega) c21
          refine z_iconst hZ (pc := 52) (v := 1) dX7_isWord_52 (by decide) ?_
          refine zr_i hZ (pc := 53) dX7_isWord_53 FitR.b1 ?_
          exact ⟨rfl, rfl, by rw [decide_eq_true (wd_eq hq (fun j hj => hlk j (by omega)))]; rfl⟩
        · skip
          have hl : k < (wr i).length := lp_lt rfl hwn (by omega) c21
          refine z_aload_n hZ (pc := 24) dX7_isWord_24 rfl ?_
          refine gC_2_0 hZ (pc := 25) fl_X7_9 dX7_isWord_25 ?_
          refine z_iload_n hZ (pc := 28) dX7_isWord_28 rfl ?_
          refine z_iload hZ (pc := 29) dX7_isWord_29 rfl ?_
          refine z_iadd hZ (pc := 31) dX7_isWord_31 ?_
          refine z_top (y := nI (s + k)) (nI_add _ _) ?_
          refine cS_i hZ (pc := 32) dX7_isWord_32 lk_X7_39 mn_X10_at ms_X10_at (c_X10_atn (j := 1) (n := s + k) (by decide) (by show s + k < 700; omega)) rfl rfl (Nat.le_of_ble_eq_true rfl) (by decide) (by decide) (Nat.zero_le _) (Nat.zero_le _) ?_
          refine z_aload_n hZ (pc := 35) dX7_isWord_35 rfl ?_
          refine z_iload hZ (pc := 36) dX7_isWord_36 rfl ?_
          refine zy_callV hY (pc := 38) (As := [.int (nI k)]) dX7_isWord_38 lk_X7_113 mn_J0_charAt_5068e mv_J0_charAt_5068e (c_J0_charAt hi hl) (sO hi) rfl rfl (Nat.le_of_ble_eq_true rfl) (by decide) (by decide) (Nat.zero_le _) (Nat.zero_le _) ?_
          refine z_icmp_eq hZ (pc := 41) (tgt := 46) dX7_isWord_41 rfl (fun c41 => ?_) (fun c41 => ?_)
          · skip
            refine q_iinc_5_4 hZ (pc := 46) dX7_isWord_46 rfl ?_
            refine z_goto hZ (pc := 49) (tgt := 15) dX7_isWord_49 rfl ?_
            exact z_back hZ (ih15 (k + 1) (by omega) (by omega) (lt_s hlk c41)) rfl ⟨rfl, rfl, rfl, rfl, zi (nI_inc _), trivial⟩
          · skip
            refine z_iconst hZ (pc := 44) (v := 0) dX7_isWord_44 (by decide) ?_
            refine zr_i hZ (pc := 45) dX7_isWord_45 FitR.b0 ?_
            exact ⟨rfl, rfl, by rw [decide_eq_false (wd_ne2 (k := k) (by omega) c41)]; rfl⟩
    exact z_back hZ (lp15 ((wr i).length + 1) 0 (Nat.zero_le _) (by omega) (fun i hi => absurd hi (Nat.not_lt_zero _))) rfl ⟨rfl, rfl, rfl, rfl, rfl, trivial⟩
  · skip
    refine z_iconst hZ (pc := 10) (v := 0) dX7_isWord_10 (by decide) ?_
    refine zr_i hZ (pc := 11) dX7_isWord_11 FitR.b0 ?_
    exact ⟨rfl, rfl, by rw [decide_eq_false (wd_ne1 (fun z => c7 (by rw [z])))]; rfl⟩
theorem c_X7_kindOfValue {l : Launch} {D : va_G} {cA : Nat → ClassId} {o a : Nat → Nat} {v : ZV} {g : ZG} {aK aV : Nat → Nat} {s e : Nat} (hs : s ≤ e) (he : e ≤ 700) : MGY l D cA aK aV (WC o a cA) yX7_kindOfValue cX7_kindOfValue 3 (some .int) 5 [(.ref (o 2)), .int (nI s), .int (nI e)] v g (PF v g (some (.int (kvL (wdL (g 1) s (e - s)))))) := by
  refine MGY.of (by decide) rfl (Nat.le_of_ble_eq_true rfl) (by simp [Value.category]) (fun Z hY => ?_)
  have hZ := hY.toZR
  refine z_aload_n hZ (pc := 0) dX7_kindOfValue_0 rfl ?_
  refine z_iload_n hZ (pc := 1) dX7_kindOfValue_1 rfl ?_
  refine z_iload_n hZ (pc := 2) dX7_kindOfValue_2 rfl ?_
  refine z_ldcS hY (pc := 3) (tx := "house") (q := aK 0) (fun _ _ _ h => h.2.2.1 ("TearsPost$Tokens", 73, "house", 0) (List.mem_of_getElem? (i := 0) (by decide +kernel))) dX7_kindOfValue_3 ?_
  refine cVY hY (pc := 5) dX7_kindOfValue_5 lk_X7_75 mn_X7_isWord mv_X7_isWord (c_X7_isWord (i := 0) (by decide) hs he) rc_2 rfl rfl (Nat.le_of_ble_eq_true rfl) (by decide) (by decide) (Nat.zero_le _) (Nat.zero_le _) (fun v2 g2 r h => ?_)
  obtain ⟨e1, e2, rfl⟩ := h
  subst v2
  subst g2
  refine z_if_eq hZ (pc := 8) (tgt := 13) dX7_kindOfValue_8 rfl (fun c8 => ?_) (fun c8 => ?_)
  · skip
    refine z_aload_n hZ (pc := 13) dX7_kindOfValue_13 rfl ?_
    refine z_iload_n hZ (pc := 14) dX7_kindOfValue_14 rfl ?_
    refine z_iload_n hZ (pc := 15) dX7_kindOfValue_15 rfl ?_
    refine z_ldcS hY (pc := 16) (tx := "person") (q := aK 1) (fun _ _ _ h => h.2.2.1 ("TearsPost$Tokens", 79, "person", 1) (List.mem_of_getElem? (i := 1) (by decide +kernel))) dX7_kindOfValue_16 ?_
    refine cVY hY (pc := 18) dX7_kindOfValue_18 lk_X7_75 mn_X7_isWord mv_X7_isWord (c_X7_isWord (i := 1) (by decide) hs he) rc_2 rfl rfl (Nat.le_of_ble_eq_true rfl) (by decide) (by decide) (Nat.zero_le _) (Nat.zero_le _) (fun v2 g2 r h => ?_)
    obtain ⟨e1, e2, rfl⟩ := h
    subst v2
    subst g2
    refine z_if_eq hZ (pc := 21) (tgt := 27) dX7_kindOfValue_21 rfl (fun c21 => ?_) (fun c21 => ?_)
    · skip
      refine z_aload_n hZ (pc := 27) dX7_kindOfValue_27 rfl ?_
      refine z_iload_n hZ (pc := 28) dX7_kindOfValue_28 rfl ?_
      refine z_iload_n hZ (pc := 29) dX7_kindOfValue_29 rfl ?_
      refine z_ldcS hY (pc := 30) (tx := "grief") (q := aK 2) (fun _ _ _ h => h.2.2.1 ("TearsPost$Tokens", 81, "grief", 2) (List.mem_of_getElem? (i := 2) (by decide +kernel))) dX7_kindOfValue_30 ?_
      refine cVY hY (pc := 32) dX7_kindOfValue_32 lk_X7_75 mn_X7_isWord mv_X7_isWord (c_X7_isWord (i := 2) (by decide) hs he) rc_2 rfl rfl (Nat.le_of_ble_eq_true rfl) (by decide) (by decide) (Nat.zero_le _) (Nat.zero_le _) (fun v2 g2 r h => ?_)
      obtain ⟨e1, e2, rfl⟩ := h
      subst v2
      subst g2
      refine z_if_eq hZ (pc := 35) (tgt := 41) dX7_kindOfValue_35 rfl (fun c35 => ?_) (fun c35 => ?_)
      · skip
        refine z_aload_n hZ (pc := 41) dX7_kindOfValue_41 rfl ?_
        refine z_iload_n hZ (pc := 42) dX7_kindOfValue_42 rfl ?_
        refine z_iload_n hZ (pc := 43) dX7_kindOfValue_43 rfl ?_
        refine z_ldcS hY (pc := 44) (tx := "hired") (q := aK 3) (fun _ _ _ h => h.2.2.1 ("TearsPost$Tokens", 83, "hired", 3) (List.mem_of_getElem? (i := 3) (by decide +kernel))) dX7_kindOfValue_44 ?_
        refine cVY hY (pc := 46) dX7_kindOfValue_46 lk_X7_75 mn_X7_isWord mv_X7_isWord (c_X7_isWord (i := 3) (by decide) hs he) rc_2 rfl rfl (Nat.le_of_ble_eq_true rfl) (by decide) (by decide) (Nat.zero_le _) (Nat.zero_le _) (fun v2 g2 r h => ?_)
        obtain ⟨e1, e2, rfl⟩ := h
        subst v2
        subst g2
        refine z_if_eq hZ (pc := 49) (tgt := 55) dX7_kindOfValue_49 rfl (fun c49 => ?_) (fun c49 => ?_)
        · skip
          refine z_aload_n hZ (pc := 55) dX7_kindOfValue_55 rfl ?_
          refine z_iload_n hZ (pc := 56) dX7_kindOfValue_56 rfl ?_
          refine z_iload_n hZ (pc := 57) dX7_kindOfValue_57 rfl ?_
          refine z_ldcS hY (pc := 58) (tx := "day") (q := aK 4) (fun _ _ _ h => h.2.2.1 ("TearsPost$Tokens", 85, "day", 4) (List.mem_of_getElem? (i := 4) (by decide +kernel))) dX7_kindOfValue_58 ?_
          refine cVY hY (pc := 60) dX7_kindOfValue_60 lk_X7_75 mn_X7_isWord mv_X7_isWord (c_X7_isWord (i := 4) (by decide) hs he) rc_2 rfl rfl (Nat.le_of_ble_eq_true rfl) (by decide) (by decide) (Nat.zero_le _) (Nat.zero_le _) (fun v2 g2 r h => ?_)
          obtain ⟨e1, e2, rfl⟩ := h
          subst v2
          subst g2
          refine z_if_eq hZ (pc := 63) (tgt := 69) dX7_kindOfValue_63 rfl (fun c63 => ?_) (fun c63 => ?_)
          · skip
            refine z_aload_n hZ (pc := 69) dX7_kindOfValue_69 rfl ?_
            refine z_iload_n hZ (pc := 70) dX7_kindOfValue_70 rfl ?_
            refine z_iload_n hZ (pc := 71) dX7_kindOfValue_71 rfl ?_
            refine z_ldcS hY (pc := 72) (tx := "hour") (q := aK 5) (fun _ _ _ h => h.2.2.1 ("TearsPost$Tokens", 87, "hour", 5) (List.mem_of_getElem? (i := 5) (by decide +kernel))) dX7_kindOfValue_72 ?_
            refine cVY hY (pc := 74) dX7_kindOfValue_74 lk_X7_75 mn_X7_isWord mv_X7_isWord (c_X7_isWord (i := 5) (by decide) hs he) rc_2 rfl rfl (Nat.le_of_ble_eq_true rfl) (by decide) (by decide) (Nat.zero_le _) (Nat.zero_le _) (fun v2 g2 r h => ?_)
            obtain ⟨e1, e2, rfl⟩ := h
            subst v2
            subst g2
            refine z_if_eq hZ (pc := 77) (tgt := 83) dX7_kindOfValue_77 rfl (fun c77 => ?_) (fun c77 => ?_)
            · skip
              refine z_aload_n hZ (pc := 83) dX7_kindOfValue_83 rfl ?_
              refine z_iload_n hZ (pc := 84) dX7_kindOfValue_84 rfl ?_
              refine z_iload_n hZ (pc := 85) dX7_kindOfValue_85 rfl ?_
              refine z_ldcS hY (pc := 86) (tx := "before") (q := aK 6) (fun _ _ _ h => h.2.2.1 ("TearsPost$Tokens", 89, "before", 6) (List.mem_of_getElem? (i := 6) (by decide +kernel))) dX7_kindOfValue_86 ?_
              refine cVY hY (pc := 88) dX7_kindOfValue_88 lk_X7_75 mn_X7_isWord mv_X7_isWord (c_X7_isWord (i := 6) (by decide) hs he) rc_2 rfl rfl (Nat.le_of_ble_eq_true rfl) (by decide) (by decide) (Nat.zero_le _) (Nat.zero_le _) (fun v2 g2 r h => ?_)
              obtain ⟨e1, e2, rfl⟩ := h
              subst v2
              subst g2
              refine z_if_eq hZ (pc := 91) (tgt := 99) dX7_kindOfValue_91 rfl (fun c91 => ?_) (fun c91 => ?_)
              · skip
                refine z_bipush hZ (pc := 99) (v := 11) dX7_kindOfValue_99 (by decide) ?_
                refine zr_i hZ (pc := 101) dX7_kindOfValue_101 FitR.int ?_
                exact ⟨rfl, rfl, by rw [kvL, if_neg (bD0 c8), if_neg (bD0 c21), if_neg (bD0 c35), if_neg (bD0 c49), if_neg (bD0 c63), if_neg (bD0 c77), if_neg (bD0 c91)]⟩
              · skip
                refine z_bipush hZ (pc := 94) (v := (-7)) dX7_kindOfValue_94 (by decide) ?_
                refine z_goto hZ (pc := 96) (tgt := 101) dX7_kindOfValue_96 rfl ?_
                refine zr_i hZ (pc := 101) dX7_kindOfValue_101 FitR.int ?_
                exact ⟨rfl, rfl, by rw [kvL, if_neg (bD0 c8), if_neg (bD0 c21), if_neg (bD0 c35), if_neg (bD0 c49), if_neg (bD0 c63), if_neg (bD0 c77), if_pos (bD1 c91)]⟩
            · skip
              refine z_bipush hZ (pc := 80) (v := (-6)) dX7_kindOfValue_80 (by decide) ?_
              refine zr_i hZ (pc := 82) dX7_kindOfValue_82 FitR.int ?_
              exact ⟨rfl, rfl, by rw [kvL, if_neg (bD0 c8), if_neg (bD0 c21), if_neg (bD0 c35), if_neg (bD0 c49), if_neg (bD0 c63), if_pos (bD1 c77)]⟩
          · skip
            refine z_bipush hZ (pc := 66) (v := (-5)) dX7_kindOfValue_66 (by decide) ?_
            refine zr_i hZ (pc := 68) dX7_kindOfValue_68 FitR.int ?_
            exact ⟨rfl, rfl, by rw [kvL, if_neg (bD0 c8), if_neg (bD0 c21), if_neg (bD0 c35), if_neg (bD0 c49), if_pos (bD1 c63)]⟩
        · skip
          refine z_bipush hZ (pc := 52) (v := (-4)) dX7_kindOfValue_52 (by decide) ?_
          refine zr_i hZ (pc := 54) dX7_kindOfValue_54 FitR.int ?_
          exact ⟨rfl, rfl, by rw [kvL, if_neg (bD0 c8), if_neg (bD0 c21), if_neg (bD0 c35), if_pos (bD1 c49)]⟩
      · skip
        refine z_bipush hZ (pc := 38) (v := (-3)) dX7_kindOfValue_38 (by decide) ?_
        refine zr_i hZ (pc := 40) dX7_kindOfValue_40 FitR.int ?_
        exact ⟨rfl, rfl, by rw [kvL, if_neg (bD0 c8), if_neg (bD0 c21), if_pos (bD1 c35)]⟩
    · skip
      refine z_bipush hZ (pc := 24) (v := (-2)) dX7_kindOfValue_24 (by decide) ?_
      refine zr_i hZ (pc := 26) dX7_kindOfValue_26 FitR.int ?_
      exact ⟨rfl, rfl, by rw [kvL, if_neg (bD0 c8), if_pos (bD1 c21)]⟩
  · skip
    refine z_iconst hZ (pc := 11) (v := (-1)) dX7_kindOfValue_11 (by decide) ?_
    refine zr_i hZ (pc := 12) dX7_kindOfValue_12 FitR.int ?_
    exact ⟨rfl, rfl, by rw [kvL, if_pos (bD1 c8)]⟩
theorem c_X7_kindOfWord {l : Launch} {D : va_G} {cA : Nat → ClassId} {o a : Nat → Nat} {v : ZV} {g : ZG} {aK aV : Nat → Nat} {s e : Nat} (hs : s ≤ e) (he : e ≤ 700) : MGY l D cA aK aV (WC o a cA) yX7_kindOfWord cX7_kindOfWord 3 (some .int) 5 [(.ref (o 2)), .int (nI s), .int (nI e)] v g (PF v g (some (.int (kwL (wdL (g 1) s (e - s)))))) := by
  refine MGY.of (by decide) rfl (Nat.le_of_ble_eq_true rfl) (by simp [Value.category]) (fun Z hY => ?_)
  have hZ := hY.toZR
  refine z_aload_n hZ (pc := 0) dX7_kindOfWord_0 rfl ?_
  refine z_iload_n hZ (pc := 1) dX7_kindOfWord_1 rfl ?_
  refine z_iload_n hZ (pc := 2) dX7_kindOfWord_2 rfl ?_
  refine z_ldcS hY (pc := 3) (tx := "not") (q := aK 7) (fun _ _ _ h => h.2.2.1 ("TearsPost$Tokens", 91, "not", 7) (List.mem_of_getElem? (i := 7) (by decide +kernel))) dX7_kindOfWord_3 ?_
  refine cVY hY (pc := 5) dX7_kindOfWord_5 lk_X7_75 mn_X7_isWord mv_X7_isWord (c_X7_isWord (i := 7) (by decide) hs he) rc_2 rfl rfl (Nat.le_of_ble_eq_true rfl) (by decide) (by decide) (Nat.zero_le _) (Nat.zero_le _) (fun v2 g2 r h => ?_)
  obtain ⟨e1, e2, rfl⟩ := h
  subst v2
  subst g2
  refine z_if_eq hZ (pc := 8) (tgt := 14) dX7_kindOfWord_8 rfl (fun c8 => ?_) (fun c8 => ?_)
  · skip
    refine z_aload_n hZ (pc := 14) dX7_kindOfWord_14 rfl ?_
    refine z_iload_n hZ (pc := 15) dX7_kindOfWord_15 rfl ?_
    refine z_iload_n hZ (pc := 16) dX7_kindOfWord_16 rfl ?_
    refine z_ldcS hY (pc := 17) (tx := "or") (q := aK 8) (fun _ _ _ h => h.2.2.1 ("TearsPost$Tokens", 93, "or", 8) (List.mem_of_getElem? (i := 8) (by decide +kernel))) dX7_kindOfWord_17 ?_
    refine cVY hY (pc := 19) dX7_kindOfWord_19 lk_X7_75 mn_X7_isWord mv_X7_isWord (c_X7_isWord (i := 8) (by decide) hs he) rc_2 rfl rfl (Nat.le_of_ble_eq_true rfl) (by decide) (by decide) (Nat.zero_le _) (Nat.zero_le _) (fun v2 g2 r h => ?_)
    obtain ⟨e1, e2, rfl⟩ := h
    subst v2
    subst g2
    refine z_if_eq hZ (pc := 22) (tgt := 28) dX7_kindOfWord_22 rfl (fun c22 => ?_) (fun c22 => ?_)
    · skip
      refine z_aload_n hZ (pc := 28) dX7_kindOfWord_28 rfl ?_
      refine z_iload_n hZ (pc := 29) dX7_kindOfWord_29 rfl ?_
      refine z_iload_n hZ (pc := 30) dX7_kindOfWord_30 rfl ?_
      refine z_ldcS hY (pc := 31) (tx := "and") (q := aK 9) (fun _ _ _ h => h.2.2.1 ("TearsPost$Tokens", 95, "and", 9) (List.mem_of_getElem? (i := 9) (by decide +kernel))) dX7_kindOfWord_31 ?_
      refine cVY hY (pc := 33) dX7_kindOfWord_33 lk_X7_75 mn_X7_isWord mv_X7_isWord (c_X7_isWord (i := 9) (by decide) hs he) rc_2 rfl rfl (Nat.le_of_ble_eq_true rfl) (by decide) (by decide) (Nat.zero_le _) (Nat.zero_le _) (fun v2 g2 r h => ?_)
      obtain ⟨e1, e2, rfl⟩ := h
      subst v2
      subst g2
      refine z_if_eq hZ (pc := 36) (tgt := 42) dX7_kindOfWord_36 rfl (fun c36 => ?_) (fun c36 => ?_)
      · skip
        refine z_aload_n hZ (pc := 42) dX7_kindOfWord_42 rfl ?_
        refine z_iload_n hZ (pc := 43) dX7_kindOfWord_43 rfl ?_
        refine z_iload_n hZ (pc := 44) dX7_kindOfWord_44 rfl ?_
        refine z_ldcS hY (pc := 45) (tx := "houses") (q := aK 10) (fun _ _ _ h => h.2.2.1 ("TearsPost$Tokens", 97, "houses", 10) (List.mem_of_getElem? (i := 10) (by decide +kernel))) dX7_kindOfWord_45 ?_
        refine cVY hY (pc := 47) dX7_kindOfWord_47 lk_X7_75 mn_X7_isWord mv_X7_isWord (c_X7_isWord (i := 10) (by decide) hs he) rc_2 rfl rfl (Nat.le_of_ble_eq_true rfl) (by decide) (by decide) (Nat.zero_le _) (Nat.zero_le _) (fun v2 g2 r h => ?_)
        obtain ⟨e1, e2, rfl⟩ := h
        subst v2
        subst g2
        refine z_if_eq hZ (pc := 50) (tgt := 56) dX7_kindOfWord_50 rfl (fun c50 => ?_) (fun c50 => ?_)
        · skip
          refine z_aload_n hZ (pc := 56) dX7_kindOfWord_56 rfl ?_
          refine z_iload_n hZ (pc := 57) dX7_kindOfWord_57 rfl ?_
          refine z_iload_n hZ (pc := 58) dX7_kindOfWord_58 rfl ?_
          refine z_ldcS hY (pc := 59) (tx := "walk") (q := aK 11) (fun _ _ _ h => h.2.2.1 ("TearsPost$Tokens", 99, "walk", 11) (List.mem_of_getElem? (i := 11) (by decide +kernel))) dX7_kindOfWord_59 ?_
          refine cVY hY (pc := 61) dX7_kindOfWord_61 lk_X7_75 mn_X7_isWord mv_X7_isWord (c_X7_isWord (i := 11) (by decide) hs he) rc_2 rfl rfl (Nat.le_of_ble_eq_true rfl) (by decide) (by decide) (Nat.zero_le _) (Nat.zero_le _) (fun v2 g2 r h => ?_)
          obtain ⟨e1, e2, rfl⟩ := h
          subst v2
          subst g2
          refine z_if_eq hZ (pc := 64) (tgt := 70) dX7_kindOfWord_64 rfl (fun c64 => ?_) (fun c64 => ?_)
          · skip
            refine z_aload_n hZ (pc := 70) dX7_kindOfWord_70 rfl ?_
            refine z_iload_n hZ (pc := 71) dX7_kindOfWord_71 rfl ?_
            refine z_iload_n hZ (pc := 72) dX7_kindOfWord_72 rfl ?_
            refine z_ldcS hY (pc := 73) (tx := "rule") (q := aK 12) (fun _ _ _ h => h.2.2.1 ("TearsPost$Tokens", 101, "rule", 12) (List.mem_of_getElem? (i := 12) (by decide +kernel))) dX7_kindOfWord_73 ?_
            refine cVY hY (pc := 75) dX7_kindOfWord_75 lk_X7_75 mn_X7_isWord mv_X7_isWord (c_X7_isWord (i := 12) (by decide) hs he) rc_2 rfl rfl (Nat.le_of_ble_eq_true rfl) (by decide) (by decide) (Nat.zero_le _) (Nat.zero_le _) (fun v2 g2 r h => ?_)
            obtain ⟨e1, e2, rfl⟩ := h
            subst v2
            subst g2
            refine z_if_eq hZ (pc := 78) (tgt := 84) dX7_kindOfWord_78 rfl (fun c78 => ?_) (fun c78 => ?_)
            · skip
              refine z_aload_n hZ (pc := 84) dX7_kindOfWord_84 rfl ?_
              refine z_iload_n hZ (pc := 85) dX7_kindOfWord_85 rfl ?_
              refine z_iload_n hZ (pc := 86) dX7_kindOfWord_86 rfl ?_
              refine z_ldcS hY (pc := 87) (tx := "ask") (q := aK 13) (fun _ _ _ h => h.2.2.1 ("TearsPost$Tokens", 103, "ask", 13) (List.mem_of_getElem? (i := 13) (by decide +kernel))) dX7_kindOfWord_87 ?_
              refine cVY hY (pc := 89) dX7_kindOfWord_89 lk_X7_75 mn_X7_isWord mv_X7_isWord (c_X7_isWord (i := 13) (by decide) hs he) rc_2 rfl rfl (Nat.le_of_ble_eq_true rfl) (by decide) (by decide) (Nat.zero_le _) (Nat.zero_le _) (fun v2 g2 r h => ?_)
              obtain ⟨e1, e2, rfl⟩ := h
              subst v2
              subst g2
              refine z_if_eq hZ (pc := 92) (tgt := 98) dX7_kindOfWord_92 rfl (fun c92 => ?_) (fun c92 => ?_)
              · skip
                refine z_aload_n hZ (pc := 98) dX7_kindOfWord_98 rfl ?_
                refine z_iload_n hZ (pc := 99) dX7_kindOfWord_99 rfl ?_
                refine z_iload_n hZ (pc := 100) dX7_kindOfWord_100 rfl ?_
                refine z_ldcS hY (pc := 101) (tx := "chance") (q := aK 14) (fun _ _ _ h => h.2.2.1 ("TearsPost$Tokens", 105, "chance", 14) (List.mem_of_getElem? (i := 14) (by decide +kernel))) dX7_kindOfWord_101 ?_
                refine cVY hY (pc := 103) dX7_kindOfWord_103 lk_X7_75 mn_X7_isWord mv_X7_isWord (c_X7_isWord (i := 14) (by decide) hs he) rc_2 rfl rfl (Nat.le_of_ble_eq_true rfl) (by decide) (by decide) (Nat.zero_le _) (Nat.zero_le _) (fun v2 g2 r h => ?_)
                obtain ⟨e1, e2, rfl⟩ := h
                subst v2
                subst g2
                refine z_if_eq hZ (pc := 106) (tgt := 114) dX7_kindOfWord_106 rfl (fun c106 => ?_) (fun c106 => ?_)
                · skip
                  refine z_bipush hZ (pc := 114) (v := 11) dX7_kindOfWord_114 (by decide) ?_
                  refine zr_i hZ (pc := 116) dX7_kindOfWord_116 FitR.int ?_
                  exact ⟨rfl, rfl, by rw [kwL, if_neg (bD0 c8), if_neg (bD0 c22), if_neg (bD0 c36), if_neg (bD0 c50), if_neg (bD0 c64), if_neg (bD0 c78), if_neg (bD0 c92), if_neg (bD0 c106)]⟩
                · skip
                  refine z_bipush hZ (pc := 109) (v := 10) dX7_kindOfWord_109 (by decide) ?_
                  refine z_goto hZ (pc := 111) (tgt := 116) dX7_kindOfWord_111 rfl ?_
                  refine zr_i hZ (pc := 116) dX7_kindOfWord_116 FitR.int ?_
                  exact ⟨rfl, rfl, by rw [kwL, if_neg (bD0 c8), if_neg (bD0 c22), if_neg (bD0 c36), if_neg (bD0 c50), if_neg (bD0 c64), if_neg (bD0 c78), if_neg (bD0 c92), if_pos (bD1 c106)]⟩
              · skip
                refine z_bipush hZ (pc := 95) (v := 9) dX7_kindOfWord_95 (by decide) ?_
                refine zr_i hZ (pc := 97) dX7_kindOfWord_97 FitR.int ?_
                exact ⟨rfl, rfl, by rw [kwL, if_neg (bD0 c8), if_neg (bD0 c22), if_neg (bD0 c36), if_neg (bD0 c50), if_neg (bD0 c64), if_neg (bD0 c78), if_pos (bD1 c92)]⟩
            · skip
              refine z_bipush hZ (pc := 81) (v := 8) dX7_kindOfWord_81 (by decide) ?_
              refine zr_i hZ (pc := 83) dX7_kindOfWord_83 FitR.int ?_
              exact ⟨rfl, rfl, by rw [kwL, if_neg (bD0 c8), if_neg (bD0 c22), if_neg (bD0 c36), if_neg (bD0 c50), if_neg (bD0 c64), if_pos (bD1 c78)]⟩
          · skip
            refine z_bipush hZ (pc := 67) (v := 7) dX7_kindOfWord_67 (by decide) ?_
            refine zr_i hZ (pc := 69) dX7_kindOfWord_69 FitR.int ?_
            exact ⟨rfl, rfl, by rw [kwL, if_neg (bD0 c8), if_neg (bD0 c22), if_neg (bD0 c36), if_neg (bD0 c50), if_pos (bD1 c64)]⟩
        · skip
          refine z_bipush hZ (pc := 53) (v := 6) dX7_kindOfWord_53 (by decide) ?_
          refine zr_i hZ (pc := 55) dX7_kindOfWord_55 FitR.int ?_
          exact ⟨rfl, rfl, by rw [kwL, if_neg (bD0 c8), if_neg (bD0 c22), if_neg (bD0 c36), if_pos (bD1 c50)]⟩
      · skip
        refine z_bipush hZ (pc := 39) (v := (-10)) dX7_kindOfWord_39 (by decide) ?_
        refine zr_i hZ (pc := 41) dX7_kindOfWord_41 FitR.int ?_
        exact ⟨rfl, rfl, by rw [kwL, if_neg (bD0 c8), if_neg (bD0 c22), if_pos (bD1 c36)]⟩
    · skip
      refine z_bipush hZ (pc := 25) (v := (-9)) dX7_kindOfWord_25 (by decide) ?_
      refine zr_i hZ (pc := 27) dX7_kindOfWord_27 FitR.int ?_
      exact ⟨rfl, rfl, by rw [kwL, if_neg (bD0 c8), if_pos (bD1 c22)]⟩
  · skip
    refine z_bipush hZ (pc := 11) (v := (-8)) dX7_kindOfWord_11 (by decide) ?_
    refine zr_i hZ (pc := 13) dX7_kindOfWord_13 FitR.int ?_
    exact ⟨rfl, rfl, by rw [kwL, if_pos (bD1 c8)]⟩
theorem c_X7_kindOfSign {l : Launch} {D : va_G} {cA : Nat → ClassId} {o a : Nat → Nat} {v : ZV} {g : ZG} {c : Int32}  : MG l D cA (WC o a cA) yX7_kindOfSign cX7_kindOfSign 1 (some .int) 0 [.int c] v g (PF v g (some (.int (sgK c)))) := by
  refine MG.of (by decide) rfl (Nat.le_of_ble_eq_true rfl) (by simp [Value.category]) (fun Z hZ => ?_)
  refine z_iload_n hZ (pc := 0) dX7_kindOfSign_0 rfl ?_
  by_cases s1_0 : c = 40
  · subst s1_0
    refine z_swIn hZ (pc := 1) (off := 105) (tgt := 106) dX7_kindOfSign_1 (by decide) (by decide) (by decide) rfl ?_
    refine z_iconst hZ (pc := 106) (v := 4) dX7_kindOfSign_106 (by decide) ?_
    refine zr_i hZ (pc := 107) dX7_kindOfSign_107 FitR.int ?_
    exact ⟨rfl, rfl, rfl⟩
  by_cases s1_1 : c = 41
  · subst s1_1
    refine z_swIn hZ (pc := 1) (off := 107) (tgt := 108) dX7_kindOfSign_1 (by decide) (by decide) (by decide) rfl ?_
    refine z_iconst hZ (pc := 108) (v := 5) dX7_kindOfSign_108 (by decide) ?_
    refine zr_i hZ (pc := 109) dX7_kindOfSign_109 FitR.int ?_
    exact ⟨rfl, rfl, rfl⟩
  by_cases s1_2 : c = 42
  · subst s1_2
    refine z_swIn hZ (pc := 1) (off := 115) (tgt := 116) dX7_kindOfSign_1 (by decide) (by decide) (by decide) rfl ?_
    refine z_bipush hZ (pc := 116) (v := (-15)) dX7_kindOfSign_116 (by decide) ?_
    refine zr_i hZ (pc := 118) dX7_kindOfSign_118 FitR.int ?_
    exact ⟨rfl, rfl, rfl⟩
  by_cases s1_3 : c = 43
  · subst s1_3
    refine z_swIn hZ (pc := 1) (off := 109) (tgt := 110) dX7_kindOfSign_1 (by decide) (by decide) (by decide) rfl ?_
    refine z_bipush hZ (pc := 110) (v := (-13)) dX7_kindOfSign_110 (by decide) ?_
    refine zr_i hZ (pc := 112) dX7_kindOfSign_112 FitR.int ?_
    exact ⟨rfl, rfl, rfl⟩
  by_cases s1_4 : c = 44
  · subst s1_4
    refine z_swIn hZ (pc := 1) (off := 127) (tgt := 128) dX7_kindOfSign_1 (by decide) (by decide) (by decide) rfl ?_
    refine z_iconst hZ (pc := 128) (v := 2) dX7_kindOfSign_128 (by decide) ?_
    refine zr_i hZ (pc := 129) dX7_kindOfSign_129 FitR.int ?_
    exact ⟨rfl, rfl, rfl⟩
  by_cases s1_5 : c = 45
  · subst s1_5
    refine z_swIn hZ (pc := 1) (off := 112) (tgt := 113) dX7_kindOfSign_1 (by decide) (by decide) (by decide) rfl ?_
    refine z_bipush hZ (pc := 113) (v := (-14)) dX7_kindOfSign_113 (by decide) ?_
    refine zr_i hZ (pc := 115) dX7_kindOfSign_115 FitR.int ?_
    exact ⟨rfl, rfl, rfl⟩
  by_cases s1_6 : c = 46
  · subst s1_6
    refine z_swIn hZ (pc := 1) (off := 127) (tgt := 128) dX7_kindOfSign_1 (by decide) (by decide) (by decide) rfl ?_
    refine z_iconst hZ (pc := 128) (v := 2) dX7_kindOfSign_128 (by decide) ?_
    refine zr_i hZ (pc := 129) dX7_kindOfSign_129 FitR.int ?_
    exact ⟨rfl, rfl, rfl⟩
  by_cases s1_7 : c = 47
  · subst s1_7
    refine z_swIn hZ (pc := 1) (off := 118) (tgt := 119) dX7_kindOfSign_1 (by decide) (by decide) (by decide) rfl ?_
    refine z_bipush hZ (pc := 119) (v := (-16)) dX7_kindOfSign_119 (by decide) ?_
    refine zr_i hZ (pc := 121) dX7_kindOfSign_121 FitR.int ?_
    exact ⟨rfl, rfl, rfl⟩
  by_cases s1_8 : c = 48
  · subst s1_8
    refine z_swIn hZ (pc := 1) (off := 127) (tgt := 128) dX7_kindOfSign_1 (by decide) (by decide) (by decide) rfl ?_
    refine z_iconst hZ (pc := 128) (v := 2) dX7_kindOfSign_128 (by decide) ?_
    refine zr_i hZ (pc := 129) dX7_kindOfSign_129 FitR.int ?_
    exact ⟨rfl, rfl, rfl⟩
  by_cases s1_9 : c = 49
  · subst s1_9
    refine z_swIn hZ (pc := 1) (off := 127) (tgt := 128) dX7_kindOfSign_1 (by decide) (by decide) (by decide) rfl ?_
    refine z_iconst hZ (pc := 128) (v := 2) dX7_kindOfSign_128 (by decide) ?_
    refine zr_i hZ (pc := 129) dX7_kindOfSign_129 FitR.int ?_
    exact ⟨rfl, rfl, rfl⟩
  by_cases s1_10 : c = 50
  · subst s1_10
    refine z_swIn hZ (pc := 1) (off := 127) (tgt := 128) dX7_kindOfSign_1 (by decide) (by decide) (by decide) rfl ?_
    refine z_iconst hZ (pc := 128) (v := 2) dX7_kindOfSign_128 (by decide) ?_
    refine zr_i hZ (pc := 129) dX7_kindOfSign_129 FitR.int ?_
    exact ⟨rfl, rfl, rfl⟩
  by_cases s1_11 : c = 51
  · subst s1_11
    refine z_swIn hZ (pc := 1) (off := 127) (tgt := 128) dX7_kindOfSign_1 (by decide) (by decide) (by decide) rfl ?_
    refine z_iconst hZ (pc := 128) (v := 2) dX7_kindOfSign_128 (by decide) ?_
    refine zr_i hZ (pc := 129) dX7_kindOfSign_129 FitR.int ?_
    exact ⟨rfl, rfl, rfl⟩
  by_cases s1_12 : c = 52
  · subst s1_12
    refine z_swIn hZ (pc := 1) (off := 127) (tgt := 128) dX7_kindOfSign_1 (by decide) (by decide) (by decide) rfl ?_
    refine z_iconst hZ (pc := 128) (v := 2) dX7_kindOfSign_128 (by decide) ?_
    refine zr_i hZ (pc := 129) dX7_kindOfSign_129 FitR.int ?_
    exact ⟨rfl, rfl, rfl⟩
  by_cases s1_13 : c = 53
  · subst s1_13
    refine z_swIn hZ (pc := 1) (off := 127) (tgt := 128) dX7_kindOfSign_1 (by decide) (by decide) (by decide) rfl ?_
    refine z_iconst hZ (pc := 128) (v := 2) dX7_kindOfSign_128 (by decide) ?_
    refine zr_i hZ (pc := 129) dX7_kindOfSign_129 FitR.int ?_
    exact ⟨rfl, rfl, rfl⟩
  by_cases s1_14 : c = 54
  · subst s1_14
    refine z_swIn hZ (pc := 1) (off := 127) (tgt := 128) dX7_kindOfSign_1 (by decide) (by decide) (by decide) rfl ?_
    refine z_iconst hZ (pc := 128) (v := 2) dX7_kindOfSign_128 (by decide) ?_
    refine zr_i hZ (pc := 129) dX7_kindOfSign_129 FitR.int ?_
    exact ⟨rfl, rfl, rfl⟩
  by_cases s1_15 : c = 55
  · subst s1_15
    refine z_swIn hZ (pc := 1) (off := 127) (tgt := 128) dX7_kindOfSign_1 (by decide) (by decide) (by decide) rfl ?_
    refine z_iconst hZ (pc := 128) (v := 2) dX7_kindOfSign_128 (by decide) ?_
    refine zr_i hZ (pc := 129) dX7_kindOfSign_129 FitR.int ?_
    exact ⟨rfl, rfl, rfl⟩
  by_cases s1_16 : c = 56
  · subst s1_16
    refine z_swIn hZ (pc := 1) (off := 127) (tgt := 128) dX7_kindOfSign_1 (by decide) (by decide) (by decide) rfl ?_
    refine z_iconst hZ (pc := 128) (v := 2) dX7_kindOfSign_128 (by decide) ?_
    refine zr_i hZ (pc := 129) dX7_kindOfSign_129 FitR.int ?_
    exact ⟨rfl, rfl, rfl⟩
  by_cases s1_17 : c = 57
  · subst s1_17
    refine z_swIn hZ (pc := 1) (off := 127) (tgt := 128) dX7_kindOfSign_1 (by decide) (by decide) (by decide) rfl ?_
    refine z_iconst hZ (pc := 128) (v := 2) dX7_kindOfSign_128 (by decide) ?_
    refine zr_i hZ (pc := 129) dX7_kindOfSign_129 FitR.int ?_
    exact ⟨rfl, rfl, rfl⟩
  by_cases s1_18 : c = 58
  · subst s1_18
    refine z_swIn hZ (pc := 1) (off := 127) (tgt := 128) dX7_kindOfSign_1 (by decide) (by decide) (by decide) rfl ?_
    refine z_iconst hZ (pc := 128) (v := 2) dX7_kindOfSign_128 (by decide) ?_
    refine zr_i hZ (pc := 129) dX7_kindOfSign_129 FitR.int ?_
    exact ⟨rfl, rfl, rfl⟩
  by_cases s1_19 : c = 59
  · subst s1_19
    refine z_swIn hZ (pc := 1) (off := 103) (tgt := 104) dX7_kindOfSign_1 (by decide) (by decide) (by decide) rfl ?_
    refine z_iconst hZ (pc := 104) (v := 3) dX7_kindOfSign_104 (by decide) ?_
    refine zr_i hZ (pc := 105) dX7_kindOfSign_105 FitR.int ?_
    exact ⟨rfl, rfl, rfl⟩
  by_cases s1_20 : c = 60
  · subst s1_20
    refine z_swIn hZ (pc := 1) (off := 121) (tgt := 122) dX7_kindOfSign_1 (by decide) (by decide) (by decide) rfl ?_
    refine z_bipush hZ (pc := 122) (v := (-11)) dX7_kindOfSign_122 (by decide) ?_
    refine zr_i hZ (pc := 124) dX7_kindOfSign_124 FitR.int ?_
    exact ⟨rfl, rfl, rfl⟩
  by_cases s1_21 : c = 61
  · subst s1_21
    refine z_swIn hZ (pc := 1) (off := 124) (tgt := 125) dX7_kindOfSign_1 (by decide) (by decide) (by decide) rfl ?_
    refine z_bipush hZ (pc := 125) (v := (-12)) dX7_kindOfSign_125 (by decide) ?_
    refine zr_i hZ (pc := 127) dX7_kindOfSign_127 FitR.int ?_
    exact ⟨rfl, rfl, rfl⟩
  have hout1 : c.toInt < 40 ∨ 61 < c.toInt := by
    have q0 := lv_neT s1_0 (a := 40) (by decide)
    have q1 := lv_neT s1_1 (a := 41) (by decide)
    have q2 := lv_neT s1_2 (a := 42) (by decide)
    have q3 := lv_neT s1_3 (a := 43) (by decide)
    have q4 := lv_neT s1_4 (a := 44) (by decide)
    have q5 := lv_neT s1_5 (a := 45) (by decide)
    have q6 := lv_neT s1_6 (a := 46) (by decide)
    have q7 := lv_neT s1_7 (a := 47) (by decide)
    have q8 := lv_neT s1_8 (a := 48) (by decide)
    have q9 := lv_neT s1_9 (a := 49) (by decide)
    have q10 := lv_neT s1_10 (a := 50) (by decide)
    have q11 := lv_neT s1_11 (a := 51) (by decide)
    have q12 := lv_neT s1_12 (a := 52) (by decide)
    have q13 := lv_neT s1_13 (a := 53) (by decide)
    have q14 := lv_neT s1_14 (a := 54) (by decide)
    have q15 := lv_neT s1_15 (a := 55) (by decide)
    have q16 := lv_neT s1_16 (a := 56) (by decide)
    have q17 := lv_neT s1_17 (a := 57) (by decide)
    have q18 := lv_neT s1_18 (a := 58) (by decide)
    have q19 := lv_neT s1_19 (a := 59) (by decide)
    have q20 := lv_neT s1_20 (a := 60) (by decide)
    have q21 := lv_neT s1_21 (a := 61) (by decide)
    omega
  refine z_swOut hZ (pc := 1) (tgt := 128) dX7_kindOfSign_1 hout1 rfl ?_
  refine z_iconst hZ (pc := 128) (v := 2) dX7_kindOfSign_128 (by decide) ?_
  refine zr_i hZ (pc := 129) dX7_kindOfSign_129 FitR.int ?_
  exact ⟨rfl, rfl, by rw [sgK, if_neg s1_19, if_neg s1_0, if_neg s1_1, if_neg s1_3, if_neg s1_5, if_neg s1_2, if_neg s1_7, if_neg s1_20, if_neg s1_21]⟩
theorem c_X7_kindOf {l : Launch} {D : va_G} {cA : Nat → ClassId} {o a : Nat → Nat} {v : ZV} {g : ZG} {aK aV : Nat → Nat} {s e : Nat} (hs : s < e) (he : e ≤ 700) : MGY l D cA aK aV (WC o a cA) yX7_kindOf cX7_kindOf 5 (some .int) 6 [(.ref (o 2)), .int (nI s), .int (nI e)] v g (PF v g (some (.int (kndK (g 1) s e)))) := by
  refine MGY.of (by decide) rfl (Nat.le_of_ble_eq_true rfl) (by simp [Value.category]) (fun Z hY => ?_)
  have hZ := hY.toZR
  refine z_aload_n hZ (pc := 0) dX7_kindOf_0 rfl ?_
  refine gC_2_0 hZ (pc := 1) fl_X7_9 dX7_kindOf_1 ?_
  refine z_iload_n hZ (pc := 4) dX7_kindOf_4 rfl ?_
  refine cS_i hZ (pc := 5) dX7_kindOf_5 lk_X7_39 mn_X10_at ms_X10_at (c_X10_atn (j := 1) (n := s) (by decide) (by show s < 700; omega)) rfl rfl (Nat.le_of_ble_eq_true rfl) (by decide) (by decide) (Nat.zero_le _) (Nat.zero_le _) ?_
  refine q_istore_n_5_3 hZ (pc := 8) dX7_kindOf_8 rfl ?_
  refine z_iload_n hZ (pc := 9) dX7_kindOf_9 rfl ?_
  refine cS_i hZ (pc := 10) dX7_kindOf_10 lk_X7_60 mn_X7_isDigit ms_X7_isDigit (c_X7_isDigit) rfl rfl (Nat.le_of_ble_eq_true rfl) (by decide) (by decide) (Nat.zero_le _) (Nat.zero_le _) ?_
  refine z_if_eq hZ (pc := 13) (tgt := 18) dX7_kindOf_13 rfl (fun c13 => ?_) (fun c13 => ?_)
  · skip
    refine z_iload_n hZ (pc := 18) dX7_kindOf_18 rfl ?_
    refine cS_i hZ (pc := 19) dX7_kindOf_19 lk_X7_57 mn_X7_isLetter ms_X7_isLetter (c_X7_isLetter) rfl rfl (Nat.le_of_ble_eq_true rfl) (by decide) (by decide) (Nat.zero_le _) (Nat.zero_le _) ?_
    refine z_if_ne hZ (pc := 22) (tgt := 30) dX7_kindOf_22 rfl (fun c22 => ?_) (fun c22 => ?_)
    · skip
      refine z_aload_n hZ (pc := 30) dX7_kindOf_30 rfl ?_
      refine z_iload_n hZ (pc := 31) dX7_kindOf_31 rfl ?_
      refine z_iload_n hZ (pc := 32) dX7_kindOf_32 rfl ?_
      refine cVY hY (pc := 33) dX7_kindOf_33 lk_X7_67 mn_X7_kindOfValue mv_X7_kindOfValue (c_X7_kindOfValue (by omega) he) rc_2 rfl rfl (Nat.le_of_ble_eq_true rfl) (by decide) (by decide) (Nat.zero_le _) (Nat.zero_le _) (fun v2 g2 r h => ?_)
      obtain ⟨e1, e2, rfl⟩ := h
      subst v2
      subst g2
      refine q_istore_5_4 hZ (pc := 36) dX7_kindOf_36 rfl ?_
      refine z_iload hZ (pc := 38) dX7_kindOf_38 rfl ?_
      refine z_bipush hZ (pc := 40) (v := 11) dX7_kindOf_40 (by decide) ?_
      refine z_icmp_ne hZ (pc := 42) (tgt := 54) dX7_kindOf_42 rfl (fun c42 => ?_) (fun c42 => ?_)
      · skip
        refine z_iload hZ (pc := 54) dX7_kindOf_54 rfl ?_
        refine zr_i hZ (pc := 56) dX7_kindOf_56 FitR.int ?_
        exact ⟨rfl, rfl, by rw [kndK, if_neg (by rw [bI_eq.mp c13]; decide), if_pos (bI_ne c22), wkL, if_neg c42]⟩
      · skip
        refine z_aload_n hZ (pc := 45) dX7_kindOf_45 rfl ?_
        refine z_iload_n hZ (pc := 46) dX7_kindOf_46 rfl ?_
        refine z_iload_n hZ (pc := 47) dX7_kindOf_47 rfl ?_
        refine cVY hY (pc := 48) dX7_kindOf_48 lk_X7_70 mn_X7_kindOfWord mv_X7_kindOfWord (c_X7_kindOfWord (by omega) he) rc_2 rfl rfl (Nat.le_of_ble_eq_true rfl) (by decide) (by decide) (Nat.zero_le _) (Nat.zero_le _) (fun v2 g2 r h => ?_)
        obtain ⟨e1, e2, rfl⟩ := h
        subst v2
        subst g2
        refine z_goto hZ (pc := 51) (tgt := 56) dX7_kindOf_51 rfl ?_
        refine zr_i hZ (pc := 56) dX7_kindOf_56 FitR.int ?_
        exact ⟨rfl, rfl, by rw [kndK, if_neg (by rw [bI_eq.mp c13]; decide), if_pos (bI_ne c22), wkL, if_pos c42]⟩
    · skip
      refine z_iload_n hZ (pc := 25) dX7_kindOf_25 rfl ?_
      refine cS_i hZ (pc := 26) dX7_kindOf_26 lk_X7_63 mn_X7_kindOfSign ms_X7_kindOfSign (c_X7_kindOfSign) rfl rfl (Nat.le_of_ble_eq_true rfl) (by decide) (by decide) (Nat.zero_le _) (Nat.zero_le _) ?_
      refine zr_i hZ (pc := 29) dX7_kindOf_29 FitR.int ?_
      exact ⟨rfl, rfl, by rw [kndK, if_neg (by rw [bI_eq.mp c13]; decide), if_neg (by rw [bI_f0 c22]; decide)]⟩
  · skip
    refine z_iconst hZ (pc := 16) (v := 1) dX7_kindOf_16 (by decide) ?_
    refine zr_i hZ (pc := 17) dX7_kindOf_17 FitR.int ?_
    exact ⟨rfl, rfl, by rw [kndK, if_pos (bI_ne c13)]⟩
