/-! how a stranger finds a house: the fewest asks -/
def minN (f : Nat → Nat) : Nat → Nat
  | 0 => 99
  | k + 1 => min (minN f k) (f k)
theorem minN_le (f : Nat → Nat) : ∀ k, minN f k ≤ 99
  | 0 => Nat.le_refl _
  | k + 1 => by
    have := minN_le f k
    rw [minN]
    omega
theorem minN_cong {f f' : Nat → Nat} : ∀ {A : Nat}, (∀ k, k < A → f k = f' k) → minN f A = minN f' A
  | 0, _ => rfl
  | A + 1, h => by rw [minN, minN, minN_cong (fun k hk => h k (by omega)), h A (by omega)]
theorem minN_or {P : Nat → Prop} {f : Nat → Nat} (h99 : P 99) : ∀ {A : Nat}, (∀ k, k < A → P (min 99 (f k))) → P (minN f A)
  | 0, _ => h99
  | A + 1, h => by
    have h1 := minN_or (P := P) h99 (A := A) (fun k hk => h k (by omega))
    have h2 := h A (by omega)
    have h3 := minN_le f A
    rw [minN]
    rcases Nat.le_total (minN f A) (f A) with q | q
    · rw [Nat.min_eq_left q]; exact h1
    · rw [Nat.min_eq_right q]
      rw [Nat.min_eq_right (by omega)] at h2
      exact h2
def byN (ans : Nat → Nat) (R : Nat → Nat) (s k : Nat) : Nat := if s &&& ans k = 0 ∨ s &&& ans k = s then 99 else 1 + max (R (s &&& ans k)) (R (s ^^^ (s &&& ans k)))
def fwF (ans : Nat → Nat) (A : Nat) : Nat → Nat → Nat
  | 0, _ => 0
  | f + 1, s => if popc s ≤ 1 then 0 else minN (byN ans (fwF ans A f) s) A
def fw (ans : Nat → Nat) (A s : Nat) : Nat := fwF ans A (s + 1) s
theorem xor_part (s a : Nat) : s ^^^ (s &&& a) = s &&& (s ^^^ (s &&& a)) := by
  apply Nat.eq_of_testBit_eq
  intro k
  simp only [Nat.testBit_and, Nat.testBit_xor]
  cases s.testBit k <;> cases a.testBit k <;> rfl
theorem xor_ne {s y : Nat} (h : y ≠ 0) : s ^^^ y ≠ s := fun q => h (by
  apply Nat.eq_of_testBit_eq
  intro k
  have := congrArg (fun z => Nat.testBit z k) q
  simp only [Nat.testBit_xor] at this
  rw [Nat.zero_testBit]
  revert this
  cases s.testBit k <;> cases y.testBit k <;> simp)
theorem xor_lt {s a : Nat} (h : s &&& a ≠ 0) : s ^^^ (s &&& a) < s := by
  have h1 : s ^^^ (s &&& a) ≤ s := by rw [xor_part]; exact Nat.and_le_left
  have h2 := xor_ne (s := s) h
  omega
theorem xor_0 {s y : Nat} (h : s ^^^ y = 0) : y = s := by
  apply Nat.eq_of_testBit_eq
  intro k
  have := congrArg (fun z => Nat.testBit z k) h
  simp only [Nat.testBit_xor, Nat.zero_testBit] at this
  revert this
  cases s.testBit k <;> cases y.testBit k <;> simp
theorem and_lt {s a : Nat} (h : s &&& a ≠ s) : s &&& a < s := by
  have h1 : s &&& a ≤ s := Nat.and_le_left
  omega
theorem and_sub (s a : Nat) : (s &&& a) &&& s = s &&& a := by
  apply Nat.eq_of_testBit_eq
  intro k
  simp only [Nat.testBit_and]
  cases s.testBit k <;> cases a.testBit k <;> rfl
theorem xor_sub (s a : Nat) : (s ^^^ (s &&& a)) &&& s = s ^^^ (s &&& a) := by
  apply Nat.eq_of_testBit_eq
  intro k
  simp only [Nat.testBit_and, Nat.testBit_xor]
  cases s.testBit k <;> cases a.testBit k <;> rfl
theorem sub_sub {t s h : Nat} (h1 : t &&& s = t) (h2 : s &&& h = s) : t &&& h = t := by rw [← h1, Nat.and_assoc, h2]
theorem byN_cong {ans : Nat → Nat} {R R' : Nat → Nat} {s k : Nat} (h : ∀ t, t < s → t &&& s = t → R t = R' t) : byN ans R s k = byN ans R' s k := by
  unfold byN
  by_cases c : s &&& ans k = 0 ∨ s &&& ans k = s
  · rw [if_pos c, if_pos c]
  · rw [if_neg c, if_neg c, h _ (and_lt (fun q => c (Or.inr q))) (and_sub _ _), h _ (xor_lt (fun q => c (Or.inl q))) (xor_sub _ _)]
theorem fwF_eq (ans : Nat → Nat) (A : Nat) : ∀ f f' s, s < f → s < f' → fwF ans A f s = fwF ans A f' s
  | 0, _, s, h, _ => absurd h (Nat.not_lt_zero _)
  | _ + 1, 0, s, _, h => absurd h (Nat.not_lt_zero _)
  | f + 1, f' + 1, s, h, h' => by
    rw [fwF, fwF]
    split
    · rfl
    · exact minN_cong (fun k _ => byN_cong (fun t ht _ => fwF_eq ans A f f' t (by omega) (by omega)))
theorem fw_eq (ans : Nat → Nat) (A s : Nat) : fw ans A s = if popc s ≤ 1 then 0 else minN (byN ans (fw ans A) s) A := by
  rw [fw, fwF]
  split
  · rfl
  · exact minN_cong (fun k _ => byN_cong (fun t ht _ => fwF_eq ans A _ _ t (by omega) (by omega)))
theorem fw_le (ans : Nat → Nat) (A s : Nat) : fw ans A s ≤ 99 := by
  rw [fw_eq]
  split
  · omega
  · exact minN_le _ _
theorem popc_split (s a : Nat) : popc (s &&& a) + popc (s ^^^ (s &&& a)) = popc s := by
  unfold popc
  rw [← fb_ct_or]
  · refine fb_ct_cong (fun k _ => ?_)
    simp only [Nat.testBit_and, Nat.testBit_xor]
    cases s.testBit k <;> cases a.testBit k <;> rfl
  · intro k _
    simp only [Nat.testBit_and, Nat.testBit_xor]
    cases s.testBit k <;> cases a.testBit k <;> simp
theorem popc_ne {s : Nat} (hs : s < 1024) (h : s ≠ 0) : 1 ≤ popc s := by
  have := popc_pos s hs
  omega
theorem fw_or (ans : Nat → Nat) (A : Nat) : ∀ s, s < 1024 → fw ans A s = 99 ∨ fw ans A s ≤ popc s := by
  intro s
  induction s using Nat.strongRecOn with
  | ind s ih =>
    intro hs
    rw [fw_eq]
    split
    · right; omega
    · refine minN_or (P := fun z => z = 99 ∨ z ≤ popc s) (Or.inl rfl) (fun k _ => ?_)
      unfold byN
      by_cases c : s &&& ans k = 0 ∨ s &&& ans k = s
      · rw [if_pos c]; left; rfl
      · rw [if_neg c]
        have h1 : s &&& ans k < s := and_lt (fun q => c (Or.inr q))
        have h2 : s ^^^ (s &&& ans k) < s := xor_lt (fun q => c (Or.inl q))
        have h3 := ih _ h1 (by omega)
        have h4 := ih _ h2 (by omega)
        have h5 := popc_split s (ans k)
        have h6 := popc_ne (s := s &&& ans k) (by omega) (fun q => c (Or.inl q))
        have h7 : 1 ≤ popc (s ^^^ (s &&& ans k)) := by
          have h8 : s ^^^ (s &&& ans k) ≠ 0 := fun q => c (Or.inr (by
            exact xor_0 q))
          exact popc_ne (by omega) h8
        omega
theorem byN_or {ans : Nat → Nat} {A s k : Nat} (hs : s < 1024) : 99 ≤ byN ans (fw ans A) s k ∨ byN ans (fw ans A) s k ≤ 11 := by
  unfold byN
  by_cases c : s &&& ans k = 0 ∨ s &&& ans k = s
  · rw [if_pos c]; left; omega
  · rw [if_neg c]
    have h1 : s &&& ans k < s := and_lt (fun q => c (Or.inr q))
    have h2 : s ^^^ (s &&& ans k) < s := xor_lt (fun q => c (Or.inl q))
    have h3 := fw_or ans A _ (show s &&& ans k < 1024 by omega)
    have h4 := fw_or ans A _ (show s ^^^ (s &&& ans k) < 1024 by omega)
    have h5 := popc_le (s &&& ans k)
    have h6 := popc_le (s ^^^ (s &&& ans k))
    omega
theorem fw_cong {ans ans' : Nat → Nat} {A h : Nat} (ha : ∀ k, k < A → h &&& ans k = h &&& ans' k) : ∀ s, s &&& h = s → fw ans A s = fw ans' A s := by
  intro s
  induction s using Nat.strongRecOn with
  | ind s ih =>
    intro hs
    have e : ∀ k, k < A → s &&& ans k = s &&& ans' k := fun k hk => by rw [← hs, Nat.and_assoc, Nat.and_assoc, ha k hk]
    rw [fw_eq, fw_eq]
    split
    · rfl
    · refine minN_cong (fun k hk => ?_)
      have e2 : byN ans (fw ans A) s k = byN ans' (fw ans A) s k := by unfold byN; rw [e k hk]
      rw [e2]
      exact byN_cong (fun t ht h2 => ih t ht (sub_sub h2 hs))
theorem byN_ans {ans ans' : Nat → Nat} {A s k : Nat} (ha : ∀ k, k < A → s &&& ans k = s &&& ans' k) (hk : k < A) : byN ans (fw ans A) s k = byN ans' (fw ans' A) s k := by
  have e2 : byN ans (fw ans A) s k = byN ans' (fw ans A) s k := by unfold byN; rw [ha k hk]
  rw [e2]
  exact byN_cong (fun t ht h2 => fw_cong (h := s) ha t h2)
theorem nI_min (a b : Nat) (ha : a < 2 ^ 31) (hb : b < 2 ^ 31) : (if nI b < nI a then nI b else nI a) = nI (min a b) := by
  by_cases h : b < a
  · rw [if_pos (nI_lt h ha), Nat.min_eq_right (by omega)]
  · rw [if_neg (fun q => h ((nI_ltI hb ha).mp q)), Nat.min_eq_left (by omega)]
theorem fa_xor (a b : Nat) : nI a ^^^ nI b = nI (a ^^^ b) := by
  apply Int32.toBitVec_inj.1
  show BitVec.ofNat 32 a ^^^ BitVec.ofNat 32 b = BitVec.ofNat 32 (a ^^^ b)
  apply BitVec.eq_of_getLsbD_eq
  intro i hi
  simp [hi]
theorem i32_rest (x y : Int32) : x &&& ((x &&& y) ^^^ -1) = x ^^^ (x &&& y) := by
  apply Int32.toBitVec_inj.1
  show x.toBitVec &&& ((x.toBitVec &&& y.toBitVec) ^^^ (-1#32)) = x.toBitVec ^^^ (x.toBitVec &&& y.toBitVec)
  have e : ∀ z : BitVec 32, z ^^^ (-1#32) = ~~~z := fun z => by rw [show (-1#32 : BitVec 32) = BitVec.allOnes 32 from by decide, BitVec.xor_allOnes]
  rw [e]
  apply BitVec.eq_of_getLsbD_eq
  intro i hi
  simp [hi]
  cases x.toBitVec[i] <;> cases y.toBitVec[i] <;> rfl
theorem bit_rest (s a : Nat) : nI s &&& (nI (s &&& a) ^^^ -1) = nI (s ^^^ (s &&& a)) := by
  rw [← fa_and, i32_rest, fa_and, fa_xor]
/-- the reference's: none for never -/
def encN (x : Nat) : Int32 := if 99 ≤ x then -1 else nI x
theorem encN_ne {x : Nat} (h : x < 99) : encN x = nI x := by rw [encN, if_neg (by omega)]
theorem encN_no {x : Nat} (h : 99 ≤ x) : encN x = -1 := by rw [encN, if_pos h]
theorem encN_m1 {x : Nat} : encN x = -1 ↔ 99 ≤ x := by
  constructor
  · intro h
    rcases Nat.lt_or_ge x 99 with q | q
    · rw [encN_ne q] at h
      exact absurd (show nI x < 0 by rw [h]; decide) (nI_pos (n := x) (by omega))
    · exact q
  · exact encN_no
theorem c_X1_fewestBy {l : Launch} {D : va_G} {cA : Nat → ClassId} {o a : Nat → Nat} {v : ZV} {g : ZG} {s k : Nat} {ans R : Nat → Nat} (hs : s < 1024) (hk : k < 6) (hA : g 37 k = nI (ans k)) (hF : ∀ t, t < s → t &&& s = t → g 38 t = nI (R t)) (hR : ∀ t, R t ≤ 99) : MG l D cA (WC o a cA) yX1_fewestBy cX1_fewestBy 5 (some .int) 1 [(.ref (o 10)), .int (nI s), .int (nI k)] v g (PF v g (some (.int (nI (byN ans R s k))))) := by
  refine MG.of (by decide) rfl (Nat.le_of_ble_eq_true rfl) (by simp [Value.category]) (fun Z hZ => ?_)
  obtain ⟨y, hy⟩ : ∃ y, y = s &&& ans k := ⟨_, rfl⟩
  obtain ⟨z, hz⟩ : ∃ z, z = s ^^^ (s &&& ans k) := ⟨_, rfl⟩
  have hys : y ≤ s := by rw [hy]; exact Nat.and_le_left
  have hzs : z ≤ s := by rw [hz, xor_part]; exact Nat.and_le_left
  refine z_iload_n hZ (pc := 0) dX1_fewestBy_0 rfl ?_
  refine z_aload_n hZ (pc := 1) dX1_fewestBy_1 rfl ?_
  refine gC_10_0 hZ (pc := 2) fl_X1_9 dX1_fewestBy_2 ?_
  refine z_iload_n hZ (pc := 5) dX1_fewestBy_5 rfl ?_
  refine cS_i hZ (pc := 6) dX1_fewestBy_6 lk_X1_26 mn_X10_at ms_X10_at (c_X10_atn (j := 37) (n := k) (by decide) hk) rfl rfl (Nat.le_of_ble_eq_true rfl) (by decide) (by decide) (Nat.zero_le _) (Nat.zero_le _) ?_
  refine z_top hA ?_
  refine z_iand hZ (pc := 9) dX1_fewestBy_9 ?_
  refine z_top (y := nI y) (by rw [hy]; exact fa_and _ _) ?_
  refine q_istore_n_5_3 hZ (pc := 10) dX1_fewestBy_10 rfl ?_
  refine z_iload_n hZ (pc := 11) dX1_fewestBy_11 rfl ?_
  refine z_iload_n hZ (pc := 12) dX1_fewestBy_12 rfl ?_
  refine z_iconst hZ (pc := 13) (v := (-1)) dX1_fewestBy_13 (by decide) ?_
  refine z_ixor hZ (pc := 14) dX1_fewestBy_14 ?_
  refine z_iand hZ (pc := 15) dX1_fewestBy_15 ?_
  refine z_top (y := nI z) (by rw [hy, hz]; exact bit_rest _ _) ?_
  refine q_istore_5_4 hZ (pc := 16) dX1_fewestBy_16 rfl ?_
  refine z_iload_n hZ (pc := 18) dX1_fewestBy_18 rfl ?_
  refine z_if_eq hZ (pc := 19) (tgt := 27) dX1_fewestBy_19 rfl (fun c19 => ?_) (fun c19 => ?_)
  · skip
    refine z_bipush hZ (pc := 27) (v := 99) dX1_fewestBy_27 (by decide) ?_
    refine zr_i hZ (pc := 29) dX1_fewestBy_29 FitR.int ?_
    have h0 : y = 0 := by
      rcases Nat.eq_zero_or_pos y with q | q
      · exact q
      · exact absurd c19 (nI_ne0 q (by omega))
    exact ⟨rfl, rfl, by rw [byN, if_pos (Or.inl (hy ▸ h0))]; rfl⟩
  · skip
    refine z_iload hZ (pc := 22) dX1_fewestBy_22 rfl ?_
    refine z_if_ne hZ (pc := 24) (tgt := 30) dX1_fewestBy_24 rfl (fun c24 => ?_) (fun c24 => ?_)
    · skip
      have hy0 : y ≠ 0 := fun q => c19 (by rw [q]; rfl)
      have hz0 : z ≠ 0 := fun q => c24 (by rw [q]; rfl)
      have hz2 : z = s ^^^ y := by rw [hz, hy]
      have hny : s &&& ans k ≠ s := fun q => hz0 (by rw [hz, q, Nat.xor_self])
      have hy1 : y < s := by rw [hy]; exact and_lt hny
      have hz1 : z < s := by rw [hz]; exact xor_lt (by rw [← hy]; exact hy0)
      have hRy := hR y
      have hRz := hR z
      refine z_iconst hZ (pc := 30) (v := 1) dX1_fewestBy_30 (by decide) ?_
      refine z_aload_n hZ (pc := 31) dX1_fewestBy_31 rfl ?_
      refine gC_10_1 hZ (pc := 32) fl_X1_15 dX1_fewestBy_32 ?_
      refine z_iload_n hZ (pc := 35) dX1_fewestBy_35 rfl ?_
      refine cS_i hZ (pc := 36) dX1_fewestBy_36 lk_X1_26 mn_X10_at ms_X10_at (c_X10_atn (j := 38) (n := y) (by decide) (by show y < 1024; omega)) rfl rfl (Nat.le_of_ble_eq_true rfl) (by decide) (by decide) (Nat.zero_le _) (Nat.zero_le _) ?_
      refine z_top (hF y hy1 (by rw [hy]; exact and_sub _ _)) ?_
      refine z_aload_n hZ (pc := 39) dX1_fewestBy_39 rfl ?_
      refine gC_10_1 hZ (pc := 40) fl_X1_15 dX1_fewestBy_40 ?_
      refine z_iload hZ (pc := 43) dX1_fewestBy_43 rfl ?_
      refine cS_i hZ (pc := 45) dX1_fewestBy_45 lk_X1_26 mn_X10_at ms_X10_at (c_X10_atn (j := 38) (n := z) (by decide) (by show z < 1024; omega)) rfl rfl (Nat.le_of_ble_eq_true rfl) (by decide) (by decide) (Nat.zero_le _) (Nat.zero_le _) ?_
      refine z_top (hF z hz1 (by rw [hz]; exact xor_sub _ _)) ?_
      refine z_max hZ (pc := 48) dX1_fewestBy_48 (List.mem_of_getElem? (i := 1065) (by decide +kernel)) (List.mem_of_getElem? (i := 1066) (by decide +kernel)) (List.mem_of_getElem? (i := 135) (by decide +kernel)) (List.mem_of_getElem? (i := 1067) (by decide +kernel)) (Nat.le_of_ble_eq_true rfl) (by decide) (Nat.zero_le _) (Nat.zero_le _) ?_
      refine z_top (nI_max (R y) (R z) (by omega) (by omega)) ?_
      refine z_iadd hZ (pc := 51) dX1_fewestBy_51 ?_
      refine zr_i hZ (pc := 52) dX1_fewestBy_52 FitR.int ?_
      exact ⟨rfl, rfl, by rw [byN, if_neg (fun q => q.elim (fun q => hy0 (hy.trans q)) hny), ← hy, ← hz2, ← nI_add]; rfl⟩
    · skip
      refine z_bipush hZ (pc := 27) (v := 99) dX1_fewestBy_27 (by decide) ?_
      refine zr_i hZ (pc := 29) dX1_fewestBy_29 FitR.int ?_
      have h0 : z = 0 := by
        rcases Nat.eq_zero_or_pos z with q | q
        · exact q
        · exact absurd c24 (nI_ne0 q (by omega))
      exact ⟨rfl, rfl, by rw [byN, if_pos (Or.inr (xor_0 (hz ▸ h0)))]; rfl⟩
theorem c_X1_fewestAmong {l : Launch} {D : va_G} {cA : Nat → ClassId} {o a : Nat → Nat} {v : ZV} {g : ZG} {s A : Nat} {ans R : Nat → Nat} (hs : s < 1024) (hA6 : A ≤ 6) (hA : ∀ k, k < A → g 37 k = nI (ans k)) (hF : ∀ t, t < s → t &&& s = t → g 38 t = nI (R t)) (hR : ∀ t, R t ≤ 99) : MG l D cA (WC o a cA) yX1_fewestAmong cX1_fewestAmong 5 (some .int) 2 [(.ref (o 10)), .int (nI s), .int (nI A)] v g (PF v g (some (.int (nI (if popc s ≤ 1 then 0 else minN (byN ans R s) A))))) := by
  refine MG.of (by decide) rfl (Nat.le_of_ble_eq_true rfl) (by simp [Value.category]) (fun Z hZ => ?_)
  have hp := popc_le s
  have hbR : ∀ k, byN ans R s k ≤ 100 := fun k => by
    have h1 := hR (s &&& ans k)
    have h2 := hR (s ^^^ (s &&& ans k))
    unfold byN
    split <;> omega
  have hmR : ∀ k, minN (byN ans R s) k ≤ 99 := minN_le _
  refine z_iload_n hZ (pc := 0) dX1_fewestAmong_0 rfl ?_
  refine cS_i hZ (pc := 1) dX1_fewestAmong_1 lk_X1_30 mn_J6_bitCount_0f7a4 ms_J6_bitCount_0f7a4 (c_J6_bitCount_0f7a4 hs) rfl rfl (Nat.le_of_ble_eq_true rfl) (by decide) (by decide) (Nat.zero_le _) (Nat.zero_le _) ?_
  refine z_iconst hZ (pc := 4) (v := 1) dX1_fewestAmong_4 (by decide) ?_
  refine z_icmp_gt hZ (pc := 5) (tgt := 10) dX1_fewestAmong_5 rfl (fun c5 => ?_) (fun c5 => ?_)
  · skip
    refine z_bipush hZ (pc := 10) (v := 99) dX1_fewestAmong_10 (by decide) ?_
    refine q_istore_n_5_3 hZ (pc := 12) dX1_fewestAmong_12 rfl ?_
    refine z_iconst hZ (pc := 13) (v := 0) dX1_fewestAmong_13 (by decide) ?_
    refine q_istore_5_4 hZ (pc := 14) dX1_fewestAmong_14 rfl ?_
    have lp16 : ∀ f i : Nat, i ≤ A → A - i < f → Z 0 0 (WC o a cA v g) [some (.ref (o 10)), some (.int (nI s)), some (.int (nI A)), some (.int (nI (minN (byN ans R s) i))), some (.int (nI i))] [] 16 := by
      intro f
      induction f with
      | zero => intro i _ hf; exact absurd hf (Nat.not_lt_zero _)
      | succ f ih16 =>
        intro i hi16 hf16
        refine z_iload hZ (pc := 16) dX1_fewestAmong_16 rfl ?_
        refine z_iload_n hZ (pc := 18) dX1_fewestAmong_18 rfl ?_
        refine z_icmp_ge hZ (pc := 19) (tgt := 40) dX1_fewestAmong_19 rfl (fun c19 => ?_) (fun c19 => ?_)
        · skip
          have e16 : A = i := (lp_ge rfl (by omega) hi16 c19).symm
          subst e16
          refine z_iload_n hZ (pc := 40) dX1_fewestAmong_40 rfl ?_
          refine zr_i hZ (pc := 41) dX1_fewestAmong_41 FitR.int ?_
          have h0 : ¬ popc s ≤ 1 := by
            have := (nI_ltI (a := 1) (b := popc s) (by omega) (by omega)).mp c5
            omega
          exact ⟨rfl, rfl, by rw [if_neg h0]⟩
        · skip
          have hl16 : i < A := lp_lt rfl (by omega) hi16 c19
          refine z_iload_n hZ (pc := 22) dX1_fewestAmong_22 rfl ?_
          refine z_aload_n hZ (pc := 23) dX1_fewestAmong_23 rfl ?_
          refine z_iload_n hZ (pc := 24) dX1_fewestAmong_24 rfl ?_
          refine z_iload hZ (pc := 25) dX1_fewestAmong_25 rfl ?_
          refine cV_i hZ (pc := 27) dX1_fewestAmong_27 lk_X1_36 mn_X1_fewestBy mv_X1_fewestBy (c_X1_fewestBy (ans := ans) (R := R) hs (by omega) (hA i hl16) hF hR) rc_10 rfl rfl (Nat.le_of_ble_eq_true rfl) (by decide) (by decide) (Nat.zero_le _) (Nat.zero_le _) ?_
          refine z_min hZ (pc := 30) dX1_fewestAmong_30 (List.mem_of_getElem? (i := 1068) (by decide +kernel)) (List.mem_of_getElem? (i := 500) (by decide +kernel)) (List.mem_of_getElem? (i := 135) (by decide +kernel)) (List.mem_of_getElem? (i := 501) (by decide +kernel)) (Nat.le_of_ble_eq_true rfl) (by decide) (Nat.zero_le _) (Nat.zero_le _) ?_
          have hb1 := hbR i
          have hb2 := hmR i
          refine z_top (nI_min (minN (byN ans R s) i) (byN ans R s i) (by omega) (by omega)) ?_
          refine q_istore_n_5_3 hZ (pc := 33) dX1_fewestAmong_33 rfl ?_
          refine q_iinc_5_4 hZ (pc := 34) dX1_fewestAmong_34 rfl ?_
          refine z_goto hZ (pc := 37) (tgt := 16) dX1_fewestAmong_37 rfl ?_
          exact z_back hZ (ih16 (i + 1) hl16 (by omega)) (rfl) ⟨rfl, rfl, rfl, rfl, zi (nI_inc i), trivial⟩
    exact z_back hZ (lp16 (A - 0 + 1) 0 (Nat.zero_le _) (by omega)) (rfl) ⟨rfl, rfl, rfl, rfl, rfl, trivial⟩
  · skip
    refine z_iconst hZ (pc := 8) (v := 0) dX1_fewestAmong_8 (by decide) ?_
    refine zr_i hZ (pc := 9) dX1_fewestAmong_9 FitR.int ?_
    have h0 : popc s ≤ 1 := by
      rcases Nat.lt_or_ge 1 (popc s) with q | q
      · exact absurd (nI_lt q (by omega)) c5
      · exact q
    exact ⟨rfl, rfl, by rw [if_pos h0]; rfl⟩
theorem upd_at {f : Nat → Int32} {k : Nat} {x : Int32} : upd f k x k = x := by simp [upd]
theorem upd_off {f : Nat → Int32} {k j : Nat} {x : Int32} (h : j ≠ k) : upd f k x j = f j := by simp [upd, h]
/-- the least ask by which it comes to the fewest -/
def faN (ans : Nat → Nat) (A h : Nat) : Nat := fa_first (fun k => decide (byN ans (fw ans A) h k = fw ans A h)) A
def firstN (ans : Nat → Nat) (A h : Nat) : Int32 := if fw ans A h = 0 then -1 else if faN ans A h < A then nI (faN ans A h) else -1
theorem first_ge {p : Nat → Bool} {n i : Nat} (h : ∀ k, k < i → p k = false) (hi : i ≤ n) : i ≤ fa_first p n := by
  rcases Nat.lt_or_ge (fa_first p n) i with q | q
  · have h1 := fa_first_yes p n (by omega)
    rw [h _ q] at h1
    cases h1
  · exact q
theorem first_at {p : Nat → Bool} {n i : Nat} (h : ∀ k, k < i → p k = false) (hi : i < n) (hp : p i = true) : fa_first p n = i := by
  have h1 := first_ge h (show i ≤ n by omega)
  rcases Nat.lt_or_ge i (fa_first p n) with q | q
  · rw [fa_first_no p n i q] at hp
    cases hp
  · omega
theorem c_X1_fewestOf {l : Launch} {D : va_G} {cA : Nat → ClassId} {o a : Nat → Nat} {v : ZV} {g : ZG} {h A : Nat} {ans : Nat → Nat} (hh : h < 1024) (hA6 : A ≤ 6) (hA : ∀ k, k < A → g 37 k = nI (ans k)) : MG l D cA (WC o a cA) yX1_fewestOf cX1_fewestOf 4 (some .int) 3 [(.ref (o 10)), .int (nI h), .int (nI A)] v g (fun v2 g2 r => v2 = v ∧ (∀ j, j ≠ 38 → g2 j = g j) ∧ (∀ t, t ≤ h → t &&& h = t → g2 38 t = nI (fw ans A t)) ∧ r = some (.int (nI (fw ans A h)))) := by
  refine MG.of (by decide) rfl (Nat.le_of_ble_eq_true rfl) (by simp [Value.category]) (fun Z hZ => ?_)
  refine z_iconst hZ (pc := 0) (v := 0) dX1_fewestOf_0 (by decide) ?_
  refine q_istore_n_4_3 hZ (pc := 1) dX1_fewestOf_1 rfl ?_
  have lp2 : ∀ (f i : Nat) (T : Nat → Int32), i ≤ h + 1 → h + 1 - i < f → (∀ t, t < i → t &&& h = t → T t = nI (fw ans A t)) → Z 0 0 (WC o a cA v (va_up g 38 T)) [some (.ref (o 10)), some (.int (nI h)), some (.int (nI A)), some (.int (nI i))] [] 2 := by
    intro f
    induction f with
    | zero => intro i _ _ hf; exact absurd hf (Nat.not_lt_zero _)
    | succ f ih =>
      intro i T hi hf hT
      refine z_iload_n hZ (pc := 2) dX1_fewestOf_2 rfl ?_
      refine z_iload_n hZ (pc := 3) dX1_fewestOf_3 rfl ?_
      refine z_icmp_gt hZ (pc := 4) (tgt := 34) dX1_fewestOf_4 rfl (fun c4 => ?_) (fun c4 => ?_)
      · skip
        have ei : i = h + 1 := by
          have := (nI_ltI (a := h) (b := i) (by omega) (by omega)).mp c4
          omega
        subst ei
        refine z_aload_n hZ (pc := 34) dX1_fewestOf_34 rfl ?_
        refine gC_10_1 hZ (pc := 35) fl_X1_15 dX1_fewestOf_35 ?_
        refine z_iload_n hZ (pc := 38) dX1_fewestOf_38 rfl ?_
        refine cS_i hZ (pc := 39) dX1_fewestOf_39 lk_X1_26 mn_X10_at ms_X10_at (c_X10_atn (j := 38) (n := h) (by decide) hh) rfl rfl (Nat.le_of_ble_eq_true rfl) (by decide) (by decide) (Nat.zero_le _) (Nat.zero_le _) ?_
        refine zr_i hZ (pc := 42) dX1_fewestOf_42 FitR.int ?_
        exact ⟨rfl, fun j hj => up_off hj, fun t ht h2 => by rw [up_at]; exact hT t (by omega) h2, by rw [up_at, hT h (by omega) (Nat.and_self h)]⟩
      · skip
        have hl : i ≤ h := by
          rcases Nat.lt_or_ge h i with q | q
          · exact absurd (nI_lt q (by omega)) c4
          · exact q
        refine z_iload_n hZ (pc := 7) dX1_fewestOf_7 rfl ?_
        refine z_iload_n hZ (pc := 8) dX1_fewestOf_8 rfl ?_
        refine z_iand hZ (pc := 9) dX1_fewestOf_9 ?_
        refine z_top (y := nI (i &&& h)) (fa_and _ _) ?_
        have hle : i &&& h ≤ i := Nat.and_le_left
        refine z_iload_n hZ (pc := 10) dX1_fewestOf_10 rfl ?_
        refine z_icmp_ne hZ (pc := 11) (tgt := 28) dX1_fewestOf_11 rfl (fun c11 => ?_) (fun c11 => ?_)
        · skip
          refine q_iinc_4_3 hZ (pc := 28) dX1_fewestOf_28 rfl ?_
          refine z_goto hZ (pc := 31) (tgt := 2) dX1_fewestOf_31 rfl ?_
          exact z_back hZ (ih (i + 1) T (by omega) (by omega) (lt_s hT (fun q => absurd (congrArg nI q) c11))) rfl ⟨rfl, rfl, rfl, zi (nI_inc i), trivial⟩
        · skip
          have hsub : i &&& h = i := (nI_eq (by omega) (by omega)).mp c11
          refine z_aload_n hZ (pc := 14) dX1_fewestOf_14 rfl ?_
          refine gC_10_1 hZ (pc := 15) fl_X1_15 dX1_fewestOf_15 ?_
          refine z_iload_n hZ (pc := 18) dX1_fewestOf_18 rfl ?_
          refine z_aload_n hZ (pc := 19) dX1_fewestOf_19 rfl ?_
          refine z_iload_n hZ (pc := 20) dX1_fewestOf_20 rfl ?_
          refine z_iload_n hZ (pc := 21) dX1_fewestOf_21 rfl ?_
          refine cV_i hZ (pc := 22) dX1_fewestOf_22 lk_X1_18 mn_X1_fewestAmong mv_X1_fewestAmong (c_X1_fewestAmong (ans := ans) (R := fw ans A) (by omega) hA6 hA (fun t ht h2 => hT t ht (sub_sub h2 hsub)) (fw_le ans A)) rc_10 rfl rfl (Nat.le_of_ble_eq_true rfl) (by decide) (by decide) (Nat.zero_le _) (Nat.zero_le _) ?_
          refine z_top (y := nI (fw ans A i)) (by rw [fw_eq]) ?_
          refine cS_v hZ (pc := 25) dX1_fewestOf_25 lk_X1_22 mn_X10_put ms_X10_put (c_X10_putn (j := 38) (n := i) (by decide) (by show i < 1024; omega)) rfl rfl (Nat.le_of_ble_eq_true rfl) (by decide) (by decide) (Nat.zero_le _) (Nat.zero_le _) ?_
          refine q_iinc_4_3 hZ (pc := 28) dX1_fewestOf_28 rfl ?_
          refine z_goto hZ (pc := 31) (tgt := 2) dX1_fewestOf_31 rfl ?_
          exact z_back hZ (ih (i + 1) (upd T i (nI (fw ans A i))) (by omega) (by omega) (lt_s (fun t ht h2 => by rw [upd_off (by omega)]; exact hT t ht h2) (fun _ => upd_at))) (WC_eq rfl (by rw [up_twice, up_at])) ⟨rfl, rfl, rfl, zi (nI_inc i), trivial⟩
  exact z_back hZ (lp2 (h + 2) 0 (g 38) (Nat.zero_le _) (by omega) (fun t ht => absurd ht (Nat.not_lt_zero _))) (WC_eq rfl up_self.symm) ⟨rfl, rfl, rfl, rfl, trivial⟩
theorem c_X1_firstOf {l : Launch} {D : va_G} {cA : Nat → ClassId} {o a : Nat → Nat} {v : ZV} {g : ZG} {h A : Nat} {ans : Nat → Nat} (hh : h < 1024) (hA6 : A ≤ 6) (hA : ∀ k, k < A → g 37 k = nI (ans k)) (hT : ∀ t, t ≤ h → t &&& h = t → g 38 t = nI (fw ans A t)) : MG l D cA (WC o a cA) yX1_firstOf cX1_firstOf 4 (some .int) 2 [(.ref (o 10)), .int (nI h), .int (nI A)] v g (PF v g (some (.int (firstN ans A h)))) := by
  refine MG.of (by decide) rfl (Nat.le_of_ble_eq_true rfl) (by simp [Value.category]) (fun Z hZ => ?_)
  have hfh := fw_le ans A h
  have hTh := hT h (Nat.le_refl _) (Nat.and_self h)
  have hbR : ∀ k, byN ans (fw ans A) h k ≤ 100 := fun k => by
    have h1 := fw_le ans A (h &&& ans k)
    have h2 := fw_le ans A (h ^^^ (h &&& ans k))
    unfold byN
    split <;> omega
  refine z_aload_n hZ (pc := 0) dX1_firstOf_0 rfl ?_
  refine gC_10_1 hZ (pc := 1) fl_X1_15 dX1_firstOf_1 ?_
  refine z_iload_n hZ (pc := 4) dX1_firstOf_4 rfl ?_
  refine cS_i hZ (pc := 5) dX1_firstOf_5 lk_X1_26 mn_X10_at ms_X10_at (c_X10_atn (j := 38) (n := h) (by decide) hh) rfl rfl (Nat.le_of_ble_eq_true rfl) (by decide) (by decide) (Nat.zero_le _) (Nat.zero_le _) ?_
  refine z_top hTh ?_
  refine z_if_ne hZ (pc := 8) (tgt := 13) dX1_firstOf_8 rfl (fun c8 => ?_) (fun c8 => ?_)
  · skip
    have h0 : fw ans A h ≠ 0 := fun q => c8 (by rw [q]; rfl)
    refine z_iconst hZ (pc := 13) (v := 0) dX1_firstOf_13 (by decide) ?_
    refine q_istore_n_4_3 hZ (pc := 14) dX1_firstOf_14 rfl ?_
    have lp15 : ∀ (f i : Nat), i ≤ A → A - i < f → (∀ k, k < i → decide (byN ans (fw ans A) h k = fw ans A h) = false) → Z 0 0 (WC o a cA v g) [some (.ref (o 10)), some (.int (nI h)), some (.int (nI A)), some (.int (nI i))] [] 15 := by
      intro f
      induction f with
      | zero => intro i _ hf; exact absurd hf (Nat.not_lt_zero _)
      | succ f ih =>
        intro i hi hf hno
        refine z_iload_n hZ (pc := 15) dX1_firstOf_15 rfl ?_
        refine z_iload_n hZ (pc := 16) dX1_firstOf_16 rfl ?_
        refine z_icmp_ge hZ (pc := 17) (tgt := 45) dX1_firstOf_17 rfl (fun c17 => ?_) (fun c17 => ?_)
        · skip
          have ei : i = A := lp_ge rfl (by omega) hi c17
          subst ei
          refine z_iconst hZ (pc := 45) (v := (-1)) dX1_firstOf_45 (by decide) ?_
          refine zr_i hZ (pc := 46) dX1_firstOf_46 FitR.int ?_
          have ef : ¬ faN ans i h < i := by
            have := first_ge (n := i) hno (Nat.le_refl _)
            unfold faN
            omega
          exact ⟨rfl, rfl, by rw [firstN, if_neg h0, if_neg ef]⟩
        · skip
          have hl : i < A := lp_lt rfl (by omega) hi c17
          refine z_aload_n hZ (pc := 20) dX1_firstOf_20 rfl ?_
          refine z_iload_n hZ (pc := 21) dX1_firstOf_21 rfl ?_
          refine z_iload_n hZ (pc := 22) dX1_firstOf_22 rfl ?_
          refine cV_i hZ (pc := 23) dX1_firstOf_23 lk_X1_36 mn_X1_fewestBy mv_X1_fewestBy (c_X1_fewestBy (ans := ans) (R := fw ans A) hh (by omega) (hA i hl) (fun t ht h2 => hT t (by omega) h2) (fw_le ans A)) rc_10 rfl rfl (Nat.le_of_ble_eq_true rfl) (by decide) (by decide) (Nat.zero_le _) (Nat.zero_le _) ?_
          refine z_aload_n hZ (pc := 26) dX1_firstOf_26 rfl ?_
          refine gC_10_1 hZ (pc := 27) fl_X1_15 dX1_firstOf_27 ?_
          refine z_iload_n hZ (pc := 30) dX1_firstOf_30 rfl ?_
          refine cS_i hZ (pc := 31) dX1_firstOf_31 lk_X1_26 mn_X10_at ms_X10_at (c_X10_atn (j := 38) (n := h) (by decide) hh) rfl rfl (Nat.le_of_ble_eq_true rfl) (by decide) (by decide) (Nat.zero_le _) (Nat.zero_le _) ?_
          refine z_top hTh ?_
          have hb1 := hbR i
          refine z_icmp_ne hZ (pc := 34) (tgt := 39) dX1_firstOf_34 rfl (fun c34 => ?_) (fun c34 => ?_)
          · skip
            refine q_iinc_4_3 hZ (pc := 39) dX1_firstOf_39 rfl ?_
            refine z_goto hZ (pc := 42) (tgt := 15) dX1_firstOf_42 rfl ?_
            exact z_back hZ (ih (i + 1) (by omega) (by omega) (lt_s hno (decide_eq_false (fun q => c34 (by rw [q]))))) rfl ⟨rfl, rfl, rfl, zi (nI_inc i), trivial⟩
          · skip
            refine z_iload_n hZ (pc := 37) dX1_firstOf_37 rfl ?_
            refine zr_i hZ (pc := 38) dX1_firstOf_38 FitR.int ?_
            have e := (nI_eq (by omega) (by omega)).mp c34
            have ef : faN ans A h = i := first_at hno hl (decide_eq_true e)
            exact ⟨rfl, rfl, by rw [firstN, if_neg h0, ef, if_pos hl]⟩
    exact z_back hZ (lp15 (A + 1) 0 (Nat.zero_le _) (by omega) (fun t ht => absurd ht (Nat.not_lt_zero _))) rfl ⟨rfl, rfl, rfl, rfl, trivial⟩
  · skip
    refine z_iconst hZ (pc := 11) (v := (-1)) dX1_firstOf_11 (by decide) ?_
    refine zr_i hZ (pc := 12) dX1_firstOf_12 FitR.int ?_
    have h0 : fw ans A h = 0 := by
      rcases Nat.eq_zero_or_pos (fw ans A h) with q | q
      · exact q
      · exact absurd c8 (nI_ne0 q (by omega))
    exact ⟨rfl, rfl, by rw [firstN, if_pos h0]⟩
