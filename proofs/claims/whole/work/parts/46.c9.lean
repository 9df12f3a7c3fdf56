/-! the round: the least walks through houses, the class's table over places -/
theorem i32_rest2 (x y : Int32) : x &&& (y ^^^ -1) = x ^^^ (x &&& y) := by
  apply Int32.toBitVec_inj.1
  show x.toBitVec &&& (y.toBitVec ^^^ (-1#32)) = x.toBitVec ^^^ (x.toBitVec &&& y.toBitVec)
  have e : ∀ z : BitVec 32, z ^^^ (-1#32) = ~~~z := fun z => by rw [show (-1#32 : BitVec 32) = BitVec.allOnes 32 from by decide, BitVec.xor_allOnes]
  rw [e]
  apply BitVec.eq_of_getLsbD_eq
  intro i hi
  simp [hi]
  cases x.toBitVec[i] <;> cases y.toBitVec[i] <;> rfl
/-- a bit taken out -/
def rmB (s p : Nat) : Nat := s ^^^ (s &&& 2 ^ p)
theorem rm_nI {s p : Nat} (hp : p < 31) : nI s &&& (((1 : Int32) <<< (nI p &&& 31)) ^^^ -1) = nI (rmB s p) := by
  rw [sh_one p hp, i32_rest2, fa_and, fa_xor, rmB]
theorem rm_test (s p k : Nat) : (rmB s p).testBit k = (s.testBit k && decide (k ≠ p)) := by
  unfold rmB
  simp only [Nat.testBit_xor, Nat.testBit_and, Nat.testBit_two_pow]
  by_cases h : k = p
  · subst h; cases s.testBit k <;> simp
  · have h2 : ¬ p = k := fun q => h q.symm
    simp [h, h2]
theorem rm_le (s p : Nat) : rmB s p ≤ s := by
  have h := xor_part s (2 ^ p)
  unfold rmB
  rw [h]
  exact Nat.and_le_left
theorem rm_lt {s p : Nat} (h : s.testBit p = true) : rmB s p < s := by
  have h1 := rm_le s p
  have h2 : rmB s p ≠ s := fun q => by
    have := rm_test s p p
    rw [q, h] at this
    simp at this
  omega
def mB (f : Nat → Nat) (s : Nat) : Nat → Nat
  | 0 => 1000000
  | p + 1 => if s.testBit p then min (mB f s p) (f p) else mB f s p
theorem mB_le (f : Nat → Nat) (s : Nat) : ∀ n, mB f s n ≤ 1000000
  | 0 => Nat.le_refl _
  | n + 1 => by
    have := mB_le f s n
    rw [mB]
    split <;> omega
theorem mB_cong {f f' : Nat → Nat} {s : Nat} : ∀ {n : Nat}, (∀ p, p < n → s.testBit p = true → f p = f' p) → mB f s n = mB f' s n
  | 0, _ => rfl
  | n + 1, h => by
    rw [mB, mB, mB_cong (fun p hp => h p (by omega))]
    split
    · rename_i hb
      rw [h n (by omega) hb]
    · rfl
def LtF (wk : Nat → Nat → Nat) (od : Nat → Nat) (K : Nat) : Nat → Nat → Nat → Nat
  | 0, _, _ => 0
  | f + 1, s, x => if s = 0 then wk (od x) 0 else mB (fun p => wk (od x) (od (p + 1)) + LtF wk od K f (rmB s p) (p + 1)) s K
def Lt (wk : Nat → Nat → Nat) (od : Nat → Nat) (K s x : Nat) : Nat := LtF wk od K (s + 1) s x
theorem LtF_eq (wk : Nat → Nat → Nat) (od : Nat → Nat) (K : Nat) : ∀ f f' s x, s < f → s < f' → LtF wk od K f s x = LtF wk od K f' s x
  | 0, _, s, _, h, _ => absurd h (Nat.not_lt_zero _)
  | _ + 1, 0, s, _, _, h => absurd h (Nat.not_lt_zero _)
  | f + 1, f' + 1, s, x, h, h' => by
    rw [LtF, LtF]
    split
    · rfl
    · exact mB_cong (fun p _ hb => by have := rm_lt hb; rw [LtF_eq wk od K f f' (rmB s p) (p + 1) (by omega) (by omega)])
def byP (wk : Nat → Nat → Nat) (od : Nat → Nat) (R : Nat → Nat → Nat) (s x p : Nat) : Nat := wk (od x) (od (p + 1)) + R (rmB s p) (p + 1)
theorem Lt_eq (wk : Nat → Nat → Nat) (od : Nat → Nat) (K s x : Nat) : Lt wk od K s x = if s = 0 then wk (od x) 0 else mB (byP wk od (Lt wk od K) s x) s K := by
  rw [Lt, LtF]
  split
  · rfl
  · exact mB_cong (fun p _ hb => by have := rm_lt hb; rw [byP, Lt, LtF_eq wk od K s (rmB s p + 1) (rmB s p) (p + 1) (by omega) (by omega)])
def TourC (v : ZV) (g : ZG) (K : Nat) (od : Nat → Nat) (wk : Nat → Nat → Nat) : Prop := v 29 = nI K ∧ K ≤ 9 ∧ (∀ k, k ≤ K → g 35 k = nI (od k) ∧ od k < 10) ∧ (∀ x y, x < 10 → y < 10 → (if x = y then 0 else g 20 (10 * x + y)) = nI (wk x y)) ∧ (∀ x y, wk x y ≤ 99)
theorem TourC_mv {v v' : ZV} {g g' : ZG} {K : Nat} {od : Nat → Nat} {wk : Nat → Nat → Nat} (h : TourC v g K od wk) (h1 : v' 29 = v 29) (h2 : g' 35 = g 35) (h3 : g' 20 = g 20) : TourC v' g' K od wk := by
  obtain ⟨a1, a2, a3, a4, a5⟩ := h
  exact ⟨h1.trans a1, a2, by rw [h2]; exact a3, by rw [h3]; exact a4, a5⟩
theorem Lt_le {v : ZV} {g : ZG} {K : Nat} {od : Nat → Nat} {wk : Nat → Nat → Nat} (h : TourC v g K od wk) (s x : Nat) : Lt wk od K s x ≤ 1000000 := by
  rw [Lt_eq]
  have h1 := mB_le (byP wk od (Lt wk od K) s x) s K
  have h2 := h.2.2.2.2 (od x) 0
  split <;> omega
theorem p2_512 {K : Nat} (h : K ≤ 9) : 2 ^ K ≤ 512 := Nat.pow_le_pow_right (n := 2) (by omega) h
theorem bitp_lt {s p K : Nat} (hs : s < 2 ^ K) (hb : s.testBit p = true) : p < K := by
  rcases Nat.lt_or_ge p K with h | h
  · exact h
  · have : s < 2 ^ p := Nat.lt_of_lt_of_le hs (Nat.pow_le_pow_right (by omega) h)
    rw [Nat.testBit_lt_two_pow this] at hb
    cases hb
theorem c_X8_leastBy {l : Launch} {D : va_G} {cA : Nat → ClassId} {o a : Nat → Nat} {v : ZV} {g : ZG} {K s x p : Nat} {od : Nat → Nat} {wk R : Nat → Nat → Nat} (hC : TourC v g K od wk) (hs : s < 2 ^ K) (hx : x ≤ K) (hp : p < K) (hb : s.testBit p = true) (hT : ∀ t y, t < s → y ≤ K → g 36 (10 * t + y) = nI (R t y)) (hR : ∀ t y, R t y ≤ 1000000) : MG l D cA (WC o a cA) yX8_leastBy cX8_leastBy 6 (some .int) 2 [(.ref (o 9)), (.ref (o 5)), .int (nI s), .int (nI x), .int (nI (p + 1))] v g (PF v g (some (.int (nI (byP wk od R s x p))))) := by
  refine MG.of (by decide) rfl (Nat.le_of_ble_eq_true rfl) (by simp [Value.category]) (fun Z hZ => ?_)
  obtain ⟨hK, h9, hod, hw, hwl⟩ := id hC
  have h512 := p2_512 h9
  have hrm := rm_lt hb
  obtain ⟨hodx, hodx10⟩ := hod x hx
  obtain ⟨hodp, hodp10⟩ := hod (p + 1) (by omega)
  have hwxp := hwl (od x) (od (p + 1))
  have hRr := hR (rmB s p) (p + 1)
  refine z_iload_n hZ (pc := 0) dX8_leastBy_0 rfl ?_
  refine z_iconst hZ (pc := 1) (v := 1) dX8_leastBy_1 (by decide) ?_
  refine z_iload hZ (pc := 2) dX8_leastBy_2 rfl ?_
  refine z_iconst hZ (pc := 4) (v := 1) dX8_leastBy_4 (by decide) ?_
  refine z_isub hZ (pc := 5) dX8_leastBy_5 ?_
  refine z_top (y := nI p) (nI_pred p) ?_
  refine z_ishl hZ (pc := 6) dX8_leastBy_6 ?_
  refine z_iconst hZ (pc := 7) (v := (-1)) dX8_leastBy_7 (by decide) ?_
  refine z_ixor hZ (pc := 8) dX8_leastBy_8 ?_
  refine z_iand hZ (pc := 9) dX8_leastBy_9 ?_
  refine z_top (y := nI (rmB s p)) (rm_nI (by omega)) ?_
  refine q_istore_6_5 hZ (pc := 10) dX8_leastBy_10 rfl ?_
  refine z_aload_n hZ (pc := 12) dX8_leastBy_12 rfl ?_
  refine z_aload_n hZ (pc := 13) dX8_leastBy_13 rfl ?_
  refine gC_9_2 hZ (pc := 14) fl_X8_19 dX8_leastBy_14 ?_
  refine z_iload_n hZ (pc := 17) dX8_leastBy_17 rfl ?_
  refine cS_i hZ (pc := 18) dX8_leastBy_18 lk_X8_37 mn_X10_at ms_X10_at (c_X10_atn (j := 35) (n := x) (by decide) (by show x < 10; omega)) rfl rfl (Nat.le_of_ble_eq_true rfl) (by decide) (by decide) (Nat.zero_le _) (Nat.zero_le _) ?_
  refine z_top hodx ?_
  refine z_aload_n hZ (pc := 21) dX8_leastBy_21 rfl ?_
  refine gC_9_2 hZ (pc := 22) fl_X8_19 dX8_leastBy_22 ?_
  refine z_iload hZ (pc := 25) dX8_leastBy_25 rfl ?_
  refine cS_i hZ (pc := 27) dX8_leastBy_27 lk_X8_37 mn_X10_at ms_X10_at (c_X10_atn (j := 35) (n := p + 1) (by decide) (by show p + 1 < 10; omega)) rfl rfl (Nat.le_of_ble_eq_true rfl) (by decide) (by decide) (Nat.zero_le _) (Nat.zero_le _) ?_
  refine z_top hodp ?_
  refine cV_i hZ (pc := 30) dX8_leastBy_30 lk_X8_41 mn_X0_walkBetween mv_X0_walkBetween (c_X0_walkBetween (h := od x) (k := od (p + 1)) hodx10 hodp10) rc_5 rfl rfl (Nat.le_of_ble_eq_true rfl) (by decide) (by decide) (Nat.zero_le _) (Nat.zero_le _) ?_
  refine z_top (hw _ _ hodx10 hodp10) ?_
  refine z_aload_n hZ (pc := 33) dX8_leastBy_33 rfl ?_
  refine gC_9_3 hZ (pc := 34) fl_X8_22 dX8_leastBy_34 ?_
  refine z_iload hZ (pc := 37) dX8_leastBy_37 rfl ?_
  refine z_bipush hZ (pc := 39) (v := 10) dX8_leastBy_39 (by decide) ?_
  refine z_imul hZ (pc := 41) dX8_leastBy_41 ?_
  refine z_iload hZ (pc := 42) dX8_leastBy_42 rfl ?_
  refine z_iadd hZ (pc := 44) dX8_leastBy_44 ?_
  refine z_top (y := nI (10 * rmB s p + (p + 1))) (by rw [show (10 : Int32) = nI 10 from rfl, pk_mul, nI_add, Nat.mul_comm]) ?_
  refine cS_i hZ (pc := 45) dX8_leastBy_45 lk_X8_37 mn_X10_at ms_X10_at (c_X10_atn (j := 36) (n := 10 * rmB s p + (p + 1)) (by decide) (by show 10 * rmB s p + (p + 1) < 5120; omega)) rfl rfl (Nat.le_of_ble_eq_true rfl) (by decide) (by decide) (Nat.zero_le _) (Nat.zero_le _) ?_
  refine z_top (hT (rmB s p) (p + 1) hrm (by omega)) ?_
  refine z_iadd hZ (pc := 48) dX8_leastBy_48 ?_
  refine zr_i hZ (pc := 49) dX8_leastBy_49 FitR.int ?_
  exact ⟨rfl, rfl, by rw [byP, nI_add]⟩
theorem c_X8_leastFrom {l : Launch} {D : va_G} {cA : Nat → ClassId} {o a : Nat → Nat} {v : ZV} {g : ZG} {K s x : Nat} {od : Nat → Nat} {wk R : Nat → Nat → Nat} (hC : TourC v g K od wk) (hs : s < 2 ^ K) (hx : x ≤ K) (hT : ∀ t y, t < s → y ≤ K → g 36 (10 * t + y) = nI (R t y)) (hR : ∀ t y, R t y ≤ 1000000) : MG l D cA (WC o a cA) yX8_leastFrom cX8_leastFrom 6 (some .int) 3 [(.ref (o 9)), (.ref (o 5)), .int (nI s), .int (nI x)] v g (PF v g (some (.int (nI (if s = 0 then wk (od x) 0 else mB (byP wk od R s x) s K))))) := by
  refine MG.of (by decide) rfl (Nat.le_of_ble_eq_true rfl) (by simp [Value.category]) (fun Z hZ => ?_)
  obtain ⟨hK, h9, hod, hw, hwl⟩ := id hC
  have h512 := p2_512 h9
  obtain ⟨hodx, hodx10⟩ := hod x hx
  have hbl : ∀ p, byP wk od R s x p ≤ 1000099 := fun p => by
    have h1 := hwl (od x) (od (p + 1))
    have h2 := hR (rmB s p) (p + 1)
    unfold byP
    omega
  refine z_iload_n hZ (pc := 0) dX8_leastFrom_0 rfl ?_
  refine z_if_ne hZ (pc := 1) (tgt := 18) dX8_leastFrom_1 rfl (fun c1 => ?_) (fun c1 => ?_)
  · skip
    refine z_ldc hZ (pc := 18) (v := 1000000) dX8_leastFrom_18 (List.mem_of_getElem? (i := 1001) (by decide +kernel)) ?_
    refine q_istore_6_4 hZ (pc := 20) dX8_leastFrom_20 rfl ?_
    refine z_iconst hZ (pc := 22) (v := 1) dX8_leastFrom_22 (by decide) ?_
    refine q_istore_6_5 hZ (pc := 23) dX8_leastFrom_23 rfl ?_
    have lp25 : ∀ (f p : Nat), p ≤ K → K - p < f → Z 0 0 (WC o a cA v g) [some (.ref (o 9)), some (.ref (o 5)), some (.int (nI s)), some (.int (nI x)), some (.int (nI (mB (byP wk od R s x) s p))), some (.int (nI (p + 1)))] [] 25 := by
      intro f
      induction f with
      | zero => intro p _ hf; exact absurd hf (Nat.not_lt_zero _)
      | succ f ih25 =>
        intro p hp hf
        refine z_iload hZ (pc := 25) dX8_leastFrom_25 rfl ?_
        refine z_aload_n hZ (pc := 27) dX8_leastFrom_27 rfl ?_
        refine gC_9_0 hZ (pc := 28) fl_X8_9 dX8_leastFrom_28 ?_
        refine z_top hK ?_
        refine z_icmp_gt hZ (pc := 31) (tgt := 68) dX8_leastFrom_31 rfl (fun c31 => ?_) (fun c31 => ?_)
        · skip
          have e : p = K := by
            have := (nI_ltI (a := K) (b := p + 1) (by omega) (by omega)).mp c31
            omega
          subst e
          refine z_iload hZ (pc := 68) dX8_leastFrom_68 rfl ?_
          refine zr_i hZ (pc := 70) dX8_leastFrom_70 FitR.int ?_
          have hs0 : s ≠ 0 := fun q => c1 (by rw [q]; rfl)
          exact ⟨rfl, rfl, by rw [if_neg hs0]⟩
        · skip
          have hl : p < K := by
            rcases Nat.lt_or_ge p K with q | q
            · exact q
            · exact absurd (nI_lt (a := K) (b := p + 1) (by omega) (by omega)) c31
          refine z_iload_n hZ (pc := 34) dX8_leastFrom_34 rfl ?_
          refine z_iload hZ (pc := 35) dX8_leastFrom_35 rfl ?_
          refine z_iconst hZ (pc := 37) (v := 1) dX8_leastFrom_37 (by decide) ?_
          refine z_isub hZ (pc := 38) dX8_leastFrom_38 ?_
          refine z_top (y := nI p) (nI_pred p) ?_
          refine z_ishr hZ (pc := 39) dX8_leastFrom_39 ?_
          refine z_iconst hZ (pc := 40) (v := 1) dX8_leastFrom_40 (by decide) ?_
          refine z_iand hZ (pc := 41) dX8_leastFrom_41 ?_
          refine z_iconst hZ (pc := 42) (v := 1) dX8_leastFrom_42 (by decide) ?_
          refine z_icmp_ne hZ (pc := 43) (tgt := 62) dX8_leastFrom_43 rfl (fun c43 => ?_) (fun c43 => ?_)
          · skip
            refine q_iinc_6_5 hZ (pc := 62) dX8_leastFrom_62 rfl ?_
            refine z_goto hZ (pc := 65) (tgt := 25) dX8_leastFrom_65 rfl ?_
            exact z_back hZ (ih25 (p + 1) (by omega) (by omega)) rfl ⟨rfl, rfl, rfl, rfl, zi (by rw [mB, if_neg (by rw [bit_off (by omega) (by omega) c43]; decide)]), zi (nI_inc _), trivial⟩
          · skip
            have hbit : s.testBit p = true := (bit_one (by omega) (by omega)).mp c43
            refine z_iload hZ (pc := 46) dX8_leastFrom_46 rfl ?_
            refine z_aload_n hZ (pc := 48) dX8_leastFrom_48 rfl ?_
            refine z_aload_n hZ (pc := 49) dX8_leastFrom_49 rfl ?_
            refine z_iload_n hZ (pc := 50) dX8_leastFrom_50 rfl ?_
            refine z_iload_n hZ (pc := 51) dX8_leastFrom_51 rfl ?_
            refine z_iload hZ (pc := 52) dX8_leastFrom_52 rfl ?_
            refine cV_i hZ (pc := 54) dX8_leastFrom_54 lk_X8_48 mn_X8_leastBy mv_X8_leastBy (c_X8_leastBy (R := R) hC hs hx (by omega) hbit hT hR) rc_9 rfl rfl (Nat.le_of_ble_eq_true rfl) (by decide) (by decide) (Nat.zero_le _) (Nat.zero_le _) ?_
            refine z_min hZ (pc := 57) dX8_leastFrom_57 (List.mem_of_getElem? (i := 1006) (by decide +kernel)) (List.mem_of_getElem? (i := 500) (by decide +kernel)) (List.mem_of_getElem? (i := 135) (by decide +kernel)) (List.mem_of_getElem? (i := 501) (by decide +kernel)) (Nat.le_of_ble_eq_true rfl) (by decide) (Nat.zero_le _) (Nat.zero_le _) ?_
            have hm1 := mB_le (byP wk od R s x) s p
            have hb1 := hbl p
            refine z_top (nI_min (mB (byP wk od R s x) s p) (byP wk od R s x p) (by omega) (by omega)) ?_
            refine q_istore_6_4 hZ (pc := 60) dX8_leastFrom_60 rfl ?_
            refine q_iinc_6_5 hZ (pc := 62) dX8_leastFrom_62 rfl ?_
            refine z_goto hZ (pc := 65) (tgt := 25) dX8_leastFrom_65 rfl ?_
            exact z_back hZ (ih25 (p + 1) (by omega) (by omega)) rfl ⟨rfl, rfl, rfl, rfl, zi (by rw [mB, if_pos hbit]), zi (nI_inc _), trivial⟩
    exact z_back hZ (lp25 (K + 1) 0 (Nat.zero_le _) (by omega)) rfl ⟨rfl, rfl, rfl, rfl, rfl, rfl, trivial⟩
  · skip
    skip
    refine z_aload_n hZ (pc := 4) dX8_leastFrom_4 rfl ?_
    refine z_aload_n hZ (pc := 5) dX8_leastFrom_5 rfl ?_
    refine gC_9_2 hZ (pc := 6) fl_X8_19 dX8_leastFrom_6 ?_
    refine z_iload_n hZ (pc := 9) dX8_leastFrom_9 rfl ?_
    refine cS_i hZ (pc := 10) dX8_leastFrom_10 lk_X8_37 mn_X10_at ms_X10_at (c_X10_atn (j := 35) (n := x) (by decide) (by show x < 10; omega)) rfl rfl (Nat.le_of_ble_eq_true rfl) (by decide) (by decide) (Nat.zero_le _) (Nat.zero_le _) ?_
    refine z_top hodx ?_
    refine z_iconst hZ (pc := 13) (v := 0) dX8_leastFrom_13 (by decide) ?_
    refine cV_i hZ (pc := 14) dX8_leastFrom_14 lk_X8_41 mn_X0_walkBetween mv_X0_walkBetween (c_X0_walkBetween (h := od x) (k := 0) hodx10 (by decide)) rc_5 rfl rfl (Nat.le_of_ble_eq_true rfl) (by decide) (by decide) (Nat.zero_le _) (Nat.zero_le _) ?_
    refine z_top (hw _ _ hodx10 (by decide)) ?_
    refine zr_i hZ (pc := 17) dX8_leastFrom_17 FitR.int ?_
    have hs0 : s = 0 := by
      rcases Nat.eq_zero_or_pos s with q | q
      · exact q
      · exact absurd c1 (nI_ne0 q (by omega))
    exact ⟨rfl, rfl, by rw [if_pos hs0]⟩
theorem c_X8_isBest {l : Launch} {D : va_G} {cA : Nat → ClassId} {o a : Nat → Nat} {v : ZV} {g : ZG} {K s x p : Nat} {od : Nat → Nat} {wk R : Nat → Nat → Nat} (hC : TourC v g K od wk) (hs : s < 2 ^ K) (hx : x ≤ K) (hp : p < K) (hT : ∀ t y, t ≤ s → y ≤ K → g 36 (10 * t + y) = nI (R t y)) (hR : ∀ t y, R t y ≤ 1000000) : MG l D cA (WC o a cA) yX8_isBest cX8_isBest 5 (some .boolean) 3 [(.ref (o 9)), (.ref (o 5)), .int (nI s), .int (nI x), .int (nI (p + 1))] v g (PF v g (some (.int (bI (s.testBit p && decide (byP wk od R s x p = R s x)))))) := by
  refine MG.of (by decide) rfl (Nat.le_of_ble_eq_true rfl) (by simp [Value.category]) (fun Z hZ => ?_)
  obtain ⟨hK, h9, hod, hw, hwl⟩ := id hC
  have h512 := p2_512 h9
  have hbl : byP wk od R s x p ≤ 1000099 := by
    have h1 := hwl (od x) (od (p + 1))
    have h2 := hR (rmB s p) (p + 1)
    unfold byP
    omega
  have hRs := hR s x
  refine z_iload_n hZ (pc := 0) dX8_isBest_0 rfl ?_
  refine z_iload hZ (pc := 1) dX8_isBest_1 rfl ?_
  refine z_iconst hZ (pc := 3) (v := 1) dX8_isBest_3 (by decide) ?_
  refine z_isub hZ (pc := 4) dX8_isBest_4 ?_
  refine z_top (y := nI p) (nI_pred p) ?_
  refine z_ishr hZ (pc := 5) dX8_isBest_5 ?_
  refine z_iconst hZ (pc := 6) (v := 1) dX8_isBest_6 (by decide) ?_
  refine z_iand hZ (pc := 7) dX8_isBest_7 ?_
  refine z_iconst hZ (pc := 8) (v := 1) dX8_isBest_8 (by decide) ?_
  refine z_icmp_ne hZ (pc := 9) (tgt := 41) dX8_isBest_9 rfl (fun c9 => ?_) (fun c9 => ?_)
  · skip
    refine z_iconst hZ (pc := 41) (v := 0) dX8_isBest_41 (by decide) ?_
    refine zr_i hZ (pc := 42) dX8_isBest_42 FitR.b0 ?_
    exact ⟨rfl, rfl, by rw [bit_off (by omega) (by omega) c9]; rfl⟩
  · skip
    have hbit : s.testBit p = true := (bit_one (by omega) (by omega)).mp c9
    refine z_aload_n hZ (pc := 12) dX8_isBest_12 rfl ?_
    refine z_aload_n hZ (pc := 13) dX8_isBest_13 rfl ?_
    refine z_iload_n hZ (pc := 14) dX8_isBest_14 rfl ?_
    refine z_iload_n hZ (pc := 15) dX8_isBest_15 rfl ?_
    refine z_iload hZ (pc := 16) dX8_isBest_16 rfl ?_
    refine cV_i hZ (pc := 18) dX8_isBest_18 lk_X8_48 mn_X8_leastBy mv_X8_leastBy (c_X8_leastBy (R := R) hC hs hx hp hbit (fun t y ht hy => hT t y (by omega) hy) hR) rc_9 rfl rfl (Nat.le_of_ble_eq_true rfl) (by decide) (by decide) (Nat.zero_le _) (Nat.zero_le _) ?_
    refine z_aload_n hZ (pc := 21) dX8_isBest_21 rfl ?_
    refine gC_9_3 hZ (pc := 22) fl_X8_22 dX8_isBest_22 ?_
    refine z_iload_n hZ (pc := 25) dX8_isBest_25 rfl ?_
    refine z_bipush hZ (pc := 26) (v := 10) dX8_isBest_26 (by decide) ?_
    refine z_imul hZ (pc := 28) dX8_isBest_28 ?_
    refine z_iload_n hZ (pc := 29) dX8_isBest_29 rfl ?_
    refine z_iadd hZ (pc := 30) dX8_isBest_30 ?_
    refine z_top (y := nI (10 * s + x)) (by rw [show (10 : Int32) = nI 10 from rfl, pk_mul, nI_add, Nat.mul_comm]) ?_
    refine cS_i hZ (pc := 31) dX8_isBest_31 lk_X8_37 mn_X10_at ms_X10_at (c_X10_atn (j := 36) (n := 10 * s + x) (by decide) (by show 10 * s + x < 5120; omega)) rfl rfl (Nat.le_of_ble_eq_true rfl) (by decide) (by decide) (Nat.zero_le _) (Nat.zero_le _) ?_
    refine z_top (hT s x (Nat.le_refl _) hx) ?_
    refine z_icmp_ne hZ (pc := 34) (tgt := 41) dX8_isBest_34 rfl (fun c34 => ?_) (fun c34 => ?_)
    · skip
      refine z_iconst hZ (pc := 41) (v := 0) dX8_isBest_41 (by decide) ?_
      refine zr_i hZ (pc := 42) dX8_isBest_42 FitR.b0 ?_
      exact ⟨rfl, rfl, by rw [hbit, decide_eq_false (fun q => c34 (by rw [q]))]; rfl⟩
    · skip
      refine z_iconst hZ (pc := 37) (v := 1) dX8_isBest_37 (by decide) ?_
      refine z_goto hZ (pc := 38) (tgt := 42) dX8_isBest_38 rfl ?_
      refine zr_i hZ (pc := 42) dX8_isBest_42 FitR.b1 ?_
      exact ⟨rfl, rfl, by rw [hbit, decide_eq_true ((nI_eq (by omega) (by omega)).mp c34)]; rfl⟩
/-- the place that is taken next, what is left and where one stands -/
def nxP (wk : Nat → Nat → Nat) (od : Nat → Nat) (K s x : Nat) : Nat := fa_first (fun p => s.testBit p && decide (byP wk od (Lt wk od K) s x p = Lt wk od K s x)) (K - 1)
def stT (wk : Nat → Nat → Nat) (od : Nat → Nat) (K : Nat) : Nat → Nat × Nat
  | 0 => (2 ^ K - 1, 0)
  | i + 1 => (rmB (stT wk od K i).1 (nxP wk od K (stT wk od K i).1 (stT wk od K i).2), nxP wk od K (stT wk od K i).1 (stT wk od K i).2 + 1)
theorem nxP_le (wk : Nat → Nat → Nat) (od : Nat → Nat) (K s x : Nat) : nxP wk od K s x ≤ K - 1 := fa_first_le _ _
theorem stT_lt (wk : Nat → Nat → Nat) (od : Nat → Nat) (K : Nat) : ∀ i, (stT wk od K i).1 < 2 ^ K
  | 0 => by have := Nat.two_pow_pos K; show 2 ^ K - 1 < 2 ^ K; omega
  | i + 1 => Nat.lt_of_le_of_lt (rm_le _ _) (stT_lt wk od K i)
theorem stT_le (wk : Nat → Nat → Nat) (od : Nat → Nat) (K : Nat) (h : 0 < K) : ∀ i, (stT wk od K i).2 ≤ K
  | 0 => Nat.zero_le _
  | i + 1 => by
    have := nxP_le wk od K (stT wk od K i).1 (stT wk od K i).2
    show nxP wk od K (stT wk od K i).1 (stT wk od K i).2 + 1 ≤ K
    omega
def rowT9 (wk : Nat → Nat → Nat) (od : Nat → Nat) (K i : Nat) : Nat := od (nxP wk od K (stT wk od K i).1 (stT wk od K i).2 + 1)
theorem c_X8_trace {l : Launch} {D : va_G} {cA : Nat → ClassId} {o a : Nat → Nat} {v : ZV} {g : ZG} {K : Nat} {od : Nat → Nat} {wk : Nat → Nat → Nat} (hC : TourC v g K od wk) (hT : ∀ t y, t < 2 ^ K → y ≤ K → g 36 (10 * t + y) = nI (Lt wk od K t y)) : MG l D cA (WC o a cA) yX8_trace cX8_trace 6 none 4 [(.ref (o 9)), (.ref (o 5))] v g (fun v2 g2 r => v2 = v ∧ (∀ j, j ≠ 34 → g2 j = g j) ∧ (∀ i, i < K → g2 34 i = nI (rowT9 wk od K i)) ∧ r = none) := by
  refine MG.of (by decide) rfl (Nat.le_of_ble_eq_true rfl) (by simp [Value.category]) (fun Z hZ => ?_)
  obtain ⟨hK, h9, hod, hw, hwl⟩ := id hC
  have h512 := p2_512 h9
  have hpow := Nat.two_pow_pos K
  refine z_iconst hZ (pc := 0) (v := 1) dX8_trace_0 (by decide) ?_
  refine z_aload_n hZ (pc := 1) dX8_trace_1 rfl ?_
  refine gC_9_0 hZ (pc := 2) fl_X8_9 dX8_trace_2 ?_
  refine z_top hK ?_
  refine z_ishl hZ (pc := 5) dX8_trace_5 ?_
  refine z_top (y := nI (2 ^ K)) (sh_one K (by omega)) ?_
  refine z_iconst hZ (pc := 6) (v := 1) dX8_trace_6 (by decide) ?_
  refine z_isub hZ (pc := 7) dX8_trace_7 ?_
  refine z_top (y := nI (2 ^ K - 1)) (nI_sub1 hpow) ?_
  refine q_istore_n_6_2 hZ (pc := 8) dX8_trace_8 rfl ?_
  refine z_iconst hZ (pc := 9) (v := 0) dX8_trace_9 (by decide) ?_
  refine q_istore_n_6_3 hZ (pc := 10) dX8_trace_10 rfl ?_
  refine z_iconst hZ (pc := 11) (v := 0) dX8_trace_11 (by decide) ?_
  refine q_istore_6_4 hZ (pc := 12) dX8_trace_12 rfl ?_
  have lp14 : ∀ (f i : Nat) (T : Nat → Int32), i ≤ K → K - i < f → (∀ k, k < i → T k = nI (rowT9 wk od K k)) → Z 0 0 (WC o a cA v (va_up g 34 T)) [some (.ref (o 9)), some (.ref (o 5)), some (.int (nI (stT wk od K i).1)), some (.int (nI (stT wk od K i).2)), some (.int (nI i)), none] [] 14 := by
    intro f
    induction f with
    | zero => intro i _ _ hf; exact absurd hf (Nat.not_lt_zero _)
    | succ f ih14 =>
      intro i T hi hf hRw
      refine z_iload hZ (pc := 14) dX8_trace_14 rfl ?_
      refine z_aload_n hZ (pc := 16) dX8_trace_16 rfl ?_
      refine gC_9_0 hZ (pc := 17) fl_X8_9 dX8_trace_17 ?_
      refine z_top hK ?_
      refine z_icmp_ge hZ (pc := 20) (tgt := 91) dX8_trace_20 rfl (fun c20 => ?_) (fun c20 => ?_)
      · skip
        have e : i = K := lp_ge rfl (by omega) hi c20
        subst e
        refine zr_v hZ (pc := 91) dX8_trace_91 ?_
        exact ⟨rfl, fun j hj => up_off hj, fun k hk => by rw [up_at]; exact hRw k hk, rfl⟩
      · skip
        have hl : i < K := lp_lt rfl (by omega) hi c20
        obtain ⟨s, hse⟩ : ∃ s, s = (stT wk od K i).1 := ⟨_, rfl⟩
        obtain ⟨x, hxe⟩ : ∃ x, x = (stT wk od K i).2 := ⟨_, rfl⟩
        have hs : s < 2 ^ K := by rw [hse]; exact stT_lt wk od K i
        have hx : x ≤ K := by rw [hxe]; exact stT_le wk od K (by omega) i
        rw [← hse, ← hxe]
        refine z_iconst hZ (pc := 23) (v := 1) dX8_trace_23 (by decide) ?_
        refine q_istore_6_5 hZ (pc := 24) dX8_trace_24 rfl ?_
        have lp26 : ∀ (f p : Nat), p < K → K - p < f → (∀ q, q < p → (fun p => s.testBit p && decide (byP wk od (Lt wk od K) s x p = Lt wk od K s x)) q = false) → Z 0 0 (WC o a cA v (va_up g 34 T)) [some (.ref (o 9)), some (.ref (o 5)), some (.int (nI s)), some (.int (nI x)), some (.int (nI i)), some (.int (nI (p + 1)))] [] 26 := by
          intro f
          induction f with
          | zero => intro p _ hf; exact absurd hf (Nat.not_lt_zero _)
          | succ f ih26 =>
            intro p hp hfp hno
            refine z_iload hZ (pc := 26) dX8_trace_26 rfl ?_
            refine z_aload_n hZ (pc := 28) dX8_trace_28 rfl ?_
            refine gC_9_0 hZ (pc := 29) fl_X8_9 dX8_trace_29 ?_
            refine z_top hK ?_
            refine z_icmp_ge hZ (pc := 32) (tgt := 53) dX8_trace_32 rfl (fun c32 => ?_) (fun c32 => ?_)
            · skip
              have hpK : p + 1 = K := lp_ge rfl (by omega) (by omega) c32
              have hnx : nxP wk od K s x = p := by
                have h1 := first_ge (n := K - 1) hno (by omega)
                have h2 := nxP_le wk od K s x
                unfold nxP at *
                omega
              refine z_aload_n hZ (pc := 53) dX8_trace_53 rfl ?_
              refine gC_9_1 hZ (pc := 54) fl_X8_15 dX8_trace_54 ?_
              refine z_iload hZ (pc := 57) dX8_trace_57 rfl ?_
              refine z_aload_n hZ (pc := 59) dX8_trace_59 rfl ?_
              refine gC_9_2 hZ (pc := 60) fl_X8_19 dX8_trace_60 ?_
              refine z_iload hZ (pc := 63) dX8_trace_63 rfl ?_
              refine cS_i hZ (pc := 65) dX8_trace_65 lk_X8_37 mn_X10_at ms_X10_at (c_X10_atn (j := 35) (n := p + 1) (by decide) (by show p + 1 < 10; omega)) rfl rfl (Nat.le_of_ble_eq_true rfl) (by decide) (by decide) (Nat.zero_le _) (Nat.zero_le _) ?_
              refine z_top (hod (p + 1) (by omega)).1 ?_
              refine cS_v hZ (pc := 68) dX8_trace_68 lk_X8_25 mn_X10_put ms_X10_put (c_X10_putn (j := 34) (n := i) (by decide) (by show i < 10; omega)) rfl rfl (Nat.le_of_ble_eq_true rfl) (by decide) (by decide) (Nat.zero_le _) (Nat.zero_le _) ?_
              refine z_iload_n hZ (pc := 71) dX8_trace_71 rfl ?_
              refine z_iconst hZ (pc := 72) (v := 1) dX8_trace_72 (by decide) ?_
              refine z_iload hZ (pc := 73) dX8_trace_73 rfl ?_
              refine z_iconst hZ (pc := 75) (v := 1) dX8_trace_75 (by decide) ?_
              refine z_isub hZ (pc := 76) dX8_trace_76 ?_
              refine z_top (y := nI p) (nI_pred p) ?_
              refine z_ishl hZ (pc := 77) dX8_trace_77 ?_
              refine z_iconst hZ (pc := 78) (v := (-1)) dX8_trace_78 (by decide) ?_
              refine z_ixor hZ (pc := 79) dX8_trace_79 ?_
              refine z_iand hZ (pc := 80) dX8_trace_80 ?_
              refine z_top (y := nI (rmB s p)) (rm_nI (by omega)) ?_
              refine q_istore_n_6_2 hZ (pc := 81) dX8_trace_81 rfl ?_
              refine z_iload hZ (pc := 82) dX8_trace_82 rfl ?_
              refine q_istore_n_6_3 hZ (pc := 84) dX8_trace_84 rfl ?_
              refine q_iinc_6_4 hZ (pc := 85) dX8_trace_85 rfl ?_
              refine z_goto hZ (pc := 88) (tgt := 14) dX8_trace_88 rfl ?_
              exact z_back hZ (ih14 (i + 1) (upd T i (nI (od (p + 1)))) (by omega) (by omega) (lt_s (fun k hk => by rw [upd_off (by omega)]; exact hRw k hk) (by rw [upd_at, rowT9, ← hse, ← hxe, hnx]))) (WC_eq rfl (by rw [up_twice, up_at])) ⟨rfl, rfl, zi (by rw [stT, ← hse, ← hxe, hnx]), zi (by rw [stT, ← hse, ← hxe, hnx]), zi (nI_inc i), trivial⟩
            · skip
              have hlp : p + 1 < K := lp_lt rfl (by omega) (by omega) c32
              refine z_aload_n hZ (pc := 35) dX8_trace_35 rfl ?_
              refine z_aload_n hZ (pc := 36) dX8_trace_36 rfl ?_
              refine z_iload_n hZ (pc := 37) dX8_trace_37 rfl ?_
              refine z_iload_n hZ (pc := 38) dX8_trace_38 rfl ?_
              refine z_iload hZ (pc := 39) dX8_trace_39 rfl ?_
              refine cV_i hZ (pc := 41) dX8_trace_41 lk_X8_57 mn_X8_isBest mv_X8_isBest (c_X8_isBest (R := Lt wk od K) (K := K) (od := od) (wk := wk) (TourC_mv hC rfl rfl rfl) hs hx (by omega) (fun t y ht hy => hT t y (by omega) hy) (Lt_le hC)) rc_9 rfl rfl (Nat.le_of_ble_eq_true rfl) (by decide) (by decide) (Nat.zero_le _) (Nat.zero_le _) ?_
              skip
              refine z_if_ne hZ (pc := 44) (tgt := 53) dX8_trace_44 rfl (fun c44 => ?_) (fun c44 => ?_)
              · skip
                have hpK : p + 1 ≤ K := by omega
                have hnx : nxP wk od K s x = p := first_at hno (by omega) (bI_ne c44)
                refine z_aload_n hZ (pc := 53) dX8_trace_53 rfl ?_
                refine gC_9_1 hZ (pc := 54) fl_X8_15 dX8_trace_54 ?_
                refine z_iload hZ (pc := 57) dX8_trace_57 rfl ?_
                refine z_aload_n hZ (pc := 59) dX8_trace_59 rfl ?_
                refine gC_9_2 hZ (pc := 60) fl_X8_19 dX8_trace_60 ?_
                refine z_iload hZ (pc := 63) dX8_trace_63 rfl ?_
                refine cS_i hZ (pc := 65) dX8_trace_65 lk_X8_37 mn_X10_at ms_X10_at (c_X10_atn (j := 35) (n := p + 1) (by decide) (by show p + 1 < 10; omega)) rfl rfl (Nat.le_of_ble_eq_true rfl) (by decide) (by decide) (Nat.zero_le _) (Nat.zero_le _) ?_
                refine z_top (hod (p + 1) (by omega)).1 ?_
                refine cS_v hZ (pc := 68) dX8_trace_68 lk_X8_25 mn_X10_put ms_X10_put (c_X10_putn (j := 34) (n := i) (by decide) (by show i < 10; omega)) rfl rfl (Nat.le_of_ble_eq_true rfl) (by decide) (by decide) (Nat.zero_le _) (Nat.zero_le _) ?_
                refine z_iload_n hZ (pc := 71) dX8_trace_71 rfl ?_
                refine z_iconst hZ (pc := 72) (v := 1) dX8_trace_72 (by decide) ?_
                refine z_iload hZ (pc := 73) dX8_trace_73 rfl ?_
                refine z_iconst hZ (pc := 75) (v := 1) dX8_trace_75 (by decide) ?_
                refine z_isub hZ (pc := 76) dX8_trace_76 ?_
                refine z_top (y := nI p) (nI_pred p) ?_
                refine z_ishl hZ (pc := 77) dX8_trace_77 ?_
                refine z_iconst hZ (pc := 78) (v := (-1)) dX8_trace_78 (by decide) ?_
                refine z_ixor hZ (pc := 79) dX8_trace_79 ?_
                refine z_iand hZ (pc := 80) dX8_trace_80 ?_
                refine z_top (y := nI (rmB s p)) (rm_nI (by omega)) ?_
                refine q_istore_n_6_2 hZ (pc := 81) dX8_trace_81 rfl ?_
                refine z_iload hZ (pc := 82) dX8_trace_82 rfl ?_
                refine q_istore_n_6_3 hZ (pc := 84) dX8_trace_84 rfl ?_
                refine q_iinc_6_4 hZ (pc := 85) dX8_trace_85 rfl ?_
                refine z_goto hZ (pc := 88) (tgt := 14) dX8_trace_88 rfl ?_
                exact z_back hZ (ih14 (i + 1) (upd T i (nI (od (p + 1)))) (by omega) (by omega) (lt_s (fun k hk => by rw [upd_off (by omega)]; exact hRw k hk) (by rw [upd_at, rowT9, ← hse, ← hxe, hnx]))) (WC_eq rfl (by rw [up_twice, up_at])) ⟨rfl, rfl, zi (by rw [stT, ← hse, ← hxe, hnx]), zi (by rw [stT, ← hse, ← hxe, hnx]), zi (nI_inc i), trivial⟩
              · skip
                refine q_iinc_6_5 hZ (pc := 47) dX8_trace_47 rfl ?_
                refine z_goto hZ (pc := 50) (tgt := 26) dX8_trace_50 rfl ?_
                exact z_back hZ (ih26 (p + 1) (by omega) (by omega) (lt_s hno (bI_eq.mp c44))) rfl ⟨rfl, rfl, rfl, rfl, rfl, zi (nI_inc _), trivial⟩
        exact z_back hZ (lp26 (K + 1) 0 (by omega) (by omega) (fun q hq => absurd hq (Nat.not_lt_zero _))) rfl ⟨rfl, rfl, rfl, rfl, rfl, rfl, trivial⟩
  exact z_back hZ (lp14 (K + 1) 0 (g 34) (Nat.zero_le _) (by omega) (fun k hk => absurd hk (Nat.not_lt_zero _))) (WC_eq rfl up_self.symm) ⟨rfl, rfl, rfl, rfl, rfl, trivial⟩
/-- the houses of a round, and the k-th place's house -/
def rbB (b h : Nat) : Bool := decide (0 < h) && b.testBit h
def odR (b : Nat) : Nat → Nat
  | 0 => 0
  | k + 1 => fa_first (fun h => rbB b h && decide (fb_ct (rbB b) h = k)) 10
def Kr (b : Nat) : Nat := fb_ct (rbB b) 10
theorem odR_cnt {b h : Nat} (hh : h < 10) (hb : rbB b h = true) : odR b (fb_ct (rbB b) h + 1) = h := by
  refine first_at (fun q hq => ?_) hh (by rw [hb]; simp)
  cases hq2 : rbB b q
  · rfl
  · rw [Bool.true_and]
    refine decide_eq_false (fun e => ?_)
    have := fb_ct_kth_one hq2 hb e
    omega
theorem Kr_le (b : Nat) : Kr b ≤ 9 := by
  have h : fb_ct (rbB b) (1 + 9) = fb_ct (rbB b) 1 + fb_ct (fun k => rbB b (1 + k)) 9 := fb_ct_split _ _ _
  have h1 : fb_ct (rbB b) 1 = 0 := rfl
  have h2 := fb_ct_le (fun k => rbB b (1 + k)) 9
  have h3 : Kr b = fb_ct (rbB b) (1 + 9) := rfl
  omega
theorem odR_lt {b k : Nat} (hk : k ≤ Kr b) : odR b k < 10 := by
  cases k with
  | zero => exact Nat.succ_pos 9
  | succ k =>
    obtain ⟨i, hi, hb, e⟩ := fb_ct_kth (show k < fb_ct (rbB b) 10 from hk)
    rw [← e, odR_cnt hi hb]
    exact hi
theorem c_X8_plan {l : Launch} {D : va_G} {cA : Nat → ClassId} {o a : Nat → Nat} {v : ZV} {g : ZG} {b : Nat} {wk : Nat → Nat → Nat} (hb : b < 1024) (h0 : g 35 0 = 0) (hw : ∀ x y, x < 10 → y < 10 → (if x = y then 0 else g 20 (10 * x + y)) = nI (wk x y)) (hwl : ∀ x y, wk x y ≤ 99) : MG l D cA (WC o a cA) yX8_plan cX8_plan 5 (some .int) 5 [(.ref (o 9)), (.ref (o 5)), .int (nI b)] v g (fun v2 g2 r => v2 = va_up v 29 (nI (Kr b)) ∧ (∀ j, j ≠ 34 → j ≠ 35 → j ≠ 36 → g2 j = g j) ∧ g2 35 0 = 0 ∧ (∀ i, i < Kr b → g2 34 i = nI (rowT9 wk (odR b) (Kr b) i)) ∧ r = some (.int (nI (Lt wk (odR b) (Kr b) (2 ^ Kr b - 1) 0)))) := by
  refine MG.of (by decide) rfl (Nat.le_of_ble_eq_true rfl) (by simp [Value.category]) (fun Z hZ => ?_)
  have hK9 := Kr_le b
  have h512 := p2_512 hK9
  have hpow := Nat.two_pow_pos (Kr b)
  have hcl : ∀ h, h ≤ 10 → fb_ct (rbB b) h ≤ Kr b := fun h hh => fb_ct_mono _ hh
  refine z_aload_n hZ (pc := 0) dX8_plan_0 rfl ?_
  refine z_iconst hZ (pc := 1) (v := 0) dX8_plan_1 (by decide) ?_
  refine pC_9_0 hZ (pc := 2) fl_X8_9 dX8_plan_2 ?_
  refine z_iconst hZ (pc := 5) (v := 1) dX8_plan_5 (by decide) ?_
  refine q_istore_n_5_3 hZ (pc := 6) dX8_plan_6 rfl ?_
  have lp7 : ∀ (f h : Nat) (T : Nat → Int32), 1 ≤ h → h ≤ 10 → 10 - h < f → T 0 = 0 → (∀ k, k < h → rbB b k = true → T (fb_ct (rbB b) k + 1) = nI k) → Z 0 0 (WC o a cA (va_up v 29 (nI (fb_ct (rbB b) h))) (va_up g 35 T)) [some (.ref (o 9)), some (.ref (o 5)), some (.int (nI b)), some (.int (nI h)), none] [] 7 := by
    intro f
    induction f with
    | zero => intro h _ _ _ hf; exact absurd hf (Nat.not_lt_zero _)
    | succ f ih7 =>
      intro h T h1 hh hf hT0 hTo
      refine z_iload_n hZ (pc := 7) dX8_plan_7 rfl ?_
      refine z_bipush hZ (pc := 8) (v := 10) dX8_plan_8 (by decide) ?_
      refine z_icmp_ge hZ (pc := 10) (tgt := 50) dX8_plan_10 rfl (fun c10 => ?_) (fun c10 => ?_)
      · skip
        have e10 : h = 10 := by
          have := (nI_leI (a := 10) (b := h) (by omega) (by omega)).mp c10
          omega
        subst e10
        have hC : TourC (va_up v 29 (nI (Kr b))) (va_up g 35 T) (Kr b) (odR b) wk := by
          refine ⟨rfl, hK9, fun k hk => ?_, hw, hwl⟩
          refine ⟨?_, odR_lt hk⟩
          cases k with
          | zero => exact (congrFun up_at 0).trans hT0
          | succ k =>
            obtain ⟨i, hi, hbi, e⟩ := fb_ct_kth (show k < fb_ct (rbB b) 10 from hk)
            rw [← e, odR_cnt hi hbi]
            exact (congrFun up_at _).trans (hTo i hi hbi)
        refine z_iconst hZ (pc := 50) (v := 0) dX8_plan_50 (by decide) ?_
        refine q_istore_n_5_3 hZ (pc := 51) dX8_plan_51 rfl ?_
        have lp52 : ∀ (f s : Nat) (T9 : Nat → Int32), s ≤ 2 ^ Kr b → 2 ^ Kr b - s < f → (∀ t y, y ≤ Kr b → 10 * t + y < 10 * s → T9 (10 * t + y) = nI ((Lt wk (odR b) (Kr b)) t y)) → Z 0 0 (WC o a cA (va_up v 29 (nI (Kr b))) (va_up (va_up g 35 T) 36 T9)) [some (.ref (o 9)), some (.ref (o 5)), some (.int (nI b)), some (.int (nI s)), none] [] 52 := by
          intro f
          induction f with
          | zero => intro s _ _ hf; exact absurd hf (Nat.not_lt_zero _)
          | succ f ih52 =>
            intro s T9 hs hf hT
            refine z_iload_n hZ (pc := 52) dX8_plan_52 rfl ?_
            refine z_iconst hZ (pc := 53) (v := 1) dX8_plan_53 (by decide) ?_
            refine z_aload_n hZ (pc := 54) dX8_plan_54 rfl ?_
            refine gC_9_0 hZ (pc := 55) fl_X8_9 dX8_plan_55 ?_
            refine z_top (y := nI (Kr b)) rfl ?_
            refine z_ishl hZ (pc := 58) dX8_plan_58 ?_
            refine z_top (y := nI (2 ^ Kr b)) (sh_one (Kr b) (by omega)) ?_
            refine z_icmp_ge hZ (pc := 59) (tgt := 108) dX8_plan_59 rfl (fun c59 => ?_) (fun c59 => ?_)
            · skip
              have es : s = 2 ^ Kr b := lp_ge rfl (by omega) hs c59
              subst es
              refine z_aload_n hZ (pc := 108) dX8_plan_108 rfl ?_
              refine z_aload_n hZ (pc := 109) dX8_plan_109 rfl ?_
              refine cV hZ (pc := 110) dX8_plan_110 lk_X8_33 mn_X8_trace mv_X8_trace (c_X8_trace (K := Kr b) (od := odR b) (wk := wk) (TourC_mv hC rfl rfl rfl) (fun t y ht hy => hT t y hy (by omega))) rc_9 rfl rfl (Nat.le_of_ble_eq_true rfl) (by decide) (by decide) (Nat.zero_le _) (Nat.zero_le _) ?_
              intro v2 g2 r h
              obtain ⟨rfl, hg2, hrow, rfl⟩ := h
              refine z_aload_n hZ (pc := 113) dX8_plan_113 rfl ?_
              refine gC_9_3 hZ (pc := 114) fl_X8_22 dX8_plan_114 ?_
              refine z_iconst hZ (pc := 117) (v := 1) dX8_plan_117 (by decide) ?_
              refine z_aload_n hZ (pc := 118) dX8_plan_118 rfl ?_
              refine gC_9_0 hZ (pc := 119) fl_X8_9 dX8_plan_119 ?_
              refine z_top (y := nI (Kr b)) rfl ?_
              refine z_ishl hZ (pc := 122) dX8_plan_122 ?_
              refine z_top (y := nI (2 ^ Kr b)) (sh_one (Kr b) (by omega)) ?_
              refine z_iconst hZ (pc := 123) (v := 1) dX8_plan_123 (by decide) ?_
              refine z_isub hZ (pc := 124) dX8_plan_124 ?_
              refine z_top (y := nI (2 ^ Kr b - 1)) (nI_sub1 hpow) ?_
              refine z_bipush hZ (pc := 125) (v := 10) dX8_plan_125 (by decide) ?_
              refine z_imul hZ (pc := 127) dX8_plan_127 ?_
              refine z_top (y := nI (10 * (2 ^ Kr b - 1) + 0)) (by rw [show (10 : Int32) = nI 10 from rfl, pk_mul, Nat.mul_comm]; rfl) ?_
              refine cS_i hZ (pc := 128) dX8_plan_128 lk_X8_37 mn_X10_at ms_X10_at (c_X10_atn (j := 36) (n := 10 * (2 ^ Kr b - 1) + 0) (by decide) (by show 10 * (2 ^ Kr b - 1) + 0 < 5120; omega)) rfl rfl (Nat.le_of_ble_eq_true rfl) (by decide) (by decide) (Nat.zero_le _) (Nat.zero_le _) ?_
              refine zr_i hZ (pc := 131) dX8_plan_131 FitR.int ?_
              exact ⟨rfl, fun j h1 h2 h3 => (hg2 j h1).trans ((up_off h3).trans (up_off h2)), (congrFun (hg2 35 (by decide)) 0).trans ((congrFun (show va_up (va_up g 35 T) 36 T9 35 = T from rfl) 0).trans hT0), hrow, by rw [hg2 36 (by decide), up_at, hT (2 ^ Kr b - 1) 0 (Nat.zero_le _) (by omega)]⟩
            · skip
              have hls : s < 2 ^ Kr b := lp_lt rfl (by omega) hs c59
              refine z_iconst hZ (pc := 62) (v := 0) dX8_plan_62 (by decide) ?_
              refine q_istore_5_4 hZ (pc := 63) dX8_plan_63 rfl ?_
              have lp65 : ∀ (f x : Nat) (T9 : Nat → Int32), x ≤ Kr b + 1 → Kr b + 1 - x < f → (∀ t y, y ≤ Kr b → 10 * t + y < 10 * s + x → T9 (10 * t + y) = nI ((Lt wk (odR b) (Kr b)) t y)) → Z 0 0 (WC o a cA (va_up v 29 (nI (Kr b))) (va_up (va_up g 35 T) 36 T9)) [some (.ref (o 9)), some (.ref (o 5)), some (.int (nI b)), some (.int (nI s)), some (.int (nI x))] [] 65 := by
                intro f
                induction f with
                | zero => intro x _ _ hf; exact absurd hf (Nat.not_lt_zero _)
                | succ f ih65 =>
                  intro x T9 hx hfx hT
                  refine z_iload hZ (pc := 65) dX8_plan_65 rfl ?_
                  refine z_aload_n hZ (pc := 67) dX8_plan_67 rfl ?_
                  refine gC_9_0 hZ (pc := 68) fl_X8_9 dX8_plan_68 ?_
                  refine z_top (y := nI (Kr b)) rfl ?_
                  refine z_icmp_gt hZ (pc := 71) (tgt := 102) dX8_plan_71 rfl (fun c71 => ?_) (fun c71 => ?_)
                  · skip
                    have ex : x = Kr b + 1 := by
                      have := (nI_ltI (a := Kr b) (b := x) (by omega) (by omega)).mp c71
                      omega
                    subst ex
                    refine q_iinc_5_3 hZ (pc := 102) dX8_plan_102 rfl ?_
                    refine z_goto hZ (pc := 105) (tgt := 52) dX8_plan_105 rfl ?_
                    exact z_back hZ (ih52 (s + 1) T9 (by omega) (by omega) (fun t y hy ht => hT t y hy (by omega))) rfl ⟨rfl, rfl, rfl, zi (nI_inc s), trivial⟩
                  · skip
                    have hlx : x ≤ Kr b := by
                      rcases Nat.lt_or_ge (Kr b) x with q | q
                      · exact absurd (nI_lt q (by omega)) c71
                      · exact q
                    refine z_aload_n hZ (pc := 74) dX8_plan_74 rfl ?_
                    refine gC_9_3 hZ (pc := 75) fl_X8_22 dX8_plan_75 ?_
                    refine z_iload_n hZ (pc := 78) dX8_plan_78 rfl ?_
                    refine z_bipush hZ (pc := 79) (v := 10) dX8_plan_79 (by decide) ?_
                    refine z_imul hZ (pc := 81) dX8_plan_81 ?_
                    refine z_iload hZ (pc := 82) dX8_plan_82 rfl ?_
                    refine z_iadd hZ (pc := 84) dX8_plan_84 ?_
                    refine z_top (y := nI (10 * s + x)) (by rw [show (10 : Int32) = nI 10 from rfl, pk_mul, nI_add, Nat.mul_comm]) ?_
                    refine z_aload_n hZ (pc := 85) dX8_plan_85 rfl ?_
                    refine z_aload_n hZ (pc := 86) dX8_plan_86 rfl ?_
                    refine z_iload_n hZ (pc := 87) dX8_plan_87 rfl ?_
                    refine z_iload hZ (pc := 88) dX8_plan_88 rfl ?_
                    refine cV_i hZ (pc := 90) dX8_plan_90 lk_X8_29 mn_X8_leastFrom mv_X8_leastFrom (c_X8_leastFrom (R := (Lt wk (odR b) (Kr b))) (K := Kr b) (od := odR b) (wk := wk) (s := s) (x := x) (TourC_mv hC rfl rfl rfl) hls hlx (fun t y ht hy => hT t y hy (by omega)) (Lt_le hC)) rc_9 rfl rfl (Nat.le_of_ble_eq_true rfl) (by decide) (by decide) (Nat.zero_le _) (Nat.zero_le _) ?_
                    refine z_top (y := nI ((Lt wk (odR b) (Kr b)) s x)) (by rw [Lt_eq]) ?_
                    refine cS_v hZ (pc := 93) dX8_plan_93 lk_X8_25 mn_X10_put ms_X10_put (c_X10_putn (j := 36) (n := 10 * s + x) (by decide) (by show 10 * s + x < 5120; omega)) rfl rfl (Nat.le_of_ble_eq_true rfl) (by decide) (by decide) (Nat.zero_le _) (Nat.zero_le _) ?_
                    refine q_iinc_5_4 hZ (pc := 96) dX8_plan_96 rfl ?_
                    refine z_goto hZ (pc := 99) (tgt := 65) dX8_plan_99 rfl ?_
                    exact z_back hZ (ih65 (x + 1) (upd T9 (10 * s + x) (nI ((Lt wk (odR b) (Kr b)) s x))) (by omega) (by omega) (fun t y hy ht => by
                      by_cases e : 10 * t + y = 10 * s + x
                      · have e1 : t = s := by omega
                        have e2 : y = x := by omega
                        rw [e1, e2, upd_at]
                      · rw [upd_off e]; exact hT t y hy (by omega))) (WC_eq rfl (by rw [up_twice, up_at])) ⟨rfl, rfl, rfl, rfl, zi (nI_inc x), trivial⟩
              exact z_back hZ (lp65 (Kr b + 2) 0 T9 (Nat.zero_le _) (by omega) (fun t y hy ht => hT t y hy (by omega))) rfl ⟨rfl, rfl, rfl, rfl, rfl, trivial⟩
        exact z_back hZ (lp52 (2 ^ Kr b + 1) 0 (g 36) (Nat.zero_le _) (Nat.lt_succ_of_le (Nat.sub_le _ _)) (fun t y _ ht => absurd ht (by omega))) (WC_eq rfl (by rw [show g 36 = va_up g 35 T 36 from rfl, up_self])) ⟨rfl, rfl, rfl, rfl, trivial⟩
      · skip
        have hl : h < 10 := by
          rcases Nat.lt_or_ge h 10 with q | q
          · exact q
          · exact absurd (nI_le (a := 10) (b := h) (by omega) (by omega)) c10
        refine z_iload_n hZ (pc := 13) dX8_plan_13 rfl ?_
        refine z_iload_n hZ (pc := 14) dX8_plan_14 rfl ?_
        refine z_ishr hZ (pc := 15) dX8_plan_15 ?_
        refine z_iconst hZ (pc := 16) (v := 1) dX8_plan_16 (by decide) ?_
        refine z_iand hZ (pc := 17) dX8_plan_17 ?_
        refine z_iconst hZ (pc := 18) (v := 1) dX8_plan_18 (by decide) ?_
        refine z_icmp_ne hZ (pc := 19) (tgt := 44) dX8_plan_19 rfl (fun c19 => ?_) (fun c19 => ?_)
        · skip
          have hrn : rbB b h = false := by rw [rbB, bit_off (by omega) (by omega) c19, Bool.and_false]
          refine q_iinc_5_3 hZ (pc := 44) dX8_plan_44 rfl ?_
          refine z_goto hZ (pc := 47) (tgt := 7) dX8_plan_47 rfl ?_
          exact z_back hZ (ih7 (h + 1) T (by omega) (by omega) (by omega) hT0 (fun k hk hbk => hTo k (by
            rcases Nat.lt_or_ge k h with q | q
            · exact q
            · have ek : k = h := by omega
              rw [ek, hrn] at hbk
              cases hbk) hbk)) (WC_eq (by rw [fb_ct_succ, hrn]; rfl) rfl) ⟨rfl, rfl, rfl, zi (nI_inc h), trivial⟩
        · skip
          have hrb : rbB b h = true := by
            rw [rbB, (bit_one (by omega) (by omega)).mp c19]
            simp
            omega
          refine z_aload_n hZ (pc := 22) dX8_plan_22 rfl ?_
          refine z_dup hZ (pc := 23) dX8_plan_23 rfl ?_
          refine gC_9_0 hZ (pc := 24) fl_X8_9 dX8_plan_24 ?_
          refine z_iconst hZ (pc := 27) (v := 1) dX8_plan_27 (by decide) ?_
          refine z_iadd hZ (pc := 28) dX8_plan_28 ?_
          refine z_top (y := nI (fb_ct (rbB b) h + 1)) (nI_1 _) ?_
          refine pC_9_0 hZ (pc := 29) fl_X8_9 dX8_plan_29 ?_
          refine z_aload_n hZ (pc := 32) dX8_plan_32 rfl ?_
          refine gC_9_2 hZ (pc := 33) fl_X8_19 dX8_plan_33 ?_
          refine z_aload_n hZ (pc := 36) dX8_plan_36 rfl ?_
          refine gC_9_0 hZ (pc := 37) fl_X8_9 dX8_plan_37 ?_
          refine z_top (y := nI (fb_ct (rbB b) h + 1)) rfl ?_
          refine z_iload_n hZ (pc := 40) dX8_plan_40 rfl ?_
          refine cS_v hZ (pc := 41) dX8_plan_41 lk_X8_25 mn_X10_put ms_X10_put (c_X10_putn (j := 35) (n := fb_ct (rbB b) h + 1) (by decide) (by have := hcl (h + 1) (by omega); have := fb_ct_succ (rbB b) h; rw [hrb, if_pos rfl] at this; show fb_ct (rbB b) h + 1 < 10; omega)) rfl rfl (Nat.le_of_ble_eq_true rfl) (by decide) (by decide) (Nat.zero_le _) (Nat.zero_le _) ?_
          skip
          refine q_iinc_5_3 hZ (pc := 44) dX8_plan_44 rfl ?_
          refine z_goto hZ (pc := 47) (tgt := 7) dX8_plan_47 rfl ?_
          exact z_back hZ (ih7 (h + 1) (upd T (fb_ct (rbB b) h + 1) (nI h)) (by omega) (by omega) (by omega) (by rw [upd_off (by omega)]; exact hT0) (fun k hk hbk => by
            by_cases e : k = h
            · rw [e, upd_at]
            · have hkh : k < h := by omega
              have hlt : fb_ct (rbB b) k + 1 ≤ fb_ct (rbB b) h := by
                have h1 := fb_ct_mono (rbB b) (show k + 1 ≤ h from hkh)
                rw [fb_ct_succ, hbk, if_pos rfl] at h1
                exact h1
              rw [upd_off (by omega)]
              exact hTo k hkh hbk)) (WC_eq (by rw [up_twice, fb_ct_succ, hrb, if_pos rfl]) (by rw [up_twice, up_at])) ⟨rfl, rfl, rfl, zi (nI_inc h), trivial⟩
  exact z_back hZ (lp7 10 1 (g 35) (by omega) (by omega) (by omega) h0 (fun k hk hbk => by
    have : k = 0 := by omega
    subst this
    cases hbk)) (WC_eq rfl up_self.symm) ⟨rfl, rfl, rfl, rfl, trivial⟩
