/-- names that just one house has, of the first persons; a house being left out where c is one -/
def plS (B : Nat → Nat) (c : Int32) : Nat → Int32
  | 0 => 0
  | p + 1 => plS B c p + (if popc (if c = -1 then B p else rmB (B p) c.toNatClampNeg) = 1 then 1 else 0)
theorem c_X11_plainNames {l : Launch} {D : va_G} {cA : Nat → ClassId} {r : Nat} {a : Nat → Nat} {s0 s1 : Nat → Option Nat} {v : ZV} {g : ZG} {c : Int32} {n P H : Nat} (hn : v 12 = nI n) (h2 : n ≤ 200) (hco : ∀ t, t < n → g 18 t = 0 ∨ g 18 t = 1) (hH : g 3 0 = nI H) (h10 : H ≤ 10) (hP : g 3 1 = nI P) (hP6 : P ≤ 16) (hc : c = -1 ∨ ∃ k, k < 10 ∧ c = nI k) : MG l D cA (WM r a cA s0 s1) yX11_plainNames cX11_plainNames 5 (some .int) 3 [(.ref r), .int c] v g (PF v g (some (.int (plS (fun p => hsT (g 13) (g 18) (g 14) (g 15) n (nI p) (if n = 0 then 0 else g 15 (n - 1)) H) c P)))) := by
  refine MG.of (by decide) rfl (Nat.le_of_ble_eq_true rfl) (by simp [Value.category]) (fun Z hZ => ?_)
  obtain ⟨B, hB⟩ : ∃ B, B = (fun p => hsT (g 13) (g 18) (g 14) (g 15) n (nI p) (if n = 0 then 0 else g 15 (n - 1)) H) := ⟨_, rfl⟩
  have hBl : ∀ i, B i < 1024 := fun i => by rw [hB]; exact hsT_lt _ _ _ _ _ _ _ h10
  have hpl : ∀ b, popc b ≤ 10 := popc_le
  refine z_iconst hZ (pc := 0) (v := 0) dX11_plainNames_0 (by decide) ?_
  refine q_istore_n_5_2 hZ (pc := 1) dX11_plainNames_1 rfl ?_
  refine z_iconst hZ (pc := 2) (v := 0) dX11_plainNames_2 (by decide) ?_
  refine q_istore_n_5_3 hZ (pc := 3) dX11_plainNames_3 rfl ?_
  have lp4 : ∀ (f i : Nat), i ≤ P → P - i < f → Z 0 0 (WM r a cA s0 s1 v g) [some (.ref r), some (.int c), some (.int (plS B c i)), some (.int (nI i)), none] [] 4 := by
    intro f
    induction f with
    | zero => intro i _ hf; exact absurd hf (Nat.not_lt_zero _)
    | succ f ih4 =>
      intro i hi hf
      refine z_iload_n hZ (pc := 4) dX11_plainNames_4 rfl ?_
      refine z_aload_n hZ (pc := 5) dX11_plainNames_5 rfl ?_
      refine gM_3 hZ (pc := 6) fl_X11_40 dX11_plainNames_6 ?_
      refine z_iconst hZ (pc := 9) (v := 1) dX11_plainNames_9 (by decide) ?_
      refine lMn_3 hZ (pc := 10) (q := 1) dX11_plainNames_10 (by decide) ?_
      refine z_top (y := nI P) hP ?_
      refine z_icmp_ge hZ (pc := 11) (tgt := 63) dX11_plainNames_11 rfl (fun c11 => ?_) (fun c11 => ?_)
      · skip
        have ei : i = P := lp_ge rfl (by omega) hi c11
        subst ei
        refine z_iload_n hZ (pc := 63) dX11_plainNames_63 rfl ?_
        refine zr_i hZ (pc := 64) dX11_plainNames_64 FitR.int ?_
        exact ⟨rfl, rfl, by rw [hB]⟩
      · skip
        have hl : i < P := lp_lt rfl (by omega) hi c11
        refine z_aload_n hZ (pc := 14) dX11_plainNames_14 rfl ?_
        refine z_iload_n hZ (pc := 15) dX11_plainNames_15 rfl ?_
        refine z_aload_n hZ (pc := 16) dX11_plainNames_16 rfl ?_
        refine cV_i hZ (pc := 17) dX11_plainNames_17 lk_X11_309 mn_X11_now mv_X11_now (c_X11_now (n := n) hn h2) rc_M rfl rfl (Nat.le_of_ble_eq_true rfl) (by decide) (by decide) (Nat.zero_le _) (Nat.zero_le _) ?_
        refine cV_i hZ (pc := 20) dX11_plainNames_20 lk_X11_344 mn_X11_housesOf mv_X11_housesOf (c_X11_housesOf (n := n) (H := H) hn h2 hco hH h10) rc_M rfl rfl (Nat.le_of_ble_eq_true rfl) (by decide) (by decide) (Nat.zero_le _) (Nat.zero_le _) ?_
        refine z_top (y := nI (B i)) (by rw [hB]) ?_
        refine q_istore_5_4 hZ (pc := 23) dX11_plainNames_23 rfl ?_
        refine z_iload_n hZ (pc := 25) dX11_plainNames_25 rfl ?_
        refine z_iconst hZ (pc := 26) (v := (-1)) dX11_plainNames_26 (by decide) ?_
        refine z_icmp_eq hZ (pc := 27) (tgt := 40) dX11_plainNames_27 rfl (fun c27 => ?_) (fun c27 => ?_)
        · skip
          refine z_iload_n hZ (pc := 40) dX11_plainNames_40 rfl ?_
          refine z_iload hZ (pc := 41) dX11_plainNames_41 rfl ?_
          refine cS_i hZ (pc := 43) dX11_plainNames_43 lk_X11_347 mn_X11_bitsOf ms_X11_bitsOf (c_X11_bitsOf (b := B i) (hBl i)) rfl rfl (Nat.le_of_ble_eq_true rfl) (by decide) (by decide) (Nat.zero_le _) (Nat.zero_le _) ?_
          refine z_iconst hZ (pc := 46) (v := 1) dX11_plainNames_46 (by decide) ?_
          refine z_icmp_ne hZ (pc := 47) (tgt := 54) dX11_plainNames_47 rfl (fun c47 => ?_) (fun c47 => ?_)
          · skip
            refine z_iconst hZ (pc := 54) (v := 0) dX11_plainNames_54 (by decide) ?_
            refine z_iadd hZ (pc := 55) dX11_plainNames_55 ?_
            refine q_istore_n_5_2 hZ (pc := 56) dX11_plainNames_56 rfl ?_
            refine q_iinc_5_3 hZ (pc := 57) dX11_plainNames_57 rfl ?_
            refine z_goto hZ (pc := 60) (tgt := 4) dX11_plainNames_60 rfl ?_
            exact z_back hZ (ih4 (i + 1) (by omega) (by omega)) rfl ⟨rfl, rfl, zi (by rw [plS, if_pos c27, if_neg (fun z => c47 (by rw [z]; rfl))]), zi (nI_inc i), trivial⟩
          · skip
            refine z_iconst hZ (pc := 50) (v := 1) dX11_plainNames_50 (by decide) ?_
            refine z_goto hZ (pc := 51) (tgt := 55) dX11_plainNames_51 rfl ?_
            refine z_iadd hZ (pc := 55) dX11_plainNames_55 ?_
            refine q_istore_n_5_2 hZ (pc := 56) dX11_plainNames_56 rfl ?_
            refine q_iinc_5_3 hZ (pc := 57) dX11_plainNames_57 rfl ?_
            refine z_goto hZ (pc := 60) (tgt := 4) dX11_plainNames_60 rfl ?_
            exact z_back hZ (ih4 (i + 1) (by omega) (by omega)) rfl ⟨rfl, rfl, zi (by rw [plS, if_pos c27, if_pos ((nI_eq (a := popc (B i)) (b := 1) (by have := hpl (B i); omega) (by omega)).mp c47)]), zi (nI_inc i), trivial⟩
        · skip
          obtain ⟨k, hk, ek⟩ := hc.resolve_left c27
          refine z_iload hZ (pc := 30) dX11_plainNames_30 rfl ?_
          refine z_iconst hZ (pc := 32) (v := 1) dX11_plainNames_32 (by decide) ?_
          refine z_iload_n hZ (pc := 33) dX11_plainNames_33 rfl ?_
          refine z_top ek ?_
          refine z_ishl hZ (pc := 34) dX11_plainNames_34 ?_
          refine z_iconst hZ (pc := 35) (v := (-1)) dX11_plainNames_35 (by decide) ?_
          refine z_ixor hZ (pc := 36) dX11_plainNames_36 ?_
          refine z_iand hZ (pc := 37) dX11_plainNames_37 ?_
          refine z_top (y := nI (rmB (B i) k)) (rm_nI (by omega)) ?_
          refine q_istore_5_4 hZ (pc := 38) dX11_plainNames_38 rfl ?_
          refine z_iload_n hZ (pc := 40) dX11_plainNames_40 rfl ?_
          refine z_iload hZ (pc := 41) dX11_plainNames_41 rfl ?_
          refine cS_i hZ (pc := 43) dX11_plainNames_43 lk_X11_347 mn_X11_bitsOf ms_X11_bitsOf (c_X11_bitsOf (b := rmB (B i) k) (Nat.lt_of_le_of_lt (rm_le _ _) (hBl i))) rfl rfl (Nat.le_of_ble_eq_true rfl) (by decide) (by decide) (Nat.zero_le _) (Nat.zero_le _) ?_
          refine z_iconst hZ (pc := 46) (v := 1) dX11_plainNames_46 (by decide) ?_
          refine z_icmp_ne hZ (pc := 47) (tgt := 54) dX11_plainNames_47 rfl (fun c47 => ?_) (fun c47 => ?_)
          · skip
            refine z_iconst hZ (pc := 54) (v := 0) dX11_plainNames_54 (by decide) ?_
            refine z_iadd hZ (pc := 55) dX11_plainNames_55 ?_
            refine q_istore_n_5_2 hZ (pc := 56) dX11_plainNames_56 rfl ?_
            refine q_iinc_5_3 hZ (pc := 57) dX11_plainNames_57 rfl ?_
            refine z_goto hZ (pc := 60) (tgt := 4) dX11_plainNames_60 rfl ?_
            exact z_back hZ (ih4 (i + 1) (by omega) (by omega)) rfl ⟨rfl, rfl, zi (by rw [plS, if_neg c27, ek, nI_clamp (by omega), if_neg (fun z => c47 (by rw [z]; rfl))]), zi (nI_inc i), trivial⟩
          · skip
            refine z_iconst hZ (pc := 50) (v := 1) dX11_plainNames_50 (by decide) ?_
            refine z_goto hZ (pc := 51) (tgt := 55) dX11_plainNames_51 rfl ?_
            refine z_iadd hZ (pc := 55) dX11_plainNames_55 ?_
            refine q_istore_n_5_2 hZ (pc := 56) dX11_plainNames_56 rfl ?_
            refine q_iinc_5_3 hZ (pc := 57) dX11_plainNames_57 rfl ?_
            refine z_goto hZ (pc := 60) (tgt := 4) dX11_plainNames_60 rfl ?_
            exact z_back hZ (ih4 (i + 1) (by omega) (by omega)) rfl ⟨rfl, rfl, zi (by rw [plS, if_neg c27, ek, nI_clamp (by omega), if_pos ((nI_eq (a := popc (rmB (B i) k)) (b := 1) (by have := hpl (rmB (B i) k); omega) (by omega)).mp c47)]), zi (nI_inc i), trivial⟩
  exact z_back hZ (lp4 (P + 1) 0 (Nat.zero_le _) (by omega)) rfl ⟨rfl, rfl, rfl, rfl, trivial⟩
theorem c_X11_mourner {l : Launch} {D : va_G} {cA : Nat → ClassId} {r : Nat} {a : Nat → Nat} {s0 s1 : Nat → Option Nat} {v : ZV} {g : ZG} {x : Int32} {n P H R A : Nat} {ops : Nat → Nat → Int32} {m : Nat → Nat} (hn : v 12 = nI n) (h2 : n ≤ 200) (hco : ∀ t, t < n → g 18 t = 0 ∨ g 18 t = 1) (hH : g 3 0 = nI H) (h10 : H ≤ 10) (hP : g 3 1 = nI P) (hP6 : P ≤ 16) (hX : ExM g R A ops m) : MG l D cA (WM r a cA s0 s1) yX11_mourner cX11_mourner 2 (some .int) 5 [(.ref r), .int x] v g (fun v2 g2 r => v2 = va_up v 2 (if (inI x H) = true then 0 else 1) ∧ (∀ j, j ≠ 36 → j ≠ 37 → g2 j = g j) ∧ r = some (.int (if (inI x H) = true then (if allB (holdE (vals7 x 99 0 1 ((if n = 0 then 0 else g 15 (n - 1)) / 24) ((if n = 0 then 0 else g 15 (n - 1)) - (if n = 0 then 0 else g 15 (n - 1)) / 24 * 24) (nI (fb_ct (onP (g 14) (g 15) x ((if n = 0 then 0 else g 15 (n - 1)) / 24)) n)) v0s) ops m) R = true then plS (fun p => hsT (g 13) (g 18) (g 14) (g 15) n (nI p) (if n = 0 then 0 else g 15 (n - 1)) H) x P - plS (fun p => hsT (g 13) (g 18) (g 14) (g 15) n (nI p) (if n = 0 then 0 else g 15 (n - 1)) H) (-1) P else 0) else 0))) := by
  refine MG.of (by decide) rfl (Nat.le_of_ble_eq_true rfl) (by simp [Value.category]) (fun Z hZ => ?_)
  refine z_aload_n hZ (pc := 0) dX11_mourner_0 rfl ?_
  refine z_iconst hZ (pc := 1) (v := 0) dX11_mourner_1 (by decide) ?_
  refine pM_2 hZ (pc := 2) fl_X11_160 dX11_mourner_2 ?_
  refine z_aload_n hZ (pc := 5) dX11_mourner_5 rfl ?_
  refine z_iload_n hZ (pc := 6) dX11_mourner_6 rfl ?_
  refine cV_i hZ (pc := 7) dX11_mourner_7 lk_X11_315 mn_X11_isHouse mv_X11_isHouse (c_X11_isHouse (n := H) hH (by omega)) rc_M rfl rfl (Nat.le_of_ble_eq_true rfl) (by decide) (by decide) (Nat.zero_le _) (Nat.zero_le _) ?_
  refine z_if_ne hZ (pc := 10) (tgt := 19) dX11_mourner_10 rfl (fun c10 => ?_) (fun c10 => ?_)
  · skip
    obtain ⟨k, hk, rfl⟩ := inI_t (bI_ne c10) (by omega)
    refine z_aload_n hZ (pc := 19) dX11_mourner_19 rfl ?_
    refine z_iload_n hZ (pc := 20) dX11_mourner_20 rfl ?_
    refine z_bipush hZ (pc := 21) (v := 99) dX11_mourner_21 (by decide) ?_
    refine z_iconst hZ (pc := 23) (v := 0) dX11_mourner_23 (by decide) ?_
    refine z_iconst hZ (pc := 24) (v := 1) dX11_mourner_24 (by decide) ?_
    refine z_aload_n hZ (pc := 25) dX11_mourner_25 rfl ?_
    refine cV_i hZ (pc := 26) dX11_mourner_26 lk_X11_309 mn_X11_now mv_X11_now (c_X11_now (n := n) hn h2) rc_M rfl rfl (Nat.le_of_ble_eq_true rfl) (by decide) (by decide) (Nat.zero_le _) (Nat.zero_le _) ?_
    refine z_aload_n hZ (pc := 29) dX11_mourner_29 rfl ?_
    refine z_iload_n hZ (pc := 30) dX11_mourner_30 rfl ?_
    refine z_aload_n hZ (pc := 31) dX11_mourner_31 rfl ?_
    refine cV_i hZ (pc := 32) dX11_mourner_32 lk_X11_309 mn_X11_now mv_X11_now (c_X11_now (n := n) hn h2) rc_M rfl rfl (Nat.le_of_ble_eq_true rfl) (by decide) (by decide) (Nat.zero_le _) (Nat.zero_le _) ?_
    refine cV_i hZ (pc := 35) dX11_mourner_35 lk_X11_325 mn_X11_beforeOf mv_X11_beforeOf (c_X11_beforeOf (n := n) hn h2) rc_M rfl rfl (Nat.le_of_ble_eq_true rfl) (by decide) (by decide) (Nat.zero_le _) (Nat.zero_le _) ?_
    refine cV_v hZ (pc := 38) dX11_mourner_38 lk_X11_328 mn_X11_ask mv_X11_ask (c_X11_ask (Or.inr rfl)) rc_M rfl rfl (Nat.le_of_ble_eq_true rfl) (by decide) (by decide) (Nat.zero_le _) (Nat.zero_le _) ?_
    refine z_aload_n hZ (pc := 41) dX11_mourner_41 rfl ?_
    refine cV hZ (pc := 42) dX11_mourner_42 lk_X11_331 mn_X11_allRules mv_X11_allRules (c_X11_allRules (R := R) (A := A) (ops := ops) (m := m) (ExM_mv hX rfl rfl rfl rfl)) rc_M rfl rfl (Nat.le_of_ble_eq_true rfl) (by decide) (by decide) (Nat.zero_le _) (Nat.zero_le _) ?_
    intro v2 g2 r h
    obtain ⟨e1, hg2, rfl⟩ := h
    subst v2
    have ec : allB (holdE (va_up g 36 (vals7 (nI k) 99 0 1 ((if n = 0 then 0 else g 15 (n - 1)) / 24) ((if n = 0 then 0 else g 15 (n - 1)) - (if n = 0 then 0 else g 15 (n - 1)) / 24 * 24) (nI (fb_ct (onP (g 14) (g 15) (nI k) ((if n = 0 then 0 else g 15 (n - 1)) / 24)) n)) (g 36)) 36) ops m) R = allB (holdE (vals7 (nI k) 99 0 1 ((if n = 0 then 0 else g 15 (n - 1)) / 24) ((if n = 0 then 0 else g 15 (n - 1)) - (if n = 0 then 0 else g 15 (n - 1)) / 24 * 24) (nI (fb_ct (onP (g 14) (g 15) (nI k) ((if n = 0 then 0 else g 15 (n - 1)) / 24)) n)) v0s) ops m) R := by
      obtain ⟨b9, hR9, hA9, hR4, hA69, hE9⟩ := hX
      exact allB_cong (fun e he => holdE_cong (hE9 e (Or.inl he)).2.2.2.2 (fun j hj => by rw [up_at]; exact vals7_cong j hj))
    have hG : ∀ j, j ≠ 36 → j ≠ 37 → g2 j = g j := fun j h1 h2 => (hg2 j h2).trans (up_off h1)
    refine z_top (congrArg bI ec) ?_
    refine z_if_eq hZ (pc := 45) (tgt := 62) dX11_mourner_45 rfl (fun c45 => ?_) (fun c45 => ?_)
    · skip
      refine z_iconst hZ (pc := 62) (v := 0) dX11_mourner_62 (by decide) ?_
      refine zr_i hZ (pc := 63) dX11_mourner_63 FitR.int ?_
      exact ⟨by rw [bI_ne c10]; rfl, hG, by rw [bI_ne c10, if_pos rfl, if_neg (fun z => by rw [z] at c45; cases c45)]⟩
    · skip
      refine z_aload_n hZ (pc := 48) dX11_mourner_48 rfl ?_
      refine z_iload_n hZ (pc := 49) dX11_mourner_49 rfl ?_
      refine cV_i hZ (pc := 50) dX11_mourner_50 lk_X11_408 mn_X11_plainNames mv_X11_plainNames (c_X11_plainNames (n := n) (P := P) (H := H) hn h2 (by rw [hG 18 (by decide) (by decide)]; exact hco) (by rw [hG 3 (by decide) (by decide)]; exact hH) h10 (by rw [hG 3 (by decide) (by decide)]; exact hP) hP6 (Or.inr ⟨k, by omega, rfl⟩)) rc_M rfl rfl (Nat.le_of_ble_eq_true rfl) (by decide) (by decide) (Nat.zero_le _) (Nat.zero_le _) ?_
      refine z_aload_n hZ (pc := 53) dX11_mourner_53 rfl ?_
      refine z_iconst hZ (pc := 54) (v := (-1)) dX11_mourner_54 (by decide) ?_
      refine cV_i hZ (pc := 55) dX11_mourner_55 lk_X11_408 mn_X11_plainNames mv_X11_plainNames (c_X11_plainNames (n := n) (P := P) (H := H) hn h2 (by rw [hG 18 (by decide) (by decide)]; exact hco) (by rw [hG 3 (by decide) (by decide)]; exact hH) h10 (by rw [hG 3 (by decide) (by decide)]; exact hP) hP6 (Or.inl rfl)) rc_M rfl rfl (Nat.le_of_ble_eq_true rfl) (by decide) (by decide) (Nat.zero_le _) (Nat.zero_le _) ?_
      refine z_isub hZ (pc := 58) dX11_mourner_58 ?_
      refine z_goto hZ (pc := 59) (tgt := 63) dX11_mourner_59 rfl ?_
      refine zr_i hZ (pc := 63) dX11_mourner_63 FitR.int ?_
      exact ⟨by rw [bI_ne c10]; rfl, hG, by rw [bI_ne c10, if_pos rfl, if_pos (bI_ne c45), hG 13 (by decide) (by decide), hG 18 (by decide) (by decide), hG 14 (by decide) (by decide), hG 15 (by decide) (by decide)]⟩
  · skip
    refine z_aload_n hZ (pc := 13) dX11_mourner_13 rfl ?_
    refine z_iconst hZ (pc := 14) (v := 1) dX11_mourner_14 (by decide) ?_
    refine cV_i hZ (pc := 15) dX11_mourner_15 lk_X11_286 mn_X11_fail mv_X11_fail (c_X11_fail) rc_M rfl rfl (Nat.le_of_ble_eq_true rfl) (by decide) (by decide) (Nat.zero_le _) (Nat.zero_le _) ?_
    refine zr_i hZ (pc := 18) dX11_mourner_18 FitR.int ?_
    exact ⟨by rw [bI_eq.mp c10]; exact up_twice, fun _ _ _ => rfl, by rw [bI_eq.mp c10]; rfl⟩
/-- both sides' sums are one -/
theorem i32_ac (a b c d : Int32) : a - b + (c - d) = (a + c) - (b + d) := by
  apply Int32.toBitVec_inj.1
  show a.toBitVec - b.toBitVec + (c.toBitVec - d.toBitVec) = (a.toBitVec + c.toBitVec) - (b.toBitVec + d.toBitVec)
  apply BitVec.eq_of_toInt_eq
  simp only [BitVec.toInt_sub, BitVec.toInt_add, Int.emod_bmod, Int.bmod_add_bmod, Int.add_bmod_bmod, Int.sub_bmod_bmod, Int.bmod_sub_bmod]
  congr 1
  omega
theorem mrS_pl (B : Nat → Nat) {k : Nat} (hk : k < 10) : ∀ p, mrS B k p = plS B (nI k) p - plS B (-1) p
  | 0 => by show (0 : Int32) = 0 - 0; decide
  | p + 1 => by
    have h1 : ¬ nI k = -1 := nI_m1 (by omega)
    rw [mrS, mrS_pl B hk p, plS, plS, if_neg h1, if_pos rfl, nI_clamp (by omega), i32_ac]
