theorem hoursN_const {F : Nat → Int32} {p c : Int32} {A S U : Nat} (hAS : A ≤ S) (hSU : S ≤ U) (h : ∀ q, S ≤ q → q < U → F q = c) : hoursN F p A (U - A) = hoursN F p A (S - A) + (if c = p then U - S else 0) := by
  have e1 : U - A = (S - A) + (U - S) := by omega
  have e2 : A + (S - A) = S := by omega
  rw [e1, hoursN_add, e2]
  congr 1
  by_cases hc : c = p
  · rw [if_pos hc]
    exact hoursN_yes (fun i hi => by rw [h (S + i) (by omega) (by omega), hc])
  · rw [if_neg hc]
    exact hoursN_no (fun i hi => by rw [h (S + i) (by omega) (by omega)]; exact hc)
theorem cbS_sel {co fr wh : Nat → Int32} {h hr : Int32} : ∀ {e : Nat}, (∀ t, t < e → co t = 1 → fr t = h → wh t ≤ hr) → cbS co fr wh h hr e = lastC co fr h e
  | 0, _ => rfl
  | e + 1, hw => by
    rw [cbS, lastC, cbS_sel (fun t ht => hw t (by omega))]
    by_cases q : co e = 1 ∧ fr e = h
    · rw [if_pos ⟨q.1, q.2, hw e (by omega) q.1 q.2⟩, if_pos q]
    · rw [if_neg (fun z => q ⟨z.1, z.2.1⟩), if_neg q]
theorem nI_max (a b : Nat) (ha : a < 2 ^ 31) (hb : b < 2 ^ 31) : (if nI a < nI b then nI b else nI a) = nI (max a b) := by
  by_cases h : a < b
  · rw [if_pos (nI_lt h hb), Nat.max_eq_right (by omega)]
  · rw [if_neg (fun q => h ((nI_ltI ha hb).mp q)), Nat.max_eq_left (by omega)]
theorem lastC_s1 {co fr : Nat → Int32} {h : Int32} {i : Nat} (h1 : co i = 1) (h2 : fr i = h) : lastC co fr h (i + 1) = nI i := by rw [lastC, if_pos ⟨h1, h2⟩]
theorem lastC_s0 {co fr : Nat → Int32} {h : Int32} {i : Nat} (h1 : ¬ (co i = 1 ∧ fr i = h)) : lastC co fr h (i + 1) = lastC co fr h i := by rw [lastC, if_neg h1]
theorem nm2_nI {wo : Nat → Int32} {i : Nat} (hi : i < 2 ^ 31) : nm2 wo (nI i) = wo i := by
  have h : ¬ nI i = -1 := fun q => nI_pos hi (by rw [q]; decide)
  rw [nm2, if_neg h, nI_clamp hi]
theorem c_X6_hoursCalled {l : Launch} {D : va_G} {cA : Nat → ClassId} {o a : Nat → Nat} {v : ZV} {g : ZG} {n A B : Nat} {h p : Int32} (hn : v 9 = nI n) (h2 : n ≤ 200) (hso : SortT (T5 g 2) n) (hwN : ∀ t, t < n → ∃ q, q < 2400 ∧ T5 g 2 t = nI q) (hAB : A ≤ B) (hB : B < 2400) : MG l D cA (WC o a cA) yX6_hoursCalled cX6_hoursCalled 11 (some .int) 2 [(.ref (o 3)), .int h, .int p, .int (nI A), .int (nI B)] v g (PF v g (some (.int (nI (hoursN (fun q => nm2 (T5 g 0) (cbS (T5 g 5) (T5 g 1) (T5 g 2) h (nI q) n)) p A (B + 1 - A)))))) := by
  refine MG.of (by decide) rfl (Nat.le_of_ble_eq_true rfl) (by simp [Value.category]) (fun Z hZ => ?_)
  have hfin : ∀ (i S : Nat), i ≤ n → A ≤ S → S ≤ B → (∀ t, t < i → T5 g 5 t = 1 → T5 g 1 t = h → T5 g 2 t ≤ nI S) → (∀ q, q ≤ B → ∀ t, i ≤ t → t < n → nI q < T5 g 2 t) → hoursN (fun q => nm2 (T5 g 0) (cbS (T5 g 5) (T5 g 1) (T5 g 2) h (nI q) n)) p A (B + 1 - A) = hoursN (fun q => nm2 (T5 g 0) (cbS (T5 g 5) (T5 g 1) (T5 g 2) h (nI q) n)) p A (S - A) + (if nm2 (T5 g 0) (lastC (T5 g 5) (T5 g 1) h i) = p then B + 1 - S else 0) := by
    intro i S hi hAS hSB hS hq
    refine hoursN_const hAS (by omega) (fun q h1 h3 => ?_)
    show nm2 (T5 g 0) (cbS (T5 g 5) (T5 g 1) (T5 g 2) h (nI q) n) = _
    rw [cbS_stop hi (hq q (by omega)), cbS_sel (fun t ht h4 h5 => Int32.le_trans (hS t ht h4 h5) (nI_le h1 (by omega)))]
  refine z_iconst hZ (pc := 0) (v := 0) dX6_hoursCalled_0 (by decide) ?_
  refine q_istore_11_5 hZ (pc := 1) dX6_hoursCalled_1 rfl ?_
  refine z_iconst hZ (pc := 3) (v := (-1)) dX6_hoursCalled_3 (by decide) ?_
  refine q_istore_11_6 hZ (pc := 4) dX6_hoursCalled_4 rfl ?_
  refine z_iload_n hZ (pc := 6) dX6_hoursCalled_6 rfl ?_
  refine q_istore_11_7 hZ (pc := 7) dX6_hoursCalled_7 rfl ?_
  refine z_iconst hZ (pc := 9) (v := 0) dX6_hoursCalled_9 (by decide) ?_
  refine q_istore_11_8 hZ (pc := 10) dX6_hoursCalled_10 rfl ?_
  have lp12 : ∀ (f i S : Nat), i ≤ n → n - i < f → A ≤ S → S ≤ B → (∀ t, t < i → T5 g 5 t = 1 → T5 g 1 t = h → T5 g 2 t ≤ nI S) → (S = A ∨ ∀ t, i ≤ t → t < n → nI S ≤ T5 g 2 t) → Z 0 0 (WC o a cA v g) [some (.ref (o 3)), some (.int h), some (.int p), some (.int (nI A)), some (.int (nI B)), some (.int (nI (hoursN (fun q => nm2 (T5 g 0) (cbS (T5 g 5) (T5 g 1) (T5 g 2) h (nI q) n)) p A (S - A)))), some (.int (nm2 (T5 g 0) (lastC (T5 g 5) (T5 g 1) h i))), some (.int (nI S)), some (.int (nI i)), none, none] [] 12 := by
    intro f
    induction f with
    | zero => intro i _ _ hf; exact absurd hf (Nat.not_lt_zero _)
    | succ f ih =>
      intro i S hi hf hAS hSB hS hSA
      refine z_iload hZ (pc := 12) dX6_hoursCalled_12 rfl ?_
      refine z_aload_n hZ (pc := 14) dX6_hoursCalled_14 rfl ?_
      refine gC_3_0 hZ (pc := 15) fl_X6_9 dX6_hoursCalled_15 ?_
      refine z_icmp_ge hZ (pc := 18) (tgt := 109) dX6_hoursCalled_18 rfl (fun c18 => ?_) (fun c18 => ?_)
      · skip
        have ein : i = n := lp_ge hn (by omega) hi c18
        have hf9 := hfin i S hi hAS hSB hS (fun q _ t h1 h3 => absurd h3 (by omega))
        refine z_iload hZ (pc := 109) dX6_hoursCalled_109 rfl ?_
        refine z_iload_n hZ (pc := 111) dX6_hoursCalled_111 rfl ?_
        refine z_icmp_ne hZ (pc := 112) (tgt := 128) dX6_hoursCalled_112 rfl (fun c112 => ?_) (fun c112 => ?_)
        · skip
          refine z_iload hZ (pc := 128) dX6_hoursCalled_128 rfl ?_
          refine zr_i hZ (pc := 130) dX6_hoursCalled_130 FitR.int ?_
          exact ⟨rfl, rfl, by rw [hf9, if_neg c112, Nat.add_zero]⟩
        · skip
          refine z_iload hZ (pc := 115) dX6_hoursCalled_115 rfl ?_
          refine z_iload hZ (pc := 117) dX6_hoursCalled_117 rfl ?_
          refine z_iadd hZ (pc := 119) dX6_hoursCalled_119 ?_
          refine z_iconst hZ (pc := 120) (v := 1) dX6_hoursCalled_120 (by decide) ?_
          refine z_iadd hZ (pc := 121) dX6_hoursCalled_121 ?_
          refine z_iload hZ (pc := 122) dX6_hoursCalled_122 rfl ?_
          refine z_isub hZ (pc := 124) dX6_hoursCalled_124 ?_
          refine z_goto hZ (pc := 125) (tgt := 130) dX6_hoursCalled_125 rfl ?_
          refine zr_i hZ (pc := 130) dX6_hoursCalled_130 FitR.int ?_
          exact ⟨rfl, rfl, by rw [hf9, if_pos c112, nI_add, nI_1, pk_sub (by omega)]; congr 3; omega⟩
      · skip
        have hl : i < n := lp_lt hn (by omega) hi c18
        obtain ⟨W, hW, eW⟩ := hwN i hl
        refine z_aload_n hZ (pc := 21) dX6_hoursCalled_21 rfl ?_
        refine z_iload hZ (pc := 22) dX6_hoursCalled_22 rfl ?_
        refine z_iconst hZ (pc := 24) (v := 2) dX6_hoursCalled_24 (by decide) ?_
        refine cV_i hZ (pc := 25) dX6_hoursCalled_25 lk_X6_55 mn_X6_tearsNumber mv_X6_tearsNumber (c_X6_tn (i := i) (j := 2) (by omega) (by decide)) rc_3 rfl rfl (Nat.le_of_ble_eq_true rfl) (by decide) (by decide) (Nat.zero_le _) (Nat.zero_le _) ?_
        rw [eW]
        refine q_istore_11_9 hZ (pc := 28) dX6_hoursCalled_28 rfl ?_
        refine z_iload hZ (pc := 30) dX6_hoursCalled_30 rfl ?_
        refine z_iload hZ (pc := 32) dX6_hoursCalled_32 rfl ?_
        refine z_icmp_le hZ (pc := 34) (tgt := 40) dX6_hoursCalled_34 rfl (fun c34 => ?_) (fun c34 => ?_)
        · skip
          have hWB : W ≤ B := (nI_leI (a := W) (b := B) (by omega) (by omega)).mp c34
          refine z_aload_n hZ (pc := 40) dX6_hoursCalled_40 rfl ?_
          refine z_iload hZ (pc := 41) dX6_hoursCalled_41 rfl ?_
          refine z_iconst hZ (pc := 43) (v := 1) dX6_hoursCalled_43 (by decide) ?_
          refine cV_i hZ (pc := 44) dX6_hoursCalled_44 lk_X6_55 mn_X6_tearsNumber mv_X6_tearsNumber (c_X6_tn (i := i) (j := 1) (by omega) (by decide)) rc_3 rfl rfl (Nat.le_of_ble_eq_true rfl) (by decide) (by decide) (Nat.zero_le _) (Nat.zero_le _) ?_
          refine z_iload_n hZ (pc := 47) dX6_hoursCalled_47 rfl ?_
          refine z_icmp_ne hZ (pc := 48) (tgt := 103) dX6_hoursCalled_48 rfl (fun c48 => ?_) (fun c48 => ?_)
          · skip
            refine q_iinc_11_8 hZ (pc := 103) dX6_hoursCalled_103 rfl ?_
            refine z_goto hZ (pc := 106) (tgt := 12) dX6_hoursCalled_106 rfl ?_
            exact z_back hZ (ih (i + 1) S (by omega) (by omega) hAS hSB (lt_s hS (fun _ q2 => absurd q2 c48)) (hSA.imp_right (fun q t h1 h3 => q t (by omega) h3))) rfl ⟨rfl, rfl, rfl, rfl, rfl, rfl, zi (by rw [lastC_s0 (co := T5 g 5) (fr := T5 g 1) (fun z => c48 z.2)]), rfl, zi (nI_inc i), trivial⟩
          · skip
            refine z_aload_n hZ (pc := 51) dX6_hoursCalled_51 rfl ?_
            refine z_iload hZ (pc := 52) dX6_hoursCalled_52 rfl ?_
            refine z_iconst hZ (pc := 54) (v := 5) dX6_hoursCalled_54 (by decide) ?_
            refine cV_i hZ (pc := 55) dX6_hoursCalled_55 lk_X6_55 mn_X6_tearsNumber mv_X6_tearsNumber (c_X6_tn (i := i) (j := 5) (by omega) (by decide)) rc_3 rfl rfl (Nat.le_of_ble_eq_true rfl) (by decide) (by decide) (Nat.zero_le _) (Nat.zero_le _) ?_
            refine z_iconst hZ (pc := 58) (v := 1) dX6_hoursCalled_58 (by decide) ?_
            refine z_icmp_ne hZ (pc := 59) (tgt := 103) dX6_hoursCalled_59 rfl (fun c59 => ?_) (fun c59 => ?_)
            · skip
              refine q_iinc_11_8 hZ (pc := 103) dX6_hoursCalled_103 rfl ?_
              refine z_goto hZ (pc := 106) (tgt := 12) dX6_hoursCalled_106 rfl ?_
              exact z_back hZ (ih (i + 1) S (by omega) (by omega) hAS hSB (lt_s hS (fun q1 _ => absurd q1 c59)) (hSA.imp_right (fun q t h1 h3 => q t (by omega) h3))) rfl ⟨rfl, rfl, rfl, rfl, rfl, rfl, zi (by rw [lastC_s0 (co := T5 g 5) (fr := T5 g 1) (fun z => c59 z.1)]), rfl, zi (nI_inc i), trivial⟩
            · skip
              refine z_iload hZ (pc := 62) dX6_hoursCalled_62 rfl ?_
              refine z_iload_n hZ (pc := 64) dX6_hoursCalled_64 rfl ?_
              refine z_max hZ (pc := 65) dX6_hoursCalled_65 (List.mem_of_getElem? (i := 1113) (by decide +kernel)) (List.mem_of_getElem? (i := 1066) (by decide +kernel)) (List.mem_of_getElem? (i := 135) (by decide +kernel)) (List.mem_of_getElem? (i := 1067) (by decide +kernel)) (Nat.le_of_ble_eq_true rfl) (by decide) (Nat.zero_le _) (Nat.zero_le _) ?_
              refine z_top (y := nI (max W A)) (nI_max W A (by omega) (by omega)) ?_
              have hSU : S ≤ max W A := by
                rcases hSA with q | q
                · omega
                · have := (nI_leI (a := S) (b := W) (by omega) (by omega)).mp (eW ▸ q i (Nat.le_refl _) hl)
                  omega
              have hstep : hoursN (fun q => nm2 (T5 g 0) (cbS (T5 g 5) (T5 g 1) (T5 g 2) h (nI q) n)) p A (max W A - A) = hoursN (fun q => nm2 (T5 g 0) (cbS (T5 g 5) (T5 g 1) (T5 g 2) h (nI q) n)) p A (S - A) + (if nm2 (T5 g 0) (lastC (T5 g 5) (T5 g 1) h i) = p then max W A - S else 0) := by
                refine hoursN_const hAS hSU (fun q h1 h3 => ?_)
                show nm2 (T5 g 0) (cbS (T5 g 5) (T5 g 1) (T5 g 2) h (nI q) n) = _
                rw [cbS_stop hi (fun t h4 h5 => Int32.lt_of_lt_of_le (by rw [eW]; exact nI_lt (by omega) (by omega)) (hso i t h4 h5)), cbS_sel (fun t ht h4 h5 => Int32.le_trans (hS t ht h4 h5) (nI_le h1 (by omega)))]
              refine q_istore_11_10 hZ (pc := 68) dX6_hoursCalled_68 rfl ?_
              refine z_iload hZ (pc := 70) dX6_hoursCalled_70 rfl ?_
              refine z_iload hZ (pc := 72) dX6_hoursCalled_72 rfl ?_
              refine z_iload_n hZ (pc := 74) dX6_hoursCalled_74 rfl ?_
              refine z_icmp_ne hZ (pc := 75) (tgt := 86) dX6_hoursCalled_75 rfl (fun c75 => ?_) (fun c75 => ?_)
              · skip
                refine z_iconst hZ (pc := 86) (v := 0) dX6_hoursCalled_86 (by decide) ?_
                refine z_iadd hZ (pc := 87) dX6_hoursCalled_87 ?_
                refine q_istore_11_5 hZ (pc := 88) dX6_hoursCalled_88 rfl ?_
                refine z_aload_n hZ (pc := 90) dX6_hoursCalled_90 rfl ?_
                refine z_iload hZ (pc := 91) dX6_hoursCalled_91 rfl ?_
                refine z_iconst hZ (pc := 93) (v := 0) dX6_hoursCalled_93 (by decide) ?_
                refine cV_i hZ (pc := 94) dX6_hoursCalled_94 lk_X6_55 mn_X6_tearsNumber mv_X6_tearsNumber (c_X6_tn (i := i) (j := 0) (by omega) (by decide)) rc_3 rfl rfl (Nat.le_of_ble_eq_true rfl) (by decide) (by decide) (Nat.zero_le _) (Nat.zero_le _) ?_
                refine q_istore_11_6 hZ (pc := 97) dX6_hoursCalled_97 rfl ?_
                refine z_iload hZ (pc := 99) dX6_hoursCalled_99 rfl ?_
                refine q_istore_11_7 hZ (pc := 101) dX6_hoursCalled_101 rfl ?_
                refine q_iinc_11_8 hZ (pc := 103) dX6_hoursCalled_103 rfl ?_
                refine z_goto hZ (pc := 106) (tgt := 12) dX6_hoursCalled_106 rfl ?_
                exact z_back hZ (ih (i + 1) (max W A) (by omega) (by omega) (by omega) (by omega) (lt_s (fun t ht q1 q2 => Int32.le_trans (hS t ht q1 q2) (nI_le hSU (by omega))) (fun _ _ => by rw [eW]; exact nI_le (by omega) (by omega))) (by
                  rcases Nat.le_total W A with q | q
                  · exact Or.inl (by omega)
                  · exact Or.inr (fun t h1 h3 => Int32.le_trans (by rw [eW]; exact nI_le (by omega) (by omega)) (hso i t (by omega) h3)))) rfl ⟨rfl, rfl, rfl, rfl, rfl, zi (by rw [hstep, if_neg c75, Nat.add_zero]; simp), zi (by rw [lastC_s1 c59 c48, nm2_nI (by omega)]), rfl, zi (nI_inc i), trivial⟩
              · skip
                refine z_iload hZ (pc := 78) dX6_hoursCalled_78 rfl ?_
                refine z_iload hZ (pc := 80) dX6_hoursCalled_80 rfl ?_
                refine z_isub hZ (pc := 82) dX6_hoursCalled_82 ?_
                refine z_goto hZ (pc := 83) (tgt := 87) dX6_hoursCalled_83 rfl ?_
                refine z_iadd hZ (pc := 87) dX6_hoursCalled_87 ?_
                refine q_istore_11_5 hZ (pc := 88) dX6_hoursCalled_88 rfl ?_
                refine z_aload_n hZ (pc := 90) dX6_hoursCalled_90 rfl ?_
                refine z_iload hZ (pc := 91) dX6_hoursCalled_91 rfl ?_
                refine z_iconst hZ (pc := 93) (v := 0) dX6_hoursCalled_93 (by decide) ?_
                refine cV_i hZ (pc := 94) dX6_hoursCalled_94 lk_X6_55 mn_X6_tearsNumber mv_X6_tearsNumber (c_X6_tn (i := i) (j := 0) (by omega) (by decide)) rc_3 rfl rfl (Nat.le_of_ble_eq_true rfl) (by decide) (by decide) (Nat.zero_le _) (Nat.zero_le _) ?_
                refine q_istore_11_6 hZ (pc := 97) dX6_hoursCalled_97 rfl ?_
                refine z_iload hZ (pc := 99) dX6_hoursCalled_99 rfl ?_
                refine q_istore_11_7 hZ (pc := 101) dX6_hoursCalled_101 rfl ?_
                refine q_iinc_11_8 hZ (pc := 103) dX6_hoursCalled_103 rfl ?_
                refine z_goto hZ (pc := 106) (tgt := 12) dX6_hoursCalled_106 rfl ?_
                exact z_back hZ (ih (i + 1) (max W A) (by omega) (by omega) (by omega) (by omega) (lt_s (fun t ht q1 q2 => Int32.le_trans (hS t ht q1 q2) (nI_le hSU (by omega))) (fun _ _ => by rw [eW]; exact nI_le (by omega) (by omega))) (by
                  rcases Nat.le_total W A with q | q
                  · exact Or.inl (by omega)
                  · exact Or.inr (fun t h1 h3 => Int32.le_trans (by rw [eW]; exact nI_le (by omega) (by omega)) (hso i t (by omega) h3)))) rfl ⟨rfl, rfl, rfl, rfl, rfl, zi (by rw [hstep, if_pos c75, pk_sub hSU, nI_add]), zi (by rw [lastC_s1 c59 c48, nm2_nI (by omega)]), rfl, zi (nI_inc i), trivial⟩
        · skip
          refine z_goto hZ (pc := 37) (tgt := 109) dX6_hoursCalled_37 rfl ?_
          have hf9 := hfin i S hi hAS hSB hS (fun q hq t h1 h3 => Int32.lt_of_lt_of_le (by rw [eW]; exact Int32.lt_of_le_of_lt (nI_le hq (by omega)) (Int32.not_le.mp c34)) (hso i t h1 h3))
          refine z_iload hZ (pc := 109) dX6_hoursCalled_109 rfl ?_
          refine z_iload_n hZ (pc := 111) dX6_hoursCalled_111 rfl ?_
          refine z_icmp_ne hZ (pc := 112) (tgt := 128) dX6_hoursCalled_112 rfl (fun c112 => ?_) (fun c112 => ?_)
          · skip
            refine z_iload hZ (pc := 128) dX6_hoursCalled_128 rfl ?_
            refine zr_i hZ (pc := 130) dX6_hoursCalled_130 FitR.int ?_
            exact ⟨rfl, rfl, by rw [hf9, if_neg c112, Nat.add_zero]⟩
          · skip
            refine z_iload hZ (pc := 115) dX6_hoursCalled_115 rfl ?_
            refine z_iload hZ (pc := 117) dX6_hoursCalled_117 rfl ?_
            refine z_iadd hZ (pc := 119) dX6_hoursCalled_119 ?_
            refine z_iconst hZ (pc := 120) (v := 1) dX6_hoursCalled_120 (by decide) ?_
            refine z_iadd hZ (pc := 121) dX6_hoursCalled_121 ?_
            refine z_iload hZ (pc := 122) dX6_hoursCalled_122 rfl ?_
            refine z_isub hZ (pc := 124) dX6_hoursCalled_124 ?_
            refine z_goto hZ (pc := 125) (tgt := 130) dX6_hoursCalled_125 rfl ?_
            refine zr_i hZ (pc := 130) dX6_hoursCalled_130 FitR.int ?_
            exact ⟨rfl, rfl, by rw [hf9, if_pos c112, nI_add, nI_1, pk_sub (by omega)]; congr 3; omega⟩
  exact z_back hZ (lp12 (n + 1) 0 A (Nat.zero_le _) (by omega) (Nat.le_refl _) hAB (fun t ht => absurd ht (by omega)) (Or.inl rfl)) rfl ⟨rfl, rfl, rfl, rfl, rfl, zi (by rw [Nat.sub_self]; rfl), rfl, rfl, rfl, trivial⟩
/-- the first n of a row, laid over another -/
def cpyf (n : Nat) (f h : Nat → Int32) : Nat → Int32 := fun k => if k < n then f k else h k
theorem va_cpy_0 (n : Nat) (f h : Nat → Int32) : va_cpy f h 0 0 n = cpyf n f h := by
  funext k
  simp [va_cpy, cpyf]
section ZCp
variable {l : Launch} {D : va_G} {cA : Nat → ClassId} {own : String} {cc : ByteArray} {nl k mc ms : Nat} {E : Nat → Nat → va_W → Option Value → Prop} {X : Nat → Nat → va_W → String → Prop} {Z : ZT} {u w pc : Nat} {L : List (Option Value)} {st : List Value} {o a : Nat → Nat} {v : ZV} {g : ZG}
theorem z_copyC (hZ : ZR l D cA own cc nl k mc ms E X Z) {idx i j n : Nat} (hi : i < 41) (hj : j < 41) (hni : n ≤ lenC i) (hnj : n ≤ lenC j) (d : decode cc pc = .ok (.invokestatic idx, 3)) (hl : Cond.methodLink own idx arraycopyName ∈ lw_tbl) (h1 : Cond.native arraycopyName ∈ lw_tbl) (h2 : Cond.static arraycopyName ∈ lw_tbl) (h3 : Cond.initialized "java/lang/System" ∈ lw_tbl) (h8 : (st.map fun v => v.category).sum ≤ 8) (hk : 2 ≤ k)
    (kk : Z u w (WC o a cA v (va_up g j (cpyf n (g i) (g j)))) L st (pc + 3)) : Z u w (WC o a cA v g) L (.int (nI n) :: .int 0 :: .ref (a j) :: .int 0 :: .ref (a i) :: st) pc := by
  obtain ⟨p, e, s, m, args, below, meth, c, A, Q, ⟨hx, hb, hnl, hown, hev, hK, hA⟩, g1, g2, g3, rfl⟩ := hZ
  intro H locs ls hP hD hS hl0
  have hn31 : n < 2 ^ 31 := Nat.lt_of_le_of_lt hni (lenC_lt i hi)
  have ec : (nI n).toNatClampNeg = n := nI_clamp hn31
  have e0 : (0 : Int32).toNatClampNeg = 0 := rfl
  have hnf : nativeFrameWords "java/lang/System" "arraycopy" 5 ≤ 30 := by decide +kernel
  refine va_copyi (q0 := 13 + i) (q1 := 13 + j) (t0 := 0) (t1 := 0) (ty := .int) (sp := 0) (dp := 0) (n := nI n) hx hb (by rw [hnl]; exact hl0.1.symm) hown (hev.use hl rfl args) (hev.use h1 rfl args) (hev.use h2 rfl args) (hev.use h3 rfl args) hK hP hD hS (WCa_at hi) (WCa_at hj) rfl rfl rfl (by decide) (by decide) (nI_pos hn31) (by rw [ec, e0]; omega) (by rw [ec, e0]; omega) (fun _ _ => rfl) (by show 1 ≤ k; omega) (by simp only [RM]; omega) d (fun H1 locs1 hP1 hD1 hS1 => ?_)
  rw [ec, e0, va_cpy_0, WCa_set hj] at hP1 hD1
  exact kk H1 locs1 ls hP1 hD1 hS1 hl0
end ZCp
theorem c_X10_copyRow {l : Launch} {D : va_G} {cA : Nat → ClassId} {o a : Nat → Nat} {v : ZV} {g : ZG} {i j : Nat} (hi : i < 41) (hj : j < 41) (hij : lenC i = lenC j) : MG l D cA (WC o a cA) yX10_copyRow cX10_copyRow 2 none 2 [(.ref (a i)), (.ref (a j))] v g (PF v (va_up g j (cpyf (lenC i) (g i) (g j))) (none)) := by
  refine MG.of (by decide) rfl (Nat.le_of_ble_eq_true rfl) (by simp [Value.category]) (fun Z hZ => ?_)
  refine z_aload_n hZ (pc := 0) dX10_copyRow_0 rfl ?_
  refine z_iconst hZ (pc := 1) (v := 0) dX10_copyRow_1 (by decide) ?_
  refine z_aload_n hZ (pc := 2) dX10_copyRow_2 rfl ?_
  refine z_iconst hZ (pc := 3) (v := 0) dX10_copyRow_3 (by decide) ?_
  refine z_aload_n hZ (pc := 4) dX10_copyRow_4 rfl ?_
  skip
  refine nC hZ (pc := 5) hi dX10_copyRow_5 ?_
  refine z_aload_n hZ (pc := 6) dX10_copyRow_6 rfl ?_
  refine nC hZ (pc := 7) hj dX10_copyRow_7 ?_
  refine z_min hZ (pc := 8) dX10_copyRow_8 (List.mem_of_getElem? (i := 499) (by decide +kernel)) (List.mem_of_getElem? (i := 500) (by decide +kernel)) (List.mem_of_getElem? (i := 135) (by decide +kernel)) (List.mem_of_getElem? (i := 501) (by decide +kernel)) (Nat.le_of_ble_eq_true rfl) (by decide) (Nat.zero_le _) (Nat.zero_le _) ?_
  refine z_top (y := nI (lenC i)) (by rw [hij]; split <;> rfl) ?_
  refine z_copyC hZ (pc := 11) (i := i) (j := j) (n := lenC i) hi hj (Nat.le_refl _) (Nat.le_of_eq hij) dX10_copyRow_11 (List.mem_of_getElem? (i := 502) (by decide +kernel)) (List.mem_of_getElem? (i := 504) (by decide +kernel)) (List.mem_of_getElem? (i := 503) (by decide +kernel)) (List.mem_of_getElem? (i := 136) (by decide +kernel)) (Nat.le_of_ble_eq_true rfl) (by decide) ?_
  refine zr_v hZ (pc := 14) dX10_copyRow_14 ?_
  exact ⟨rfl, rfl, rfl⟩
