/-- the class's code, as the reference lays it -/
def trE (c : Int32) : Int32 := if -8 < c then c else if c = -8 then -28 else if c = -9 then -27 else if c = -10 then -26 else if c = -11 then -24 else if c = -12 then -25 else if c = -13 then -20 else if c = -14 then -21 else if c = -15 then -22 else -23
def reckS (s a b : Int32) : Int32 := if s = -20 then a + b else if s = -21 then a - b else if s = -22 then a * b else if s = -23 then (if b = 0 then 0 else a / b) else if s = -24 then bI (decide (a < b)) else if s = -25 then bI (decide (a = b)) else if s = -26 then bI (decide (a ≠ 0) && decide (b ≠ 0)) else bI (decide (a ≠ 0) || decide (b ≠ 0))
theorem code_two {c : Int32} (h1 : -17 < c) (h2 : c < -8) : c = -9 ∨ c = -10 ∨ c = -11 ∨ c = -12 ∨ c = -13 ∨ c = -14 ∨ c = -15 ∨ c = -16 := by
  have a1 : -17 < c.toInt := Int32.lt_iff_toInt_lt.mp h1
  have a2 : c.toInt < -8 := Int32.lt_iff_toInt_lt.mp h2
  have e : c.toInt = -9 ∨ c.toInt = -10 ∨ c.toInt = -11 ∨ c.toInt = -12 ∨ c.toInt = -13 ∨ c.toInt = -14 ∨ c.toInt = -15 ∨ c.toInt = -16 := by omega
  rcases e with e | e | e | e | e | e | e | e
  · exact Or.inl (Int32.toInt_inj.mp e)
  · exact Or.inr (Or.inl (Int32.toInt_inj.mp e))
  · exact Or.inr (Or.inr (Or.inl (Int32.toInt_inj.mp e)))
  · exact Or.inr (Or.inr (Or.inr (Or.inl (Int32.toInt_inj.mp e))))
  · exact Or.inr (Or.inr (Or.inr (Or.inr (Or.inl (Int32.toInt_inj.mp e)))))
  · exact Or.inr (Or.inr (Or.inr (Or.inr (Or.inr (Or.inl (Int32.toInt_inj.mp e))))))
  · exact Or.inr (Or.inr (Or.inr (Or.inr (Or.inr (Or.inr (Or.inl (Int32.toInt_inj.mp e)))))))
  · exact Or.inr (Or.inr (Or.inr (Or.inr (Or.inr (Or.inr (Or.inr (Int32.toInt_inj.mp e)))))))
theorem reck_tr {c a b : Int32} (h1 : -17 < c) (h2 : c < -8) : reckS (trE c) a b = joinS c a b := by
  rcases code_two h1 h2 with e | e | e | e | e | e | e | e <;> (subst e; rfl)
theorem tr_push {c : Int32} (h : -8 < c) : trE c = c := by rw [trE, if_pos h]
theorem tr_two {c : Int32} (h1 : -17 < c) (h2 : c < -8) : trE c ≤ -20 ∧ ¬ trE c = -28 := by
  rcases code_two h1 h2 with e | e | e | e | e | e | e | e <;> (subst e; decide)
/-- an EXPR as the reference's row of signs holds it -/
def CodeM (signs : Nat → Int32) (ops : Nat → Int32) (m b : Nat) : Prop := b + m ≤ 700 ∧ (∀ i, i < m → signs (b + i) = trE (ops i)) ∧ wfE ops m
theorem c_X11_reckon {l : Launch} {D : va_G} {cA : Nat → ClassId} {r : Nat} {a : Nat → Nat} {s0 s1 : Nat → Option Nat} {v : ZV} {g : ZG} {s x y : Int32}  : MG l D cA (WM r a cA s0 s1) yX11_reckon cX11_reckon 3 (some .int) 0 [.int s, .int x, .int y] v g (PF v g (some (.int (reckS s x y)))) := by
  refine MG.of (by decide) rfl (Nat.le_of_ble_eq_true rfl) (by simp [Value.category]) (fun Z hZ => ?_)
  refine z_iload_n hZ (pc := 0) dX11_reckon_0 rfl ?_
  by_cases s1_0 : s = (-26)
  · subst s1_0
    refine z_swIn hZ (pc := 1) (off := 89) (tgt := 90) dX11_reckon_1 (by decide) (by decide) (by decide) rfl ?_
    refine z_iload_n hZ (pc := 90) dX11_reckon_90 rfl ?_
    refine z_if_eq hZ (pc := 91) (tgt := 102) dX11_reckon_91 rfl (fun c91 => ?_) (fun c91 => ?_)
    · skip
      refine z_iconst hZ (pc := 102) (v := 0) dX11_reckon_102 (by decide) ?_
      refine zr_i hZ (pc := 103) dX11_reckon_103 FitR.int ?_
      exact ⟨rfl, rfl, by simp [reckS, bI, c91]⟩
    · skip
      refine z_iload_n hZ (pc := 94) dX11_reckon_94 rfl ?_
      refine z_if_eq hZ (pc := 95) (tgt := 102) dX11_reckon_95 rfl (fun c95 => ?_) (fun c95 => ?_)
      · skip
        refine z_iconst hZ (pc := 102) (v := 0) dX11_reckon_102 (by decide) ?_
        refine zr_i hZ (pc := 103) dX11_reckon_103 FitR.int ?_
        exact ⟨rfl, rfl, by simp [reckS, bI, c91, c95]⟩
      · skip
        refine z_iconst hZ (pc := 98) (v := 1) dX11_reckon_98 (by decide) ?_
        refine z_goto hZ (pc := 99) (tgt := 103) dX11_reckon_99 rfl ?_
        refine zr_i hZ (pc := 103) dX11_reckon_103 FitR.int ?_
        exact ⟨rfl, rfl, by simp [reckS, bI, c91, c95]⟩
  by_cases s1_1 : s = (-25)
  · subst s1_1
    refine z_swIn hZ (pc := 1) (off := 78) (tgt := 79) dX11_reckon_1 (by decide) (by decide) (by decide) rfl ?_
    refine z_iload_n hZ (pc := 79) dX11_reckon_79 rfl ?_
    refine z_iload_n hZ (pc := 80) dX11_reckon_80 rfl ?_
    refine z_icmp_ne hZ (pc := 81) (tgt := 88) dX11_reckon_81 rfl (fun c81 => ?_) (fun c81 => ?_)
    · skip
      refine z_iconst hZ (pc := 88) (v := 0) dX11_reckon_88 (by decide) ?_
      refine zr_i hZ (pc := 89) dX11_reckon_89 FitR.int ?_
      exact ⟨rfl, rfl, by simp [reckS, bI, c81]⟩
    · skip
      refine z_iconst hZ (pc := 84) (v := 1) dX11_reckon_84 (by decide) ?_
      refine z_goto hZ (pc := 85) (tgt := 89) dX11_reckon_85 rfl ?_
      refine zr_i hZ (pc := 89) dX11_reckon_89 FitR.int ?_
      exact ⟨rfl, rfl, by simp [reckS, bI, c81]⟩
  by_cases s1_2 : s = (-24)
  · subst s1_2
    refine z_swIn hZ (pc := 1) (off := 67) (tgt := 68) dX11_reckon_1 (by decide) (by decide) (by decide) rfl ?_
    refine z_iload_n hZ (pc := 68) dX11_reckon_68 rfl ?_
    refine z_iload_n hZ (pc := 69) dX11_reckon_69 rfl ?_
    refine z_icmp_ge hZ (pc := 70) (tgt := 77) dX11_reckon_70 rfl (fun c70 => ?_) (fun c70 => ?_)
    · skip
      refine z_iconst hZ (pc := 77) (v := 0) dX11_reckon_77 (by decide) ?_
      refine zr_i hZ (pc := 78) dX11_reckon_78 FitR.int ?_
      exact ⟨rfl, rfl, by simp [reckS, bI]; exact c70⟩
    · skip
      refine z_iconst hZ (pc := 73) (v := 1) dX11_reckon_73 (by decide) ?_
      refine z_goto hZ (pc := 74) (tgt := 78) dX11_reckon_74 rfl ?_
      refine zr_i hZ (pc := 78) dX11_reckon_78 FitR.int ?_
      exact ⟨rfl, rfl, by simp [reckS, bI]; exact Int32.not_le.mp c70⟩
  by_cases s1_3 : s = (-23)
  · subst s1_3
    refine z_swIn hZ (pc := 1) (off := 55) (tgt := 56) dX11_reckon_1 (by decide) (by decide) (by decide) rfl ?_
    refine z_iload_n hZ (pc := 56) dX11_reckon_56 rfl ?_
    refine z_if_ne hZ (pc := 57) (tgt := 64) dX11_reckon_57 rfl (fun c57 => ?_) (fun c57 => ?_)
    · skip
      refine z_iload_n hZ (pc := 64) dX11_reckon_64 rfl ?_
      refine z_iload_n hZ (pc := 65) dX11_reckon_65 rfl ?_
      refine z_idiv hZ (pc := 66) dX11_reckon_66 c57 ?_
      refine zr_i hZ (pc := 67) dX11_reckon_67 FitR.int ?_
      exact ⟨rfl, rfl, by simp [reckS, c57]⟩
    · skip
      refine z_iconst hZ (pc := 60) (v := 0) dX11_reckon_60 (by decide) ?_
      refine z_goto hZ (pc := 61) (tgt := 67) dX11_reckon_61 rfl ?_
      refine zr_i hZ (pc := 67) dX11_reckon_67 FitR.int ?_
      exact ⟨rfl, rfl, by simp [reckS, c57]⟩
  by_cases s1_4 : s = (-22)
  · subst s1_4
    refine z_swIn hZ (pc := 1) (off := 51) (tgt := 52) dX11_reckon_1 (by decide) (by decide) (by decide) rfl ?_
    refine z_iload_n hZ (pc := 52) dX11_reckon_52 rfl ?_
    refine z_iload_n hZ (pc := 53) dX11_reckon_53 rfl ?_
    refine z_imul hZ (pc := 54) dX11_reckon_54 ?_
    refine zr_i hZ (pc := 55) dX11_reckon_55 FitR.int ?_
    exact ⟨rfl, rfl, by simp [reckS]⟩
  by_cases s1_5 : s = (-21)
  · subst s1_5
    refine z_swIn hZ (pc := 1) (off := 47) (tgt := 48) dX11_reckon_1 (by decide) (by decide) (by decide) rfl ?_
    refine z_iload_n hZ (pc := 48) dX11_reckon_48 rfl ?_
    refine z_iload_n hZ (pc := 49) dX11_reckon_49 rfl ?_
    refine z_isub hZ (pc := 50) dX11_reckon_50 ?_
    refine zr_i hZ (pc := 51) dX11_reckon_51 FitR.int ?_
    exact ⟨rfl, rfl, by simp [reckS]⟩
  by_cases s1_6 : s = (-20)
  · subst s1_6
    refine z_swIn hZ (pc := 1) (off := 43) (tgt := 44) dX11_reckon_1 (by decide) (by decide) (by decide) rfl ?_
    refine z_iload_n hZ (pc := 44) dX11_reckon_44 rfl ?_
    refine z_iload_n hZ (pc := 45) dX11_reckon_45 rfl ?_
    refine z_iadd hZ (pc := 46) dX11_reckon_46 ?_
    refine zr_i hZ (pc := 47) dX11_reckon_47 FitR.int ?_
    exact ⟨rfl, rfl, by simp [reckS]⟩
  have hout1 : s.toInt < -26 ∨ -20 < s.toInt := by
    have q0 := lv_neT s1_0 (a := -26) (by decide)
    have q1 := lv_neT s1_1 (a := -25) (by decide)
    have q2 := lv_neT s1_2 (a := -24) (by decide)
    have q3 := lv_neT s1_3 (a := -23) (by decide)
    have q4 := lv_neT s1_4 (a := -22) (by decide)
    have q5 := lv_neT s1_5 (a := -21) (by decide)
    have q6 := lv_neT s1_6 (a := -20) (by decide)
    omega
  refine z_swOut hZ (pc := 1) (tgt := 104) dX11_reckon_1 hout1 rfl ?_
  refine z_iload_n hZ (pc := 104) dX11_reckon_104 rfl ?_
  refine z_if_ne hZ (pc := 105) (tgt := 112) dX11_reckon_105 rfl (fun c105 => ?_) (fun c105 => ?_)
  · skip
    refine z_iconst hZ (pc := 112) (v := 1) dX11_reckon_112 (by decide) ?_
    refine z_goto hZ (pc := 113) (tgt := 117) dX11_reckon_113 rfl ?_
    refine zr_i hZ (pc := 117) dX11_reckon_117 FitR.int ?_
    exact ⟨rfl, rfl, by rw [reckS]; simp only [*, if_false]; simp [bI, c105]⟩
  · skip
    refine z_iload_n hZ (pc := 108) dX11_reckon_108 rfl ?_
    refine z_if_eq hZ (pc := 109) (tgt := 116) dX11_reckon_109 rfl (fun c109 => ?_) (fun c109 => ?_)
    · skip
      refine z_iconst hZ (pc := 116) (v := 0) dX11_reckon_116 (by decide) ?_
      refine zr_i hZ (pc := 117) dX11_reckon_117 FitR.int ?_
      exact ⟨rfl, rfl, by rw [reckS]; simp only [*, if_false]; simp [bI]⟩
    · skip
      refine z_iconst hZ (pc := 112) (v := 1) dX11_reckon_112 (by decide) ?_
      refine z_goto hZ (pc := 113) (tgt := 117) dX11_reckon_113 rfl ?_
      refine zr_i hZ (pc := 117) dX11_reckon_117 FitR.int ?_
      exact ⟨rfl, rfl, by rw [reckS]; simp only [*, if_false]; simp [bI, c109]⟩
theorem c_X11_isTrue {l : Launch} {D : va_G} {cA : Nat → ClassId} {r : Nat} {a : Nat → Nat} {s0 s1 : Nat → Option Nat} {v : ZV} {g : ZG} {e m b : Nat} {ops : Nat → Int32} (he : e < 10) (hb : g 8 e = nI b) (hf9 : g 9 e = nI (b + m)) (hC : CodeM (g 10) ops m b) : MG l D cA (WM r a cA s0 s1) yX11_isTrue cX11_isTrue 5 (some .boolean) 1 [(.ref r), .int (nI e)] v g (fun v2 g2 r => v2 = v ∧ (∀ j, j ≠ 37 → g2 j = g j) ∧ r = some (.int (bI (decide (exprS (g 36) ops m ≠ 0))))) := by
  refine MG.of (by decide) rfl (Nat.le_of_ble_eq_true rfl) (by simp [Value.category]) (fun Z hZ => ?_)
  obtain ⟨hbm, hop, hwf⟩ := id hC
  have hu : ∀ i : Nat, va_up g 37 (rwE (g 36) ops (g 37) i) 37 = rwE (g 36) ops (g 37) i := fun i => up_at
  refine z_iconst hZ (pc := 0) (v := 0) dX11_isTrue_0 (by decide) ?_
  refine q_istore_n_5_2 hZ (pc := 1) dX11_isTrue_1 rfl ?_
  refine z_aload_n hZ (pc := 2) dX11_isTrue_2 rfl ?_
  refine gM_8 hZ (pc := 3) fl_X11_57 dX11_isTrue_3 ?_
  refine z_iload_n hZ (pc := 6) dX11_isTrue_6 rfl ?_
  refine lMn_8 hZ (pc := 7) dX11_isTrue_7 (by omega) ?_
  refine q_istore_n_5_3 hZ (pc := 8) dX11_isTrue_8 rfl ?_
  have lp9 : ∀ f i : Nat, i ≤ m → m - i < f → Z 0 0 (WM r a cA s0 s1 v (va_up g 37 (rwE (g 36) ops (g 37) i))) [some (.ref r), some (.int (nI e)), some (.int (nI (htE ops i))), some (.int (nI (b + i))), none] [] 9 := by
    intro f
    induction f with
    | zero => intro i _ hf; exact absurd hf (Nat.not_lt_zero _)
    | succ f ih =>
      intro i hi hf
      refine z_iload_n hZ (pc := 9) dX11_isTrue_9 rfl ?_
      refine z_aload_n hZ (pc := 10) dX11_isTrue_10 rfl ?_
      refine gM_9 hZ (pc := 11) fl_X11_60 dX11_isTrue_11 ?_
      refine z_iload_n hZ (pc := 14) dX11_isTrue_14 rfl ?_
      refine lMn_9 hZ (pc := 15) dX11_isTrue_15 (by omega) ?_
      refine z_st (st' := [.int (nI (b + m)), .int (nI (b + i))]) ?_ (by rw [show va_up g 37 (rwE (g 36) ops (g 37) i) 9 e = g 9 e from rfl, hf9])
      refine z_icmp_ge hZ (pc := 16) (tgt := 135) dX11_isTrue_16 rfl (fun c16 => ?_) (fun c16 => ?_)
      · skip
        have him : i = m := by
          have := (nI_leI (a := b + m) (b := b + i) (by omega) (by omega)).mp c16
          omega
        subst him
        refine z_aload_n hZ (pc := 135) dX11_isTrue_135 rfl ?_
        refine gM_37 hZ (pc := 136) fl_X11_105 dX11_isTrue_136 ?_
        refine z_iconst hZ (pc := 139) (v := 0) dX11_isTrue_139 (by decide) ?_
        refine lMn_37 hZ (pc := 140) (q := 0) dX11_isTrue_140 (by omega) ?_
        refine z_if_eq hZ (pc := 141) (tgt := 148) dX11_isTrue_141 rfl (fun c141 => ?_) (fun c141 => ?_)
        · skip
          refine z_iconst hZ (pc := 148) (v := 0) dX11_isTrue_148 (by decide) ?_
          refine zr_i hZ (pc := 149) dX11_isTrue_149 FitR.b0 ?_
          exact ⟨rfl, fun j hj => up_off hj, by rw [← rwE_expr (f := g 37) hwf]; rw [hu] at c141; simp [c141, bI]⟩
        · skip
          refine z_iconst hZ (pc := 144) (v := 1) dX11_isTrue_144 (by decide) ?_
          refine z_goto hZ (pc := 145) (tgt := 149) dX11_isTrue_145 rfl ?_
          refine zr_i hZ (pc := 149) dX11_isTrue_149 FitR.b1 ?_
          exact ⟨rfl, fun j hj => up_off hj, by rw [← rwE_expr (f := g 37) hwf]; rw [hu] at c141; simp [c141, bI]⟩
      · skip
        have him : i < m := by
          rcases Nat.lt_or_ge i m with h | h
          · exact h
          · exact absurd (nI_le (by omega) (by omega)) c16
        obtain ⟨w1, w2, w3, w4⟩ := hwf.1 i him
        have hht := htE_le hwf i (by omega)
        have eop : va_up g 37 (rwE (g 36) ops (g 37) i) 10 (b + i) = trE (ops i) := hop i him
        refine z_aload_n hZ (pc := 19) dX11_isTrue_19 rfl ?_
        refine gM_10 hZ (pc := 20) fl_X11_63 dX11_isTrue_20 ?_
        refine z_iload_n hZ (pc := 23) dX11_isTrue_23 rfl ?_
        refine lMn_10 hZ (pc := 24) dX11_isTrue_24 (by omega) ?_
        rw [eop]
        refine q_istore_5_4 hZ (pc := 25) dX11_isTrue_25 rfl ?_
        refine z_iload hZ (pc := 27) dX11_isTrue_27 rfl ?_
        refine z_bipush hZ (pc := 29) (v := (-20)) dX11_isTrue_29 (by decide) ?_
        refine z_icmp_le hZ (pc := 31) (tgt := 65) dX11_isTrue_31 rfl (fun c31 => ?_) (fun c31 => ?_)
        · skip
          have c8 : ¬ -8 < ops i := fun h => by rw [tr_push h] at c31; exact absurd (Int32.lt_of_lt_of_le (Int32.lt_trans (by decide : (-20 : Int32) < -8) h) c31) (Int32.lt_irrefl)
          refine z_iload hZ (pc := 65) dX11_isTrue_65 rfl ?_
          refine z_bipush hZ (pc := 67) (v := (-28)) dX11_isTrue_67 (by decide) ?_
          refine z_icmp_ne hZ (pc := 69) (tgt := 99) dX11_isTrue_69 rfl (fun c69 => ?_) (fun c69 => ?_)
          · skip
            have c9 : ops i < -8 := by
              rcases i32_tri (ops i) with h | h | h
              · exact absurd h c8
              · rw [h] at c69; exact absurd rfl c69
              · exact h
            have hp := w4 c9
            obtain ⟨z, hz⟩ : ∃ z, htE ops i = z + 1 := ⟨htE ops i - 1, by omega⟩
            refine q_iinc_5_2 hZ (pc := 99) dX11_isTrue_99 rfl ?_
            refine z_drop hZ (L' := [some (.ref r), some (.int (nI e)), some (.int (nI (htE ops i - 1))), some (.int (nI (b + i))), some (.int (trE (ops i)))]) ⟨rfl, rfl, zi (by rw [hz]; exact nI_dec z), rfl, rfl, trivial⟩ ?_
            refine z_aload_n hZ (pc := 102) dX11_isTrue_102 rfl ?_
            refine gM_37 hZ (pc := 103) fl_X11_105 dX11_isTrue_103 ?_
            refine z_iload_n hZ (pc := 106) dX11_isTrue_106 rfl ?_
            refine z_iconst hZ (pc := 107) (v := 1) dX11_isTrue_107 (by decide) ?_
            refine z_isub hZ (pc := 108) dX11_isTrue_108 ?_
            refine z_top (y := nI (htE ops i - 2)) (by rw [nI_sub1 (by omega)]; rfl) ?_
            refine z_iload hZ (pc := 109) dX11_isTrue_109 rfl ?_
            refine z_aload_n hZ (pc := 111) dX11_isTrue_111 rfl ?_
            refine gM_37 hZ (pc := 112) fl_X11_105 dX11_isTrue_112 ?_
            refine z_iload_n hZ (pc := 115) dX11_isTrue_115 rfl ?_
            refine z_iconst hZ (pc := 116) (v := 1) dX11_isTrue_116 (by decide) ?_
            refine z_isub hZ (pc := 117) dX11_isTrue_117 ?_
            refine z_top (y := nI (htE ops i - 2)) (by rw [nI_sub1 (by omega)]; rfl) ?_
            refine lMn_37 hZ (pc := 118) dX11_isTrue_118 (by omega) ?_
            refine z_aload_n hZ (pc := 119) dX11_isTrue_119 rfl ?_
            refine gM_37 hZ (pc := 120) fl_X11_105 dX11_isTrue_120 ?_
            refine z_iload_n hZ (pc := 123) dX11_isTrue_123 rfl ?_
            refine lMn_37 hZ (pc := 124) dX11_isTrue_124 (by omega) ?_
            refine cS_i hZ (pc := 125) dX11_isTrue_125 lk_X11_318 mn_X11_reckon ms_X11_reckon (c_X11_reckon) rfl rfl (Nat.le_of_ble_eq_true rfl) (by decide) (by decide) (Nat.zero_le _) (Nat.zero_le _) ?_
            refine z_top (by rw [reck_tr w1 c9, hu]) ?_
            refine sMn_37 hZ (pc := 128) dX11_isTrue_128 (by omega) ?_
            refine q_iinc_5_3 hZ (pc := 129) dX11_isTrue_129 rfl ?_
            refine z_goto hZ (pc := 132) (tgt := 9) dX11_isTrue_132 rfl ?_
            exact z_back hZ (ih (i + 1) (by omega) (by omega)) (WM_eq rfl (by rw [up_twice]; exact congrArg _ (by rw [rwE_two c9, hu]))) ⟨rfl, rfl, zi (by rw [htE_two c9]), zi (nI_inc _), trivial⟩
          · skip
            have c9 : ops i = -8 := by
              rcases i32_tri (ops i) with h | h | h
              · exact absurd h c8
              · exact h
              · exact absurd c69 (tr_two w1 h).2
            have hp := w3 c9
            refine z_aload_n hZ (pc := 72) dX11_isTrue_72 rfl ?_
            refine gM_37 hZ (pc := 73) fl_X11_105 dX11_isTrue_73 ?_
            refine z_iload_n hZ (pc := 76) dX11_isTrue_76 rfl ?_
            refine z_iconst hZ (pc := 77) (v := 1) dX11_isTrue_77 (by decide) ?_
            refine z_isub hZ (pc := 78) dX11_isTrue_78 ?_
            refine z_top (y := nI (htE ops i - 1)) (nI_sub1 (by omega)) ?_
            refine z_aload_n hZ (pc := 79) dX11_isTrue_79 rfl ?_
            refine gM_37 hZ (pc := 80) fl_X11_105 dX11_isTrue_80 ?_
            refine z_iload_n hZ (pc := 83) dX11_isTrue_83 rfl ?_
            refine z_iconst hZ (pc := 84) (v := 1) dX11_isTrue_84 (by decide) ?_
            refine z_isub hZ (pc := 85) dX11_isTrue_85 ?_
            refine z_top (y := nI (htE ops i - 1)) (nI_sub1 (by omega)) ?_
            refine lMn_37 hZ (pc := 86) dX11_isTrue_86 (by omega) ?_
            refine z_if_eq hZ (pc := 87) (tgt := 94) dX11_isTrue_87 rfl (fun c87 => ?_) (fun c87 => ?_)
            · skip
              refine z_iconst hZ (pc := 94) (v := 1) dX11_isTrue_94 (by decide) ?_
              refine sMn_37 hZ (pc := 95) dX11_isTrue_95 (by omega) ?_
              refine z_goto hZ (pc := 96) (tgt := 129) dX11_isTrue_96 rfl ?_
              refine q_iinc_5_3 hZ (pc := 129) dX11_isTrue_129 rfl ?_
              refine z_goto hZ (pc := 132) (tgt := 9) dX11_isTrue_132 rfl ?_
              exact z_back hZ (ih (i + 1) (by omega) (by omega)) (WM_eq rfl (by rw [up_twice]; exact congrArg _ (by rw [hu] at c87; rw [rwE_not c9, if_pos c87, hu]))) ⟨rfl, rfl, zi (by rw [htE_not c9]), zi (nI_inc _), trivial⟩
            · skip
              refine z_iconst hZ (pc := 90) (v := 0) dX11_isTrue_90 (by decide) ?_
              refine z_goto hZ (pc := 91) (tgt := 95) dX11_isTrue_91 rfl ?_
              refine sMn_37 hZ (pc := 95) dX11_isTrue_95 (by omega) ?_
              refine z_goto hZ (pc := 96) (tgt := 129) dX11_isTrue_96 rfl ?_
              refine q_iinc_5_3 hZ (pc := 129) dX11_isTrue_129 rfl ?_
              refine z_goto hZ (pc := 132) (tgt := 9) dX11_isTrue_132 rfl ?_
              exact z_back hZ (ih (i + 1) (by omega) (by omega)) (WM_eq rfl (by rw [up_twice]; exact congrArg _ (by rw [hu] at c87; rw [rwE_not c9, if_neg c87, hu]))) ⟨rfl, rfl, zi (by rw [htE_not c9]), zi (nI_inc _), trivial⟩
        · skip
          have c8 : -8 < ops i := by
            rcases i32_tri (ops i) with h | h | h
            · exact h
            · rw [h] at c31; exact absurd (by decide) c31
            · exact absurd (tr_two w1 h).1 c31
          have hp := w2 c8
          rw [tr_push c8] at c31 ⊢
          refine z_aload_n hZ (pc := 34) dX11_isTrue_34 rfl ?_
          refine gM_37 hZ (pc := 35) fl_X11_105 dX11_isTrue_35 ?_
          refine z_iload_n hZ (pc := 38) dX11_isTrue_38 rfl ?_
          refine z_iload hZ (pc := 39) dX11_isTrue_39 rfl ?_
          refine z_if_lt hZ (pc := 41) (tgt := 49) dX11_isTrue_41 rfl (fun c41 => ?_) (fun c41 => ?_)
          · skip
            obtain ⟨z, hz, ez, ez2⟩ := val_ix c41 c8
            refine z_aload_n hZ (pc := 49) dX11_isTrue_49 rfl ?_
            refine gM_36 hZ (pc := 50) fl_X11_102 dX11_isTrue_50 ?_
            refine z_iconst hZ (pc := 53) (v := (-1)) dX11_isTrue_53 (by decide) ?_
            refine z_iload hZ (pc := 54) dX11_isTrue_54 rfl ?_
            refine z_isub hZ (pc := 56) dX11_isTrue_56 ?_
            refine z_top ez ?_
            refine lMn_36 hZ (pc := 57) dX11_isTrue_57 (by omega) ?_
            refine sMn_37 hZ (pc := 58) dX11_isTrue_58 (by omega) ?_
            refine q_iinc_5_2 hZ (pc := 59) dX11_isTrue_59 rfl ?_
            refine z_goto hZ (pc := 62) (tgt := 129) dX11_isTrue_62 rfl ?_
            refine q_iinc_5_3 hZ (pc := 129) dX11_isTrue_129 rfl ?_
            refine z_goto hZ (pc := 132) (tgt := 9) dX11_isTrue_132 rfl ?_
            exact z_back hZ (ih (i + 1) (by omega) (by omega)) (WM_eq rfl (by rw [up_twice]; exact congrArg _ (by rw [rwE_val c41 c8, ez2, hu]; rfl))) ⟨rfl, rfl, zi (by rw [htE_push c8]; exact nI_inc _), zi (nI_inc _), trivial⟩
          · skip
            refine z_iload hZ (pc := 44) dX11_isTrue_44 rfl ?_
            refine z_goto hZ (pc := 46) (tgt := 58) dX11_isTrue_46 rfl ?_
            refine sMn_37 hZ (pc := 58) dX11_isTrue_58 (by omega) ?_
            refine q_iinc_5_2 hZ (pc := 59) dX11_isTrue_59 rfl ?_
            refine z_goto hZ (pc := 62) (tgt := 129) dX11_isTrue_62 rfl ?_
            refine q_iinc_5_3 hZ (pc := 129) dX11_isTrue_129 rfl ?_
            refine z_goto hZ (pc := 132) (tgt := 9) dX11_isTrue_132 rfl ?_
            exact z_back hZ (ih (i + 1) (by omega) (by omega)) (WM_eq rfl (by rw [up_twice]; exact congrArg _ (by rw [rwE_num (Int32.not_lt.mp c41), hu]))) ⟨rfl, rfl, zi (by rw [htE_push c8]; exact nI_inc _), zi (nI_inc _), trivial⟩
  exact z_back hZ (lp9 (m + 1) 0 (Nat.zero_le _) (by omega)) (WM_eq rfl (by rw [rwE, up_self])) ⟨rfl, rfl, rfl, zi (by rw [hb]; rfl), trivial⟩
/-- the reference's RULES and ASKS -/
def ExM (g : ZG) (R A : Nat) (ops : Nat → Nat → Int32) (m : Nat → Nat) : Prop := ∃ b : Nat → Nat, g 3 2 = nI R ∧ g 3 3 = nI A ∧ R ≤ 4 ∧ A ≤ 6 ∧ (∀ e, (e < R ∨ (4 ≤ e ∧ e < 4 + A)) → g 8 e = nI (b e) ∧ g 9 e = nI (b e + m e) ∧ CodeM (g 10) (ops e) (m e) (b e))
theorem ExM_mv {g g' : ZG} {R A : Nat} {ops : Nat → Nat → Int32} {m : Nat → Nat} (h : ExM g R A ops m) (h3 : g' 3 = g 3) (h8 : g' 8 = g 8) (h9 : g' 9 = g 9) (h10 : g' 10 = g 10) : ExM g' R A ops m := by
  obtain ⟨b, hR, hA, hR4, hA6, hE⟩ := h
  exact ⟨b, by rw [h3]; exact hR, by rw [h3]; exact hA, hR4, hA6, by rw [h8, h9, h10]; exact hE⟩
theorem c_X11_allRules {l : Launch} {D : va_G} {cA : Nat → ClassId} {r : Nat} {a : Nat → Nat} {s0 s1 : Nat → Option Nat} {v : ZV} {g : ZG} {R A : Nat} {ops : Nat → Nat → Int32} {m : Nat → Nat} (hX : ExM g R A ops m) : MG l D cA (WM r a cA s0 s1) yX11_allRules cX11_allRules 2 (some .boolean) 2 [(.ref r)] v g (fun v2 g2 r => v2 = v ∧ (∀ j, j ≠ 37 → g2 j = g j) ∧ r = some (.int (bI (allB (holdE (g 36) ops m) R)))) := by
  refine MG.of (by decide) rfl (Nat.le_of_ble_eq_true rfl) (by simp [Value.category]) (fun Z hZ => ?_)
  obtain ⟨b, hR, hA, hR4, hA6, hE⟩ := hX
  refine z_iconst hZ (pc := 0) (v := 0) dX11_allRules_0 (by decide) ?_
  refine q_istore_n_2_1 hZ (pc := 1) dX11_allRules_1 rfl ?_
  have lp2 : ∀ (f i : Nat) (g1 : ZG), i ≤ R → R - i < f → (∀ j, j ≠ 37 → g1 j = g j) → allB (holdE (g 36) ops m) i = true → Z 0 0 (WM r a cA s0 s1 v g1) [some (.ref r), some (.int (nI i))] [] 2 := by
    intro f
    induction f with
    | zero => intro i _ _ hf; exact absurd hf (Nat.not_lt_zero _)
    | succ f ih =>
      intro i g1 hi hf hg1 hall
      refine z_iload_n hZ (pc := 2) dX11_allRules_2 rfl ?_
      refine z_aload_n hZ (pc := 3) dX11_allRules_3 rfl ?_
      refine gM_3 hZ (pc := 4) fl_X11_40 dX11_allRules_4 ?_
      refine z_iconst hZ (pc := 7) (v := 2) dX11_allRules_7 (by decide) ?_
      refine lMn_3 hZ (pc := 8) (q := 2) dX11_allRules_8 (by omega) ?_
      refine z_icmp_ge hZ (pc := 9) (tgt := 28) dX11_allRules_9 rfl (fun c9 => ?_) (fun c9 => ?_)
      · skip
        have e : R = i := (lp_ge (by rw [hg1 3 (by decide)]; exact hR) (by omega) hi c9).symm
        subst e
        refine z_iconst hZ (pc := 28) (v := 1) dX11_allRules_28 (by decide) ?_
        refine zr_i hZ (pc := 29) dX11_allRules_29 FitR.b1 ?_
        exact ⟨rfl, hg1, by rw [hall]; rfl⟩
      · skip
        have hl : i < R := lp_lt (by rw [hg1 3 (by decide)]; exact hR) (by omega) hi c9
        refine z_aload_n hZ (pc := 12) dX11_allRules_12 rfl ?_
        refine z_iload_n hZ (pc := 13) dX11_allRules_13 rfl ?_
        refine cV hZ (pc := 14) dX11_allRules_14 lk_X11_322 mn_X11_isTrue mv_X11_isTrue (c_X11_isTrue (e := i) (m := m i) (b := b i) (ops := ops i) (by omega) (by rw [hg1 8 (by decide)]; exact (hE i (Or.inl hl)).1) (by rw [hg1 9 (by decide)]; exact (hE i (Or.inl hl)).2.1) (by rw [hg1 10 (by decide)]; exact (hE i (Or.inl hl)).2.2)) rc_M rfl rfl (Nat.le_of_ble_eq_true rfl) (by decide) (by decide) (Nat.zero_le _) (Nat.zero_le _) ?_
        intro v2 g2 r h
        obtain ⟨rfl, hg2, rfl⟩ := h
        rw [hg1 36 (by decide)]
        refine z_if_ne hZ (pc := 17) (tgt := 22) dX11_allRules_17 rfl (fun c17 => ?_) (fun c17 => ?_)
        · skip
          refine q_iinc_2_1 hZ (pc := 22) dX11_allRules_22 rfl ?_
          refine z_goto hZ (pc := 25) (tgt := 2) dX11_allRules_25 rfl ?_
          exact z_back hZ (ih (i + 1) g2 (by omega) (by omega) (fun j hj => (hg2 j hj).trans (hg1 j hj)) (by rw [allB, hall, Bool.true_and]; exact bI_ne c17)) rfl ⟨rfl, zi (nI_inc i), trivial⟩
        · skip
          refine z_iconst hZ (pc := 20) (v := 0) dX11_allRules_20 (by decide) ?_
          refine zr_i hZ (pc := 21) dX11_allRules_21 FitR.b0 ?_
          exact ⟨rfl, fun j hj => (hg2 j hj).trans (hg1 j hj), by rw [allB_no (i := i) (bI_eq.mp c17) hl]; rfl⟩
  exact z_back hZ (lp2 (R + 1) 0 g (Nat.zero_le _) (by omega) (fun _ _ => rfl) rfl) rfl ⟨rfl, rfl, trivial⟩
theorem c_X11_ask {l : Launch} {D : va_G} {cA : Nat → ClassId} {r : Nat} {a : Nat → Nat} {s0 s1 : Nat → Option Nat} {v : ZV} {g : ZG} {h p gr hi hr be : Int32} (h01 : hi = 0 ∨ hi = 1) : MG l D cA (WM r a cA s0 s1) yX11_ask cX11_ask 7 none 0 [(.ref r), .int h, .int p, .int gr, .int hi, .int hr, .int be] v g (PF v (va_up g 36 (vals7 h p gr hi (hr / 24) (hr - hr / 24 * 24) be (g 36))) (none)) := by
  refine MG.of (by decide) rfl (Nat.le_of_ble_eq_true rfl) (by simp [Value.category]) (fun Z hZ => ?_)
  refine z_aload_n hZ (pc := 0) dX11_ask_0 rfl ?_
  refine gM_36 hZ (pc := 1) fl_X11_102 dX11_ask_1 ?_
  refine z_iconst hZ (pc := 4) (v := 0) dX11_ask_4 (by decide) ?_
  refine z_iload_n hZ (pc := 5) dX11_ask_5 rfl ?_
  refine sMn_36 hZ (pc := 6) (q := 0) dX11_ask_6 (by omega) ?_
  refine z_aload_n hZ (pc := 7) dX11_ask_7 rfl ?_
  refine gM_36 hZ (pc := 8) fl_X11_102 dX11_ask_8 ?_
  refine z_iconst hZ (pc := 11) (v := 1) dX11_ask_11 (by decide) ?_
  refine z_iload_n hZ (pc := 12) dX11_ask_12 rfl ?_
  refine sMn_36 hZ (pc := 13) (q := 1) dX11_ask_13 (by omega) ?_
  refine z_aload_n hZ (pc := 14) dX11_ask_14 rfl ?_
  refine gM_36 hZ (pc := 15) fl_X11_102 dX11_ask_15 ?_
  refine z_iconst hZ (pc := 18) (v := 2) dX11_ask_18 (by decide) ?_
  refine z_iload_n hZ (pc := 19) dX11_ask_19 rfl ?_
  refine sMn_36 hZ (pc := 20) (q := 2) dX11_ask_20 (by omega) ?_
  refine z_aload_n hZ (pc := 21) dX11_ask_21 rfl ?_
  refine gM_36 hZ (pc := 22) fl_X11_102 dX11_ask_22 ?_
  refine z_iconst hZ (pc := 25) (v := 3) dX11_ask_25 (by decide) ?_
  refine z_iload hZ (pc := 26) dX11_ask_26 rfl ?_
  refine z_if_eq hZ (pc := 28) (tgt := 35) dX11_ask_28 rfl (fun c28 => ?_) (fun c28 => ?_)
  · skip
    refine z_iconst hZ (pc := 35) (v := 0) dX11_ask_35 (by decide) ?_
    refine sMn_36 hZ (pc := 36) (q := 3) dX11_ask_36 (by omega) ?_
    refine z_aload_n hZ (pc := 37) dX11_ask_37 rfl ?_
    refine gM_36 hZ (pc := 38) fl_X11_102 dX11_ask_38 ?_
    refine z_iconst hZ (pc := 41) (v := 4) dX11_ask_41 (by decide) ?_
    refine z_iload hZ (pc := 42) dX11_ask_42 rfl ?_
    refine z_bipush hZ (pc := 44) (v := 24) dX11_ask_44 (by decide) ?_
    refine z_idiv hZ (pc := 46) dX11_ask_46 (by decide) ?_
    refine sMn_36 hZ (pc := 47) (q := 4) dX11_ask_47 (by omega) ?_
    refine z_aload_n hZ (pc := 48) dX11_ask_48 rfl ?_
    refine gM_36 hZ (pc := 49) fl_X11_102 dX11_ask_49 ?_
    refine z_iconst hZ (pc := 52) (v := 5) dX11_ask_52 (by decide) ?_
    refine z_iload hZ (pc := 53) dX11_ask_53 rfl ?_
    refine z_bipush hZ (pc := 55) (v := 24) dX11_ask_55 (by decide) ?_
    refine z_irem hZ (pc := 57) dX11_ask_57 (by decide) ?_
    refine sMn_36 hZ (pc := 58) (q := 5) dX11_ask_58 (by omega) ?_
    refine z_aload_n hZ (pc := 59) dX11_ask_59 rfl ?_
    refine gM_36 hZ (pc := 60) fl_X11_102 dX11_ask_60 ?_
    refine z_bipush hZ (pc := 63) (v := 6) dX11_ask_63 (by decide) ?_
    refine z_iload hZ (pc := 65) dX11_ask_65 rfl ?_
    refine sMn_36 hZ (pc := 67) (q := 6) dX11_ask_67 (by omega) ?_
    refine zr_v hZ (pc := 68) dX11_ask_68 ?_
    exact ⟨rfl, by simp only [up_twice, up_at, c28]; rfl, rfl⟩
  · skip
    refine z_iconst hZ (pc := 31) (v := 1) dX11_ask_31 (by decide) ?_
    refine z_goto hZ (pc := 32) (tgt := 36) dX11_ask_32 rfl ?_
    refine sMn_36 hZ (pc := 36) (q := 3) dX11_ask_36 (by omega) ?_
    refine z_aload_n hZ (pc := 37) dX11_ask_37 rfl ?_
    refine gM_36 hZ (pc := 38) fl_X11_102 dX11_ask_38 ?_
    refine z_iconst hZ (pc := 41) (v := 4) dX11_ask_41 (by decide) ?_
    refine z_iload hZ (pc := 42) dX11_ask_42 rfl ?_
    refine z_bipush hZ (pc := 44) (v := 24) dX11_ask_44 (by decide) ?_
    refine z_idiv hZ (pc := 46) dX11_ask_46 (by decide) ?_
    refine sMn_36 hZ (pc := 47) (q := 4) dX11_ask_47 (by omega) ?_
    refine z_aload_n hZ (pc := 48) dX11_ask_48 rfl ?_
    refine gM_36 hZ (pc := 49) fl_X11_102 dX11_ask_49 ?_
    refine z_iconst hZ (pc := 52) (v := 5) dX11_ask_52 (by decide) ?_
    refine z_iload hZ (pc := 53) dX11_ask_53 rfl ?_
    refine z_bipush hZ (pc := 55) (v := 24) dX11_ask_55 (by decide) ?_
    refine z_irem hZ (pc := 57) dX11_ask_57 (by decide) ?_
    refine sMn_36 hZ (pc := 58) (q := 5) dX11_ask_58 (by omega) ?_
    refine z_aload_n hZ (pc := 59) dX11_ask_59 rfl ?_
    refine gM_36 hZ (pc := 60) fl_X11_102 dX11_ask_60 ?_
    refine z_bipush hZ (pc := 63) (v := 6) dX11_ask_63 (by decide) ?_
    refine z_iload hZ (pc := 65) dX11_ask_65 rfl ?_
    refine sMn_36 hZ (pc := 67) (q := 6) dX11_ask_67 (by omega) ?_
    refine zr_v hZ (pc := 68) dX11_ask_68 ?_
    exact ⟨rfl, by simp only [up_twice, up_at, h01.resolve_left c28]; rfl, rfl⟩
theorem c_X11_holdsOf {l : Launch} {D : va_G} {cA : Nat → ClassId} {r : Nat} {a : Nat → Nat} {s0 s1 : Nat → Option Nat} {v : ZV} {g : ZG} {n R A e k : Nat} {ops : Nat → Nat → Int32} {m : Nat → Nat} (hn : v 12 = nI n) (h2 : n ≤ 200) (hco : ∀ t, t < n → g 18 t = 0 ∨ g 18 t = 1) (hX : ExM g R A ops m) (he : e < A) (hwo : ∀ t, t < n → ∃ p, p < 16 ∧ g 13 t = nI p) (hhi : ∀ p, p < 16 → g 7 p = 0 ∨ g 7 p = 1) : MG l D cA (WM r a cA s0 s1) yX11_holdsOf cX11_holdsOf 4 (some .boolean) 2 [(.ref r), .int (nI e), .int (nI k)] v g (fun v2 g2 r => v2 = v ∧ (∀ j, j ≠ 37 → j ≠ 36 → g2 j = g j) ∧ r = some (.int (bI (holdE (valsH (g 13) (g 16) (g 15) (g 17) (g 7) k (cbS (g 18) (g 14) (g 15) (nI k) (if n = 0 then 0 else g 15 (n - 1)) n)) ops m (4 + e))))) := by
  refine MG.of (by decide) rfl (Nat.le_of_ble_eq_true rfl) (by simp [Value.category]) (fun Z hZ => ?_)
  obtain ⟨b, hR, hA, hR4, hA6, hE⟩ := id hX
  have hE4 := hE (4 + e) (Or.inr ⟨by omega, by omega⟩)
  refine z_aload_n hZ (pc := 0) dX11_holdsOf_0 rfl ?_
  refine z_iload_n hZ (pc := 1) dX11_holdsOf_1 rfl ?_
  refine z_aload_n hZ (pc := 2) dX11_holdsOf_2 rfl ?_
  refine cV_i hZ (pc := 3) dX11_holdsOf_3 lk_X11_309 mn_X11_now mv_X11_now (c_X11_now hn h2) rc_M rfl rfl (Nat.le_of_ble_eq_true rfl) (by decide) (by decide) (Nat.zero_le _) (Nat.zero_le _) ?_
  refine cV_i hZ (pc := 6) dX11_holdsOf_6 lk_X11_335 mn_X11_calledBy mv_X11_calledBy (c_X11_calledBy hn h2 hco) rc_M rfl rfl (Nat.le_of_ble_eq_true rfl) (by decide) (by decide) (Nat.zero_le _) (Nat.zero_le _) ?_
  refine q_istore_n_4_3 hZ (pc := 9) dX11_holdsOf_9 rfl ?_
  refine z_iload_n hZ (pc := 10) dX11_holdsOf_10 rfl ?_
  refine z_iconst hZ (pc := 11) (v := (-1)) dX11_holdsOf_11 (by decide) ?_
  refine z_icmp_ne hZ (pc := 12) (tgt := 29) dX11_holdsOf_12 rfl (fun c12 => ?_) (fun c12 => ?_)
  · skip
    obtain ⟨t, ht, et⟩ := (cbS_or (g 18) (g 14) (g 15) (nI k) (if n = 0 then 0 else g 15 (n - 1)) n).resolve_left c12
    obtain ⟨p, hp, ep⟩ := hwo t ht
    rw [et]
    refine z_aload_n hZ (pc := 29) dX11_holdsOf_29 rfl ?_
    refine z_iload_n hZ (pc := 30) dX11_holdsOf_30 rfl ?_
    refine z_aload_n hZ (pc := 31) dX11_holdsOf_31 rfl ?_
    refine gM_13 hZ (pc := 32) fl_X11_69 dX11_holdsOf_32 ?_
    refine z_iload_n hZ (pc := 35) dX11_holdsOf_35 rfl ?_
    refine lMn_13 hZ (pc := 36) dX11_holdsOf_36 (by omega) ?_
    refine z_aload_n hZ (pc := 37) dX11_holdsOf_37 rfl ?_
    refine gM_16 hZ (pc := 38) fl_X11_78 dX11_holdsOf_38 ?_
    refine z_iload_n hZ (pc := 41) dX11_holdsOf_41 rfl ?_
    refine lMn_16 hZ (pc := 42) dX11_holdsOf_42 (by omega) ?_
    refine z_aload_n hZ (pc := 43) dX11_holdsOf_43 rfl ?_
    refine gM_7 hZ (pc := 44) fl_X11_53 dX11_holdsOf_44 ?_
    refine z_aload_n hZ (pc := 47) dX11_holdsOf_47 rfl ?_
    refine gM_13 hZ (pc := 48) fl_X11_69 dX11_holdsOf_48 ?_
    refine z_iload_n hZ (pc := 51) dX11_holdsOf_51 rfl ?_
    refine lMn_13 hZ (pc := 52) dX11_holdsOf_52 (by omega) ?_
    refine z_top ep ?_
    refine lMn_7 hZ (pc := 53) dX11_holdsOf_53 (by omega) ?_
    refine z_aload_n hZ (pc := 54) dX11_holdsOf_54 rfl ?_
    refine gM_15 hZ (pc := 55) fl_X11_75 dX11_holdsOf_55 ?_
    refine z_iload_n hZ (pc := 58) dX11_holdsOf_58 rfl ?_
    refine lMn_15 hZ (pc := 59) dX11_holdsOf_59 (by omega) ?_
    refine z_aload_n hZ (pc := 60) dX11_holdsOf_60 rfl ?_
    refine gM_17 hZ (pc := 61) fl_X11_80 dX11_holdsOf_61 ?_
    refine z_iload_n hZ (pc := 64) dX11_holdsOf_64 rfl ?_
    refine lMn_17 hZ (pc := 65) dX11_holdsOf_65 (by omega) ?_
    refine cV_v hZ (pc := 66) dX11_holdsOf_66 lk_X11_328 mn_X11_ask mv_X11_ask (c_X11_ask (hhi p hp)) rc_M rfl rfl (Nat.le_of_ble_eq_true rfl) (by decide) (by decide) (Nat.zero_le _) (Nat.zero_le _) ?_
    refine z_aload_n hZ (pc := 69) dX11_holdsOf_69 rfl ?_
    refine z_iconst hZ (pc := 70) (v := 4) dX11_holdsOf_70 (by decide) ?_
    refine z_iload_n hZ (pc := 71) dX11_holdsOf_71 rfl ?_
    refine z_iadd hZ (pc := 72) dX11_holdsOf_72 ?_
    refine z_top (y := nI (4 + e)) (nI_add 4 e) ?_
    refine cV hZ (pc := 73) dX11_holdsOf_73 lk_X11_322 mn_X11_isTrue mv_X11_isTrue (c_X11_isTrue (e := 4 + e) (m := m (4 + e)) (b := b (4 + e)) (ops := ops (4 + e)) (by omega) hE4.1 hE4.2.1 hE4.2.2) rc_M rfl rfl (Nat.le_of_ble_eq_true rfl) (by decide) (by decide) (Nat.zero_le _) (Nat.zero_le _) ?_
    intro v2 g2 r h
    obtain ⟨rfl, hg2, rfl⟩ := h
    refine zr_i hZ (pc := 76) dX11_holdsOf_76 FitR.bI ?_
    exact ⟨rfl, fun j h1 h2 => (hg2 j h1).trans (up_off h2), congrArg (fun z => some (Value.int (bI z))) (holdE_cong hE4.2.2.2.2 (fun j hj => by rw [valsH, if_neg c12, et, nI_clamp (by omega), ep, nI_clamp (by omega), up_at]; exact vals7_cong j hj))⟩
  · skip
    refine z_aload_n hZ (pc := 15) dX11_holdsOf_15 rfl ?_
    refine z_iload_n hZ (pc := 16) dX11_holdsOf_16 rfl ?_
    refine z_bipush hZ (pc := 17) (v := 99) dX11_holdsOf_17 (by decide) ?_
    refine z_iconst hZ (pc := 19) (v := 0) dX11_holdsOf_19 (by decide) ?_
    refine z_iconst hZ (pc := 20) (v := 0) dX11_holdsOf_20 (by decide) ?_
    refine z_iconst hZ (pc := 21) (v := 0) dX11_holdsOf_21 (by decide) ?_
    refine z_iconst hZ (pc := 22) (v := 0) dX11_holdsOf_22 (by decide) ?_
    refine cV_v hZ (pc := 23) dX11_holdsOf_23 lk_X11_328 mn_X11_ask mv_X11_ask (c_X11_ask (Or.inl rfl)) rc_M rfl rfl (Nat.le_of_ble_eq_true rfl) (by decide) (by decide) (Nat.zero_le _) (Nat.zero_le _) ?_
    refine z_goto hZ (pc := 26) (tgt := 69) dX11_holdsOf_26 rfl ?_
    refine z_aload_n hZ (pc := 69) dX11_holdsOf_69 rfl ?_
    refine z_iconst hZ (pc := 70) (v := 4) dX11_holdsOf_70 (by decide) ?_
    refine z_iload_n hZ (pc := 71) dX11_holdsOf_71 rfl ?_
    refine z_iadd hZ (pc := 72) dX11_holdsOf_72 ?_
    refine z_top (y := nI (4 + e)) (nI_add 4 e) ?_
    refine cV hZ (pc := 73) dX11_holdsOf_73 lk_X11_322 mn_X11_isTrue mv_X11_isTrue (c_X11_isTrue (e := 4 + e) (m := m (4 + e)) (b := b (4 + e)) (ops := ops (4 + e)) (by omega) hE4.1 hE4.2.1 hE4.2.2) rc_M rfl rfl (Nat.le_of_ble_eq_true rfl) (by decide) (by decide) (Nat.zero_le _) (Nat.zero_le _) ?_
    intro v2 g2 r h
    obtain ⟨rfl, hg2, rfl⟩ := h
    refine zr_i hZ (pc := 76) dX11_holdsOf_76 FitR.bI ?_
    exact ⟨rfl, fun j h1 h2 => (hg2 j h1).trans (up_off h2), congrArg (fun z => some (Value.int (bI z))) (holdE_cong hE4.2.2.2.2 (fun j hj => by rw [valsH, if_pos c12, up_at]; exact vals7_cong j hj))⟩
