/-- how a letter is carried: the houses of its name at dawns, m dawns from d on, t waits behind it -/
def carG (sa : Nat → Nat) : Nat → Nat → Nat → Option (Nat × Nat)
  | 0, _, _ => none
  | m + 1, d, t => if popc (sa d) = 1 ∨ (if 1 < popc (sa d) then t + 1 else t) = 3 then some (lowb (sa d), d) else carG sa m (d + 1) (if 1 < popc (sa d) then t + 1 else t)
def carH (o : Option (Nat × Nat)) : Int32 := match o with
  | none => -1
  | some q => nI q.1
def carD (o : Option (Nat × Nat)) : Int32 := match o with
  | none => -1
  | some q => nI q.2
theorem carH_some (x y : Nat) : carH (some (x, y)) = nI x := rfl
theorem carD_some (x y : Nat) : carD (some (x, y)) = nI y := rfl
theorem carH_none : carH none = -1 := rfl
theorem carD_none : carD none = -1 := rfl
/-- the houses of a name at a dawn of a day -/
def dawnS (wo co fr wh : Nat → Int32) (n : Nat) (p : Int32) (H : Nat) (d : Nat) : Nat := hsT wo co fr wh n p (nI (24 * d + 6)) H
def carryS (wo co fr wh : Nat → Int32) (n : Nat) (p : Int32) (H hh : Nat) : Option (Nat × Nat) := carG (dawnS wo co fr wh n p H) 30 ((hh + 18) / 24) 0
theorem carG_s (sa : Nat → Nat) (m d t : Nat) : carG sa (m + 1) d t = if popc (sa d) = 1 ∨ (if 1 < popc (sa d) then t + 1 else t) = 3 then some (lowb (sa d), d) else carG sa m (d + 1) (if 1 < popc (sa d) then t + 1 else t) := rfl
theorem up4 {v : ZV} {x y z q : Int32} : va_up (va_up (va_up (va_up v 38 x) 39 y) 38 z) 39 q = va_up (va_up v 38 z) 39 q := by
  funext k
  by_cases h1 : k = 39
  · subst h1; simp [va_up]
  · by_cases h2 : k = 38
    · subst h2; simp [va_up]
    · simp [va_up, h1, h2]
theorem c_X11_carry {l : Launch} {D : va_G} {cA : Nat → ClassId} {r : Nat} {a : Nat → Nat} {s0 s1 : Nat → Option Nat} {v : ZV} {g : ZG} {n H k hh : Nat} (hn : v 12 = nI n) (h2 : n ≤ 200) (hco : ∀ t, t < n → g 18 t = 0 ∨ g 18 t = 1) (hH : g 3 0 = nI H) (h10 : H ≤ 10) (hk : k < 40) (hhr : g 22 k = nI hh) (h24 : hh < 2400) : MG l D cA (WM r a cA s0 s1) yX11_carry cX11_carry 6 none 3 [(.ref r), .int (nI k)] v g (PF (va_up (va_up v 38 (carH (carryS (g 13) (g 18) (g 14) (g 15) n (g 21 k) H hh))) 39 (carD (carryS (g 13) (g 18) (g 14) (g 15) n (g 21 k) H hh))) g (none)) := by
  refine MG.of (by decide) rfl (Nat.le_of_ble_eq_true rfl) (by simp [Value.category]) (fun Z hZ => ?_)
  refine z_aload_n hZ (pc := 0) dX11_carry_0 rfl ?_
  refine gM_22 hZ (pc := 1) fl_X11_89 dX11_carry_1 ?_
  refine z_iload_n hZ (pc := 4) dX11_carry_4 rfl ?_
  refine lMn_22 hZ (pc := 5) dX11_carry_5 (by omega) ?_
  rw [hhr]
  refine z_bipush hZ (pc := 6) (v := 24) dX11_carry_6 (by decide) ?_
  refine z_idiv hZ (pc := 8) dX11_carry_8 (by decide) ?_
  refine q_istore_n_6_2 hZ (pc := 9) dX11_carry_9 rfl ?_
  refine z_drop hZ (L' := [some (.ref r), some (.int (nI k)), some (.int (nI (hh / 24))), none, none, none]) ⟨rfl, rfl, zi (pk_div (d := 24) (by omega) (by omega) (by omega)), trivial⟩ ?_
  refine z_aload_n hZ (pc := 10) dX11_carry_10 rfl ?_
  refine gM_22 hZ (pc := 11) fl_X11_89 dX11_carry_11 ?_
  refine z_iload_n hZ (pc := 14) dX11_carry_14 rfl ?_
  refine lMn_22 hZ (pc := 15) dX11_carry_15 (by omega) ?_
  have join27 : Z 0 0 (WM r a cA s0 s1 v g) [some (.ref r), some (.int (nI k)), some (.int (nI ((hh + 18) / 24))), none, none, none] [] 27 := by
    refine z_iconst hZ (pc := 27) (v := 0) dX11_carry_27 (by decide) ?_
    refine q_istore_n_6_3 hZ (pc := 28) dX11_carry_28 rfl ?_
    refine z_aload_n hZ (pc := 29) dX11_carry_29 rfl ?_
    refine z_iconst hZ (pc := 30) (v := (-1)) dX11_carry_30 (by decide) ?_
    refine pM_38 hZ (pc := 31) fl_X11_353 dX11_carry_31 ?_
    refine z_aload_n hZ (pc := 34) dX11_carry_34 rfl ?_
    refine z_iconst hZ (pc := 35) (v := (-1)) dX11_carry_35 (by decide) ?_
    refine pM_39 hZ (pc := 36) fl_X11_356 dX11_carry_36 ?_
    refine z_iconst hZ (pc := 39) (v := 0) dX11_carry_39 (by decide) ?_
    refine q_istore_6_4 hZ (pc := 40) dX11_carry_40 rfl ?_
    have lp42 : ∀ f i t : Nat, i ≤ 30 → 30 - i < f → t < 3 → carG (dawnS (g 13) (g 18) (g 14) (g 15) n (g 21 k) H) (30 - i) ((hh + 18) / 24 + i) t = (carryS (g 13) (g 18) (g 14) (g 15) n (g 21 k) H hh) → Z 0 0 (WM r a cA s0 s1 (va_up (va_up v 38 (-1)) 39 (-1)) g) [some (.ref r), some (.int (nI k)), some (.int (nI ((hh + 18) / 24))), some (.int (nI t)), some (.int (nI i)), none] [] 42 := by
      intro f
      induction f with
      | zero => intro i _ _ hf; exact absurd hf (Nat.not_lt_zero _)
      | succ f ih =>
        intro i t hi hf ht hgo
        refine z_iload hZ (pc := 42) dX11_carry_42 rfl ?_
        refine z_bipush hZ (pc := 44) (v := 30) dX11_carry_44 (by decide) ?_
        refine z_icmp_ge hZ (pc := 46) (tgt := 134) dX11_carry_46 rfl (fun c46 => ?_) (fun c46 => ?_)
        · skip
          have e42 : 30 = i := (lp_ge (rfl : (30 : Int32) = nI 30) (by decide) hi c46).symm
          subst e42
          refine zr_v hZ (pc := 134) dX11_carry_134 ?_
          exact ⟨by rw [← hgo]; simp only [Nat.sub_self, carG, carH_none, carD_none], rfl, rfl⟩
        · skip
          have hl : i < 30 := lp_lt (rfl : (30 : Int32) = nI 30) (by decide) hi c46
          obtain ⟨j, hj⟩ : ∃ j, 30 - i = j + 1 := ⟨29 - i, by omega⟩
          obtain ⟨b, hbe⟩ : ∃ b, b = (dawnS (g 13) (g 18) (g 14) (g 15) n (g 21 k) H) ((hh + 18) / 24 + i) := ⟨_, rfl⟩
          have hb : b < 1024 := by rw [hbe]; exact hsT_lt _ _ _ _ _ _ _ h10
          have hpb := popc_le b
          rw [hj, carG_s, ← hbe] at hgo
          refine z_aload_n hZ (pc := 49) dX11_carry_49 rfl ?_
          refine z_aload_n hZ (pc := 50) dX11_carry_50 rfl ?_
          refine gM_21 hZ (pc := 51) fl_X11_86 dX11_carry_51 ?_
          refine z_iload_n hZ (pc := 54) dX11_carry_54 rfl ?_
          refine lMn_21 hZ (pc := 55) dX11_carry_55 (by omega) ?_
          refine z_bipush hZ (pc := 56) (v := 24) dX11_carry_56 (by decide) ?_
          refine z_iload_n hZ (pc := 58) dX11_carry_58 rfl ?_
          refine z_iload hZ (pc := 59) dX11_carry_59 rfl ?_
          refine z_iadd hZ (pc := 61) dX11_carry_61 ?_
          refine z_imul hZ (pc := 62) dX11_carry_62 ?_
          refine z_bipush hZ (pc := 63) (v := 6) dX11_carry_63 (by decide) ?_
          refine z_iadd hZ (pc := 65) dX11_carry_65 ?_
          refine z_top (y := nI (24 * ((hh + 18) / 24 + i) + 6)) (by rw [nI_add, show (24 : Int32) = nI 24 from rfl, pk_mul, show (6 : Int32) = nI 6 from rfl, nI_add]) ?_
          refine cV_i hZ (pc := 66) dX11_carry_66 lk_X11_344 mn_X11_housesOf mv_X11_housesOf (c_X11_housesOf (n := n) (H := H) hn h2 hco hH h10) rc_M rfl rfl (Nat.le_of_ble_eq_true rfl) (by decide) (by decide) (Nat.zero_le _) (Nat.zero_le _) ?_
          refine z_top (y := nI b) (by rw [hbe]; rfl) ?_
          refine q_istore_6_5 hZ (pc := 69) dX11_carry_69 rfl ?_
          refine z_iload_n hZ (pc := 71) dX11_carry_71 rfl ?_
          refine z_iload hZ (pc := 72) dX11_carry_72 rfl ?_
          refine cS_i hZ (pc := 74) dX11_carry_74 lk_X11_347 mn_X11_bitsOf ms_X11_bitsOf (c_X11_bitsOf hb) rfl rfl (Nat.le_of_ble_eq_true rfl) (by decide) (by decide) (Nat.zero_le _) (Nat.zero_le _) ?_
          refine z_iconst hZ (pc := 77) (v := 1) dX11_carry_77 (by decide) ?_
          refine z_icmp_le hZ (pc := 78) (tgt := 85) dX11_carry_78 rfl (fun c78 => ?_) (fun c78 => ?_)
          · skip
            have hp : popc b ≤ 1 := (nI_leI (a := popc b) (b := 1) (by omega) (by omega)).mp c78
            rw [if_neg (show ¬ 1 < popc b by omega)] at hgo
            refine z_iconst hZ (pc := 85) (v := 0) dX11_carry_85 (by decide) ?_
            refine z_iadd hZ (pc := 86) dX11_carry_86 ?_
            refine z_top (y := nI t) (by simp) ?_
            refine q_istore_n_6_3 hZ (pc := 87) dX11_carry_87 rfl ?_
            refine z_iload hZ (pc := 88) dX11_carry_88 rfl ?_
            refine cS_i hZ (pc := 90) dX11_carry_90 lk_X11_347 mn_X11_bitsOf ms_X11_bitsOf (c_X11_bitsOf hb) rfl rfl (Nat.le_of_ble_eq_true rfl) (by decide) (by decide) (Nat.zero_le _) (Nat.zero_le _) ?_
            refine z_iconst hZ (pc := 93) (v := 1) dX11_carry_93 (by decide) ?_
            refine z_icmp_eq hZ (pc := 94) (tgt := 110) dX11_carry_94 rfl (fun c94 => ?_) (fun c94 => ?_)
            · skip
              have hp1 : popc b = 1 := (nI_eq (a := popc b) (b := 1) (by omega) (by omega)).mp c94
              have hne : b ≠ 0 := fun q => by rw [q, popc_0] at hp1; omega
              rw [if_pos (Or.inl hp1)] at hgo
              refine z_aload_n hZ (pc := 110) dX11_carry_110 rfl ?_
              refine z_iload hZ (pc := 111) dX11_carry_111 rfl ?_
              refine cS_i hZ (pc := 113) dX11_carry_113 lk_X11_350 mn_X11_firstOf ms_X11_firstOf (c_X11_firstOf hb hne) rfl rfl (Nat.le_of_ble_eq_true rfl) (by decide) (by decide) (Nat.zero_le _) (Nat.zero_le _) ?_
              refine pM_38 hZ (pc := 116) fl_X11_353 dX11_carry_116 ?_
              refine z_aload_n hZ (pc := 119) dX11_carry_119 rfl ?_
              refine z_iload_n hZ (pc := 120) dX11_carry_120 rfl ?_
              refine z_iload hZ (pc := 121) dX11_carry_121 rfl ?_
              refine z_iadd hZ (pc := 123) dX11_carry_123 ?_
              refine pM_39 hZ (pc := 124) fl_X11_356 dX11_carry_124 ?_
              refine zr_v hZ (pc := 127) dX11_carry_127 ?_
              exact ⟨by rw [← hgo, up4, nI_add, carH_some, carD_some], rfl, rfl⟩
            · skip
              have hp1 : popc b ≠ 1 := fun q => c94 (by rw [q]; rfl)
              have hb0 : b = 0 := (popc_pos b hb).mp (by omega)
              refine z_iload hZ (pc := 97) dX11_carry_97 rfl ?_
              refine z_if_eq hZ (pc := 99) (tgt := 128) dX11_carry_99 rfl (fun c99 => ?_) (fun c99 => ?_)
              · skip
                rw [if_neg (show ¬ (popc b = 1 ∨ t = 3) by omega)] at hgo
                refine q_iinc_6_4 hZ (pc := 128) dX11_carry_128 rfl ?_
                refine z_goto hZ (pc := 131) (tgt := 42) dX11_carry_131 rfl ?_
                exact z_back hZ (ih (i + 1) t (by omega) (by omega) ht (by rw [show 30 - (i + 1) = j by omega, ← Nat.add_assoc]; exact hgo)) rfl ⟨rfl, rfl, rfl, rfl, zi (nI_inc i), trivial⟩
              · skip
                exact absurd (by rw [hb0]; rfl) c99
          · skip
            have hp : 1 < popc b := by
              rcases Nat.lt_or_ge 1 (popc b) with q | q
              · exact q
              · exact absurd (nI_le q (by omega)) c78
            rw [if_pos hp] at hgo
            refine z_iconst hZ (pc := 81) (v := 1) dX11_carry_81 (by decide) ?_
            refine z_goto hZ (pc := 82) (tgt := 86) dX11_carry_82 rfl ?_
            refine z_iadd hZ (pc := 86) dX11_carry_86 ?_
            refine z_top (y := nI (t + 1)) (nI_1 t) ?_
            refine q_istore_n_6_3 hZ (pc := 87) dX11_carry_87 rfl ?_
            refine z_iload hZ (pc := 88) dX11_carry_88 rfl ?_
            refine cS_i hZ (pc := 90) dX11_carry_90 lk_X11_347 mn_X11_bitsOf ms_X11_bitsOf (c_X11_bitsOf hb) rfl rfl (Nat.le_of_ble_eq_true rfl) (by decide) (by decide) (Nat.zero_le _) (Nat.zero_le _) ?_
            refine z_iconst hZ (pc := 93) (v := 1) dX11_carry_93 (by decide) ?_
            refine z_icmp_eq hZ (pc := 94) (tgt := 110) dX11_carry_94 rfl (fun c94 => ?_) (fun c94 => ?_)
            · skip
              exact absurd ((nI_eq (a := popc b) (b := 1) (by omega) (by omega)).mp c94) (by omega)
            · skip
              skip
              refine z_iload hZ (pc := 97) dX11_carry_97 rfl ?_
              refine z_if_eq hZ (pc := 99) (tgt := 128) dX11_carry_99 rfl (fun c99 => ?_) (fun c99 => ?_)
              · skip
                exact absurd c99 (nI_ne0 (by rcases Nat.eq_zero_or_pos b with q | q; exact absurd hp (by rw [q, popc_0]; omega); exact q) (by omega))
              · skip
                skip
                refine z_iload_n hZ (pc := 102) dX11_carry_102 rfl ?_
                refine z_iconst hZ (pc := 103) (v := 3) dX11_carry_103 (by decide) ?_
                refine z_icmp_ge hZ (pc := 104) (tgt := 110) dX11_carry_104 rfl (fun c104 => ?_) (fun c104 => ?_)
                · skip
                  have ht3 : t + 1 = 3 := by
                    have := (nI_leI (a := 3) (b := t + 1) (by omega) (by omega)).mp c104
                    omega
                  have hne : b ≠ 0 := fun q => by rw [q, popc_0] at hp; omega
                  rw [if_pos (Or.inr ht3)] at hgo
                  refine z_aload_n hZ (pc := 110) dX11_carry_110 rfl ?_
                  refine z_iload hZ (pc := 111) dX11_carry_111 rfl ?_
                  refine cS_i hZ (pc := 113) dX11_carry_113 lk_X11_350 mn_X11_firstOf ms_X11_firstOf (c_X11_firstOf hb hne) rfl rfl (Nat.le_of_ble_eq_true rfl) (by decide) (by decide) (Nat.zero_le _) (Nat.zero_le _) ?_
                  refine pM_38 hZ (pc := 116) fl_X11_353 dX11_carry_116 ?_
                  refine z_aload_n hZ (pc := 119) dX11_carry_119 rfl ?_
                  refine z_iload_n hZ (pc := 120) dX11_carry_120 rfl ?_
                  refine z_iload hZ (pc := 121) dX11_carry_121 rfl ?_
                  refine z_iadd hZ (pc := 123) dX11_carry_123 ?_
                  refine pM_39 hZ (pc := 124) fl_X11_356 dX11_carry_124 ?_
                  refine zr_v hZ (pc := 127) dX11_carry_127 ?_
                  exact ⟨by rw [← hgo, up4, nI_add, carH_some, carD_some], rfl, rfl⟩
                · skip
                  refine z_goto hZ (pc := 107) (tgt := 128) dX11_carry_107 rfl ?_
                  have ht3 : ¬ t + 1 = 3 := fun q => c104 (by rw [q]; decide)
                  rw [if_neg (show ¬ (popc b = 1 ∨ t + 1 = 3) by omega)] at hgo
                  refine q_iinc_6_4 hZ (pc := 128) dX11_carry_128 rfl ?_
                  refine z_goto hZ (pc := 131) (tgt := 42) dX11_carry_131 rfl ?_
                  exact z_back hZ (ih (i + 1) (t + 1) (by omega) (by omega) (by omega) (by rw [show 30 - (i + 1) = j by omega, ← Nat.add_assoc]; exact hgo)) rfl ⟨rfl, rfl, rfl, rfl, zi (nI_inc i), trivial⟩
    exact z_back hZ (lp42 31 0 0 (by omega) (by omega) (by omega) rfl) rfl ⟨rfl, rfl, rfl, rfl, rfl, trivial⟩
  rw [hhr]
  refine z_bipush hZ (pc := 16) (v := 24) dX11_carry_16 (by decide) ?_
  refine z_irem hZ (pc := 18) dX11_carry_18 (by decide) ?_
  refine z_bipush hZ (pc := 19) (v := 6) dX11_carry_19 (by decide) ?_
  refine z_icmp_lt hZ (pc := 21) (tgt := 27) dX11_carry_21 rfl (fun c21 => ?_) (fun c21 => ?_)
  · skip
    have e : nI hh - nI hh / 24 * 24 = nI (hh % 24) := pk_rem (d := 24) (by omega) (by omega) (by omega)
    rw [e] at c21
    have h3 := (nI_ltI (a := hh % 24) (b := 6) (by omega) (by omega)).mp c21
    exact z_back hZ join27 rfl ⟨rfl, rfl, zi (by congr 1; omega), trivial⟩
  · skip
    refine q_iinc_6_2 hZ (pc := 24) dX11_carry_24 rfl ?_
    have e : nI hh - nI hh / 24 * 24 = nI (hh % 24) := pk_rem (d := 24) (by omega) (by omega) (by omega)
    rw [e] at c21
    have h3 : ¬ hh % 24 < 6 := fun q => c21 (nI_lt (b := 6) q (by decide))
    exact z_back hZ join27 rfl ⟨rfl, rfl, zi (by rw [nI_inc]; congr 1; omega), trivial⟩
theorem c_X11_nobodyOf {l : Launch} {D : va_G} {cA : Nat → ClassId} {r : Nat} {a : Nat → Nat} {s0 s1 : Nat → Option Nat} {v : ZV} {g : ZG} {n : Nat} {h : Int32} (hn : g 3 1 = nI n) (h16 : n ≤ 16) : MG l D cA (WM r a cA s0 s1) yX11_nobodyOf cX11_nobodyOf 4 (some .int) 0 [(.ref r), .int h] v g (PF v g (some (.int (nobS (g 4) (g 5) h n)))) := by
  refine MG.of (by decide) rfl (Nat.le_of_ble_eq_true rfl) (by simp [Value.category]) (fun Z hZ => ?_)
  refine z_ldcw hZ (pc := 0) (v := 1000000) dX11_nobodyOf_0 (List.mem_of_getElem? (i := 1663) (by decide +kernel)) ?_
  refine q_istore_n_4_2 hZ (pc := 3) dX11_nobodyOf_3 rfl ?_
  refine z_iconst hZ (pc := 4) (v := 0) dX11_nobodyOf_4 (by decide) ?_
  refine q_istore_n_4_3 hZ (pc := 5) dX11_nobodyOf_5 rfl ?_
  have lp6 : ∀ f i : Nat, i ≤ n → n - i < f → Z 0 0 (WM r a cA s0 s1 v g) [some (.ref r), some (.int h), some (.int (nobS (g 4) (g 5) h i)), some (.int (nI i))] [] 6 := by
    intro f
    induction f with
    | zero => intro i _ hf; exact absurd hf (Nat.not_lt_zero _)
    | succ f ih6 =>
      intro i hi6 hf6
      refine z_iload_n hZ (pc := 6) dX11_nobodyOf_6 rfl ?_
      refine z_aload_n hZ (pc := 7) dX11_nobodyOf_7 rfl ?_
      refine gM_3 hZ (pc := 8) fl_X11_40 dX11_nobodyOf_8 ?_
      refine z_iconst hZ (pc := 11) (v := 1) dX11_nobodyOf_11 (by decide) ?_
      refine lMn_3 hZ (pc := 12) (q := 1) dX11_nobodyOf_12 (by omega) ?_
      refine z_icmp_ge hZ (pc := 13) (tgt := 49) dX11_nobodyOf_13 rfl (fun c13 => ?_) (fun c13 => ?_)
      · skip
        have e6 : n = i := (lp_ge hn (by omega) hi6 c13).symm
        subst e6
        refine z_iload_n hZ (pc := 49) dX11_nobodyOf_49 rfl ?_
        refine zr_i hZ (pc := 50) dX11_nobodyOf_50 FitR.int ?_
        exact ⟨rfl, rfl, rfl⟩
      · skip
        have hl6 : i < n := lp_lt hn (by omega) hi6 c13
        refine z_aload_n hZ (pc := 16) dX11_nobodyOf_16 rfl ?_
        refine gM_4 hZ (pc := 17) fl_X11_44 dX11_nobodyOf_17 ?_
        refine z_iload_n hZ (pc := 20) dX11_nobodyOf_20 rfl ?_
        refine lMn_4 hZ (pc := 21) dX11_nobodyOf_21 (by omega) ?_
        refine z_iload_n hZ (pc := 22) dX11_nobodyOf_22 rfl ?_
        refine z_icmp_ne hZ (pc := 23) (tgt := 43) dX11_nobodyOf_23 rfl (fun c23 => ?_) (fun c23 => ?_)
        · skip
          refine q_iinc_4_3 hZ (pc := 43) dX11_nobodyOf_43 rfl ?_
          refine z_goto hZ (pc := 46) (tgt := 6) dX11_nobodyOf_46 rfl ?_
          exact z_back hZ (ih6 (i + 1) hl6 (by omega)) (rfl) ⟨rfl, rfl, zi (by rw [nobS, if_neg c23]), zi (nI_inc i), trivial⟩
        · skip
          refine z_iload_n hZ (pc := 26) dX11_nobodyOf_26 rfl ?_
          refine z_sipush hZ (pc := 27) (v := 1000) dX11_nobodyOf_27 (by decide) ?_
          refine z_aload_n hZ (pc := 30) dX11_nobodyOf_30 rfl ?_
          refine gM_5 hZ (pc := 31) fl_X11_47 dX11_nobodyOf_31 ?_
          refine z_iload_n hZ (pc := 34) dX11_nobodyOf_34 rfl ?_
          refine lMn_5 hZ (pc := 35) dX11_nobodyOf_35 (by omega) ?_
          refine z_isub hZ (pc := 36) dX11_nobodyOf_36 ?_
          refine z_imul hZ (pc := 37) dX11_nobodyOf_37 ?_
          refine z_sipush hZ (pc := 38) (v := 1000) dX11_nobodyOf_38 (by decide) ?_
          refine z_idiv hZ (pc := 41) dX11_nobodyOf_41 (by decide) ?_
          refine q_istore_n_4_2 hZ (pc := 42) dX11_nobodyOf_42 rfl ?_
          refine q_iinc_4_3 hZ (pc := 43) dX11_nobodyOf_43 rfl ?_
          refine z_goto hZ (pc := 46) (tgt := 6) dX11_nobodyOf_46 rfl ?_
          exact z_back hZ (ih6 (i + 1) hl6 (by omega)) (rfl) ⟨rfl, rfl, zi (by rw [nobS, if_pos c23]), zi (nI_inc i), trivial⟩
  exact z_back hZ (lp6 (n - 0 + 1) 0 (Nat.zero_le _) (by omega)) (rfl) ⟨rfl, rfl, rfl, rfl, trivial⟩
theorem c_X11_hoursOf {l : Launch} {D : va_G} {cA : Nat → ClassId} {r : Nat} {a : Nat → Nat} {s0 s1 : Nat → Option Nat} {v : ZV} {g : ZG} {n A B : Nat} {p h : Int32} (hn : v 12 = nI n) (h2 : n ≤ 200) (hco : ∀ t, t < n → g 18 t = 0 ∨ g 18 t = 1) (hAB : A ≤ B) (hB : B < 2400) : MG l D cA (WM r a cA s0 s1) yX11_hoursOf cX11_hoursOf 7 (some .int) 2 [(.ref r), .int p, .int h, .int (nI A), .int (nI B)] v g (PF v g (some (.int (nI (hoursN (fun q => nm2 (g 13) (cbS (g 18) (g 14) (g 15) h (nI q) n)) p A (B + 1 - A)))))) := by
  refine MG.of (by decide) rfl (Nat.le_of_ble_eq_true rfl) (by simp [Value.category]) (fun Z hZ => ?_)
  refine z_iconst hZ (pc := 0) (v := 0) dX11_hoursOf_0 (by decide) ?_
  refine q_istore_7_5 hZ (pc := 1) dX11_hoursOf_1 rfl ?_
  refine z_iload_n hZ (pc := 3) dX11_hoursOf_3 rfl ?_
  refine q_istore_7_6 hZ (pc := 4) dX11_hoursOf_4 rfl ?_
  have lp6 : ∀ f i : Nat, i ≤ B + 1 - A → B + 1 - A - i < f → Z 0 0 (WM r a cA s0 s1 v g) [some (.ref r), some (.int p), some (.int h), some (.int (nI A)), some (.int (nI B)), some (.int (nI (hoursN (fun q => nm2 (g 13) (cbS (g 18) (g 14) (g 15) h (nI q) n)) p A i))), some (.int (nI (A + i)))] [] 6 := by
    intro f
    induction f with
    | zero => intro i _ hf; exact absurd hf (Nat.not_lt_zero _)
    | succ f ih =>
      intro i hi hf
      refine z_iload hZ (pc := 6) dX11_hoursOf_6 rfl ?_
      refine z_iload hZ (pc := 8) dX11_hoursOf_8 rfl ?_
      refine z_icmp_gt hZ (pc := 10) (tgt := 40) dX11_hoursOf_10 rfl (fun c10 => ?_) (fun c10 => ?_)
      · skip
        have e : i = B + 1 - A := by
          have := (nI_ltI (a := B) (b := A + i) (by omega) (by omega)).mp c10
          omega
        subst e
        refine z_iload hZ (pc := 40) dX11_hoursOf_40 rfl ?_
        refine zr_i hZ (pc := 42) dX11_hoursOf_42 FitR.int ?_
        exact ⟨rfl, rfl, rfl⟩
      · skip
        have hl : A + i ≤ B := by
          rcases Nat.lt_or_ge B (A + i) with q | q
          · exact absurd (nI_lt q (by omega)) c10
          · exact q
        refine z_iload hZ (pc := 13) dX11_hoursOf_13 rfl ?_
        refine z_aload_n hZ (pc := 15) dX11_hoursOf_15 rfl ?_
        refine z_iload_n hZ (pc := 16) dX11_hoursOf_16 rfl ?_
        refine z_iload hZ (pc := 17) dX11_hoursOf_17 rfl ?_
        refine cV_i hZ (pc := 19) dX11_hoursOf_19 lk_X11_341 mn_X11_nameOf mv_X11_nameOf (c_X11_nameOf hn h2 hco) rc_M rfl rfl (Nat.le_of_ble_eq_true rfl) (by decide) (by decide) (Nat.zero_le _) (Nat.zero_le _) ?_
        refine z_iload_n hZ (pc := 22) dX11_hoursOf_22 rfl ?_
        refine z_icmp_ne hZ (pc := 23) (tgt := 30) dX11_hoursOf_23 rfl (fun c23 => ?_) (fun c23 => ?_)
        · skip
          refine z_iconst hZ (pc := 30) (v := 0) dX11_hoursOf_30 (by decide) ?_
          refine z_iadd hZ (pc := 31) dX11_hoursOf_31 ?_
          refine q_istore_7_5 hZ (pc := 32) dX11_hoursOf_32 rfl ?_
          refine q_iinc_7_6 hZ (pc := 34) dX11_hoursOf_34 rfl ?_
          refine z_goto hZ (pc := 37) (tgt := 6) dX11_hoursOf_37 rfl ?_
          exact z_back hZ (ih (i + 1) (by omega) (by omega)) rfl ⟨rfl, rfl, rfl, rfl, rfl, zi (by simp [hoursN, fb_ct_succ, c23]), zi (nI_inc _), trivial⟩
        · skip
          refine z_iconst hZ (pc := 26) (v := 1) dX11_hoursOf_26 (by decide) ?_
          refine z_goto hZ (pc := 27) (tgt := 31) dX11_hoursOf_27 rfl ?_
          refine z_iadd hZ (pc := 31) dX11_hoursOf_31 ?_
          refine q_istore_7_5 hZ (pc := 32) dX11_hoursOf_32 rfl ?_
          refine q_iinc_7_6 hZ (pc := 34) dX11_hoursOf_34 rfl ?_
          refine z_goto hZ (pc := 37) (tgt := 6) dX11_hoursOf_37 rfl ?_
          exact z_back hZ (ih (i + 1) (by omega) (by omega)) rfl ⟨rfl, rfl, rfl, rfl, rfl, zi (by simp [hoursN, fb_ct_succ, c23, nI_1]), zi (nI_inc _), trivial⟩
  exact z_back hZ (lp6 (B + 2 - A) 0 (Nat.zero_le _) (by omega)) rfl ⟨rfl, rfl, rfl, rfl, rfl, rfl, rfl, trivial⟩
/-- names that just one house has, of the first persons -/
def plainS (hs : Nat → Nat) (P : Nat) : Nat := fb_ct (fun p => decide (popc (hs p) = 1)) P
theorem and_off {b k : Nat} (hb : b < 1024) (hk : k < 10) : nI b &&& (((1 : Int32) <<< (nI k &&& 31)) ^^^ (-1)) = nI (b &&& (1023 - 2 ^ k)) := by
  have h1 : ∀ k, k < 10 → (((1 : Int32) <<< (nI k &&& 31)) ^^^ (-1)) &&& 1023 = nI (1023 - 2 ^ k) := by decide +kernel
  have h2 : nI b = nI b &&& 1023 := by
    rw [show (1023 : Int32) = nI 1023 from rfl, fa_and]
    congr 1
    rw [show (1023 : Nat) = 2 ^ 10 - 1 from rfl, Nat.and_two_pow_sub_one_eq_mod]
    omega
  rw [h2, Int32.and_assoc, Int32.and_comm 1023, h1 k hk, fa_and]
