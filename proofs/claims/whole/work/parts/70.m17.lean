def inp5 (A B C D1 E : Int32) (k : Nat) : Int32 := if k < 4 then A else if k < 8 then B else if k < 12 then C else if k < 16 then D1 else E
def tapM (f : Nat → Int32) (T : Nat) (X : Nat → Int32) : Nat → Nat → Int32
  | 0 => f
  | k + 1 => upd (tapM f T X k) (T + k) (bytV (X k) (k % 4))
theorem shm : ∀ k, k < 20 → (24 : Int32) - 8 * (nI k - nI k / 4 * 4) = shv (k % 4) := by decide
theorem c_X11_feed {l : Launch} {D : va_G} {cA : Nat → ClassId} {r : Nat} {a : Nat → Nat} {s0 s1 : Nat → Option Nat} {v : ZV} {g : ZG} {A B C D1 E : Int32} {T : Nat} (hT : v 25 = nI T) (h7 : T ≤ 700) : MG l D cA (WM r a cA s0 s1) yX11_feed cX11_feed 8 (some .int) 1 [(.ref r), .int A, .int B, .int C, .int D1, .int E] v g (fun v2 g2 r => if T + 20 ≤ 700 then v2 = va_up (va_up v 2 0) 25 (nI (T + 20)) ∧ g2 = va_up g 24 (tapM (g 24) T (inp5 A B C D1 E) 20) ∧ r = some (.int (nI (T + 20))) else v2 = va_up v 2 0 ∧ g2 = g ∧ r = some (.int (-1))) := by
  refine MG.of (by decide) rfl (Nat.le_of_ble_eq_true rfl) (by simp [Value.category]) (fun Z hZ => ?_)
  refine z_aload_n hZ (pc := 0) dX11_feed_0 rfl ?_
  refine z_iconst hZ (pc := 1) (v := 0) dX11_feed_1 (by decide) ?_
  refine pM_2 hZ (pc := 2) fl_X11_160 dX11_feed_2 ?_
  refine z_aload_n hZ (pc := 5) dX11_feed_5 rfl ?_
  refine gM_25 hZ (pc := 6) fl_X11_167 dX11_feed_6 ?_
  refine z_bipush hZ (pc := 9) (v := 20) dX11_feed_9 (by decide) ?_
  refine z_iadd hZ (pc := 11) dX11_feed_11 ?_
  refine z_top (y := nI (T + 20)) (by rw [show (va_up v 2 0) 25 = nI T from hT]; exact nI_add T 20) ?_
  refine z_sipush hZ (pc := 12) (v := 700) dX11_feed_12 (by decide) ?_
  refine z_icmp_le hZ (pc := 15) (tgt := 20) dX11_feed_15 rfl (fun c15 => ?_) (fun c15 => ?_)
  · skip
    have hl : T + 20 ≤ 700 := (nI_leI (a := T + 20) (b := 700) (by omega) (by omega)).mp c15
    refine z_iconst hZ (pc := 20) (v := 0) dX11_feed_20 (by decide) ?_
    refine q_istore_8_6 hZ (pc := 21) dX11_feed_21 rfl ?_
    have lp23 : ∀ (f k : Nat), k ≤ 20 → 20 - k < f → Z 0 0 (WM r a cA s0 s1 (va_up (va_up v 2 0) 25 (nI (T + k))) (va_up g 24 (tapM (g 24) T (inp5 A B C D1 E) k))) [some (.ref r), some (.int A), some (.int B), some (.int C), some (.int D1), some (.int E), some (.int (nI k)), none] [] 23 := by
      intro f
      induction f with
      | zero => intro k _ hf; exact absurd hf (Nat.not_lt_zero _)
      | succ f ih23 =>
        intro k hk1 hf
        refine z_iload hZ (pc := 23) dX11_feed_23 rfl ?_
        refine z_bipush hZ (pc := 25) (v := 20) dX11_feed_25 (by decide) ?_
        refine z_icmp_ge hZ (pc := 27) (tgt := 120) dX11_feed_27 rfl (fun c27 => ?_) (fun c27 => ?_)
        · skip
          have ek : k = 20 := by
            have := (nI_leI (a := 20) (b := k) (by omega) (by omega)).mp c27
            omega
          subst ek
          refine z_aload_n hZ (pc := 120) dX11_feed_120 rfl ?_
          refine gM_25 hZ (pc := 121) fl_X11_167 dX11_feed_121 ?_
          refine zr_i hZ (pc := 124) dX11_feed_124 FitR.int ?_
          exact (by rw [if_pos hl]; exact ⟨rfl, rfl, rfl⟩)
        · skip
          have hk : k < 20 := by
            rcases Nat.lt_or_ge k 20 with z | z
            · exact z
            · exact absurd (nI_le (a := 20) (b := k) z (by omega)) c27
          refine z_iload hZ (pc := 30) dX11_feed_30 rfl ?_
          refine z_iconst hZ (pc := 32) (v := 4) dX11_feed_32 (by decide) ?_
          refine z_icmp_ge hZ (pc := 33) (tgt := 40) dX11_feed_33 rfl (fun c33 => ?_) (fun c33 => ?_)
          · skip
            refine z_iload hZ (pc := 40) dX11_feed_40 rfl ?_
            refine z_bipush hZ (pc := 42) (v := 8) dX11_feed_42 (by decide) ?_
            refine z_icmp_ge hZ (pc := 44) (tgt := 51) dX11_feed_44 rfl (fun c44 => ?_) (fun c44 => ?_)
            · skip
              refine z_iload hZ (pc := 51) dX11_feed_51 rfl ?_
              refine z_bipush hZ (pc := 53) (v := 12) dX11_feed_53 (by decide) ?_
              refine z_icmp_ge hZ (pc := 55) (tgt := 62) dX11_feed_55 rfl (fun c55 => ?_) (fun c55 => ?_)
              · skip
                refine z_iload hZ (pc := 62) dX11_feed_62 rfl ?_
                refine z_bipush hZ (pc := 64) (v := 16) dX11_feed_64 (by decide) ?_
                refine z_icmp_ge hZ (pc := 66) (tgt := 74) dX11_feed_66 rfl (fun c66 => ?_) (fun c66 => ?_)
                · skip
                  refine z_iload hZ (pc := 74) dX11_feed_74 rfl ?_
                  have q1 : ¬ k < 16 := fun z => absurd ((nI_leI (a := 16) (b := k) (by omega) (by omega)).mp c66) (by omega)
                  refine z_top (y := inp5 A B C D1 E k) (by rw [inp5, if_neg (by omega), if_neg (by omega), if_neg (by omega), if_neg q1]) ?_
                  refine q_istore_8_7 hZ (pc := 76) dX11_feed_76 rfl ?_
                  refine z_aload_n hZ (pc := 78) dX11_feed_78 rfl ?_
                  refine gM_24 hZ (pc := 79) fl_X11_95 dX11_feed_79 ?_
                  refine z_aload_n hZ (pc := 82) dX11_feed_82 rfl ?_
                  refine gM_25 hZ (pc := 83) fl_X11_167 dX11_feed_83 ?_
                  refine z_top (y := nI (T + k)) rfl ?_
                  refine z_iload hZ (pc := 86) dX11_feed_86 rfl ?_
                  refine z_bipush hZ (pc := 88) (v := 24) dX11_feed_88 (by decide) ?_
                  refine z_bipush hZ (pc := 90) (v := 8) dX11_feed_90 (by decide) ?_
                  refine z_iload hZ (pc := 92) dX11_feed_92 rfl ?_
                  refine z_iconst hZ (pc := 94) (v := 4) dX11_feed_94 (by decide) ?_
                  refine z_irem hZ (pc := 95) dX11_feed_95 (by decide) ?_
                  refine z_imul hZ (pc := 96) dX11_feed_96 ?_
                  refine z_isub hZ (pc := 97) dX11_feed_97 ?_
                  refine z_top (y := shv (k % 4)) (shm k hk) ?_
                  refine z_ishr hZ (pc := 98) dX11_feed_98 ?_
                  refine z_sipush hZ (pc := 99) (v := 255) dX11_feed_99 (by decide) ?_
                  refine z_iand hZ (pc := 102) dX11_feed_102 ?_
                  refine sMn_24 hZ (pc := 103) dX11_feed_103 (show T + k < 700 by omega) ?_
                  refine z_aload_n hZ (pc := 104) dX11_feed_104 rfl ?_
                  refine z_dup hZ (pc := 105) dX11_feed_105 rfl ?_
                  refine gM_25 hZ (pc := 106) fl_X11_167 dX11_feed_106 ?_
                  refine z_iconst hZ (pc := 109) (v := 1) dX11_feed_109 (by decide) ?_
                  refine z_iadd hZ (pc := 110) dX11_feed_110 ?_
                  refine z_top (y := nI (T + k + 1)) (nI_1 _) ?_
                  refine pM_25 hZ (pc := 111) fl_X11_167 dX11_feed_111 ?_
                  refine q_iinc_8_6 hZ (pc := 114) dX11_feed_114 rfl ?_
                  refine z_goto hZ (pc := 117) (tgt := 23) dX11_feed_117 rfl ?_
                  exact z_back hZ (ih23 (k + 1) (by omega) (by omega)) (WM_eq up_twice (by rw [up_twice, up_at]; rfl)) ⟨rfl, rfl, rfl, rfl, rfl, rfl, zi (nI_inc k), trivial⟩
                · skip
                  refine z_iload hZ (pc := 69) dX11_feed_69 rfl ?_
                  refine z_goto hZ (pc := 71) (tgt := 76) dX11_feed_71 rfl ?_
                  have q1 : k < 16 := by
                    rcases Nat.lt_or_ge k 16 with z | z
                    · exact z
                    · exact absurd (nI_le (a := 16) (b := k) z (by omega)) c66
                  have q0 : ¬ k < 12 := fun z => absurd ((nI_leI (a := 12) (b := k) (by omega) (by omega)).mp c55) (by omega)
                  refine z_top (y := inp5 A B C D1 E k) (by rw [inp5, if_neg (by omega), if_neg (by omega), if_neg q0, if_pos q1]) ?_
                  refine q_istore_8_7 hZ (pc := 76) dX11_feed_76 rfl ?_
                  refine z_aload_n hZ (pc := 78) dX11_feed_78 rfl ?_
                  refine gM_24 hZ (pc := 79) fl_X11_95 dX11_feed_79 ?_
                  refine z_aload_n hZ (pc := 82) dX11_feed_82 rfl ?_
                  refine gM_25 hZ (pc := 83) fl_X11_167 dX11_feed_83 ?_
                  refine z_top (y := nI (T + k)) rfl ?_
                  refine z_iload hZ (pc := 86) dX11_feed_86 rfl ?_
                  refine z_bipush hZ (pc := 88) (v := 24) dX11_feed_88 (by decide) ?_
                  refine z_bipush hZ (pc := 90) (v := 8) dX11_feed_90 (by decide) ?_
                  refine z_iload hZ (pc := 92) dX11_feed_92 rfl ?_
                  refine z_iconst hZ (pc := 94) (v := 4) dX11_feed_94 (by decide) ?_
                  refine z_irem hZ (pc := 95) dX11_feed_95 (by decide) ?_
                  refine z_imul hZ (pc := 96) dX11_feed_96 ?_
                  refine z_isub hZ (pc := 97) dX11_feed_97 ?_
                  refine z_top (y := shv (k % 4)) (shm k hk) ?_
                  refine z_ishr hZ (pc := 98) dX11_feed_98 ?_
                  refine z_sipush hZ (pc := 99) (v := 255) dX11_feed_99 (by decide) ?_
                  refine z_iand hZ (pc := 102) dX11_feed_102 ?_
                  refine sMn_24 hZ (pc := 103) dX11_feed_103 (show T + k < 700 by omega) ?_
                  refine z_aload_n hZ (pc := 104) dX11_feed_104 rfl ?_
                  refine z_dup hZ (pc := 105) dX11_feed_105 rfl ?_
                  refine gM_25 hZ (pc := 106) fl_X11_167 dX11_feed_106 ?_
                  refine z_iconst hZ (pc := 109) (v := 1) dX11_feed_109 (by decide) ?_
                  refine z_iadd hZ (pc := 110) dX11_feed_110 ?_
                  refine z_top (y := nI (T + k + 1)) (nI_1 _) ?_
                  refine pM_25 hZ (pc := 111) fl_X11_167 dX11_feed_111 ?_
                  refine q_iinc_8_6 hZ (pc := 114) dX11_feed_114 rfl ?_
                  refine z_goto hZ (pc := 117) (tgt := 23) dX11_feed_117 rfl ?_
                  exact z_back hZ (ih23 (k + 1) (by omega) (by omega)) (WM_eq up_twice (by rw [up_twice, up_at]; rfl)) ⟨rfl, rfl, rfl, rfl, rfl, rfl, zi (nI_inc k), trivial⟩
              · skip
                refine z_iload_n hZ (pc := 58) dX11_feed_58 rfl ?_
                refine z_goto hZ (pc := 59) (tgt := 76) dX11_feed_59 rfl ?_
                have q1 : k < 12 := by
                  rcases Nat.lt_or_ge k 12 with z | z
                  · exact z
                  · exact absurd (nI_le (a := 12) (b := k) z (by omega)) c55
                have q0 : ¬ k < 8 := fun z => absurd ((nI_leI (a := 8) (b := k) (by omega) (by omega)).mp c44) (by omega)
                refine z_top (y := inp5 A B C D1 E k) (by rw [inp5, if_neg (by omega), if_neg q0, if_pos q1]) ?_
                refine q_istore_8_7 hZ (pc := 76) dX11_feed_76 rfl ?_
                refine z_aload_n hZ (pc := 78) dX11_feed_78 rfl ?_
                refine gM_24 hZ (pc := 79) fl_X11_95 dX11_feed_79 ?_
                refine z_aload_n hZ (pc := 82) dX11_feed_82 rfl ?_
                refine gM_25 hZ (pc := 83) fl_X11_167 dX11_feed_83 ?_
                refine z_top (y := nI (T + k)) rfl ?_
                refine z_iload hZ (pc := 86) dX11_feed_86 rfl ?_
                refine z_bipush hZ (pc := 88) (v := 24) dX11_feed_88 (by decide) ?_
                refine z_bipush hZ (pc := 90) (v := 8) dX11_feed_90 (by decide) ?_
                refine z_iload hZ (pc := 92) dX11_feed_92 rfl ?_
                refine z_iconst hZ (pc := 94) (v := 4) dX11_feed_94 (by decide) ?_
                refine z_irem hZ (pc := 95) dX11_feed_95 (by decide) ?_
                refine z_imul hZ (pc := 96) dX11_feed_96 ?_
                refine z_isub hZ (pc := 97) dX11_feed_97 ?_
                refine z_top (y := shv (k % 4)) (shm k hk) ?_
                refine z_ishr hZ (pc := 98) dX11_feed_98 ?_
                refine z_sipush hZ (pc := 99) (v := 255) dX11_feed_99 (by decide) ?_
                refine z_iand hZ (pc := 102) dX11_feed_102 ?_
                refine sMn_24 hZ (pc := 103) dX11_feed_103 (show T + k < 700 by omega) ?_
                refine z_aload_n hZ (pc := 104) dX11_feed_104 rfl ?_
                refine z_dup hZ (pc := 105) dX11_feed_105 rfl ?_
                refine gM_25 hZ (pc := 106) fl_X11_167 dX11_feed_106 ?_
                refine z_iconst hZ (pc := 109) (v := 1) dX11_feed_109 (by decide) ?_
                refine z_iadd hZ (pc := 110) dX11_feed_110 ?_
                refine z_top (y := nI (T + k + 1)) (nI_1 _) ?_
                refine pM_25 hZ (pc := 111) fl_X11_167 dX11_feed_111 ?_
                refine q_iinc_8_6 hZ (pc := 114) dX11_feed_114 rfl ?_
                refine z_goto hZ (pc := 117) (tgt := 23) dX11_feed_117 rfl ?_
                exact z_back hZ (ih23 (k + 1) (by omega) (by omega)) (WM_eq up_twice (by rw [up_twice, up_at]; rfl)) ⟨rfl, rfl, rfl, rfl, rfl, rfl, zi (nI_inc k), trivial⟩
            · skip
              refine z_iload_n hZ (pc := 47) dX11_feed_47 rfl ?_
              refine z_goto hZ (pc := 48) (tgt := 76) dX11_feed_48 rfl ?_
              have q1 : k < 8 := by
                rcases Nat.lt_or_ge k 8 with z | z
                · exact z
                · exact absurd (nI_le (a := 8) (b := k) z (by omega)) c44
              have q0 : ¬ k < 4 := fun z => absurd ((nI_leI (a := 4) (b := k) (by omega) (by omega)).mp c33) (by omega)
              refine z_top (y := inp5 A B C D1 E k) (by rw [inp5, if_neg q0, if_pos q1]) ?_
              refine q_istore_8_7 hZ (pc := 76) dX11_feed_76 rfl ?_
              refine z_aload_n hZ (pc := 78) dX11_feed_78 rfl ?_
              refine gM_24 hZ (pc := 79) fl_X11_95 dX11_feed_79 ?_
              refine z_aload_n hZ (pc := 82) dX11_feed_82 rfl ?_
              refine gM_25 hZ (pc := 83) fl_X11_167 dX11_feed_83 ?_
              refine z_top (y := nI (T + k)) rfl ?_
              refine z_iload hZ (pc := 86) dX11_feed_86 rfl ?_
              refine z_bipush hZ (pc := 88) (v := 24) dX11_feed_88 (by decide) ?_
              refine z_bipush hZ (pc := 90) (v := 8) dX11_feed_90 (by decide) ?_
              refine z_iload hZ (pc := 92) dX11_feed_92 rfl ?_
              refine z_iconst hZ (pc := 94) (v := 4) dX11_feed_94 (by decide) ?_
              refine z_irem hZ (pc := 95) dX11_feed_95 (by decide) ?_
              refine z_imul hZ (pc := 96) dX11_feed_96 ?_
              refine z_isub hZ (pc := 97) dX11_feed_97 ?_
              refine z_top (y := shv (k % 4)) (shm k hk) ?_
              refine z_ishr hZ (pc := 98) dX11_feed_98 ?_
              refine z_sipush hZ (pc := 99) (v := 255) dX11_feed_99 (by decide) ?_
              refine z_iand hZ (pc := 102) dX11_feed_102 ?_
              refine sMn_24 hZ (pc := 103) dX11_feed_103 (show T + k < 700 by omega) ?_
              refine z_aload_n hZ (pc := 104) dX11_feed_104 rfl ?_
              refine z_dup hZ (pc := 105) dX11_feed_105 rfl ?_
              refine gM_25 hZ (pc := 106) fl_X11_167 dX11_feed_106 ?_
              refine z_iconst hZ (pc := 109) (v := 1) dX11_feed_109 (by decide) ?_
              refine z_iadd hZ (pc := 110) dX11_feed_110 ?_
              refine z_top (y := nI (T + k + 1)) (nI_1 _) ?_
              refine pM_25 hZ (pc := 111) fl_X11_167 dX11_feed_111 ?_
              refine q_iinc_8_6 hZ (pc := 114) dX11_feed_114 rfl ?_
              refine z_goto hZ (pc := 117) (tgt := 23) dX11_feed_117 rfl ?_
              exact z_back hZ (ih23 (k + 1) (by omega) (by omega)) (WM_eq up_twice (by rw [up_twice, up_at]; rfl)) ⟨rfl, rfl, rfl, rfl, rfl, rfl, zi (nI_inc k), trivial⟩
          · skip
            refine z_iload_n hZ (pc := 36) dX11_feed_36 rfl ?_
            refine z_goto hZ (pc := 37) (tgt := 76) dX11_feed_37 rfl ?_
            have q1 : k < 4 := by
              rcases Nat.lt_or_ge k 4 with z | z
              · exact z
              · exact absurd (nI_le (a := 4) (b := k) z (by omega)) c33
            refine z_top (y := inp5 A B C D1 E k) (by rw [inp5, if_pos q1]) ?_
            refine q_istore_8_7 hZ (pc := 76) dX11_feed_76 rfl ?_
            refine z_aload_n hZ (pc := 78) dX11_feed_78 rfl ?_
            refine gM_24 hZ (pc := 79) fl_X11_95 dX11_feed_79 ?_
            refine z_aload_n hZ (pc := 82) dX11_feed_82 rfl ?_
            refine gM_25 hZ (pc := 83) fl_X11_167 dX11_feed_83 ?_
            refine z_top (y := nI (T + k)) rfl ?_
            refine z_iload hZ (pc := 86) dX11_feed_86 rfl ?_
            refine z_bipush hZ (pc := 88) (v := 24) dX11_feed_88 (by decide) ?_
            refine z_bipush hZ (pc := 90) (v := 8) dX11_feed_90 (by decide) ?_
            refine z_iload hZ (pc := 92) dX11_feed_92 rfl ?_
            refine z_iconst hZ (pc := 94) (v := 4) dX11_feed_94 (by decide) ?_
            refine z_irem hZ (pc := 95) dX11_feed_95 (by decide) ?_
            refine z_imul hZ (pc := 96) dX11_feed_96 ?_
            refine z_isub hZ (pc := 97) dX11_feed_97 ?_
            refine z_top (y := shv (k % 4)) (shm k hk) ?_
            refine z_ishr hZ (pc := 98) dX11_feed_98 ?_
            refine z_sipush hZ (pc := 99) (v := 255) dX11_feed_99 (by decide) ?_
            refine z_iand hZ (pc := 102) dX11_feed_102 ?_
            refine sMn_24 hZ (pc := 103) dX11_feed_103 (show T + k < 700 by omega) ?_
            refine z_aload_n hZ (pc := 104) dX11_feed_104 rfl ?_
            refine z_dup hZ (pc := 105) dX11_feed_105 rfl ?_
            refine gM_25 hZ (pc := 106) fl_X11_167 dX11_feed_106 ?_
            refine z_iconst hZ (pc := 109) (v := 1) dX11_feed_109 (by decide) ?_
            refine z_iadd hZ (pc := 110) dX11_feed_110 ?_
            refine z_top (y := nI (T + k + 1)) (nI_1 _) ?_
            refine pM_25 hZ (pc := 111) fl_X11_167 dX11_feed_111 ?_
            refine q_iinc_8_6 hZ (pc := 114) dX11_feed_114 rfl ?_
            refine z_goto hZ (pc := 117) (tgt := 23) dX11_feed_117 rfl ?_
            exact z_back hZ (ih23 (k + 1) (by omega) (by omega)) (WM_eq up_twice (by rw [up_twice, up_at]; rfl)) ⟨rfl, rfl, rfl, rfl, rfl, rfl, zi (nI_inc k), trivial⟩
    exact z_back hZ (lp23 21 0 (by omega) (by omega)) (WM_eq (by rw [Nat.add_zero, ← show (va_up v 2 0) 25 = nI T from hT, up_self]) (by rw [tapM, up_self])) ⟨rfl, rfl, rfl, rfl, rfl, rfl, rfl, trivial⟩
  · skip
    refine z_iconst hZ (pc := 18) (v := (-1)) dX11_feed_18 (by decide) ?_
    refine zr_i hZ (pc := 19) dX11_feed_19 FitR.int ?_
    exact (by rw [if_neg (fun z => c15 (nI_le (b := 700) z (by omega)))]; exact ⟨rfl, rfl, rfl⟩)
