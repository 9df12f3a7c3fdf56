/-! the reference's readClause, for every token -/
theorem kc_cl : ∀ k, k < 5 → kcN (clN k) = [6, -2, 7, 8, 9].getD k 0 := by decide
section RCL
variable {l : Launch} {D : va_G} {cA : Nat → ClassId} {aK aV : Nat → Nat} {r : Nat} {a : Nat → Nat} {s0 s1 : Nat → Option Nat} {v : ZV} {g : ZG} {t : Nat → Int32} {n m i : Nat} {K N : Nat → Int32} {L : List Int32} {d : Dr} {Kl : Nat} {b : Bool}
theorem c_X11_readClause (hG : GM t n m K N) (hM : MI t n m v g i L) (hD : DrM d L g) (hK : DrK d) (hs0 : ∀ k, k < 5 → s0 k = some (aK (clN k))) (hs1 : ∀ k, k < 7 → s1 k = some (aK k)) (hN : ∀ j, j ≤ m → K j = 1 → 0 ≤ N j) (hKl : 80 ≤ Kl) : MGY l D cA aK aV (WM r a cA s0 s1) yX11_readClause cX11_readClause 4 none Kl [.ref r, .int (bI b)] v g (CMp t n m v g L (pCl2 K N b d i)) := by
  by_cases h0 : K i = kcN (clN 0)
  · exact c_X11_readClause_0 hG hM hD hK hs0 hs1 hN hKl h0
  · by_cases h1 : K i = kcN (clN 1)
    · exact c_X11_readClause_1 hG hM hD hK hs0 hs1 hN hKl h1
    · by_cases h2 : K i = kcN (clN 2)
      · exact c_X11_readClause_2 hG hM hD hK hs0 hs1 hN hKl h2
      · by_cases h3 : K i = kcN (clN 3)
        · exact c_X11_readClause_3 hG hM hD hK hs0 hs1 hN hKl h3
        · by_cases h4 : K i = kcN (clN 4)
          · exact c_X11_readClause_4 hG hM hD hK hs0 hs1 hN hKl h4
          · refine c_X11_readClause_n hG hM hD hK hs0 hs1 hN hKl (fun k hk => ?_)
            have : k = 0 ∨ k = 1 ∨ k = 2 ∨ k = 3 ∨ k = 4 := by omega
            rcases this with rfl | rfl | rfl | rfl | rfl
            · exact h0
            · exact h1
            · exact h2
            · exact h3
            · exact h4
end RCL
def clW (B : Nat) (f : Nat → Int32) (c : Nat) : Nat → Int32 := fun j => if B ≤ j ∧ j < B + c then (if (j - B) / 10 = (j - B) % 10 then 0 else 10) else f j
theorem clW_0 {B : Nat} {f : Nat → Int32} : clW B f 0 = f := by
  funext j
  unfold clW
  rw [if_neg (by omega)]
theorem clW_s {B c : Nat} {f : Nat → Int32} : clW B f (c + 1) = upd (clW B f c) (B + c) (if c / 10 = c % 10 then 0 else 10) := by
  funext j
  unfold upd clW
  by_cases h : j = B + c
  · rw [if_pos h, if_pos (by omega), show j - B = c by omega]
  · rw [if_neg h]
    by_cases h2 : B ≤ j ∧ j < B + c
    · rw [if_pos h2, if_pos (by omega)]
    · rw [if_neg h2, if_neg (by omega)]
theorem nI_hk (z k : Nat) : 100 * nI z + nI k = nI (100 * z + k) := by
  rw [show (100 : Int32) = nI 100 from rfl, pk_mul, nI_add]
/-- what is taken over so far -/
def TKI (g g2 : ZG) (i1 i2 i3 i4 i5 : Nat) : Prop := (∀ k, (k < 3 ∨ 10 < k) → g2 k = g k) ∧ (∀ q, q < i1 → g2 3 q = g 3 (4 + q)) ∧ (∀ q, i1 ≤ q → g2 3 q = g 3 q) ∧ (∀ q, q < i2 → g2 4 q = g 4 (16 + q) ∧ g2 5 q = g 5 (16 + q) ∧ g2 7 q = g 7 (16 + q)) ∧ (∀ q, i2 ≤ q → g2 4 q = g 4 q ∧ g2 5 q = g 5 q ∧ g2 7 q = g 7 q) ∧ (∀ q, q < i3 → g2 6 q = g 6 (100 + q)) ∧ (∀ q, i3 ≤ q → g2 6 q = g 6 q) ∧ (∀ q, q < i4 → g2 8 q = g 8 (10 + q) ∧ g2 9 q = g 9 (10 + q)) ∧ (∀ q, i4 ≤ q → g2 8 q = g 8 q ∧ g2 9 q = g 9 q) ∧ (∀ q, q < i5 → g2 10 q = g 10 (700 + q)) ∧ (∀ q, i5 ≤ q → g2 10 q = g 10 q)
theorem TKI.n1 {g g2 : ZG} {i i2 i3 i4 i5 : Nat} (h : TKI g g2 i i2 i3 i4 i5) (hi : i < 4) : TKI g (va_up g2 3 (upd (g2 3) i (g2 3 (4 + i)))) (i + 1) i2 i3 i4 i5 := by
  obtain ⟨h0, h1, h2, h3, h4, h5, h6, h7, h8, h9, h10⟩ := h
  refine ⟨fun k hk => by rw [up_off (by omega)]; exact h0 k hk, fun q hq => ?_, fun q hq => ?_, by rw [up_off (by decide), up_off (by decide), up_off (by decide)]; exact h3, by rw [up_off (by decide), up_off (by decide), up_off (by decide)]; exact h4, by rw [up_off (by decide)]; exact h5, by rw [up_off (by decide)]; exact h6, by rw [up_off (by decide), up_off (by decide)]; exact h7, by rw [up_off (by decide), up_off (by decide)]; exact h8, by rw [up_off (by decide)]; exact h9, by rw [up_off (by decide)]; exact h10⟩
  · rw [up_at]
    by_cases e : q = i
    · rw [e, upd_at]; exact h2 _ (by omega)
    · rw [upd_off e]; exact h1 q (by omega)
  · rw [up_at, upd_off (by omega)]; exact h2 q (by omega)
theorem TKI.n2 {g g2 : ZG} {i i1 i3 i4 i5 : Nat} (h : TKI g g2 i1 i i3 i4 i5) (hi : i < 16) : TKI g (va_up (va_up (va_up g2 4 (upd (g2 4) i (g2 4 (16 + i)))) 5 (upd (g2 5) i (g2 5 (16 + i)))) 7 (upd (g2 7) i (g2 7 (16 + i)))) i1 (i + 1) i3 i4 i5 := by
  obtain ⟨h0, h1, h2, h3, h4, h5, h6, h7, h8, h9, h10⟩ := h
  have e4 : (va_up (va_up (va_up g2 4 (upd (g2 4) i (g2 4 (16 + i)))) 5 (upd (g2 5) i (g2 5 (16 + i)))) 7 (upd (g2 7) i (g2 7 (16 + i)))) 4 = upd (g2 4) i (g2 4 (16 + i)) := rfl
  have e5 : (va_up (va_up (va_up g2 4 (upd (g2 4) i (g2 4 (16 + i)))) 5 (upd (g2 5) i (g2 5 (16 + i)))) 7 (upd (g2 7) i (g2 7 (16 + i)))) 5 = upd (g2 5) i (g2 5 (16 + i)) := rfl
  have e7 : (va_up (va_up (va_up g2 4 (upd (g2 4) i (g2 4 (16 + i)))) 5 (upd (g2 5) i (g2 5 (16 + i)))) 7 (upd (g2 7) i (g2 7 (16 + i)))) 7 = upd (g2 7) i (g2 7 (16 + i)) := rfl
  refine ⟨fun k hk => by rw [up_off (by omega), up_off (by omega), up_off (by omega)]; exact h0 k hk, h1, h2, fun q hq => ?_, fun q hq => ?_, h5, h6, h7, h8, h9, h10⟩
  · rw [e4, e5, e7]
    by_cases e : q = i
    · rw [e, upd_at, upd_at, upd_at]; exact h4 _ (by omega)
    · rw [upd_off e, upd_off e, upd_off e]; exact h3 q (by omega)
  · rw [e4, e5, e7, upd_off (by omega), upd_off (by omega), upd_off (by omega)]; exact h4 q (by omega)
theorem TKI.n3 {g g2 : ZG} {i i1 i2 i4 i5 : Nat} (h : TKI g g2 i1 i2 i i4 i5) (hi : i < 100) : TKI g (va_up g2 6 (upd (g2 6) i (g2 6 (100 + i)))) i1 i2 (i + 1) i4 i5 := by
  obtain ⟨h0, h1, h2, h3, h4, h5, h6, h7, h8, h9, h10⟩ := h
  refine ⟨fun k hk => by rw [up_off (by omega)]; exact h0 k hk, h1, h2, h3, h4, fun q hq => ?_, fun q hq => ?_, h7, h8, h9, h10⟩
  · rw [up_at]
    by_cases e : q = i
    · rw [e, upd_at]; exact h6 _ (by omega)
    · rw [upd_off e]; exact h5 q (by omega)
  · rw [up_at, upd_off (by omega)]; exact h6 q (by omega)
theorem TKI.n4 {g g2 : ZG} {i i1 i2 i3 i5 : Nat} (h : TKI g g2 i1 i2 i3 i i5) (hi : i < 10) : TKI g (va_up (va_up g2 8 (upd (g2 8) i (g2 8 (10 + i)))) 9 (upd (g2 9) i (g2 9 (10 + i)))) i1 i2 i3 (i + 1) i5 := by
  obtain ⟨h0, h1, h2, h3, h4, h5, h6, h7, h8, h9, h10⟩ := h
  have e8 : (va_up (va_up g2 8 (upd (g2 8) i (g2 8 (10 + i)))) 9 (upd (g2 9) i (g2 9 (10 + i)))) 8 = upd (g2 8) i (g2 8 (10 + i)) := rfl
  have e9 : (va_up (va_up g2 8 (upd (g2 8) i (g2 8 (10 + i)))) 9 (upd (g2 9) i (g2 9 (10 + i)))) 9 = upd (g2 9) i (g2 9 (10 + i)) := rfl
  refine ⟨fun k hk => by rw [up_off (by omega), up_off (by omega)]; exact h0 k hk, h1, h2, h3, h4, h5, h6, fun q hq => ?_, fun q hq => ?_, h9, h10⟩
  · rw [e8, e9]
    by_cases e : q = i
    · rw [e, upd_at, upd_at]; exact h8 _ (by omega)
    · rw [upd_off e, upd_off e]; exact h7 q (by omega)
  · rw [e8, e9, upd_off (by omega), upd_off (by omega)]; exact h8 q (by omega)
theorem TKI.n5 {g g2 : ZG} {i i1 i2 i3 i4 : Nat} (h : TKI g g2 i1 i2 i3 i4 i) (hi : i < 700) : TKI g (va_up g2 10 (upd (g2 10) i (g2 10 (700 + i)))) i1 i2 i3 i4 (i + 1) := by
  obtain ⟨h0, h1, h2, h3, h4, h5, h6, h7, h8, h9, h10⟩ := h
  refine ⟨fun k hk => by rw [up_off (by omega)]; exact h0 k hk, h1, h2, h3, h4, h5, h6, h7, h8, fun q hq => ?_, fun q hq => ?_⟩
  · rw [up_at]
    by_cases e : q = i
    · rw [e, upd_at]; exact h10 _ (by omega)
    · rw [upd_off e]; exact h9 q (by omega)
  · rw [up_at, upd_off (by omega)]; exact h10 q (by omega)
theorem TKI.zero {g : ZG} : TKI g g 0 0 0 0 0 := ⟨fun _ _ => rfl, fun _ h => absurd h (Nat.not_lt_zero _), fun _ _ => rfl, fun _ h => absurd h (Nat.not_lt_zero _), fun _ _ => ⟨rfl, rfl, rfl⟩, fun _ h => absurd h (Nat.not_lt_zero _), fun _ _ => rfl, fun _ h => absurd h (Nat.not_lt_zero _), fun _ _ => ⟨rfl, rfl⟩, fun _ h => absurd h (Nat.not_lt_zero _), fun _ _ => rfl⟩
theorem c_X11_clearWalks {l : Launch} {D : va_G} {cA : Nat → ClassId} {r : Nat} {a : Nat → Nat} {s0 s1 : Nat → Option Nat} {v : ZV} {g : ZG} {z : Nat} (hz : z ≤ 1) : MG l D cA (WM r a cA s0 s1) yX11_clearWalks cX11_clearWalks 3 none 0 [(.ref r), .int (nI z)] v g (PF v (va_up g 6 (clW (100 * z) (g 6) 100)) (none)) := by
  refine MG.of (by decide) rfl (Nat.le_of_ble_eq_true rfl) (by simp [Value.category]) (fun Z hZ => ?_)
  refine z_iconst hZ (pc := 0) (v := 0) dX11_clearWalks_0 (by decide) ?_
  refine q_istore_n_3_2 hZ (pc := 1) dX11_clearWalks_1 rfl ?_
  have lp2 : ∀ (f k : Nat), k ≤ 100 → 100 - k < f → Z 0 0 (WM r a cA s0 s1 v (va_up g 6 (clW (100 * z) (g 6) k))) [some (.ref r), some (.int (nI z)), some (.int (nI k))] [] 2 := by
    intro f
    induction f with
    | zero => intro k _ hf; exact absurd hf (Nat.not_lt_zero _)
    | succ f ih2 =>
      intro k hk hf
      refine z_iload_n hZ (pc := 2) dX11_clearWalks_2 rfl ?_
      refine z_bipush hZ (pc := 3) (v := 100) dX11_clearWalks_3 (by decide) ?_
      refine z_icmp_ge hZ (pc := 5) (tgt := 42) dX11_clearWalks_5 rfl (fun c5 => ?_) (fun c5 => ?_)
      · skip
        have ek : k = 100 := lp_ge rfl (by decide) hk c5
        subst ek
        refine zr_v hZ (pc := 42) dX11_clearWalks_42 ?_
        exact ⟨rfl, rfl, rfl⟩
      · skip
        have hk7 : k < 100 := lp_lt rfl (by decide) hk c5
        refine z_aload_n hZ (pc := 8) dX11_clearWalks_8 rfl ?_
        refine gM_6 hZ (pc := 9) fl_X11_50 dX11_clearWalks_9 ?_
        refine z_bipush hZ (pc := 12) (v := 100) dX11_clearWalks_12 (by decide) ?_
        refine z_iload_n hZ (pc := 14) dX11_clearWalks_14 rfl ?_
        refine z_imul hZ (pc := 15) dX11_clearWalks_15 ?_
        refine z_iload_n hZ (pc := 16) dX11_clearWalks_16 rfl ?_
        refine z_iadd hZ (pc := 17) dX11_clearWalks_17 ?_
        refine z_top (y := nI (100 * z + k)) (nI_hk z k) ?_
        refine z_iload_n hZ (pc := 18) dX11_clearWalks_18 rfl ?_
        refine z_bipush hZ (pc := 19) (v := 10) dX11_clearWalks_19 (by decide) ?_
        refine z_idiv hZ (pc := 21) dX11_clearWalks_21 (by decide) ?_
        refine z_top (y := nI (k / 10)) (pk_div (a := k) (d := 10) (by omega) (by decide) (by decide)) ?_
        refine z_iload_n hZ (pc := 22) dX11_clearWalks_22 rfl ?_
        refine z_bipush hZ (pc := 23) (v := 10) dX11_clearWalks_23 (by decide) ?_
        refine z_irem hZ (pc := 25) dX11_clearWalks_25 (by decide) ?_
        refine z_top (y := nI (k % 10)) (pk_rem (a := k) (d := 10) (by omega) (by decide) (by decide)) ?_
        refine z_icmp_ne hZ (pc := 26) (tgt := 33) dX11_clearWalks_26 rfl (fun c26 => ?_) (fun c26 => ?_)
        · skip
          refine z_bipush hZ (pc := 33) (v := 10) dX11_clearWalks_33 (by decide) ?_
          refine sMn_6 hZ (pc := 35) dX11_clearWalks_35 (by omega) ?_
          refine q_iinc_3_2 hZ (pc := 36) dX11_clearWalks_36 rfl ?_
          refine z_goto hZ (pc := 39) (tgt := 2) dX11_clearWalks_39 rfl ?_
          exact z_back hZ (ih2 (k + 1) hk7 (by omega)) (by rw [up_twice, up_at, clW_s, if_neg (fun e => c26 (by rw [e]))]) ⟨rfl, rfl, zi (nI_inc _), trivial⟩
        · skip
          refine z_iconst hZ (pc := 29) (v := 0) dX11_clearWalks_29 (by decide) ?_
          refine z_goto hZ (pc := 30) (tgt := 35) dX11_clearWalks_30 rfl ?_
          refine sMn_6 hZ (pc := 35) dX11_clearWalks_35 (by omega) ?_
          refine q_iinc_3_2 hZ (pc := 36) dX11_clearWalks_36 rfl ?_
          refine z_goto hZ (pc := 39) (tgt := 2) dX11_clearWalks_39 rfl ?_
          exact z_back hZ (ih2 (k + 1) hk7 (by omega)) (by rw [up_twice, up_at, clW_s, if_pos ((nI_eq (by omega) (by omega)).mp c26)]) ⟨rfl, rfl, zi (nI_inc _), trivial⟩
  exact z_back hZ (lp2 101 0 (Nat.zero_le _) (by decide)) (by rw [clW_0]; congr 1; exact up_self.symm) ⟨rfl, rfl, rfl, trivial⟩
theorem c_X11_take {l : Launch} {D : va_G} {cA : Nat → ClassId} {r : Nat} {a : Nat → Nat} {s0 s1 : Nat → Option Nat} {v : ZV} {g : ZG} {c : Nat} (hc : v 35 = nI c) (hc7 : c ≤ 700) (hb7 : ∀ q, g 7 q = 0 ∨ g 7 q = 1) : MG l D cA (WM r a cA s0 s1) yX11_take cX11_take 2 none 0 [(.ref r)] v g (fun v2 g2 r => r = none ∧ v2 = va_up (va_up (va_up (va_up (va_up v 12 0) 19 0) 20 0) 42 (-1)) 51 0 ∧ TKI g g2 4 16 100 10 c) := by
  refine MG.of (by decide) rfl (Nat.le_of_ble_eq_true rfl) (by simp [Value.category]) (fun Z hZ => ?_)
  refine z_iconst hZ (pc := 0) (v := 0) dX11_take_0 (by decide) ?_
  refine q_istore_n_2_1 hZ (pc := 1) dX11_take_1 rfl ?_
  have lp2 : ∀ (f k : Nat) (g2 : ZG), k ≤ 4 → 4 - k < f → TKI g g2 k 0 0 0 0 → Z 0 0 (WM r a cA s0 s1 v g2) [some (.ref r), some (.int (nI k))] [] 2 := by
    intro f
    induction f with
    | zero => intro k g2 _ hf; exact absurd hf (Nat.not_lt_zero _)
    | succ f ih2 =>
      intro k g2 hk hf hI0
      refine z_iload_n hZ (pc := 2) dX11_take_2 rfl ?_
      refine z_iconst hZ (pc := 3) (v := 4) dX11_take_3 (by decide) ?_
      refine z_icmp_ge hZ (pc := 4) (tgt := 27) dX11_take_4 rfl (fun c4 => ?_) (fun c4 => ?_)
      · skip
        have e0 : k = 4 := lp_ge rfl (by decide) hk c4
        subst e0
        refine z_iconst hZ (pc := 27) (v := 0) dX11_take_27 (by decide) ?_
        refine q_istore_n_2_1 hZ (pc := 28) dX11_take_28 rfl ?_
        have lp29 : ∀ (f k : Nat) (g2 : ZG), k ≤ 16 → 16 - k < f → TKI g g2 4 k 0 0 0 → Z 0 0 (WM r a cA s0 s1 v g2) [some (.ref r), some (.int (nI k))] [] 29 := by
          intro f
          induction f with
          | zero => intro k g2 _ hf; exact absurd hf (Nat.not_lt_zero _)
          | succ f ih29 =>
            intro k g2 hk hf hI1
            refine z_iload_n hZ (pc := 29) dX11_take_29 rfl ?_
            refine z_bipush hZ (pc := 30) (v := 16) dX11_take_30 (by decide) ?_
            refine z_icmp_ge hZ (pc := 32) (tgt := 86) dX11_take_32 rfl (fun c32 => ?_) (fun c32 => ?_)
            · skip
              have e1 : k = 16 := lp_ge rfl (by decide) hk c32
              subst e1
              refine z_iconst hZ (pc := 86) (v := 0) dX11_take_86 (by decide) ?_
              refine q_istore_n_2_1 hZ (pc := 87) dX11_take_87 rfl ?_
              have lp88 : ∀ (f k : Nat) (g2 : ZG), k ≤ 100 → 100 - k < f → TKI g g2 4 16 k 0 0 → Z 0 0 (WM r a cA s0 s1 v g2) [some (.ref r), some (.int (nI k))] [] 88 := by
                intro f
                induction f with
                | zero => intro k g2 _ hf; exact absurd hf (Nat.not_lt_zero _)
                | succ f ih88 =>
                  intro k g2 hk hf hI2
                  refine z_iload_n hZ (pc := 88) dX11_take_88 rfl ?_
                  refine z_bipush hZ (pc := 89) (v := 100) dX11_take_89 (by decide) ?_
                  refine z_icmp_ge hZ (pc := 91) (tgt := 115) dX11_take_91 rfl (fun c91 => ?_) (fun c91 => ?_)
                  · skip
                    have e2 : k = 100 := lp_ge rfl (by decide) hk c91
                    subst e2
                    refine z_iconst hZ (pc := 115) (v := 0) dX11_take_115 (by decide) ?_
                    refine q_istore_n_2_1 hZ (pc := 116) dX11_take_116 rfl ?_
                    have lp117 : ∀ (f k : Nat) (g2 : ZG), k ≤ 10 → 10 - k < f → TKI g g2 4 16 100 k 0 → Z 0 0 (WM r a cA s0 s1 v g2) [some (.ref r), some (.int (nI k))] [] 117 := by
                      intro f
                      induction f with
                      | zero => intro k g2 _ hf; exact absurd hf (Nat.not_lt_zero _)
                      | succ f ih117 =>
                        intro k g2 hk hf hI3
                        refine z_iload_n hZ (pc := 117) dX11_take_117 rfl ?_
                        refine z_bipush hZ (pc := 118) (v := 10) dX11_take_118 (by decide) ?_
                        refine z_icmp_ge hZ (pc := 120) (tgt := 159) dX11_take_120 rfl (fun c120 => ?_) (fun c120 => ?_)
                        · skip
                          have e3 : k = 10 := lp_ge rfl (by decide) hk c120
                          subst e3
                          refine z_iconst hZ (pc := 159) (v := 0) dX11_take_159 (by decide) ?_
                          refine q_istore_n_2_1 hZ (pc := 160) dX11_take_160 rfl ?_
                          have lp161 : ∀ (f k : Nat) (g2 : ZG), k ≤ c → c - k < f → TKI g g2 4 16 100 10 k → Z 0 0 (WM r a cA s0 s1 v g2) [some (.ref r), some (.int (nI k))] [] 161 := by
                            intro f
                            induction f with
                            | zero => intro k g2 _ hf; exact absurd hf (Nat.not_lt_zero _)
                            | succ f ih161 =>
                              intro k g2 hk hf hI4
                              refine z_iload_n hZ (pc := 161) dX11_take_161 rfl ?_
                              refine z_aload_n hZ (pc := 162) dX11_take_162 rfl ?_
                              refine gM_35 hZ (pc := 163) fl_X11_236 dX11_take_163 ?_
                              refine z_icmp_ge hZ (pc := 166) (tgt := 191) dX11_take_166 rfl (fun c166 => ?_) (fun c166 => ?_)
                              · skip
                                have e4 : k = c := lp_ge hc (by omega) hk c166
                                subst e4
                                refine z_aload_n hZ (pc := 191) dX11_take_191 rfl ?_
                                refine z_iconst hZ (pc := 192) (v := 0) dX11_take_192 (by decide) ?_
                                refine pM_12 hZ (pc := 193) fl_X11_296 dX11_take_193 ?_
                                refine z_aload_n hZ (pc := 196) dX11_take_196 rfl ?_
                                refine z_iconst hZ (pc := 197) (v := 0) dX11_take_197 (by decide) ?_
                                refine pM_19 hZ (pc := 198) fl_X11_299 dX11_take_198 ?_
                                refine z_aload_n hZ (pc := 201) dX11_take_201 rfl ?_
                                refine z_iconst hZ (pc := 202) (v := 0) dX11_take_202 (by decide) ?_
                                refine pM_20 hZ (pc := 203) fl_X11_302 dX11_take_203 ?_
                                refine z_aload_n hZ (pc := 206) dX11_take_206 rfl ?_
                                refine z_iconst hZ (pc := 207) (v := (-1)) dX11_take_207 (by decide) ?_
                                refine pM_42 hZ (pc := 208) fl_X11_114 dX11_take_208 ?_
                                refine z_aload_n hZ (pc := 211) dX11_take_211 rfl ?_
                                refine z_iconst hZ (pc := 212) (v := 0) dX11_take_212 (by decide) ?_
                                refine pM_51 hZ (pc := 213) fl_X11_305 dX11_take_213 (by decide) (by decide) ?_
                                refine zr_v hZ (pc := 216) dX11_take_216 ?_
                                exact ⟨rfl, rfl, hI4⟩
                              · skip
                                have hl4 : k < c := lp_lt hc (by omega) hk c166
                                refine z_aload_n hZ (pc := 169) dX11_take_169 rfl ?_
                                refine gM_10 hZ (pc := 170) fl_X11_63 dX11_take_170 ?_
                                refine z_iload_n hZ (pc := 173) dX11_take_173 rfl ?_
                                refine z_aload_n hZ (pc := 174) dX11_take_174 rfl ?_
                                refine gM_10 hZ (pc := 175) fl_X11_63 dX11_take_175 ?_
                                refine z_sipush hZ (pc := 178) (v := 700) dX11_take_178 (by decide) ?_
                                refine z_iload_n hZ (pc := 181) dX11_take_181 rfl ?_
                                refine z_iadd hZ (pc := 182) dX11_take_182 ?_
                                refine z_top (y := nI (700 + k)) (nI_add 700 k) ?_
                                refine lMn_10 hZ (pc := 183) dX11_take_183 (by omega) ?_
                                refine sMn_10 hZ (pc := 184) dX11_take_184 (by omega) ?_
                                refine q_iinc_2_1 hZ (pc := 185) dX11_take_185 rfl ?_
                                refine z_goto hZ (pc := 188) (tgt := 161) dX11_take_188 rfl ?_
                                exact z_back hZ (ih161 (k + 1) _ hl4 (by omega) (hI4.n5 (by omega))) rfl ⟨rfl, zi (nI_inc _), trivial⟩
                          exact z_back hZ (lp161 (c + 1) 0 _ (Nat.zero_le _) (by omega) hI3) rfl ⟨rfl, rfl, trivial⟩
                        · skip
                          have hl3 : k < 10 := lp_lt rfl (by decide) hk c120
                          refine z_aload_n hZ (pc := 123) dX11_take_123 rfl ?_
                          refine gM_8 hZ (pc := 124) fl_X11_57 dX11_take_124 ?_
                          refine z_iload_n hZ (pc := 127) dX11_take_127 rfl ?_
                          refine z_aload_n hZ (pc := 128) dX11_take_128 rfl ?_
                          refine gM_8 hZ (pc := 129) fl_X11_57 dX11_take_129 ?_
                          refine z_bipush hZ (pc := 132) (v := 10) dX11_take_132 (by decide) ?_
                          refine z_iload_n hZ (pc := 134) dX11_take_134 rfl ?_
                          refine z_iadd hZ (pc := 135) dX11_take_135 ?_
                          refine z_top (y := nI (10 + k)) (nI_add 10 k) ?_
                          refine lMn_8 hZ (pc := 136) dX11_take_136 (by omega) ?_
                          refine sMn_8 hZ (pc := 137) dX11_take_137 (by omega) ?_
                          refine z_aload_n hZ (pc := 138) dX11_take_138 rfl ?_
                          refine gM_9 hZ (pc := 139) fl_X11_60 dX11_take_139 ?_
                          refine z_iload_n hZ (pc := 142) dX11_take_142 rfl ?_
                          refine z_aload_n hZ (pc := 143) dX11_take_143 rfl ?_
                          refine gM_9 hZ (pc := 144) fl_X11_60 dX11_take_144 ?_
                          refine z_bipush hZ (pc := 147) (v := 10) dX11_take_147 (by decide) ?_
                          refine z_iload_n hZ (pc := 149) dX11_take_149 rfl ?_
                          refine z_iadd hZ (pc := 150) dX11_take_150 ?_
                          refine z_top (y := nI (10 + k)) (nI_add 10 k) ?_
                          refine lMn_9 hZ (pc := 151) dX11_take_151 (by omega) ?_
                          refine sMn_9 hZ (pc := 152) dX11_take_152 (by omega) ?_
                          refine q_iinc_2_1 hZ (pc := 153) dX11_take_153 rfl ?_
                          refine z_goto hZ (pc := 156) (tgt := 117) dX11_take_156 rfl ?_
                          exact z_back hZ (ih117 (k + 1) _ hl3 (by omega) (hI3.n4 (hl3))) rfl ⟨rfl, zi (nI_inc _), trivial⟩
                    exact z_back hZ (lp117 (10 + 1) 0 _ (Nat.zero_le _) (by omega) hI2) rfl ⟨rfl, rfl, trivial⟩
                  · skip
                    have hl2 : k < 100 := lp_lt rfl (by decide) hk c91
                    refine z_aload_n hZ (pc := 94) dX11_take_94 rfl ?_
                    refine gM_6 hZ (pc := 95) fl_X11_50 dX11_take_95 ?_
                    refine z_iload_n hZ (pc := 98) dX11_take_98 rfl ?_
                    refine z_aload_n hZ (pc := 99) dX11_take_99 rfl ?_
                    refine gM_6 hZ (pc := 100) fl_X11_50 dX11_take_100 ?_
                    refine z_bipush hZ (pc := 103) (v := 100) dX11_take_103 (by decide) ?_
                    refine z_iload_n hZ (pc := 105) dX11_take_105 rfl ?_
                    refine z_iadd hZ (pc := 106) dX11_take_106 ?_
                    refine z_top (y := nI (100 + k)) (nI_add 100 k) ?_
                    refine lMn_6 hZ (pc := 107) dX11_take_107 (by omega) ?_
                    refine sMn_6 hZ (pc := 108) dX11_take_108 (by omega) ?_
                    refine q_iinc_2_1 hZ (pc := 109) dX11_take_109 rfl ?_
                    refine z_goto hZ (pc := 112) (tgt := 88) dX11_take_112 rfl ?_
                    exact z_back hZ (ih88 (k + 1) _ hl2 (by omega) (hI2.n3 (hl2))) rfl ⟨rfl, zi (nI_inc _), trivial⟩
              exact z_back hZ (lp88 (100 + 1) 0 _ (Nat.zero_le _) (by omega) hI1) rfl ⟨rfl, rfl, trivial⟩
            · skip
              have hl1 : k < 16 := lp_lt rfl (by decide) hk c32
              refine z_aload_n hZ (pc := 35) dX11_take_35 rfl ?_
              refine gM_4 hZ (pc := 36) fl_X11_44 dX11_take_36 ?_
              refine z_iload_n hZ (pc := 39) dX11_take_39 rfl ?_
              refine z_aload_n hZ (pc := 40) dX11_take_40 rfl ?_
              refine gM_4 hZ (pc := 41) fl_X11_44 dX11_take_41 ?_
              refine z_bipush hZ (pc := 44) (v := 16) dX11_take_44 (by decide) ?_
              refine z_iload_n hZ (pc := 46) dX11_take_46 rfl ?_
              refine z_iadd hZ (pc := 47) dX11_take_47 ?_
              refine z_top (y := nI (16 + k)) (nI_add 16 k) ?_
              refine lMn_4 hZ (pc := 48) dX11_take_48 (by omega) ?_
              refine sMn_4 hZ (pc := 49) dX11_take_49 (by omega) ?_
              refine z_aload_n hZ (pc := 50) dX11_take_50 rfl ?_
              refine gM_5 hZ (pc := 51) fl_X11_47 dX11_take_51 ?_
              refine z_iload_n hZ (pc := 54) dX11_take_54 rfl ?_
              refine z_aload_n hZ (pc := 55) dX11_take_55 rfl ?_
              refine gM_5 hZ (pc := 56) fl_X11_47 dX11_take_56 ?_
              refine z_bipush hZ (pc := 59) (v := 16) dX11_take_59 (by decide) ?_
              refine z_iload_n hZ (pc := 61) dX11_take_61 rfl ?_
              refine z_iadd hZ (pc := 62) dX11_take_62 ?_
              refine z_top (y := nI (16 + k)) (nI_add 16 k) ?_
              refine lMn_5 hZ (pc := 63) dX11_take_63 (by omega) ?_
              refine sMn_5 hZ (pc := 64) dX11_take_64 (by omega) ?_
              refine z_aload_n hZ (pc := 65) dX11_take_65 rfl ?_
              refine gM_7 hZ (pc := 66) fl_X11_53 dX11_take_66 ?_
              refine z_iload_n hZ (pc := 69) dX11_take_69 rfl ?_
              refine z_aload_n hZ (pc := 70) dX11_take_70 rfl ?_
              refine gM_7 hZ (pc := 71) fl_X11_53 dX11_take_71 ?_
              refine z_bipush hZ (pc := 74) (v := 16) dX11_take_74 (by decide) ?_
              refine z_iload_n hZ (pc := 76) dX11_take_76 rfl ?_
              refine z_iadd hZ (pc := 77) dX11_take_77 ?_
              refine z_top (y := nI (16 + k)) (nI_add 16 k) ?_
              refine lMn_7 hZ (pc := 78) dX11_take_78 (by omega) ?_
              have hbk : vp_nar .boolean (g2 7 (16 + k)) = g2 7 (16 + k) := by
                rw [(hI1.2.2.2.2.1 (16 + k) (by omega)).2.2]
                rcases hb7 (16 + k) with h | h <;> rw [h] <;> decide
              refine sMn_7 hZ (pc := 79) dX11_take_79 (by omega) hbk ?_
              refine q_iinc_2_1 hZ (pc := 80) dX11_take_80 rfl ?_
              refine z_goto hZ (pc := 83) (tgt := 29) dX11_take_83 rfl ?_
              exact z_back hZ (ih29 (k + 1) _ hl1 (by omega) (hI1.n2 (hl1))) rfl ⟨rfl, zi (nI_inc _), trivial⟩
        exact z_back hZ (lp29 (16 + 1) 0 _ (Nat.zero_le _) (by omega) hI0) rfl ⟨rfl, rfl, trivial⟩
      · skip
        have hl0 : k < 4 := lp_lt rfl (by decide) hk c4
        refine z_aload_n hZ (pc := 7) dX11_take_7 rfl ?_
        refine gM_3 hZ (pc := 8) fl_X11_40 dX11_take_8 ?_
        refine z_iload_n hZ (pc := 11) dX11_take_11 rfl ?_
        refine z_aload_n hZ (pc := 12) dX11_take_12 rfl ?_
        refine gM_3 hZ (pc := 13) fl_X11_40 dX11_take_13 ?_
        refine z_iconst hZ (pc := 16) (v := 4) dX11_take_16 (by decide) ?_
        refine z_iload_n hZ (pc := 17) dX11_take_17 rfl ?_
        refine z_iadd hZ (pc := 18) dX11_take_18 ?_
        refine z_top (y := nI (4 + k)) (nI_add 4 k) ?_
        refine lMn_3 hZ (pc := 19) dX11_take_19 (by omega) ?_
        refine sMn_3 hZ (pc := 20) dX11_take_20 (by omega) ?_
        refine q_iinc_2_1 hZ (pc := 21) dX11_take_21 rfl ?_
        refine z_goto hZ (pc := 24) (tgt := 2) dX11_take_24 rfl ?_
        exact z_back hZ (ih2 (k + 1) _ hl0 (by omega) (hI0.n1 (hl0))) rfl ⟨rfl, zi (nI_inc _), trivial⟩
  exact z_back hZ (lp2 (4 + 1) 0 _ (Nat.zero_le _) (by omega) TKI.zero) rfl ⟨rfl, rfl, trivial⟩
