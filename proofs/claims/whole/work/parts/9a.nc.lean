/-! the reference reads a text -/
theorem pCity_cl2 {K N : Nat → Int32} {F i : Nat} {b : Bool} {d : Dr} (h0 : ¬ K i = 0) : pCity K N (F + 1) b d i = match pCl2 K N b d i with
    | Sum.inl (c, q) => .er c q
    | Sum.inr (j, d') => pCity K N F false d' j := by
  rw [pCity, if_neg h0]
  cases e : pClause K N b d i using PC.el with
  | er c q => rw [pCl2_er e]; rfl
  | ok j d' =>
    by_cases h3 : K j = 3
    · rw [pCl2_y e h3]; exact if_pos h3
    · rw [pCl2_n e h3]; exact if_neg h3
theorem pCl2_prg {K N : Nat → Int32} {m i : Nat} {b : Bool} {d : Dr} (hm : K m = 0) (hi : i < m) (hd : DrK d) : PrgC m i (pCl2 K N b d i) := by
  have h := pClause_prg (N := N) (b := b) hm hi hd
  cases e : pClause K N b d i using PC.el with
  | er c q => rw [e] at h; rw [pCl2_er e]; exact h
  | ok j d' =>
    rw [e] at h
    obtain ⟨h1, h2, h3⟩ := h
    by_cases h4 : K j = 3
    · rw [pCl2_y e h4]
      have := k_lt hm h2 (by rw [h4]; decide)
      exact ⟨by omega, this, h3⟩
    · rw [pCl2_n e h4]
      exact ⟨h2, by decide⟩
/-- a draft, in force in the reference -/
def DrT (d : Dr) (g : ZG) : Prop := g 3 0 = d.H ∧ g 3 1 = nI d.P ∧ g 3 2 = nI d.R ∧ g 3 3 = nI d.A ∧ (∀ p, p < d.P → g 4 p = d.hm p ∧ g 5 p = d.ch p ∧ g 7 p = d.hi p) ∧ (∀ x y, x < 10 → y < 10 → g 6 (10 * x + y) = if x = y then 0 else d.wk (10 * x + y)) ∧ ∃ LL : List Int32, LL.length ≤ 700 ∧ (∀ k, k < LL.length → g 10 k = LL.getD k 0) ∧ (∀ e, e < d.R → ∃ b, g 8 e = nI b ∧ g 9 e = nI (b + (d.rs e).length) ∧ SegM LL b (d.rs e)) ∧ (∀ e, e < d.A → ∃ b, g 8 (4 + e) = nI b ∧ g 9 (4 + e) = nI (b + (d.as e).length) ∧ SegM LL b (d.as e))
theorem DrT.of {d : Dr} {LL : List Int32} {v : ZV} {g g2 : ZG} (hK : DrK d) (hD : DrM d LL g) (hC : CdM LL v g) (hL : LL.length ≤ 700) (hT : TKI g g2 4 16 100 10 LL.length) : DrT d g2 := by
  obtain ⟨a1, a2, a3, a4, a5, a6, a7, a8⟩ := hD
  obtain ⟨-, t1, -, t3, -, t5, -, t7, -, t9, -⟩ := hT
  have hP := hK.2.2.1
  have hR := hK.2.2.2.1
  have hA := hK.2.2.2.2
  refine ⟨by rw [t1 0 (by decide)]; exact a1, by rw [t1 1 (by decide)]; exact a2, by rw [t1 2 (by decide)]; exact a3, by rw [t1 3 (by decide)]; exact a4, fun p hp => ?_, fun x y hx hy => ?_, LL, hL, fun k hk => by rw [t9 k hk]; exact hC.2 k hk, fun e he => ?_, fun e he => ?_⟩
  · obtain ⟨w1, w2, w3⟩ := t3 p (by omega)
    rw [w1, w2, w3]
    exact a5 p hp
  · rw [t5 _ (by omega)]; exact a6 x y hx hy
  · obtain ⟨w1, w2⟩ := t7 e (by omega)
    rw [w1, w2]
    exact a7 e he
  · obtain ⟨w1, w2⟩ := t7 (4 + e) (by omega)
    rw [w1, w2, show 10 + (4 + e) = 14 + e by omega]
    exact a8 e he
/-- what city answers and leaves in the reference, a text of that length on the tape -/
def CityM (t : Nat → Int32) (n : Nat) (v : ZV) (g : ZG) (res : PC) : ZV → ZG → Option Value → Prop := fun v2 g2 r => (∀ k, (k < 12 ∨ (12 < k ∧ k < 19) ∨ (20 < k ∧ k < 25) ∨ (35 < k ∧ k < 42) ∨ (42 < k ∧ k < 51) ∨ 51 < k) → k ≠ 2 → v2 k = v k) ∧ v2 2 = 0 ∧ v2 25 = 0 ∧ (∀ k, (k < 3 ∨ 10 < k) → k ≠ 11 → g2 k = g k) ∧ (∀ q, g2 7 q = 0 ∨ g2 7 q = 1) ∧
  match res with
  | Sum.inl (c, q) => r = some (.int c) ∧ v2 12 = v 12 ∧ v2 19 = v 19 ∧ v2 20 = v 20 ∧ v2 42 = v 42 ∧ v2 51 = v 51 ∧ v2 34 = nI (tokS t n q) ∧ g2 11 = upd (g 11) 0 (g 11 0 + 1) ∧ FH g (va_up g2 11 (g 11))
  | Sum.inr (j, d) => r = some (.int 0) ∧ v2 12 = 0 ∧ v2 19 = 0 ∧ v2 20 = 0 ∧ v2 42 = -1 ∧ v2 51 = 0 ∧ v2 34 = -1 ∧ g2 11 = g 11 ∧ DrT d g2
theorem up_self_of {g2 : ZG} {x : Nat → Int32} (h : g2 11 = x) : va_up g2 11 x = g2 := by rw [← h]; exact up_self
def mnW (f : Nat → Int32) (c : Nat) : Nat → Int32 := fun j => if 5 ≤ j ∧ j < c then 0 else f j
theorem mnW_5 {f : Nat → Int32} : mnW f 5 = f := by
  funext j
  unfold mnW
  rw [if_neg (by omega)]
theorem mnW_s {c : Nat} {f : Nat → Int32} (h : 5 ≤ c) : mnW f (c + 1) = upd (mnW f c) c 0 := by
  funext j
  unfold upd mnW
  by_cases h1 : j = c
  · rw [if_pos h1, if_pos (by omega)]
  · rw [if_neg h1]
    by_cases h2 : 5 ≤ j ∧ j < c
    · rw [if_pos h2, if_pos (by omega)]
    · rw [if_neg h2, if_neg (by omega)]
theorem mn_FH {g : ZG} : FH g (va_up (va_up g 3 (mnW (upd (g 3) 4 1) 8)) 6 (clW (100 * 1) (g 6) 100)) := by
  refine ⟨fun k hk => by rw [up_off (by omega), up_off (by omega)], fun k hk => ?_, fun k _ => ⟨rfl, rfl, rfl⟩, fun k hk => ?_, fun k _ => ⟨rfl, rfl⟩, fun k _ => rfl, fun a => a⟩
  · show mnW (upd (g 3) 4 1) 8 k = g 3 k
    rw [mnW, if_neg (by omega), upd_off (by omega)]
  · show clW (100 * 1) (g 6) 100 k = g 6 k
    rw [clW, if_neg (by omega)]
theorem mn_Dr {g : ZG} : DrM dr0 [] (va_up (va_up g 3 (mnW (upd (g 3) 4 1) 8)) 6 (clW (100 * 1) (g 6) 100)) := by
  refine ⟨?_, ?_, ?_, ?_, fun p hp => absurd hp (Nat.not_lt_zero _), fun x y hx hy => ?_, fun e he => absurd he (Nat.not_lt_zero _), fun e he => absurd he (Nat.not_lt_zero _)⟩
  · show mnW (upd (g 3) 4 1) 8 4 = 1
    rw [mnW, if_neg (by omega), upd_at]
  · show mnW (upd (g 3) 4 1) 8 5 = 0
    rw [mnW, if_pos (by omega)]
  · show mnW (upd (g 3) 4 1) 8 6 = 0
    rw [mnW, if_pos (by omega)]
  · show mnW (upd (g 3) 4 1) 8 7 = 0
    rw [mnW, if_pos (by omega)]
  · show clW (100 * 1) (g 6) 100 (100 + (10 * x + y)) = if x = y then 0 else 10
    rw [clW, if_pos (by omega), show 100 + (10 * x + y) - 100 * 1 = 10 * x + y by omega, show (10 * x + y) / 10 = x by omega, show (10 * x + y) % 10 = y by omega]
theorem tki_b {g g2 : ZG} {c : Nat} (hb : ∀ q, g 7 q = 0 ∨ g 7 q = 1) (h : TKI g g2 4 16 100 10 c) (q : Nat) : g2 7 q = 0 ∨ g2 7 q = 1 := by
  rcases Nat.lt_or_ge q 16 with z | z
  · rw [(h.2.2.2.1 q z).2.2]; exact hb _
  · rw [(h.2.2.2.2.1 q z).2.2]; exact hb _
theorem c_X11_city_bad {l : Launch} {D : va_G} {cA : Nat → ClassId} {r : Nat} {a : Nat → Nat} {s0 s1 : Nat → Option Nat} {v : ZV} {g : ZG} {aK aV : Nat → Nat} {x : Int32} (hx : x < 0 ∨ v 25 < x) : MGY l D cA aK aV (WM r a cA s0 s1) yX11_city cX11_city 3 (some .int) 2 [(.ref r), .int x] v g (fun v2 g2 r => v2 = va_up (va_up v 2 0) 2 1 ∧ g2 = g ∧ r = some (.int 0)) := by
  refine MGY.of (by decide) rfl (Nat.le_of_ble_eq_true rfl) (by simp [Value.category]) (fun Z hY => ?_)
  have hZ := hY.toZR
  refine z_aload_n hZ (pc := 0) dX11_city_0 rfl ?_
  refine z_iconst hZ (pc := 1) (v := 0) dX11_city_1 (by decide) ?_
  refine pM_2 hZ (pc := 2) fl_X11_160 dX11_city_2 ?_
  refine z_iload_n hZ (pc := 5) dX11_city_5 rfl ?_
  refine z_if_lt hZ (pc := 6) (tgt := 17) dX11_city_6 rfl (fun c6 => ?_) (fun c6 => ?_)
  · skip
    refine z_aload_n hZ (pc := 17) dX11_city_17 rfl ?_
    refine z_iconst hZ (pc := 18) (v := 1) dX11_city_18 (by decide) ?_
    refine cV_i hZ (pc := 19) dX11_city_19 lk_X11_286 mn_X11_fail mv_X11_fail (c_X11_fail) rc_M rfl rfl (Nat.le_of_ble_eq_true rfl) (by decide) (by decide) (Nat.zero_le _) (Nat.zero_le _) ?_
    refine zr_i hZ (pc := 22) dX11_city_22 FitR.int ?_
    exact ⟨rfl, rfl, rfl⟩
  · skip
    refine z_iload_n hZ (pc := 9) dX11_city_9 rfl ?_
    refine z_aload_n hZ (pc := 10) dX11_city_10 rfl ?_
    refine gM_25 hZ (pc := 11) fl_X11_167 dX11_city_11 ?_
    refine z_icmp_le hZ (pc := 14) (tgt := 23) dX11_city_14 rfl (fun c14 => ?_) (fun c14 => ?_)
    · skip
      rcases hx with h | h
      · exact absurd h c6
      · exact absurd (show x ≤ v 25 from c14) (Int32.not_le.mpr h)
    · skip
      refine z_aload_n hZ (pc := 17) dX11_city_17 rfl ?_
      refine z_iconst hZ (pc := 18) (v := 1) dX11_city_18 (by decide) ?_
      refine cV_i hZ (pc := 19) dX11_city_19 lk_X11_286 mn_X11_fail mv_X11_fail (c_X11_fail) rc_M rfl rfl (Nat.le_of_ble_eq_true rfl) (by decide) (by decide) (Nat.zero_le _) (Nat.zero_le _) ?_
      refine zr_i hZ (pc := 22) dX11_city_22 FitR.int ?_
      exact ⟨rfl, rfl, rfl⟩
theorem c_X11_city {l : Launch} {D : va_G} {cA : Nat → ClassId} {r : Nat} {a : Nat → Nat} {s0 s1 : Nat → Option Nat} {v : ZV} {g : ZG} {aK aV : Nat → Nat} {t : Nat → Int32} {n m T : Nat} {K N : Nat → Int32} (hG : GM t n m K N) (h24 : g 24 = t) (hT25 : v 25 = nI T) (hT7 : T ≤ 700) (hnT : n ≤ T) (hs0 : ∀ k, k < 5 → s0 k = some (aK (clN k))) (hs1 : ∀ k, k < 7 → s1 k = some (aK k)) (hN : ∀ j, j ≤ m → K j = 1 → 0 ≤ N j) (hb7 : ∀ q, g 7 q = 0 ∨ g 7 q = 1) : MGY l D cA aK aV (WM r a cA s0 s1) yX11_city cX11_city 3 (some .int) 110 [(.ref r), .int (nI n)] v g ((CityM t n v g (pCity K N 700 true dr0 0))) := by
  refine MGY.of (by decide) rfl (Nat.le_of_ble_eq_true rfl) (by simp [Value.category]) (fun Z hY => ?_)
  have hZ := hY.toZR
  have hn7 : n ≤ 700 := hG.2.1
  refine z_aload_n hZ (pc := 0) dX11_city_0 rfl ?_
  refine z_iconst hZ (pc := 1) (v := 0) dX11_city_1 (by decide) ?_
  refine pM_2 hZ (pc := 2) fl_X11_160 dX11_city_2 ?_
  refine z_iload_n hZ (pc := 5) dX11_city_5 rfl ?_
  refine z_if_lt hZ (pc := 6) (tgt := 17) dX11_city_6 rfl (fun c6 => ?_) (fun c6 => ?_)
  · skip
    exact absurd c6 (nI_pos (by omega))
  · skip
    refine z_iload_n hZ (pc := 9) dX11_city_9 rfl ?_
    refine z_aload_n hZ (pc := 10) dX11_city_10 rfl ?_
    refine gM_25 hZ (pc := 11) fl_X11_167 dX11_city_11 ?_
    refine z_icmp_le hZ (pc := 14) (tgt := 23) dX11_city_14 rfl (fun c14 => ?_) (fun c14 => ?_)
    · skip
      refine z_aload_n hZ (pc := 23) dX11_city_23 rfl ?_
      refine z_iconst hZ (pc := 24) (v := 0) dX11_city_24 (by decide) ?_
      refine pM_25 hZ (pc := 25) fl_X11_167 dX11_city_25 ?_
      refine z_aload_n hZ (pc := 28) dX11_city_28 rfl ?_
      refine z_iload_n hZ (pc := 29) dX11_city_29 rfl ?_
      refine pM_27 hZ (pc := 30) fl_X11_170 dX11_city_30 ?_
      refine z_aload_n hZ (pc := 33) dX11_city_33 rfl ?_
      refine z_iconst hZ (pc := 34) (v := 0) dX11_city_34 (by decide) ?_
      refine pM_26 hZ (pc := 35) fl_X11_173 dX11_city_35 ?_
      refine z_aload_n hZ (pc := 38) dX11_city_38 rfl ?_
      refine z_iconst hZ (pc := 39) (v := 0) dX11_city_39 (by decide) ?_
      refine pM_32 hZ (pc := 40) fl_X11_209 dX11_city_40 ?_
      refine z_aload_n hZ (pc := 43) dX11_city_43 rfl ?_
      refine z_iconst hZ (pc := 44) (v := (-1)) dX11_city_44 (by decide) ?_
      refine pM_34 hZ (pc := 45) fl_X11_98 dX11_city_45 ?_
      refine z_aload_n hZ (pc := 48) dX11_city_48 rfl ?_
      refine z_iconst hZ (pc := 49) (v := 0) dX11_city_49 (by decide) ?_
      refine pM_35 hZ (pc := 50) fl_X11_236 dX11_city_50 ?_
      refine z_aload_n hZ (pc := 53) dX11_city_53 rfl ?_
      refine gM_3 hZ (pc := 54) fl_X11_40 dX11_city_54 ?_
      refine z_iconst hZ (pc := 57) (v := 4) dX11_city_57 (by decide) ?_
      refine z_iconst hZ (pc := 58) (v := 1) dX11_city_58 (by decide) ?_
      skip
      refine sMn_3 hZ (pc := 59) (q := 4) dX11_city_59 (by omega) ?_
      refine z_iconst hZ (pc := 60) (v := 5) dX11_city_60 (by decide) ?_
      refine q_istore_n_3_2 hZ (pc := 61) dX11_city_61 rfl ?_
      have lp62 : ∀ (f k : Nat), 5 ≤ k → k ≤ 8 → 8 - k < f → Z 0 0 (WM r a cA s0 s1 (va_up (va_up (va_up (va_up (va_up (va_up (va_up v 2 0) 25 0) 27 (nI n)) 26 0) 32 0) 34 (-1)) 35 0) (va_up g 3 (mnW (upd (g 3) 4 1) k))) [some (.ref r), some (.int (nI n)), some (.int (nI k))] [] 62 := by
        intro f
        induction f with
        | zero => intro k _ _ hf; exact absurd hf (Nat.not_lt_zero _)
        | succ f ih62 =>
          intro k hk5 hk hf
          refine z_iload_n hZ (pc := 62) dX11_city_62 rfl ?_
          refine z_bipush hZ (pc := 63) (v := 8) dX11_city_63 (by decide) ?_
          refine z_icmp_ge hZ (pc := 65) (tgt := 81) dX11_city_65 rfl (fun c65 => ?_) (fun c65 => ?_)
          · skip
            have ek : k = 8 := lp_ge rfl (by decide) hk c65
            subst ek
            refine z_aload_n hZ (pc := 81) dX11_city_81 rfl ?_
            refine z_iconst hZ (pc := 82) (v := 1) dX11_city_82 (by decide) ?_
            refine cV_v hZ (pc := 83) dX11_city_83 lk_X11_156 mn_X11_clearWalks mv_X11_clearWalks (c_X11_clearWalks (z := 1) (by decide)) rc_M rfl rfl (Nat.le_of_ble_eq_true rfl) (by decide) (by decide) (Nat.zero_le _) (Nat.zero_le _) ?_
            refine z_aload_n hZ (pc := 86) dX11_city_86 rfl ?_
            refine cV hZ (pc := 87) dX11_city_87 lk_X11_233 mn_X11_stepOn mv_X11_stepOn (c_X11_stepOn (p := 0) rfl rfl (Nat.zero_le n) hn7 (fun q hq => show 0 ≤ g 24 q from by rw [h24]; exact hG.2.2 q hq)) rc_M rfl rfl (Nat.le_of_ble_eq_true rfl) (by decide) (by decide) (Nat.zero_le _) (Nat.zero_le _) ?_
            intro v1 g1 r h1
            obtain ⟨rfl, e1, f1, h1⟩ := h1
            subst g1
            refine z_iconst hZ (pc := 90) (v := 1) dX11_city_90 (by decide) ?_
            refine q_istore_n_3_2 hZ (pc := 91) dX11_city_91 rfl ?_
            obtain ⟨vs, gs, ev, eg⟩ : ∃ (vs : ZV) (gs : ZG), vs = (va_up (va_up (va_up (va_up (va_up (va_up (va_up v 2 0) 25 0) 27 (nI n)) 26 0) 32 0) 34 (-1)) 35 0) ∧ gs = va_up (va_up g 3 (mnW (upd (g 3) 4 1) 8)) 6 (clW (100 * 1) (g 6) 100) := ⟨_, _, rfl, rfl⟩
            have hvs : ∀ k, (k < 25 ∨ 35 < k) → k ≠ 2 → vs k = v k := fun k hk hk2 => by rw [ev]; simp only [va_up, hk2, show ¬ k = 25 by omega, show ¬ k = 26 by omega, show ¬ k = 27 by omega, show ¬ k = 32 by omega, show ¬ k = 34 by omega, show ¬ k = 35 by omega, if_false]
            have hgs : ∀ k, k ≠ 3 → k ≠ 6 → gs k = g k := fun k h3 h6 => by rw [eg, up_off h6, up_off h3]
            have hgb : ∀ q, gs 7 q = 0 ∨ gs 7 q = 1 := fun q => by rw [hgs 7 (by decide) (by decide)]; exact hb7 q
            have hgh : FH g gs := by rw [eg]; exact mn_FH
            have hv2 : vs 2 = 0 := by rw [ev]; rfl
            have hv25 : vs 25 = 0 := by rw [ev]; rfl
            have hv34 : vs 34 = -1 := by rw [ev]; rfl
            have hFs : FS vs v1 := by rw [ev]; exact f1
            have hM0 : MI t n m v1 gs 0 [] := ⟨by rw [hgs 24 (by decide) (by decide)]; exact h24, by rw [hFs 27 (by decide), ev]; rfl, Nat.zero_le _, by rw [hFs 32 (by decide), ev]; rfl, by rw [← h24]; exact h1, ⟨by rw [hFs 35 (by decide), ev]; rfl, fun k hk => absurd hk (Nat.not_lt_zero _)⟩, Nat.le_refl _⟩
            have hD0 : DrM dr0 [] gs := by rw [eg]; exact mn_Dr
            have lp92 : ∀ (f F i : Nat) (b : Bool) (d : Dr) (Lm : List Int32) (v' : ZV) (g' : ZG), m - i < f → m - i ≤ F → FM vs v' → FH gs g' → MI t n m v' g' i Lm → DrM d Lm g' → DrK d → pCity K N 700 true dr0 0 = pCity K N F b d i → Z 0 0 (WM r a cA s0 s1 v' g') [some (.ref r), some (.int (nI n)), some (.int (bI b))] [] 92 := by
              intro f
              induction f with
              | zero => intro F i b d Lm v' g' hf; exact absurd hf (Nat.not_lt_zero _)
              | succ f ih92 =>
                intro F i b d Lm v' g' hf hf2 hF hH hM hD hK hres
                refine z_aload_n hZ (pc := 92) dX11_city_92 rfl ?_
                refine gM_32 hZ (pc := 93) fl_X11_209 dX11_city_93 ?_
                refine z_if_ne hZ (pc := 96) (tgt := 116) dX11_city_96 rfl (fun c96 => ?_) (fun c96 => ?_)
                · skip
                  exact absurd hM.bad c96
                · skip
                  refine z_aload_n hZ (pc := 99) dX11_city_99 rfl ?_
                  refine gM_28 hZ (pc := 100) fl_X11_183 dX11_city_100 ?_
                  refine z_if_eq hZ (pc := 103) (tgt := 116) dX11_city_103 rfl (fun c103 => ?_) (fun c103 => ?_)
                  · skip
                    have hK0 : K i = 0 := (tc_0 hG.1 hM.2.2.1).mp (by rw [← hM.2.2.2.2.1.2.2.2.1]; exact c103)
                    have hres2 : pCity K N 700 true dr0 0 = .ok i d := by
                      rw [hres]
                      cases F with
                      | zero => rfl
                      | succ F => rw [pCity, if_pos hK0]
                    refine z_aload_n hZ (pc := 116) dX11_city_116 rfl ?_
                    refine gM_32 hZ (pc := 117) fl_X11_209 dX11_city_117 ?_
                    refine z_if_eq hZ (pc := 120) (tgt := 146) dX11_city_120 rfl (fun c120 => ?_) (fun c120 => ?_)
                    · skip
                      refine z_aload_n hZ (pc := 146) dX11_city_146 rfl ?_
                      refine cV hZ (pc := 147) dX11_city_147 lk_X11_293 mn_X11_take mv_X11_take (c_X11_take (c := Lm.length) hM.cd (by have := hM.len; have := hG.m7; have := hM.2.2.1; omega) (hH.2.2.2.2.2.2 hgb)) rc_M rfl rfl (Nat.le_of_ble_eq_true rfl) (by decide) (by decide) (Nat.zero_le _) (Nat.zero_le _) ?_
                      intro v6 g6 r h6
                      obtain ⟨rfl, e6, h6⟩ := h6
                      subst v6
                      refine z_iconst hZ (pc := 150) (v := 0) dX11_city_150 (by decide) ?_
                      refine zr_i hZ (pc := 151) dX11_city_151 FitR.int ?_
                      exact ⟨fun k hk hk2 => by rw [up_off (by omega), up_off (by omega), up_off (by omega), up_off (by omega), up_off (by omega)]; exact (hF k (by omega)).trans (hvs k (by omega) hk2), (hF 2 (by decide)).trans hv2, (hF 25 (by decide)).trans hv25, fun k hk hk2 => (h6.1 k (by omega)).trans ((hH.1 k (by omega)).trans (hgs k (by omega) (by omega))), fun q => tki_b (hH.2.2.2.2.2.2 hgb) h6 q, by rw [hres2]; exact ⟨rfl, rfl, rfl, rfl, rfl, rfl, (hF 34 (by decide)).trans hv34, (h6.1 11 (by decide)).trans ((hH.1 11 (by decide)).trans (hgs 11 (by decide) (by decide))), DrT.of hK hD hM.2.2.2.2.2.1 (by have := hM.len; have := hM.2.2.1; have := hG.m7; omega) h6⟩⟩
                    · skip
                      exact absurd hM.bad c120
                  · skip
                    have hK0 : ¬ K i = 0 := fun z => c103 (by rw [hM.2.2.2.2.1.2.2.2.1]; exact (tc_0 hG.1 hM.2.2.1).mpr z)
                    have him : i < m := TK_lt hG.1 hM.2.2.1 hK0
                    obtain ⟨F, rfl⟩ : ∃ F', F = F' + 1 := ⟨F - 1, by omega⟩
                    rw [pCity_cl2 hK0] at hres
                    refine z_aload_n hZ (pc := 106) dX11_city_106 rfl ?_
                    refine z_iload_n hZ (pc := 107) dX11_city_107 rfl ?_
                    refine cVY hY (pc := 108) dX11_city_108 lk_X11_289 mn_X11_readClause mv_X11_readClause (c_X11_readClause (Kl := 100) hG hM hD hK hs0 hs1 hN (by decide)) rc_M rfl rfl (Nat.le_of_ble_eq_true rfl) (by decide) (by decide) (Nat.zero_le _) (Nat.zero_le _) (fun v2 g2 r h => ?_)
                    obtain ⟨rfl, f3, f4, h⟩ := h
                    rcases PC.cs (pCl2 K N b d i) with ⟨c, q, hr⟩ | ⟨j, d', hr⟩
                    · skip
                      rw [hr] at h hres
                      have hpr := pCl2_prg (N := N) (b := b) (TK_0 hG.1) him hK
                      rw [hr] at hpr
                      have hbad : ¬ v2 32 = 0 := fun z => hpr.2 (h.1.symm.trans z)
                      refine z_iconst hZ (pc := 111) (v := 0) dX11_city_111 (by decide) ?_
                      refine q_istore_n_3_2 hZ (pc := 112) dX11_city_112 rfl ?_
                      refine z_goto hZ (pc := 113) (tgt := 92) dX11_city_113 rfl ?_
                      refine z_aload_n hZ (pc := 92) dX11_city_92 rfl ?_
                      refine gM_32 hZ (pc := 93) fl_X11_209 dX11_city_93 ?_
                      refine z_if_ne hZ (pc := 96) (tgt := 116) dX11_city_96 rfl (fun _ => ?_) (fun c96 => absurd c96 hbad)
                      refine z_aload_n hZ (pc := 116) dX11_city_116 rfl ?_
                      refine gM_32 hZ (pc := 117) fl_X11_209 dX11_city_117 ?_
                      refine z_if_eq hZ (pc := 120) (tgt := 146) dX11_city_120 rfl (fun c120 => absurd c120 hbad) (fun _ => ?_)
                      refine z_aload_n hZ (pc := 123) dX11_city_123 rfl ?_
                      refine z_aload_n hZ (pc := 124) dX11_city_124 rfl ?_
                      refine gM_33 hZ (pc := 125) fl_X11_212 dX11_city_125 ?_
                      refine pM_34 hZ (pc := 128) fl_X11_98 dX11_city_128 ?_
                      refine z_aload_n hZ (pc := 131) dX11_city_131 rfl ?_
                      refine gM_11 hZ (pc := 132) fl_X11_66 dX11_city_132 ?_
                      refine z_iconst hZ (pc := 135) (v := 0) dX11_city_135 (by decide) ?_
                      refine z_dup2 hZ (pc := 136) dX11_city_136 rfl rfl ?_
                      refine lMn_11 hZ (pc := 137) (q := 0) dX11_city_137 (by omega) ?_
                      refine z_iconst hZ (pc := 138) (v := 1) dX11_city_138 (by decide) ?_
                      refine z_iadd hZ (pc := 139) dX11_city_139 ?_
                      refine sMn_11 hZ (pc := 140) (q := 0) dX11_city_140 (by omega) ?_
                      refine z_aload_n hZ (pc := 141) dX11_city_141 rfl ?_
                      refine gM_32 hZ (pc := 142) fl_X11_209 dX11_city_142 ?_
                      refine zr_i hZ (pc := 145) dX11_city_145 FitR.int ?_
                      exact ⟨fun k hk hk2 => by rw [up_off (by omega)]; exact (f3 k (by omega)).trans ((hF k (by omega)).trans (hvs k (by omega) hk2)), (f3 2 (by decide)).trans ((hF 2 (by decide)).trans hv2), (f3 25 (by decide)).trans ((hF 25 (by decide)).trans hv25), fun k hk hk2 => by rw [up_off hk2]; exact (f4.1 k (by omega)).trans ((hH.1 k (by omega)).trans (hgs k (by omega) (by omega))), fun q => f4.2.2.2.2.2.2 (hH.2.2.2.2.2.2 hgb) q, by rw [hres]; exact ⟨by rw [← h.1]; rfl, (f3 12 (by decide)).trans ((hF 12 (by decide)).trans (hvs 12 (by decide) (by decide))), (f3 19 (by decide)).trans ((hF 19 (by decide)).trans (hvs 19 (by decide) (by decide))), (f3 20 (by decide)).trans ((hF 20 (by decide)).trans (hvs 20 (by decide) (by decide))), (f3 42 (by decide)).trans ((hF 42 (by decide)).trans (hvs 42 (by decide) (by decide))), (f3 51 (by decide)).trans ((hF 51 (by decide)).trans (hvs 51 (by decide) (by decide))), by rw [up_at]; exact h.2, by rw [up_at, show g2 11 = g 11 from (f4.1 11 (by decide)).trans ((hH.1 11 (by decide)).trans (hgs 11 (by decide) (by decide)))], by rw [up_twice, up_self_of ((f4.1 11 (by decide)).trans ((hH.1 11 (by decide)).trans (hgs 11 (by decide) (by decide))))]; exact hgh.trans (hH.trans f4)⟩⟩
                    rw [hr] at h hres
                    obtain ⟨l, hM2, hD2⟩ := h
                    have hpr := pCl2_prg (N := N) (b := b) (TK_0 hG.1) him hK
                    rw [hr] at hpr
                    obtain ⟨q1, q2, q3⟩ := hpr
                    refine z_iconst hZ (pc := 111) (v := 0) dX11_city_111 (by decide) ?_
                    refine q_istore_n_3_2 hZ (pc := 112) dX11_city_112 rfl ?_
                    refine z_goto hZ (pc := 113) (tgt := 92) dX11_city_113 rfl ?_
                    exact z_back hZ (ih92 F j false d' (Lm ++ l) _ _ (by omega) (by omega) (hF.trans f3) (hH.trans f4) hM2 hD2 q3 hres) rfl ⟨rfl, rfl, rfl, trivial⟩
            exact z_back hZ (lp92 (m + 1) 700 0 true dr0 [] v1 gs (by omega) (by have := hG.m7; omega) hFs.fm FH.rf hM0 hD0 ⟨by decide, by decide, by decide, by decide, by decide⟩ rfl) (by rw [eg]; rfl) ⟨rfl, rfl, rfl, trivial⟩
          · skip
            have hk8 : k < 8 := lp_lt rfl (by decide) hk c65
            refine z_aload_n hZ (pc := 68) dX11_city_68 rfl ?_
            refine gM_3 hZ (pc := 69) fl_X11_40 dX11_city_69 ?_
            refine z_iload_n hZ (pc := 72) dX11_city_72 rfl ?_
            refine z_iconst hZ (pc := 73) (v := 0) dX11_city_73 (by decide) ?_
            refine sMn_3 hZ (pc := 74) dX11_city_74 (by omega) ?_
            skip
            refine q_iinc_3_2 hZ (pc := 75) dX11_city_75 rfl ?_
            refine z_goto hZ (pc := 78) (tgt := 62) dX11_city_78 rfl ?_
            exact z_back hZ (ih62 (k + 1) (by omega) hk8 (by omega)) (by rw [up_twice, up_at, mnW_s hk5]) ⟨rfl, rfl, zi (nI_inc _), trivial⟩
      exact z_back hZ (lp62 4 5 (by decide) (by decide) (by decide)) (by rw [mnW_5]) ⟨rfl, rfl, rfl, trivial⟩
    · skip
      exact absurd (by show nI n ≤ v 25; rw [hT25]; exact nI_le hnT (by omega)) c14
