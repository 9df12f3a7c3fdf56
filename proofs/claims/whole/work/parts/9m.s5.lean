theorem SimL.fr {P L m : Nat} {g g2 mg mg2 : ZG} (h : SimL P L m g mg) (g6 : g2 6 = g 6) (g7 : g2 7 = g 7) (g8 : g2 8 = g 8) (g10 : g2 10 = g 10) (g1 : g2 1 = g 1) (m21 : mg2 21 = mg 21) (m22 : mg2 22 = mg 22) (m23 : mg2 23 = mg 23) (m11 : mg2 11 = mg 11) (m24 : mg2 24 = mg 24) : SimL P L m g2 mg2 := by unfold SimL; rw [g6, g7, g8, g10, g1, m21, m22, m23, m11, m24]; exact h
theorem SimP.fr {H P : Nat} {g g2 mg mg2 : ZG} (h : SimP H P g mg) (g9 : g2 9 = g 9) (g18 : g2 18 = g 18) (g19 : g2 19 = g 19) (g20 : g2 20 = g 20) (m4 : mg2 4 = mg 4) (m5 : mg2 5 = mg 5) (m6 : mg2 6 = mg 6) (m7 : mg2 7 = mg 7) : SimP H P g2 mg2 := by unfold SimP; rw [g9, g18, g19, g20, m4, m5, m6, m7]; exact h
theorem SimQ.fr {v v2 mv mv2 : ZV} {g g2 mg mg2 : ZG} (h : SimQ v mv g mg) (v29 : v2 29 = v 29) (g34 : g2 34 = g 34) (g35 : g2 35 = g 35) (w42 : mv2 42 = mv 42) (m40 : mg2 40 = mg 40) : SimQ v2 mv2 g2 mg2 := by unfold SimQ; rw [v29, g34, g35, w42, m40]; exact h
theorem SimK.fr {H P : Nat} {v v2 mv mv2 : ZV} {g g2 mg mg2 : ZG} (h : SimK H P v mv g mg) (v1 : v2 1 = v 1) (v12 : v2 12 = v 12) (v13 : v2 13 = v 13) (v14 : v2 14 = v 14) (g11 : g2 11 = g 11) (g12 : g2 12 = g 12) (g13 : g2 13 = g 13) (g14 : g2 14 = g 14) (g15 : g2 15 = g 15) (g16 : g2 16 = g 16) (m52 : mg2 52 = mg 52) (m53 : mg2 53 = mg 53) (m54 : mg2 54 = mg 54) (m55 : mg2 55 = mg 55) (m56 : mg2 56 = mg 56) (m57 : mg2 57 = mg 57) (m58 : mg2 58 = mg 58) : SimK H P v2 mv2 g2 mg2 := by unfold SimK; rw [v1, v12, v13, v14, g11, g12, g13, g14, g15, g16, m52, m53, m54, m55, m56, m57, m58]; exact h
theorem ExC.fr {R A : Nat} {ops : Nat → Nat → Int32} {me : Nat → Nat} {v v2 : ZV} {g g2 : ZG} (h : ExC v g R A ops me) (v17 : v2 17 = v 17) (v18 : v2 18 = v 18) (v19 : v2 19 = v 19) (g21 : g2 21 = g 21) (g22 : g2 22 = g 22) (g23 : g2 23 = g 23) : ExC v2 g2 R A ops me := by unfold ExC at h ⊢; rw [v17, v18, v19, g21, g22, g23]; exact h
theorem ExM.fr {R A : Nat} {ops : Nat → Nat → Int32} {me : Nat → Nat} {mg mg2 : ZG} (h : ExM mg R A ops me) (m3 : mg2 3 = mg 3) (m8 : mg2 8 = mg 8) (m9 : mg2 9 = mg 9) (m10 : mg2 10 = mg 10) : ExM mg2 R A ops me := by unfold ExM at h ⊢; rw [m3, m8, m9, m10]; exact h
theorem SimT.ca {H P n : Nat} {g mg : ZG} (h : SimT H P n g mg) (hn : n ≤ 200) (hH : H ≤ 10) {p : Int32} {q : Nat} (hp : p ≠ -1) : carryS (T5 g 0) (T5 g 5) (T5 g 1) (T5 g 2) n p 10 q = carryS (mg 13) (mg 18) (mg 14) (mg 15) n p H q := by
  unfold carryS
  rw [show dawnS (T5 g 0) (T5 g 5) (T5 g 1) (T5 g 2) n p 10 = dawnS (mg 13) (mg 18) (mg 14) (mg 15) n p H from funext (fun d => by unfold dawnS; exact h.hs hn hH hp)]
theorem LeS.hh {P L : Nat} {f h : Nat → Int32} (l : LeS P L f h) : ∀ k, k < L → h k = nI (h k).toNatClampNeg ∧ (h k).toNatClampNeg < 2400 := fun k hk => by
  obtain ⟨q, hq, e⟩ := (l k hk).2
  rw [e, nI_clamp (by omega)]
  exact ⟨rfl, hq⟩
theorem j_post {l : Launch} {D : va_G} {cA : Nat → ClassId} {o a a' : Nat → Nat} {r0 : Nat} {s0 s1 : Nat → Option Nat} {v mv : ZV} {g mg : ZG} {x w : Int32} (hE : SimE v g mv mg) : ∃ P XP Pm, MF l D cA o a yX10_post cX10_post 3 (some .int) 8 1 6 [(.ref (o 0)), .int x, .int w] v g P XP ∧ MG l D cA (WM r0 a' cA s0 s1) yX11_post cX11_post 3 (some .int) 4 [(.ref r0), .int x, .int w] mv mg Pm ∧ Agr k1 eN v g P XP Pm := by
  obtain ⟨H, P, R, A, n, L, m, T, ops, me, hS⟩ := hE
  obtain ⟨⟨b1, b2, b3, b4, b5, b6, b7, b8, b9⟩, ⟨⟨v15, v16, v17, v18, v9, v10, v11, v7⟩, ⟨m0, m1, m2, m3, w12, w19, w20, w25⟩, v0, v1, v01⟩, sT, ⟨lT, lS, rT, cT, tp1⟩, ⟨pT, p7, wT⟩, ⟨⟨K, k9, v29, w42, q34⟩, q35⟩, sk, xC, xM⟩ := id hS
  refine ⟨_, _, _, c_X10_post v9 b6 (sT.fr b2) sT.2.2 v10 b7 lS.hh, c_X11_post (hh := fun k => (g 7 k).toNatClampNeg) w12 b6 sT.co m0 b2 w19 b7 (fun k hk => by rw [← (lT k hk).2]; exact lS.hh k hk), ?_⟩
  refine ⟨fun v2 g2 r h => ?_, fun En h => h.1, fun v2 g2 r v3 g3 r' h h' => ?_, fun En v3 g3 r' h h' => ?_⟩
  · obtain ⟨-, -, -, rfl⟩ := h; exact ⟨_, rfl⟩
  · obtain ⟨h1, h2, hc, rfl⟩ := h
    obtain ⟨h3, h4, z3, rfl⟩ := h'
    subst g3
    rw [if_pos hc] at h4 ⊢
    obtain ⟨hc1, hc2⟩ := Bool.and_eq_true_iff.mp hc
    obtain ⟨i1, i2, i3⟩ := inI_p hc1 (by omega)
    obtain ⟨e6, e7⟩ := lT _ i1
    have hp : g 6 x.toNatClampNeg ≠ -1 := by
      obtain ⟨p, hp, e⟩ := (lS _ i1).1
      rw [e]; exact nI_m1 (by omega)
    have e1 := sT.hs b6 b2 (y := nI (g 7 x.toNatClampNeg).toNatClampNeg) hp
    have e2 := sT.ca b6 b2 (q := (g 7 x.toNatClampNeg).toNatClampNeg) hp
    refine ⟨⟨H, P, R, A, n, L, m, T, ops, me, hS.fr (fun j hj => h1 j (sV_ne hj (k := 25) rfl) (sV_ne hj (k := 26) rfl) (sV_ne hj (k := 27) rfl) (sV_ne hj (k := 28) rfl)) (fun j hj => h2 j (sG_ne hj (k := 33) rfl)) (fun j hj => h3 j (sm2 hj) (sMV_ne hj (k := 38) rfl) (sMV_ne hj (k := 39) rfl)) (fun _ _ => rfl)⟩, h4, ?_⟩
    rw [e1, e2, ← (lS.hh _ i1).1, e6, e7]
  · obtain ⟨rfl, hc⟩ := h
    obtain ⟨h3, h4, z3, rfl⟩ := h'
    subst g3
    rw [if_neg (by rw [hc]; decide)] at h4 ⊢
    exact ⟨⟨H, P, R, A, n, L, m, T, ops, me, hS.fr (fun _ _ => rfl) (fun _ _ => rfl) (fun j hj => h3 j (sm2 hj) (sMV_ne hj (k := 38) rfl) (sMV_ne hj (k := 39) rfl)) (fun _ _ => rfl)⟩, h4, _, rfl⟩
theorem j_weep {l : Launch} {D : va_G} {cA : Nat → ClassId} {o a a' : Nat → Nat} {r0 : Nat} {s0 s1 : Nat → Option Nat} {v mv : ZV} {g mg : ZG} {x y z : Int32} (hE : SimE v g mv mg) : ∃ P XP Pm, MF l D cA o a yX10_weep cX10_weep 6 (some .int) 8 1 6 [(.ref (o 0)), .int x, .int y, .int z] v g P XP ∧ MG l D cA (WM r0 a' cA s0 s1) yX11_weep cX11_weep 5 (some .int) 4 [(.ref r0), .int x, .int y, .int z] mv mg Pm ∧ Agr k1 eN v g P XP Pm := by
  obtain ⟨H, P, R, A, n, L, m, T, ops, me, hS⟩ := hE
  obtain ⟨⟨b1, b2, b3, b4, b5, b6, b7, b8, b9⟩, ⟨⟨v15, v16, v17, v18, v9, v10, v11, v7⟩, ⟨m0, m1, m2, m3, w12, w19, w20, w25⟩, v0, v1, v01⟩, sT, ⟨lT, lS, rT, cT, tp1⟩, ⟨pT, p7, wT⟩, ⟨⟨K, k9, v29, w42, q34⟩, q35⟩, sk, xC, xM⟩ := id hS
  refine ⟨_, _, _, c_X10_weep v9 b6 v16 b3 xC, c_X11_weep (A := A) w12 b6 m1 b3 xM (fun p _ => p7 p), ?_⟩
  refine ⟨fun v2 g2 r h => ?_, fun En h => h.1, fun v2 g2 r v3 g3 r' h h' => ?_, fun En v3 g3 r' h h' => ?_⟩
  · obtain ⟨-, h⟩ := h
    by_cases hq : n < 200 ∧ ¬ y < (if n = 0 then 0 else T5 g 2 (n - 1)) ∧ y ≤ 2399 ∧ ¬ z < 0 ∧ z ≤ 9
    · rw [if_pos hq] at h
      obtain ⟨-, -, -, -, -, -, -, -, -, rfl⟩ := h; exact ⟨_, rfl⟩
    · rw [if_neg hq] at h
      obtain ⟨-, -, rfl⟩ := h; exact ⟨_, rfl⟩
  · obtain ⟨hc, h⟩ := h
    have h' := h'.2 hc
    rw [sT.nw] at h
    obtain ⟨i1, i2, i3⟩ := inI_p hc (by omega)
    obtain ⟨e9, ⟨kh, hkh, ekh⟩, -, e19⟩ := pT _ i1
    by_cases hq : n < 200 ∧ ¬ y < (if n = 0 then 0 else mg 15 (n - 1)) ∧ y ≤ 2399 ∧ ¬ z < 0 ∧ z ≤ 9
    · rw [if_pos hq] at h h'
      obtain ⟨rfl, h2, h2t, t0, t1, t2, t3, t4, t5, rfl⟩ := h
      obtain ⟨rfl, h3, q0, q1, q2, q3, q4, q5, rfl⟩ := h'
      obtain ⟨c1, c2, c3, c4, c5⟩ := hq
      have e2 : fb_ct (onP (T5 g 1) (T5 g 2) (g 9 x.toNatClampNeg) (y / 24)) n = fb_ct (onP (mg 14) (mg 15) (mg 4 x.toNatClampNeg) (y / 24)) n := fb_ct_cong (fun t ht => by unfold onP; rw [sT.e 1 (by omega) t ht, sT.e 2 (by omega) t ht, e9])
      rw [e2] at t4 t5
      rw [e9, e19] at t5
      rw [e9] at t1
      have hyN : ∃ q, q < 2400 ∧ y = nI q := by
        have hy0 : ¬ y < 0 := fun q => by
          by_cases h0 : n = 0
          · rw [if_pos h0] at c2; exact c2 q
          · rw [if_neg h0] at c2
            obtain ⟨q9, hq9, eq9⟩ := sT.wN (n - 1) (by omega)
            have := sT.e 2 (by omega) (n - 1) (by omega)
            rw [this] at eq9
            have h1 : ¬ mg 15 (n - 1) < 0 := by
              show ¬ mg (13 + 2) (n - 1) < 0
              rw [eq9]; exact nI_nonneg (by omega)
            exact h1 (Int32.lt_of_le_of_lt (Int32.not_lt.mp c2) q)
        have hi := inI_in (x := y) (n := 2400) (by omega) hy0 (fun q => absurd (Int32.le_trans q c3) (by decide))
        obtain ⟨k, hk, e⟩ := inI_t hi (by omega)
        exact ⟨k, hk, e⟩
      refine ⟨⟨H, P, R, A, n + 1, L, m, T, ops, me, ⟨b1, b2, b3, b4, b5, by omega, b7, b8, b9⟩, ⟨⟨v15, v16, v17, v18, rfl, v10, v11, v7⟩, ⟨by rw [(h3 3 (by decide) (by decide) (by decide) (by decide) (by decide) (by decide) (by decide) (by decide))]; exact m0, by rw [(h3 3 (by decide) (by decide) (by decide) (by decide) (by decide) (by decide) (by decide) (by decide))]; exact m1, by rw [(h3 3 (by decide) (by decide) (by decide) (by decide) (by decide) (by decide) (by decide) (by decide))]; exact m2, by rw [(h3 3 (by decide) (by decide) (by decide) (by decide) (by decide) (by decide) (by decide) (by decide))]; exact m3, rfl, w19, w20, w25⟩, v0, v1, v01⟩, ⟨fun t j ht hj => ?_, ?_, ?_⟩, SimL.fr ⟨lT, lS, rT, cT, tp1⟩ (h2 6 (by decide) (by decide) (by decide)) (h2 7 (by decide) (by decide) (by decide)) (h2 8 (by decide) (by decide) (by decide)) (h2 10 (by decide) (by decide) (by decide)) (h2 1 (by decide) (by decide) (by decide)) (h3 21 (by decide) (by decide) (by decide) (by decide) (by decide) (by decide) (by decide) (by decide)) (h3 22 (by decide) (by decide) (by decide) (by decide) (by decide) (by decide) (by decide) (by decide)) (h3 23 (by decide) (by decide) (by decide) (by decide) (by decide) (by decide) (by decide) (by decide)) (h3 11 (by decide) (by decide) (by decide) (by decide) (by decide) (by decide) (by decide) (by decide)) (h3 24 (by decide) (by decide) (by decide) (by decide) (by decide) (by decide) (by decide) (by decide)), SimP.fr ⟨pT, p7, wT⟩ (h2 9 (by decide) (by decide) (by decide)) (h2 18 (by decide) (by decide) (by decide)) (h2 19 (by decide) (by decide) (by decide)) (h2 20 (by decide) (by decide) (by decide)) (h3 4 (by decide) (by decide) (by decide) (by decide) (by decide) (by decide) (by decide) (by decide)) (h3 5 (by decide) (by decide) (by decide) (by decide) (by decide) (by decide) (by decide) (by decide)) (h3 6 (by decide) (by decide) (by decide) (by decide) (by decide) (by decide) (by decide) (by decide)) (h3 7 (by decide) (by decide) (by decide) (by decide) (by decide) (by decide) (by decide) (by decide)), SimQ.fr ⟨⟨K, k9, v29, w42, q34⟩, q35⟩ rfl (h2 34 (by decide) (by decide) (by decide)) (h2 35 (by decide) (by decide) (by decide)) rfl (h3 40 (by decide) (by decide) (by decide) (by decide) (by decide) (by decide) (by decide) (by decide)), SimK.fr sk rfl rfl rfl rfl (h2 11 (by decide) (by decide) (by decide)) (h2 12 (by decide) (by decide) (by decide)) (h2 13 (by decide) (by decide) (by decide)) (h2 14 (by decide) (by decide) (by decide)) (h2 15 (by decide) (by decide) (by decide)) (h2 16 (by decide) (by decide) (by decide)) (h3 52 (by decide) (by decide) (by decide) (by decide) (by decide) (by decide) (by decide) (by decide)) (h3 53 (by decide) (by decide) (by decide) (by decide) (by decide) (by decide) (by decide) (by decide)) (h3 54 (by decide) (by decide) (by decide) (by decide) (by decide) (by decide) (by decide) (by decide)) (h3 55 (by decide) (by decide) (by decide) (by decide) (by decide) (by decide) (by decide) (by decide)) (h3 56 (by decide) (by decide) (by decide) (by decide) (by decide) (by decide) (by decide) (by decide)) (h3 57 (by decide) (by decide) (by decide) (by decide) (by decide) (by decide) (by decide) (by decide)) (h3 58 (by decide) (by decide) (by decide) (by decide) (by decide) (by decide) (by decide) (by decide)), ExC.fr xC rfl rfl rfl (h2 21 (by decide) (by decide) (by decide)) (h2 22 (by decide) (by decide) (by decide)) (h2 23 (by decide) (by decide) (by decide)), ExM.fr xM (h3 3 (by decide) (by decide) (by decide) (by decide) (by decide) (by decide) (by decide) (by decide)) (h3 8 (by decide) (by decide) (by decide) (by decide) (by decide) (by decide) (by decide) (by decide)) (h3 9 (by decide) (by decide) (by decide) (by decide) (by decide) (by decide) (by decide) (by decide)) (h3 10 (by decide) (by decide) (by decide) (by decide) (by decide) (by decide) (by decide) (by decide))⟩, rfl, rfl⟩
      · have e6 : j = 0 ∨ j = 1 ∨ j = 2 ∨ j = 3 ∨ j = 4 ∨ j = 5 := by omega
        by_cases e : t = n
        · subst e
          rcases e6 with rfl | rfl | rfl | rfl | rfl | rfl
          · rw [t0]; show _ = g3 13 t; rw [q0, upd_at]
          · rw [t1]; show _ = g3 14 t; rw [q1, upd_at]
          · rw [t2]; show _ = g3 15 t; rw [q2, upd_at]
          · rw [t3]; show _ = g3 16 t; rw [q3, upd_at]
          · rw [t4]; show _ = g3 17 t; rw [q4, upd_at]
          · rw [t5]; show _ = g3 18 t; rw [q5, upd_at]
        · rw [h2t j t hj e, sT.e j hj t (by omega)]
          rcases e6 with rfl | rfl | rfl | rfl | rfl | rfl
          · show mg 13 t = g3 13 t; rw [q0, upd_off e]
          · show mg 14 t = g3 14 t; rw [q1, upd_off e]
          · show mg 15 t = g3 15 t; rw [q2, upd_off e]
          · show mg 16 t = g3 16 t; rw [q3, upd_off e]
          · show mg 17 t = g3 17 t; rw [q4, upd_off e]
          · show mg 18 t = g3 18 t; rw [q5, upd_off e]
      · intro t ht
        by_cases e : t = n
        · subst e
          rw [t0, t1, t2, t5]
          exact ⟨⟨_, i1, i2⟩, ⟨kh, hkh, e9.symm.trans ekh⟩, hyN, by unfold bI; split <;> simp⟩
        · rw [h2t 0 t (by omega) e, h2t 1 t (by omega) e, h2t 2 t (by omega) e, h2t 5 t (by omega) e]
          exact sT.2.1 t (by omega)
      · intro s t h1 h9
        by_cases e : t = n
        · subst e
          rw [t2]
          by_cases es : s = t
          · subst es; rw [t2]; exact Int32.le_refl _
          · rw [h2t 2 s (by omega) es]
            rw [if_neg (by omega)] at c2
            refine Int32.le_trans (sT.2.2 s (t - 1) (by omega) (by omega)) ?_
            rw [sT.e 2 (by omega) (t - 1) (by omega)]
            exact Int32.not_lt.mp c2
        · rw [h2t 2 t (by omega) e, h2t 2 s (by omega) (by omega)]
          exact sT.2.2 s t h1 (by omega)
    · rw [if_neg hq] at h h'
      obtain ⟨z1, rfl, rfl⟩ := h
      subst v2
      obtain ⟨rfl, rfl, rfl⟩ := h'
      exact ⟨⟨H, P, R, A, n, L, m, T, ops, me, ⟨b1, b2, b3, b4, b5, b6, b7, b8, b9⟩, ⟨⟨v15, v16, v17, v18, v9, v10, v11, v7⟩, ⟨m0, m1, m2, m3, w12, w19, w20, w25⟩, v0, v1, v01⟩, sT.mv rfl (fun j h1 h2 => by simp only [va_up]; repeat rw [if_neg (by omega)]), ⟨lT, lS, rT, ct_up cT (by omega), tp1⟩, ⟨pT, p7, wT⟩, ⟨⟨K, k9, v29, w42, q34⟩, q35⟩, sk, xC, xM⟩, rfl, rfl⟩
  · obtain ⟨rfl, hc⟩ := h
    obtain ⟨rfl, z3, rfl⟩ := h'.1 hc
    subst g3
    exact ⟨hS.rd, va_up_self _ _ _, _, rfl⟩
