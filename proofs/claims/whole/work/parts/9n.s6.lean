theorem cpyf_lt {n k : Nat} {f h : Nat → Int32} (hk : k < n) : cpyf n f h k = f k := by unfold cpyf; rw [if_pos hk]
theorem T5_cp {g g2 : ZG} {s : Nat → Int32} (h : g2 5 = cpyf 1200 s (g 5)) {n : Nat} (hn : n ≤ 200) : ∀ t j, t < n → j < 6 → T5 g2 j t = s (6 * t + j) := fun t j ht hj => by unfold T5; rw [h, cpyf_lt (by omega)]
theorem j_image {l : Launch} {D : va_G} {cA : Nat → ClassId} {o a a' : Nat → Nat} {r0 : Nat} {s0 s1 : Nat → Option Nat} {v mv : ZV} {g mg : ZG} (hE : SimE v g mv mg) : ∃ P Pm, MG l D cA (WC o a cA) yX10_image cX10_image 1 none 4 [(.ref (o 0))] v g P ∧ MG l D cA (WM r0 a' cA s0 s1) yX11_image cX11_image 2 none 1 [(.ref r0)] mv mg Pm ∧ AgB P Pm := by
  obtain ⟨H, P, R, A, n, L, m, T, ops, me, hS⟩ := hE
  obtain ⟨⟨b1, b2, b3, b4, b5, b6, b7, b8, b9⟩, ⟨⟨v15, v16, v17, v18, v9, v10, v11, v7⟩, ⟨m0, m1, m2, m3, w12, w19, w20, w25⟩, v0, v1, v01⟩, sT, ⟨lT, lS, rT, cT, tp1⟩, ⟨pT, p7, wT⟩, ⟨⟨K, k9, v29, w42, q34⟩, q35⟩, sk, xC, xM⟩ := id hS
  refine ⟨_, _, c_X10_image, (c_X11_image w12 b6 sT.co), fun v2 g2 r v3 g3 r' h h' => ?_⟩
  obtain ⟨rfl, rfl, rfl⟩ := h
  obtain ⟨rfl, rfl, h3, q0, q1, q2, q3, q4, q5, q6, q7, q8⟩ := h'
  have sT2 : SimT H P n g g3 := sT.mv rfl (fun j h1 h2 => h3 j (by omega))
  refine ⟨⟨H, P, R, A, n, L, m, T, ops, me, ⟨b1, b2, b3, b4, b5, b6, b7, b8, b9⟩, ⟨⟨v15, v16, v17, v18, v9, v10, v11, v7⟩, ⟨by rw [(h3 3 (by decide))]; exact m0, by rw [(h3 3 (by decide))]; exact m1, by rw [(h3 3 (by decide))]; exact m2, by rw [(h3 3 (by decide))]; exact m3, w12, w19, w20, w25⟩, v0, rfl, .inr rfl⟩, sT2.mv rfl (fun _ _ _ => rfl), SimL.fr ⟨lT, lS, rT, cT, tp1⟩ rfl rfl rfl rfl rfl (h3 21 (by decide)) (h3 22 (by decide)) (h3 23 (by decide)) (h3 11 (by decide)) (h3 24 (by decide)), SimP.fr ⟨pT, p7, wT⟩ rfl rfl rfl rfl (h3 4 (by decide)) (h3 5 (by decide)) (h3 6 (by decide)) (h3 7 (by decide)), SimQ.fr ⟨⟨K, k9, v29, w42, q34⟩, q35⟩ rfl rfl rfl rfl (h3 40 (by decide)), ⟨⟨n, b6, by rw [q0]; exact w12, fun t ht => ?_⟩, fun _ => ⟨n, L, m, b6, b7, b8, ⟨v9, v10, v11⟩, ⟨by rw [q0]; exact w12, by rw [q1]; exact w19, by rw [q2]; exact w20⟩, fun t j ht hj => ?_, ?_, fun k hk => ⟨?_, ?_⟩, fun k hk => ?_, fun k hk => ?_, fun p hp => ⟨?_, ?_⟩, fun k hk => ?_⟩⟩, ExC.fr xC rfl rfl rfl rfl rfl rfl, ExM.fr xM (h3 3 (by decide)) (h3 8 (by decide)) (h3 9 (by decide)) (h3 10 (by decide))⟩, rfl, .inl rfl⟩
  · rw [q4 t 5 ht (by omega)]; exact sT.co t ht
  · rw [q4 t j ht hj, ← sT.e j hj t ht]
    exact cpyf_lt (n := 1200) (by omega)
  · exact sT.2.cong (fun t j ht hj => cpyf_lt (n := 1200) (by omega))
  · rw [q5]
    refine (cpyf_lt (n := 40) (f := g 6) (h := g 12) (by omega)).trans ?_
    rw [(lT k hk).1]; exact (cpyf_lt (by omega)).symm
  · rw [q6]
    refine (cpyf_lt (n := 40) (f := g 7) (h := g 13) (by omega)).trans ?_
    rw [(lT k hk).2]; exact (cpyf_lt (by omega)).symm
  · show (∃ p, p < P ∧ cpyf 40 (g 6) (g 12) k = nI p) ∧ ∃ q, q < 2400 ∧ cpyf 40 (g 7) (g 13) k = nI q
    rw [cpyf_lt (by omega), cpyf_lt (by omega)]; exact lS k hk
  · rw [q7]
    refine (cpyf_lt (n := 40) (f := g 8) (h := g 14) (by omega)).trans ?_
    rw [rT k hk]; exact (cpyf_lt (by omega)).symm
  · rw [q3]
    refine (cpyf_lt (n := 16) (f := g 9) (h := g 15) (by omega)).trans ?_
    rw [(pT p hp).1]; exact (cpyf_lt (by omega)).symm
  · show ∃ k, k < H ∧ cpyf 16 (g 9) (g 15) p = nI k
    rw [cpyf_lt (by omega)]; exact (pT p hp).2.1
  · rw [q8]
    refine (cpyf_lt (n := 4) (f := g 10) (h := g 16) (by omega)).trans ?_
    rw [cT k hk]; exact (cpyf_lt (by omega)).symm
theorem j_restore {l : Launch} {D : va_G} {cA : Nat → ClassId} {o a a' : Nat → Nat} {r0 : Nat} {s0 s1 : Nat → Option Nat} {v mv : ZV} {g mg : ZG} (hE : SimE v g mv mg) : ∃ P Pm, MG l D cA (WC o a cA) yX10_restore cX10_restore 1 (some .boolean) 4 [(.ref (o 0))] v g P ∧ MG l D cA (WM r0 a' cA s0 s1) yX11_restore cX11_restore 2 (some .boolean) 1 [(.ref r0)] mv mg Pm ∧ AgB P Pm := by
  obtain ⟨H, P, R, A, n, L, m, T, ops, me, hS⟩ := hE
  obtain ⟨⟨b1, b2, b3, b4, b5, b6, b7, b8, b9⟩, ⟨⟨v15, v16, v17, v18, v9, v10, v11, v7⟩, ⟨m0, m1, m2, m3, w12, w19, w20, w25⟩, v0, v1, v01⟩, sT, ⟨lT, lS, rT, cT, tp1⟩, ⟨pT, p7, wT⟩, ⟨⟨K, k9, v29, w42, q34⟩, q35⟩, sk, xC, xM⟩ := id hS
  refine ⟨_, _, (c_X10_restore v01), (c_X11_restore (n := sk.1.choose) sk.1.choose_spec.2.1 sk.1.choose_spec.1 sk.1.choose_spec.2.2), fun v2 g2 r v3 g3 r' h h' => ?_⟩
  obtain ⟨rfl, ha, hb⟩ := h
  obtain ⟨ha', hb'⟩ := h'
  by_cases h1 : v 1 = 0
  · obtain ⟨z1, z2⟩ := ha h1
    subst v2; subst g2
    obtain ⟨rfl, z3, rfl⟩ := ha' (v1.symm.trans h1)
    subst g3
    exact ⟨hS.rd, by rw [h1], .inr ⟨_, rfl⟩⟩
  · obtain ⟨rfl, rfl⟩ := hb h1
    obtain ⟨rfl, h3, h4, q4, q5, -, q21, q22, q23, q11, rfl⟩ := hb' (fun q => h1 (v1.trans q))
    obtain ⟨n', L', m', c1, c2, c3, ⟨d1, d2, d3⟩, ⟨e1, e2, e3⟩, k1, k2, k3, k4, k5, k6, k7⟩ := sk.2 h1
    have en : sk.1.choose = n' := nI_ij (by have := sk.1.choose_spec.1; omega) (by omega) (sk.1.choose_spec.2.1.symm.trans e1)
    rw [en] at q5
    have hT5 : ∀ t j, t < n' → j < 6 → T5 (va_up (va_up (va_up (va_up (va_up (va_up g 5 (cpyf (lenC 11) (g 11) (g 5))) 6 (cpyf (lenC 12) (g 12) (g 6))) 7 (cpyf (lenC 13) (g 13) (g 7))) 8 (cpyf (lenC 14) (g 14) (g 8))) 9 (cpyf (lenC 15) (g 15) (g 9))) 10 (cpyf (lenC 16) (g 16) (g 10))) j t = g 11 (6 * t + j) := T5_cp (g := g) rfl c1
    have ev : v 1 = 1 := by rcases v01 with q | q; exact absurd q h1; exact q
    refine ⟨⟨H, P, R, A, n', L', m', T, ops, me, ⟨b1, b2, b3, b4, b5, c1, c2, c3, b9⟩, ⟨⟨v15, v16, v17, v18, d1, d2, d3, v7⟩, ⟨by rw [(h4 3 (by decide) (by decide) (by decide))]; exact m0, by rw [(h4 3 (by decide) (by decide) (by decide))]; exact m1, by rw [(h4 3 (by decide) (by decide) (by decide))]; exact m2, by rw [(h4 3 (by decide) (by decide) (by decide))]; exact m3, e1, e2, e3, w25⟩, v0, v1, v01⟩, ⟨fun t j ht hj => ?_, ?_⟩, ⟨fun k hk => ⟨?_, ?_⟩, fun k hk => ?_, fun k hk => ?_, fun k hk => ?_, by rw [(h3 24 (by decide))]; exact tp1⟩, ⟨fun p hp => ⟨?_, ?_, ?_, ?_⟩, fun q => ?_, fun x y hx hy => ?_⟩, SimQ.fr ⟨⟨K, k9, v29, w42, q34⟩, q35⟩ rfl rfl rfl rfl (h3 40 (by decide)), SimK.fr sk rfl rfl rfl rfl rfl rfl rfl rfl rfl rfl (h3 52 (by decide)) (h3 53 (by decide)) (h3 54 (by decide)) (h3 55 (by decide)) (h3 56 (by decide)) (h3 57 (by decide)) (h3 58 (by decide)), ExC.fr xC rfl rfl rfl rfl rfl rfl, ExM.fr xM (h4 3 (by decide) (by decide) (by decide)) (h4 8 (by decide) (by decide) (by decide)) (h4 9 (by decide) (by decide) (by decide)) (h4 10 (by decide) (by decide) (by decide))⟩, by rw [ev], .inr ⟨_, rfl⟩⟩
    · rw [hT5 t j ht hj, q5 t j ht hj]; exact k1 t j ht hj
    · exact k2.cong hT5
    · rw [q21]
      refine (cpyf_lt (n := 40) (f := g 12) (h := g 6) (by omega)).trans ?_
      rw [(k3 k hk).1]; exact (cpyf_lt (by omega)).symm
    · rw [q22]
      refine (cpyf_lt (n := 40) (f := g 13) (h := g 7) (by omega)).trans ?_
      rw [(k3 k hk).2]; exact (cpyf_lt (by omega)).symm
    · show (∃ p, p < P ∧ cpyf 40 (g 12) (g 6) k = nI p) ∧ ∃ q, q < 2400 ∧ cpyf 40 (g 13) (g 7) k = nI q
      rw [cpyf_lt (by omega), cpyf_lt (by omega)]; exact k4 k hk
    · rw [q23]
      refine (cpyf_lt (n := 40) (f := g 14) (h := g 8) (by omega)).trans ?_
      rw [k5 k hk]; exact (cpyf_lt (by omega)).symm
    · rw [q11]
      refine (cpyf_lt (n := 4) (f := g 16) (h := g 10) (by omega)).trans ?_
      rw [k7 k hk]; exact (cpyf_lt (by omega)).symm
    · rw [q4]
      refine (cpyf_lt (n := 16) (f := g 15) (h := g 9) (by omega)).trans ?_
      rw [(k6 p hp).1]; exact (cpyf_lt (by omega)).symm
    · show ∃ k, k < H ∧ cpyf 16 (g 15) (g 9) p = nI k
      rw [cpyf_lt (by omega)]; exact (k6 p hp).2
    · rw [(h4 5 (by decide) (by decide) (by decide))]; exact (pT p hp).2.2.1
    · rw [(h4 7 (by decide) (by decide) (by decide))]; exact (pT p hp).2.2.2
    · rw [(h4 7 (by decide) (by decide) (by decide))]; exact p7 q
    · rw [(h4 6 (by decide) (by decide) (by decide))]; exact wT x y hx hy
