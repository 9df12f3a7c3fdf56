/-! the law: agreement of the calls that never throw -/
def AgI (P Pm : ZV → ZG → Option Value → Prop) : Prop := (∀ v2 g2 r, P v2 g2 r → ∃ x : Int32, r = some (.int x)) ∧ ∀ v2 g2 r v3 g3 r', P v2 g2 r → Pm v3 g3 r' → SimE v2 g2 v3 g3 ∧ r' = r
def AgN (P Pm : ZV → ZG → Option Value → Prop) : Prop := (∀ v2 g2 r, P v2 g2 r → r = none) ∧ ∀ v2 g2 r v3 g3 r', P v2 g2 r → Pm v3 g3 r' → SimE v2 g2 v3 g3 ∧ r' = none
theorem k_fault {l : Launch} {D : va_G} {cA : Nat → ClassId} {o a a' : Nat → Nat} {r0 : Nat} {s0 s1 : Nat → Option Nat} {v mv : ZV} {g mg : ZG} (hE : SimE v g mv mg) : ∃ P Pm, MG l D cA (WC o a cA) yX10_fault cX10_fault 1 (some .int) 1 [(.ref (o 0))] v g P ∧ MG l D cA (WM r0 a' cA s0 s1) yX11_fault cX11_fault 1 (some .int) 1 [(.ref r0)] mv mg Pm ∧ AgI P Pm := by
  obtain ⟨H, P, R, A, n, L, m, T, ops, me, hS⟩ := hE
  obtain ⟨⟨b1, b2, b3, b4, b5, b6, b7, b8, b9⟩, ⟨⟨v15, v16, v17, v18, v9, v10, v11, v7⟩, ⟨m0, m1, m2, m3, w12, w19, w20, w25⟩, v0, v1, v01⟩, sT, ⟨lT, lS, rT, cT, tp1⟩, ⟨pT, p7, wT⟩, ⟨⟨K, k9, v29, w42, q34⟩, q35⟩, sk, xC, xM⟩ := id hS
  refine ⟨_, _, c_X10_fault, c_X11_fault, fun v2 g2 r h => by obtain ⟨-, -, rfl⟩ := h; exact ⟨_, rfl⟩, fun v2 g2 r v3 g3 r' h h' => ?_⟩
  obtain ⟨z1, z2, rfl⟩ := h
  subst v2; subst g2
  obtain ⟨rfl, z3, rfl⟩ := h'
  subst g3
  exact ⟨hS.rd, by rw [v0]⟩
theorem k_clear {l : Launch} {D : va_G} {cA : Nat → ClassId} {o a a' : Nat → Nat} {r0 : Nat} {s0 s1 : Nat → Option Nat} {v mv : ZV} {g mg : ZG} (hE : SimE v g mv mg) : ∃ P Pm, MG l D cA (WC o a cA) yX10_clear cX10_clear 2 (some .int) 1 [(.ref (o 0))] v g P ∧ MG l D cA (WM r0 a' cA s0 s1) yX11_clear cX11_clear 2 (some .int) 1 [(.ref r0)] mv mg Pm ∧ AgI P Pm := by
  obtain ⟨H, P, R, A, n, L, m, T, ops, me, hS⟩ := hE
  obtain ⟨⟨b1, b2, b3, b4, b5, b6, b7, b8, b9⟩, ⟨⟨v15, v16, v17, v18, v9, v10, v11, v7⟩, ⟨m0, m1, m2, m3, w12, w19, w20, w25⟩, v0, v1, v01⟩, sT, ⟨lT, lS, rT, cT, tp1⟩, ⟨pT, p7, wT⟩, ⟨⟨K, k9, v29, w42, q34⟩, q35⟩, sk, xC, xM⟩ := id hS
  refine ⟨_, _, c_X10_clear, c_X11_clear, fun v2 g2 r h => by obtain ⟨-, -, rfl⟩ := h; exact ⟨_, rfl⟩, fun v2 g2 r v3 g3 r' h h' => ?_⟩
  obtain ⟨rfl, z2, rfl⟩ := h
  subst g2
  obtain ⟨rfl, z3, rfl⟩ := h'
  subst g3
  exact ⟨⟨H, P, R, A, n, L, 0, T, ops, me, ⟨b1, b2, b3, b4, b5, b6, b7, Nat.zero_le _, b9⟩, ⟨⟨v15, v16, v17, v18, v9, v10, rfl, v7⟩, ⟨m0, m1, m2, m3, w12, w19, rfl, w25⟩, v0, v1, v01⟩, sT.mv rfl (fun j h1 h2 => by simp only [va_up]; repeat rw [if_neg (by omega)]), ⟨lT, lS, fun k hk => absurd hk (Nat.not_lt_zero _), cT, tp1⟩, ⟨pT, p7, wT⟩, ⟨⟨K, k9, v29, w42, q34⟩, q35⟩, sk, xC, xM⟩, by rw [v11, w20]⟩
theorem k_feed {l : Launch} {D : va_G} {cA : Nat → ClassId} {o a a' : Nat → Nat} {r0 : Nat} {s0 s1 : Nat → Option Nat} {v mv : ZV} {g mg : ZG} {A1 B1 C1 D1 E1 : Int32} (hE : SimE v g mv mg) : ∃ P Pm, MG l D cA (WC o a cA) yX10_feed cX10_feed 6 (some .int) 3 [(.ref (o 0)), .int A1, .int B1, .int C1, .int D1, .int E1] v g P ∧ MG l D cA (WM r0 a' cA s0 s1) yX11_feed cX11_feed 8 (some .int) 1 [(.ref r0), .int A1, .int B1, .int C1, .int D1, .int E1] mv mg Pm ∧ AgI P Pm := by
  obtain ⟨H, P, R, A, n, L, m, T, ops, me, hS⟩ := hE
  obtain ⟨⟨b1, b2, b3, b4, b5, b6, b7, b8, b9⟩, ⟨⟨v15, v16, v17, v18, v9, v10, v11, v7⟩, ⟨m0, m1, m2, m3, w12, w19, w20, w25⟩, v0, v1, v01⟩, sT, ⟨lT, lS, rT, cT, tp1⟩, ⟨pT, p7, wT⟩, ⟨⟨K, k9, v29, w42, q34⟩, q35⟩, sk, xC, xM⟩ := id hS
  refine ⟨_, _, c_X10_feed v7 b9, c_X11_feed w25 b9, fun v2 g2 r h => by
    dsimp only at h
    by_cases hT : T + 20 ≤ 700
    · rw [if_pos hT] at h; obtain ⟨-, -, rfl⟩ := h; exact ⟨_, rfl⟩
    · rw [if_neg hT] at h; obtain ⟨-, -, rfl⟩ := h; exact ⟨_, rfl⟩, fun v2 g2 r v3 g3 r' h h' => ?_⟩
  dsimp only at h h'
  by_cases hT : T + 20 ≤ 700
  · rw [if_pos hT] at h h'
    obtain ⟨rfl, rfl, rfl⟩ := h
    obtain ⟨rfl, rfl, rfl⟩ := h'
    exact ⟨⟨H, P, R, A, n, L, m, T + 20, ops, me, ⟨b1, b2, b3, b4, b5, b6, b7, b8, hT⟩, ⟨⟨v15, v16, v17, v18, v9, v10, v11, rfl⟩, ⟨m0, m1, m2, m3, w12, w19, w20, rfl⟩, v0, v1, v01⟩, sT.mv rfl (fun j h1 h2 => by simp only [va_up]; repeat rw [if_neg (by omega)]), ⟨lT, lS, rT, cT, ⟨by rw [va_up_self, va_up_self, tap_eq, tp1.1], fun q => tap_nn tp1.2 20 q⟩⟩, ⟨pT, p7, wT⟩, ⟨⟨K, k9, v29, w42, q34⟩, q35⟩, sk, xC, xM⟩, rfl⟩
  · rw [if_neg hT] at h h'
    obtain ⟨z1, z2, rfl⟩ := h
    subst v2; subst g2
    obtain ⟨rfl, z3, rfl⟩ := h'
    subst g3
    exact ⟨hS.rd, rfl⟩
theorem k_image {l : Launch} {D : va_G} {cA : Nat → ClassId} {o a a' : Nat → Nat} {r0 : Nat} {s0 s1 : Nat → Option Nat} {v mv : ZV} {g mg : ZG} (hE : SimE v g mv mg) : ∃ P Pm, MG l D cA (WC o a cA) yX10_image cX10_image 1 none 4 [(.ref (o 0))] v g P ∧ MG l D cA (WM r0 a' cA s0 s1) yX11_image cX11_image 2 none 1 [(.ref r0)] mv mg Pm ∧ AgN P Pm := by
  obtain ⟨H, P, R, A, n, L, m, T, ops, me, hS⟩ := hE
  obtain ⟨⟨b1, b2, b3, b4, b5, b6, b7, b8, b9⟩, ⟨⟨v15, v16, v17, v18, v9, v10, v11, v7⟩, ⟨m0, m1, m2, m3, w12, w19, w20, w25⟩, v0, v1, v01⟩, sT, ⟨lT, lS, rT, cT, tp1⟩, ⟨pT, p7, wT⟩, ⟨⟨K, k9, v29, w42, q34⟩, q35⟩, sk, xC, xM⟩ := id hS
  refine ⟨_, _, c_X10_image, (c_X11_image w12 b6 sT.co), fun v2 g2 r h => h.2.2, fun v2 g2 r v3 g3 r' h h' => ?_⟩
  obtain ⟨rfl, rfl, rfl⟩ := h
  obtain ⟨rfl, rfl, h3, q0, q1, q2, q3, q4, q5, q6, q7, q8⟩ := h'
  have sT2 : SimT H P n g g3 := sT.mv rfl (fun j h1 h2 => h3 j (by omega))
  refine ⟨⟨H, P, R, A, n, L, m, T, ops, me, ⟨b1, b2, b3, b4, b5, b6, b7, b8, b9⟩, ⟨⟨v15, v16, v17, v18, v9, v10, v11, v7⟩, ⟨by rw [(h3 3 (by decide))]; exact m0, by rw [(h3 3 (by decide))]; exact m1, by rw [(h3 3 (by decide))]; exact m2, by rw [(h3 3 (by decide))]; exact m3, w12, w19, w20, w25⟩, v0, rfl, .inr rfl⟩, sT2.mv rfl (fun _ _ _ => rfl), SimL.fr ⟨lT, lS, rT, cT, tp1⟩ rfl rfl rfl rfl rfl (h3 21 (by decide)) (h3 22 (by decide)) (h3 23 (by decide)) (h3 11 (by decide)) (h3 24 (by decide)), SimP.fr ⟨pT, p7, wT⟩ rfl rfl rfl rfl (h3 4 (by decide)) (h3 5 (by decide)) (h3 6 (by decide)) (h3 7 (by decide)), SimQ.fr ⟨⟨K, k9, v29, w42, q34⟩, q35⟩ rfl rfl rfl rfl (h3 40 (by decide)), ⟨⟨n, b6, by rw [q0]; exact w12, fun t ht => ?_⟩, fun _ => ⟨n, L, m, b6, b7, b8, ⟨v9, v10, v11⟩, ⟨by rw [q0]; exact w12, by rw [q1]; exact w19, by rw [q2]; exact w20⟩, fun t j ht hj => ?_, ?_, fun k hk => ⟨?_, ?_⟩, fun k hk => ?_, fun k hk => ?_, fun p hp => ⟨?_, ?_⟩, fun k hk => ?_⟩⟩, ExC.fr xC rfl rfl rfl rfl rfl rfl, ExM.fr xM (h3 3 (by decide)) (h3 8 (by decide)) (h3 9 (by decide)) (h3 10 (by decide))⟩, rfl⟩
  · rw [q4 t 5 ht (by omega)]; exact sT.co t ht
  · rw [q4 t j ht hj, ← sT.e j hj t ht]
    exact cpyf_lt (n := 1200) (by omega)
  · exact sT.2.cong (fun t j ht hj => cpyf_lt (n := 1200) (by omega))
  · rw [q5]
    refine (cpyf_lt (n := 40) (f := g 6) (h := g 12) (by omega)).trans ?_
    rw [(lT k hk).1]; exact (cpyf_lt (by omega)).symm
  · rw [q6]
    refine (cpyf_lt (n := 40) (f := g 7) (h := g 13) (by omega)).trans ?_
    rw [(lT k hk).2]; exact (cpyf_lt (by omega)).symm
  · show (∃ p, p < P ∧ cpyf 40 (g 6) (g 12) k = nI p) ∧ ∃ q, q < 2400 ∧ cpyf 40 (g 7) (g 13) k = nI q
    rw [cpyf_lt (by omega), cpyf_lt (by omega)]; exact lS k hk
  · rw [q7]
    refine (cpyf_lt (n := 40) (f := g 8) (h := g 14) (by omega)).trans ?_
    rw [rT k hk]; exact (cpyf_lt (by omega)).symm
  · rw [q3]
    refine (cpyf_lt (n := 16) (f := g 9) (h := g 15) (by omega)).trans ?_
    rw [(pT p hp).1]; exact (cpyf_lt (by omega)).symm
  · show ∃ k, k < H ∧ cpyf 16 (g 9) (g 15) p = nI k
    rw [cpyf_lt (by omega)]; exact (pT p hp).2.1
  · rw [q8]
    refine (cpyf_lt (n := 4) (f := g 10) (h := g 16) (by omega)).trans ?_
    rw [cT k hk]; exact (cpyf_lt (by omega)).symm
theorem k_restore {l : Launch} {D : va_G} {cA : Nat → ClassId} {o a a' : Nat → Nat} {r0 : Nat} {s0 s1 : Nat → Option Nat} {v mv : ZV} {g mg : ZG} (hE : SimE v g mv mg) : ∃ P Pm, MG l D cA (WC o a cA) yX10_restore cX10_restore 1 (some .boolean) 4 [(.ref (o 0))] v g P ∧ MG l D cA (WM r0 a' cA s0 s1) yX11_restore cX11_restore 2 (some .boolean) 1 [(.ref r0)] mv mg Pm ∧ AgI P Pm := by
  obtain ⟨H, P, R, A, n, L, m, T, ops, me, hS⟩ := hE
  obtain ⟨⟨b1, b2, b3, b4, b5, b6, b7, b8, b9⟩, ⟨⟨v15, v16, v17, v18, v9, v10, v11, v7⟩, ⟨m0, m1, m2, m3, w12, w19, w20, w25⟩, v0, v1, v01⟩, sT, ⟨lT, lS, rT, cT, tp1⟩, ⟨pT, p7, wT⟩, ⟨⟨K, k9, v29, w42, q34⟩, q35⟩, sk, xC, xM⟩ := id hS
  refine ⟨_, _, (c_X10_restore v01), (c_X11_restore (n := sk.1.choose) sk.1.choose_spec.2.1 sk.1.choose_spec.1 sk.1.choose_spec.2.2), fun v2 g2 r h => ⟨_, h.1⟩, fun v2 g2 r v3 g3 r' h h' => ?_⟩
  obtain ⟨rfl, ha, hb⟩ := h
  obtain ⟨ha', hb'⟩ := h'
  by_cases h1 : v 1 = 0
  · obtain ⟨z1, z2⟩ := ha h1
    subst v2; subst g2
    obtain ⟨rfl, z3, rfl⟩ := ha' (v1.symm.trans h1)
    subst g3
    exact ⟨hS.rd, by rw [h1]⟩
  · obtain ⟨rfl, rfl⟩ := hb h1
    obtain ⟨rfl, h3, h4, q4, q5, -, q21, q22, q23, q11, rfl⟩ := hb' (fun q => h1 (v1.trans q))
    obtain ⟨n', L', m', c1, c2, c3, ⟨d1, d2, d3⟩, ⟨e1, e2, e3⟩, k1, k2, k3, k4, k5, k6, k7⟩ := sk.2 h1
    have en : sk.1.choose = n' := nI_ij (by have := sk.1.choose_spec.1; omega) (by omega) (sk.1.choose_spec.2.1.symm.trans e1)
    rw [en] at q5
    have hT5 : ∀ t j, t < n' → j < 6 → T5 (va_up (va_up (va_up (va_up (va_up (va_up g 5 (cpyf (lenC 11) (g 11) (g 5))) 6 (cpyf (lenC 12) (g 12) (g 6))) 7 (cpyf (lenC 13) (g 13) (g 7))) 8 (cpyf (lenC 14) (g 14) (g 8))) 9 (cpyf (lenC 15) (g 15) (g 9))) 10 (cpyf (lenC 16) (g 16) (g 10))) j t = g 11 (6 * t + j) := T5_cp (g := g) rfl c1
    have ev : v 1 = 1 := by rcases v01 with q | q; exact absurd q h1; exact q
    refine ⟨⟨H, P, R, A, n', L', m', T, ops, me, ⟨b1, b2, b3, b4, b5, c1, c2, c3, b9⟩, ⟨⟨v15, v16, v17, v18, d1, d2, d3, v7⟩, ⟨by rw [(h4 3 (by decide) (by decide) (by decide))]; exact m0, by rw [(h4 3 (by decide) (by decide) (by decide))]; exact m1, by rw [(h4 3 (by decide) (by decide) (by decide))]; exact m2, by rw [(h4 3 (by decide) (by decide) (by decide))]; exact m3, e1, e2, e3, w25⟩, v0, v1, v01⟩, ⟨fun t j ht hj => ?_, ?_⟩, ⟨fun k hk => ⟨?_, ?_⟩, fun k hk => ?_, fun k hk => ?_, fun k hk => ?_, by rw [(h3 24 (by decide))]; exact tp1⟩, ⟨fun p hp => ⟨?_, ?_, ?_, ?_⟩, fun q => ?_, fun x y hx hy => ?_⟩, SimQ.fr ⟨⟨K, k9, v29, w42, q34⟩, q35⟩ rfl rfl rfl rfl (h3 40 (by decide)), SimK.fr sk rfl rfl rfl rfl rfl rfl rfl rfl rfl rfl (h3 52 (by decide)) (h3 53 (by decide)) (h3 54 (by decide)) (h3 55 (by decide)) (h3 56 (by decide)) (h3 57 (by decide)) (h3 58 (by decide)), ExC.fr xC rfl rfl rfl rfl rfl rfl, ExM.fr xM (h4 3 (by decide) (by decide) (by decide)) (h4 8 (by decide) (by decide) (by decide)) (h4 9 (by decide) (by decide) (by decide)) (h4 10 (by decide) (by decide) (by decide))⟩, by rw [ev]⟩
    · rw [hT5 t j ht hj, q5 t j ht hj]; exact k1 t j ht hj
    · exact k2.cong hT5
    · rw [q21]
      refine (cpyf_lt (n := 40) (f := g 12) (h := g 6) (by omega)).trans ?_
      rw [(k3 k hk).1]; exact (cpyf_lt (by omega)).symm
    · rw [q22]
      refine (cpyf_lt (n := 40) (f := g 13) (h := g 7) (by omega)).trans ?_
      rw [(k3 k hk).2]; exact (cpyf_lt (by omega)).symm
    · show (∃ p, p < P ∧ cpyf 40 (g 12) (g 6) k = nI p) ∧ ∃ q, q < 2400 ∧ cpyf 40 (g 13) (g 7) k = nI q
      rw [cpyf_lt (by omega), cpyf_lt (by omega)]; exact k4 k hk
    · rw [q23]
      refine (cpyf_lt (n := 40) (f := g 14) (h := g 8) (by omega)).trans ?_
      rw [k5 k hk]; exact (cpyf_lt (by omega)).symm
    · rw [q11]
      refine (cpyf_lt (n := 4) (f := g 16) (h := g 10) (by omega)).trans ?_
      rw [k7 k hk]; exact (cpyf_lt (by omega)).symm
    · rw [q4]
      refine (cpyf_lt (n := 16) (f := g 15) (h := g 9) (by omega)).trans ?_
      rw [(k6 p hp).1]; exact (cpyf_lt (by omega)).symm
    · show ∃ k, k < H ∧ cpyf 16 (g 15) (g 9) p = nI k
      rw [cpyf_lt (by omega)]; exact (k6 p hp).2
    · rw [(h4 5 (by decide) (by decide) (by decide))]; exact (pT p hp).2.2.1
    · rw [(h4 7 (by decide) (by decide) (by decide))]; exact (pT p hp).2.2.2
    · rw [(h4 7 (by decide) (by decide) (by decide))]; exact p7 q
    · rw [(h4 6 (by decide) (by decide) (by decide))]; exact wT x y hx hy
/-- city's wrapper: the class's two cities may have changed places -/
theorem w_city {l : Launch} {D : va_G} {cA : Nat → ClassId} {o a a' : Nat → Nat} {r0 q : Nat} {f : Nat → Int64} {s0 s1 : Nat → Option Nat} {v mv : ZV} {g mg : ZG} {aK aV : Nat → Nat} {x : Int32} (hE : SimE v g mv mg) (hs0 : ∀ k, k < 5 → s0 k = some (aK (clN k))) (hs1 : ∀ k, k < 7 → s1 k = some (aK k)) : ∃ PW, ME l D cA (LC l aK aV) yL_city cL_city 4 (some .int) [(0, 9, 12, 13)] 121 1 6 [.ref (o 0), .int x, .ref q] (WC o a cA v g ++ oC cA q f) PW ∧ ∀ ws r, PW ws r → ∃ (k : Int32) (o2 a2 : Nat → Nat) (v2 : ZV) (g2 : ZG) (f2 : Nat → Int64), ws = WC o2 a2 cA v2 g2 ++ oC cA q f2 ∧ o2 0 = o 0 ∧ r = some (.int k) ∧ ∃ (kk : Nat) (Pm : ZV → ZG → Option Value → Prop), kk ≤ 110 ∧ MGY l D cA aK aV (WM r0 a' cA s0 s1) yX11_city cX11_city 3 (some .int) kk [(.ref r0), .int x] mv mg Pm ∧ ∀ v3 g3 r', Pm v3 g3 r' → SimE v2 g2 v3 g3 ∧ v3 2 = k ∧ ∃ y : Int32, r' = some (.int y) ∧ (k = 0 → f2 0 = y.toInt64) := by
  obtain ⟨T, h7, hT, hok, hbad⟩ := j_city (l := l) (D := D) (cA := cA) (o := o) (a := a) (a' := a') (r0 := r0) (x := x) (aK := aK) (aV := aV) hE hs0 hs1
  refine ⟨_, wr_city (Cx' := SC l aK aV) SC.ok (fun _ _ _ h => h.1) (c_X10_city (aK := aK) (aV := aV) h7 hT) (fun En ws' h => h.2.1) (fun r ws' h => ?_) rcv_10, fun ws r h => ?_⟩
  · obtain ⟨o2, a2, v2, g2, y, -, -, e, -⟩ := hok _ _ h
    exact ⟨y, e⟩
  · rcases h with ⟨x9, ws', hp, rfl, rfl⟩ | ⟨ws', ⟨rfl, -, hxp⟩, rfl, rfl⟩
    · obtain ⟨o2, a2, v2, g2, y, rfl, ho, e, Pm, hM, hB⟩ := hok _ _ hp
      have ey : y = x9 := by cases e; rfl
      subst ey
      exact ⟨0, o2, a2, v2, g2, _, rfl, ho, rfl, 110, Pm, Nat.le_refl _, hM, fun v3 g3 r' h' => by
        obtain ⟨e1, e2, e3⟩ := hB _ _ _ h'
        exact ⟨e1, e2, y, e3, fun _ => rfl⟩⟩
    · obtain ⟨Pm, hM, hB⟩ := hbad hxp
      exact ⟨1, o, a, v, g, f, rfl, rfl, rfl, 2, Pm, by omega, hM, fun v3 g3 r' h' => by
        obtain ⟨e1, e2, y, e3⟩ := hB _ _ _ h'
        exact ⟨e1, e2, y, e3, fun q => absurd q (by decide)⟩⟩
/-- the law's context, with its script -/
def LSX (l : Launch) (aK aV : Nat → Nat) (b n : Nat) (xs : Nat → Int32) : CXT := fun A U H => LC l aK aV A U H ∧ va_X b n xs U H ∧ ¬ A b ∧ b < H.size
theorem LSX.ok {l : Launch} {aK aV : Nat → Nat} {b n : Nat} {xs : Nat → Int32} : CxOk (LSX l aK aV b n xs) := by
  refine ⟨fun A s U H hW h => ⟨LC.ok.moved hW h.1, va_X.moved hW.alike h.2.1, h.2.2⟩, fun A U H H1 h hq => ?_, fun A B U H h hAB => ⟨LC.ok.narrow h.1 hAB, h.2.1, fun q => h.2.2.1 (hAB _ q), h.2.2.2⟩⟩
  have e := hq b h.2.2.2 h.2.2.1
  refine ⟨LC.ok.kept h.1 hq, h.2.1.kept e, h.2.2.1, ?_⟩
  obtain ⟨scr, h1, -⟩ := h.2.1
  rw [← e] at h1
  exact (Array.getElem?_eq_some_iff.mp h1).1
/-- the law's world between its calls -/
abbrev WL (o a : Nat → Nat) (cA : Nat → ClassId) (v : ZV) (g : ZG) (r : Nat) (a' : Nat → Nat) (s0 s1 : Nat → Option Nat) (mv : ZV) (mg : ZG) (q : Nat) (f : Nat → Int64) : va_W := (WC o a cA v g ++ oC cA q f) ++ WM r a' cA s0 s1 mv mg
theorem WL_at {cA : Nat → ClassId} {q : Nat} {f : Nat → Int64} (ws w2 : va_W) : ((ws ++ oC cA q f) ++ w2)[ws.length]? = some (q, .inl (cA 2, 1, .inr (.inl f))) := by
  rw [List.getElem?_append_left (by simp)]
  exact oC_at ws
theorem lg_self {x y : Int64} (h : x = y) : lg_cmp x y = 0 := by
  subst h
  unfold lg_cmp
  rw [if_neg (Int64.lt_irrefl), if_pos rfl]
section LawCalls
variable {l : Launch} {D : va_G} {cA : Nat → ClassId} {Cx : CXT} {own : String} {cc : ByteArray} {nl k mc ms : Nat} {E : Nat → Nat → va_W → Option Value → Prop} {X : Nat → Nat → va_W → String → Prop} {Z : ZT} {aK aV : Nat → Nat}
variable {u w pc : Nat} {L : List (Option Value)} {st st0 : List Value} {idx nl' k' mc' ms' n : Nat} {y : MethodName} {b : ByteArray} {ret : Option FieldType} {As : List Value} {w1 wc w2 w3 : va_W}
theorem zl_wr (hW : ZW l D cA Cx own cc nl k mc ms E Z) (ok : CxOk Cx) (hcx : ∀ (A : Nat → Prop) (U : State) (H : Heap), Cx A U H → LC l aK aV A U H) {hh : List (Nat × Nat × Nat × Nat)} {Post : va_W → Option Value → Prop} (d : decode cc pc = .ok (.invokestatic idx, 3)) (hl : Cond.methodLink own idx y ∈ lw_tbl) (hm : Cond.codeWith y b nl' (some .int) hh ∈ lw_tbl ∧ Cond.initialized y.cls ∈ lw_tbl ∧ y.cls ≠ "java/lang/invoke/MethodHandle" ∧ y.cls ≠ "java/lang/invoke/VarHandle" ∧ (parseMethodDescriptor y.desc).map (fun d => d.parameters.length) = some n) (hv : MIs y) (hM : ME l D cA (LC l aK aV) y b nl' (some .int) hh k' mc' ms' As wc Post) (hn : As.length = n) (hst : st0 = As.reverse) (hk : k' + 1 ≤ k) (hnl : nl' ≤ 21) (hmc : u + mc' ≤ mc) (hms : w + ms' ≤ ms)
    (kk : ∀ (r : Option Value) (ws' : va_W), Post ws' r → Z (u + mc') (w + ms') (ws' ++ w2) L r.toList (pc + 3)) : Z u w (wc ++ w2) L st0 pc :=
  z_callBS hW ok LC.ok hcx (w1 := []) (w2 := w2) (wc := wc) (st := []) d hl hm hv hM.toMB hn (by rw [hst, List.append_nil]) (by simp) hk hnl hmc hms (fun r ws' h => by
    have h9 := kk r ws' h
    rw [List.append_nil]
    exact h9)
theorem zl_ref (hZ : ZR l D cA own cc nl k mc ms E X Z) {r : Nat} {a' : Nat → Nat} {s0 s1 : Nat → Option Nat} {mv : ZV} {mg : ZG} {Pm : ZV → ZG → Option Value → Prop} (d : decode cc pc = .ok (.invokevirtual idx, 3)) (hl : LK own idx y) (hm : MIn y b nl' ret n) (hv : MIv y) (hy : y.cls = RX11) (hM : MG l D cA (WM r a' cA s0 s1) y b nl' ret k' (.ref r :: As) mv mg Pm) (hn : As.length = n) (hst : st0 = As.reverse ++ .ref r :: st) (h8 : (st.map fun v => v.category).sum ≤ 8) (hk : k' + 1 ≤ k) (hnl : nl' ≤ 21) (hmc : u ≤ mc) (hms : w ≤ ms)
    (kk : ∀ (v3 : ZV) (g3 : ZG) (r' : Option Value), Pm v3 g3 r' → Z u w (w1 ++ WM r a' cA s0 s1 v3 g3) L (r'.toList ++ st) (pc + 3)) : Z u w (w1 ++ WM r a' cA s0 s1 mv mg) L st0 pc := by
  have h := z_callV hZ (w1 := w1) (w2 := []) (wc := WM r a' cA s0 s1 mv mg) (u := u) (w := w) (L := L) (st0 := st0) (st := st) d hl hm hv hM (by rw [hy]; exact rc_M) hn hst h8 hk hnl hmc hms (fun r9 ws' h => by
    obtain ⟨v', g', rfl, hp⟩ := h
    rw [List.append_nil]
    exact kk v' g' r9 hp)
  rwa [List.append_nil] at h
theorem zl_refY (hW : ZW l D cA Cx own cc nl k mc ms E Z) (ok : CxOk Cx) (hcx : ∀ (A : Nat → Prop) (U : State) (H : Heap), Cx A U H → SC l aK aV A U H) {r : Nat} {a' : Nat → Nat} {s0 s1 : Nat → Option Nat} {mv : ZV} {mg : ZG} {Pm : ZV → ZG → Option Value → Prop} (d : decode cc pc = .ok (.invokevirtual idx, 3)) (hl : LK own idx y) (hm : MIn y b nl' ret n) (hv : MIv y) (hy : y.cls = RX11) (hM : MGY l D cA aK aV (WM r a' cA s0 s1) y b nl' ret k' (.ref r :: As) mv mg Pm) (hn : As.length = n) (hst : st0 = As.reverse ++ .ref r :: st) (h8 : (st.map fun v => v.category).sum ≤ 8) (hk : k' + 1 ≤ k) (hnl : nl' ≤ 21) (hmc : u ≤ mc) (hms : w ≤ ms)
    (kk : ∀ (v3 : ZV) (g3 : ZG) (r' : Option Value), Pm v3 g3 r' → Z u w (w1 ++ WM r a' cA s0 s1 v3 g3) L (r'.toList ++ st) (pc + 3)) : Z u w (w1 ++ WM r a' cA s0 s1 mv mg) L st0 pc := by
  have h := z_callBV hW ok SC.ok hcx (w1 := w1) (w2 := []) (wc := WM r a' cA s0 s1 mv mg) (u := u) (w := w) (L := L) (st0 := st0) (st := st) d hl hm hv (MY.toMB hM (fun _ _ h => h)) (by rw [hy]; exact rc_M) hn hst h8 hk hnl hmc hms (fun r9 ws' h => by
    obtain ⟨v', g', rfl, hp⟩ := h
    rw [List.append_nil]
    exact kk v' g' r9 hp)
  rwa [List.append_nil] at h
theorem zl_cls (hZ : ZR l D cA own cc nl k mc ms E X Z) {o a : Nat → Nat} {v : ZV} {g : ZG} {P : ZV → ZG → Option Value → Prop} (d : decode cc pc = .ok (.invokevirtual idx, 3)) (hl : LK own idx y) (hm : MIn y b nl' ret n) (hv : MIv y) (hy : y.cls = RX10) (hM : MG l D cA (WC o a cA) y b nl' ret k' (.ref (o 0) :: As) v g P) (hn : As.length = n) (hst : st0 = As.reverse ++ .ref (o 0) :: st) (h8 : (st.map fun v => v.category).sum ≤ 8) (hk : k' + 1 ≤ k) (hnl : nl' ≤ 21) (hmc : u ≤ mc) (hms : w ≤ ms)
    (kk : ∀ (v2 : ZV) (g2 : ZG) (r' : Option Value), P v2 g2 r' → Z u w ((WC o a cA v2 g2 ++ w3) ++ w2) L (r'.toList ++ st) (pc + 3)) : Z u w ((WC o a cA v g ++ w3) ++ w2) L st0 pc := by
  have h := z_callV hZ (w1 := []) (w2 := w3 ++ w2) (wc := WC o a cA v g) (u := u) (w := w) (L := L) (st0 := st0) (st := st) d hl hm hv hM (by rw [hy]; exact rc_0) hn hst h8 hk hnl hmc hms (fun r9 ws' h => by
    obtain ⟨v', g', rfl, hp⟩ := h
    have h9 := kk v' g' r9 hp
    rw [List.append_assoc] at h9
    exact h9)
  rw [List.append_assoc]
  exact h
/-- move's wrapper has no long -/
theorem zl_wrm (hW : ZW l D cA Cx own cc nl k mc ms E Z) (ok : CxOk Cx) (hcx : ∀ (A : Nat → Prop) (U : State) (H : Heap), Cx A U H → LC l aK aV A U H) {hh : List (Nat × Nat × Nat × Nat)} {Post : va_W → Option Value → Prop} (d : decode cc pc = .ok (.invokestatic idx, 3)) (hl : Cond.methodLink own idx y ∈ lw_tbl) (hm : Cond.codeWith y b nl' (some .int) hh ∈ lw_tbl ∧ Cond.initialized y.cls ∈ lw_tbl ∧ y.cls ≠ "java/lang/invoke/MethodHandle" ∧ y.cls ≠ "java/lang/invoke/VarHandle" ∧ (parseMethodDescriptor y.desc).map (fun d => d.parameters.length) = some n) (hv : MIs y) (hM : ME l D cA (LC l aK aV) y b nl' (some .int) hh k' mc' ms' As wc Post) (hn : As.length = n) (hst : st0 = As.reverse) (hk : k' + 1 ≤ k) (hnl : nl' ≤ 21) (hmc : u + mc' ≤ mc) (hms : w + ms' ≤ ms)
    (kk : ∀ (r : Option Value) (ws' : va_W), Post ws' r → Z (u + mc') (w + ms') ((ws' ++ w3) ++ w2) L r.toList (pc + 3)) : Z u w ((wc ++ w3) ++ w2) L st0 pc := by
  have h := zl_wr hW ok hcx (w2 := w3 ++ w2) (wc := wc) (u := u) (w := w) (L := L) (st0 := st0) d hl hm hv hM hn hst hk hnl hmc hms (fun r9 ws' h => by
    have h9 := kk r9 ws' h
    rw [List.append_assoc] at h9
    exact h9)
  rw [List.append_assoc]
  exact h
/-- an argument out of the script -/
theorem zl_arg {bb nn : Nat} {xs : Nat → Int32} (hW : ZW l D cA (LSX l aK aV bb nn xs) own cc nl k mc ms E Z) {t j : Nat} {jI : Int} (d0 : decode cc pc = .ok (.aload_n 0, 1)) (d1 : decode cc (pc + 1) = .ok (.iload 4, 2)) (d2 : decode cc (pc + 3) = .ok (.iconst jI, 1)) (d3 : decode cc (pc + 4) = .ok (.iadd, 1)) (d4 : decode cc (pc + 5) = .ok (.iaload, 1)) (hj : Int32.ofInt jI = nI j) (hL0 : L[0]? = some (some (.ref bb))) (hL4 : L[4]? = some (some (.int (nI (6 * t))))) (hlt : 6 * t + j < nn) (hn : nn ≤ 3072) (kk : Z u w wc L (.int (xs (6 * t + j)) :: st) (pc + 6)) : Z u w wc L st pc := by
  have hZ := hW.toZR
  refine z_aload_n hZ (j := 0) d0 hL0 ?_
  refine z_iload hZ d1 hL4 ?_
  refine z_iconst hZ d2 hj ?_
  refine z_iadd hZ d3 ?_
  rw [nI_add]
  refine z_scr hW (n := nn) (f := xs) (fun A U H h => h.2) d4 (vp_in_nI hlt (by omega)) ?_
  rw [nI_clamp (by omega)]
  exact kk
end LawCalls
/-- what a pass leaves -/
def LNext (Z : ZT) (cA : Nat → ClassId) (b x0 r q : Nat) (a' : Nat → Nat) (s0 s1 : Nat → Option Nat) (i : Int32) (u w : Nat) : Prop := ∀ (u2 w2 : Nat) (o a : Nat → Nat) (v : ZV) (g : ZG) (mv : ZV) (mg : ZG) (f : Nat → Int64) (L5 L6 : Option Value), SimE v g mv mg → u2 ≤ u + 6 → w2 ≤ w + 36 → o 0 = x0 → Z u2 w2 (WL o a cA v g r a' s0 s1 mv mg q f) [some (.ref b), some (.ref x0), some (.ref r), some (.ref q), some (.int i), L5, L6] [] 1794
/-- the law's end -/
def LE (u w : Nat) (_ : va_W) (r : Option Value) : Prop := u ≤ 601024 ∧ w ≤ 7293034 ∧ r = some (.int 1)
