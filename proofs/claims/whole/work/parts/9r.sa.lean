theorem ExM.pt {R A : Nat} {ops : Nat → Nat → Int32} {me : Nat → Nat} {mg g3 : ZG} (h : ExM mg R A ops me) (k3 : ∀ k, k < 4 → g3 3 k = mg 3 k) (k8 : ∀ k, k < 10 → g3 8 k = mg 8 k ∧ g3 9 k = mg 9 k) (k10 : ∀ k, k < 700 → g3 10 k = mg 10 k) : ExM g3 R A ops me := by
  obtain ⟨b, h2, h3, hR, hA, hc⟩ := h
  refine ⟨b, (k3 2 (by omega)).trans h2, (k3 3 (by omega)).trans h3, hR, hA, fun e he => ?_⟩
  obtain ⟨c1, c2, c3, c4, c5⟩ := hc e he
  have h10 : e < 10 := by omega
  exact ⟨(k8 e h10).1.trans c1, (k8 e h10).2.trans c2, c3, fun i hi => (k10 _ (by omega)).trans (c4 i hi), c5⟩
theorem j_city {l : Launch} {D : va_G} {cA : Nat → ClassId} {o a a' : Nat → Nat} {r0 : Nat} {s0 s1 : Nat → Option Nat} {v mv : ZV} {g mg : ZG} {aK aV : Nat → Nat} {x : Int32} (hE : SimE v g mv mg) (hs0 : ∀ k, k < 5 → s0 k = some (aK (clN k))) (hs1 : ∀ k, k < 7 → s1 k = some (aK k)) : ∃ T, v 7 = nI T ∧ T ≤ 700 ∧ (∀ ws r, CtyP o a cA v g x T ws r → ∃ (o2 a2 : Nat → Nat) (v2 : ZV) (g2 : ZG) (y : Int32), ws = WC o2 a2 cA v2 g2 ∧ o2 0 = o 0 ∧ r = some (.int y) ∧ ∃ Pm, MGY l D cA aK aV (WM r0 a' cA s0 s1) yX11_city cX11_city 3 (some .int) 110 [(.ref r0), .int x] mv mg Pm ∧ ∀ v3 g3 r', Pm v3 g3 r' → SimE v2 g2 v3 g3 ∧ v3 2 = 0 ∧ r' = r) ∧ ((x < 0 ∨ nI T < x) → ∃ Pm, MGY l D cA aK aV (WM r0 a' cA s0 s1) yX11_city cX11_city 3 (some .int) 2 [(.ref r0), .int x] mv mg Pm ∧ ∀ v3 g3 r', Pm v3 g3 r' → SimE v g v3 g3 ∧ v3 2 = 1 ∧ ∃ y : Int32, r' = some (.int y)) := by
  obtain ⟨H, P, R, A, n, L, m, T, ops, me, hS⟩ := hE
  obtain ⟨⟨b1, b2, b3, b4, b5, b6, b7, b8, b9⟩, ⟨⟨v15, v16, v17, v18, v9, v10, v11, v7⟩, ⟨m0, m1, m2, m3, w12, w19, w20, w25⟩, v0, v1, v01⟩, sT, ⟨lT, lS, rT, cT, tp1⟩, ⟨pT, p7, wT⟩, ⟨⟨K, k9, v29, w42, q34⟩, q35⟩, sk, xC, xM⟩ := id hS
  refine ⟨T, v7, b9, fun ws r h => ?_, fun hx => ⟨_, c_X11_city_bad (by rw [w25]; exact hx), fun v3 g3 r' h' => ?_⟩⟩
  · obtain ⟨i, rfl, hiT, m', Kk, N, hTK, hN, h⟩ := h
    rw [tp1.1] at hTK
    have hM := c_X11_city (l := l) (D := D) (cA := cA) (r := r0) (a := a') (v := mv) (g := mg) (aK := aK) (aV := aV) (s0 := s0) (s1 := s1) ⟨hTK, by omega, fun q _ => tp1.2 q⟩ rfl w25 b9 hiT hs0 hs1 hN p7
    rcases h with ⟨c, q, v2, g2, he, hc0, rfl, rfl, u0, u1, u7, uv, ug, u10⟩ | ⟨j, d, v2, g2, he, rfl, rfl, hK, ⟨LL, hL, hC⟩, u0, u1, u7, u9, u10, u11, u29, uv, u9p, ug⟩
    · refine ⟨o, a, v2, g2, c, rfl, rfl, rfl, _, hM, fun v3 g3 r' h' => ?_⟩
      rw [he] at h'
      obtain ⟨f1, f2, f25, f4, f7, rfl, w12', w19', w20', w42', w51', w34', q11, k1, k3, k4, k6, k8, k10, -⟩ := h'
      refine ⟨⟨H, P, R, A, n, L, m, 0, ops, me, ⟨b1, b2, b3, b4, b5, b6, b7, b8, Nat.zero_le _⟩, ⟨⟨(uv 15 (by omega)).trans v15, (uv 16 (by omega)).trans v16, (uv 17 (by omega)).trans v17, (uv 18 (by omega)).trans v18, (uv 9 (by omega)).trans v9, (uv 10 (by omega)).trans v10, (uv 11 (by omega)).trans v11, u7⟩, ⟨(k3 0 (by omega)).trans m0, (k3 1 (by omega)).trans m1, (k3 2 (by omega)).trans m2, (k3 3 (by omega)).trans m3, w12'.trans w12, w19'.trans w19, w20'.trans w20, f25⟩, by rw [u0, w34', tp1.1], by rw [u1, w51', v1], by rw [u1]; exact v01⟩, sT.mv (ug 5 (by omega) (by decide)) (fun k ha hb => f4 k (by omega) (by omega)), ⟨fun k hk => by rw [(ug 6 (by omega) (by decide)), (ug 7 (by omega) (by decide)), (f4 21 (by omega) (by decide)), (f4 22 (by omega) (by decide))]; exact lT k hk, by rw [(ug 6 (by omega) (by decide)), (ug 7 (by omega) (by decide))]; exact lS, fun k hk => by rw [(ug 8 (by omega) (by decide)), (f4 23 (by omega) (by decide))]; exact rT k hk, by rw [u10, q11]; exact ct_up cT (by omega), by rw [(ug 1 (by omega) (by decide)), (f4 24 (by omega) (by decide))]; exact tp1⟩, ⟨fun p hp => by rw [(ug 9 (by omega) (by decide)), (ug 18 (by omega) (by decide)), (ug 19 (by omega) (by decide)), show g3 4 p = mg 4 p from (k4 p (by omega)).1, show g3 5 p = mg 5 p from (k4 p (by omega)).2.1, show g3 7 p = mg 7 p from (k4 p (by omega)).2.2]; exact pT p hp, f7, fun x y hx hy => by rw [(ug 20 (by omega) (by decide)), show g3 6 (10 * x + y) = mg 6 (10 * x + y) from k6 _ (by omega)]; exact wT x y hx hy⟩, SimQ.fr ⟨⟨K, k9, v29, w42, q34⟩, q35⟩ (uv 29 (by omega)) (ug 34 (by omega) (by decide)) (ug 35 (by omega) (by decide)) w42' (f4 40 (by omega) (by decide)), SimK.fr sk u1 (uv 12 (by omega)) (uv 13 (by omega)) (uv 14 (by omega)) (ug 11 (by omega) (by decide)) (ug 12 (by omega) (by decide)) (ug 13 (by omega) (by decide)) (ug 14 (by omega) (by decide)) (ug 15 (by omega) (by decide)) (ug 16 (by omega) (by decide)) (f4 52 (by omega) (by decide)) (f4 53 (by omega) (by decide)) (f4 54 (by omega) (by decide)) (f4 55 (by omega) (by decide)) (f4 56 (by omega) (by decide)) (f4 57 (by omega) (by decide)) (f4 58 (by omega) (by decide)), ExC.fr xC (uv 17 (by omega)) (uv 18 (by omega)) (uv 19 (by omega)) (ug 21 (by omega) (by decide)) (ug 22 (by omega) (by decide)) (ug 23 (by omega) (by decide)), xM.pt k3 k8 k10⟩, f2, rfl⟩
    · refine ⟨swO o, swA a, v2, g2, 0, rfl, rfl, rfl, _, hM, fun v3 g3 r' h' => ?_⟩
      rw [he] at h'
      obtain ⟨f1, f2, f25, f4, f7, rfl, w12', w19', w20', w42', w51', w34', q11, hT9⟩ := h'
      have hB : DrB d := by
        have h := pCity_B (N := N) (TK_0 hTK) hN 700 0 true dr0 (Nat.zero_le _) DrK.dr0 DrB.dr0 (fun _ => rfl)
        rw [he] at h; exact h
      obtain ⟨h, h1, h10, eh⟩ := hK.h
      have xC' := hC.ex hL hK hB
      have xM' := hT9.ex hK hB
      obtain ⟨c15, c16, c17, c18, c19, cp, cw, -⟩ := hC
      obtain ⟨t0, t1, t2, t3, tp, tw, -⟩ := hT9
      have hP := hK.2.2.1
      have hz : ∀ (P9 : Nat → Prop) (k : Nat), k < 0 → P9 k := fun _ k hk => absurd hk (Nat.not_lt_zero _)
      refine ⟨⟨h, d.P, d.R, d.A, 0, 0, 0, 0, opsD d, meD d, ⟨h1, h10, hP, hK.2.2.2.1, hK.2.2.2.2, Nat.zero_le _, Nat.zero_le _, Nat.zero_le _, Nat.zero_le _⟩, ⟨⟨c15.trans eh, c16, c17, c18, u9, u10, u11, u7⟩, ⟨t0.trans eh, t1, t2, t3, w12', w19', w20', f25⟩, by rw [u0, w34'], by rw [u1, w51'], Or.inl u1⟩, ⟨fun t j ht hj => absurd ht (Nat.not_lt_zero _), fun t ht => absurd ht (Nat.not_lt_zero _), fun s t _ ht => absurd ht (Nat.not_lt_zero _)⟩, ⟨fun k hk => absurd hk (Nat.not_lt_zero _), fun k hk => absurd hk (Nat.not_lt_zero _), fun k hk => absurd hk (Nat.not_lt_zero _), by rw [ug 10 (by omega) (by decide), q11]; exact cT, by rw [ug 1 (by omega) (by decide), (f4 24 (by omega) (by decide))]; exact tp1⟩, ⟨fun p hp => ?_, f7, fun x y hx hy => ?_⟩, ⟨⟨0, by omega, u29, Or.inr ⟨w42', rfl⟩, fun i hi => absurd hi (Nat.not_lt_zero _)⟩, by rw [ug 35 (by omega) (by decide)]; exact q35⟩, ⟨by rw [(f4 52 (by omega) (by decide)), (f4 54 (by omega) (by decide))]; exact sk.1, fun q => absurd u1 q⟩, xC', xM'⟩, f2, rfl⟩
      · obtain ⟨e1, e2, e3⟩ := cp p hp
        obtain ⟨d1, d2, d3⟩ := tp p hp
        refine ⟨(u9p p (by omega)).trans (e1.trans d1.symm), ?_, e2.trans d2.symm, e3.trans d3.symm⟩
        rw [u9p p (by omega), e1]
        obtain ⟨z0, z1⟩ := hB.1 p hp
        exact nN_of (by omega) z0 (by rw [← eh]; exact z1)
      · rw [cw _ (by omega), tw x y hx hy]
        refine ⟨rfl, ?_⟩
        by_cases e : x = y
        · rw [if_pos e]; exact ⟨0, by omega, rfl⟩
        · rw [if_neg e]
          obtain ⟨z0, z1⟩ := hB.2.1 (10 * x + y)
          obtain ⟨w, hw, ew⟩ := nN_of (n := 100) (by omega) z0 (Int32.lt_of_le_of_lt z1 (by decide))
          exact ⟨w, by omega, ew⟩
  · obtain ⟨rfl, z3, rfl⟩ := h'
    subst g3
    refine ⟨⟨H, P, R, A, n, L, m, T, ops, me, hS.fr (fun _ _ => rfl) (fun _ _ => rfl) (fun j hj => ?_) (fun _ _ => rfl)⟩, va_up_self _ _ _, _, rfl⟩
    rw [va_up_ne _ _ (sm2 hj), va_up_ne _ _ (sm2 hj)]
