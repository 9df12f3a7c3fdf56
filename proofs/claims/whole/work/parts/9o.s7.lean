theorem carG_in {sa : Nat → Nat} {H : Nat} (hH : H ≤ 10) (hs : ∀ d, sa d < 2 ^ H) : ∀ (m d t : Nat), t < 3 → carG sa m d t = none ∨ ∃ h d', h < H ∧ carG sa m d t = some (h, d')
  | 0, _, _, _ => Or.inl rfl
  | m + 1, d, t, ht => by
    rw [carG]
    have h10 : sa d < 1024 := Nat.lt_of_lt_of_le (hs d) (Nat.le_trans (Nat.pow_le_pow_right (by omega) hH) (by decide))
    by_cases hc : popc (sa d) = 1 ∨ (if 1 < popc (sa d) then t + 1 else t) = 3
    · rw [if_pos hc]
      refine Or.inr ⟨_, _, ?_, rfl⟩
      have hne : sa d ≠ 0 := fun q => by
        rw [q, popc_0] at hc
        rcases hc with hc | hc
        · exact absurd hc (by decide)
        · rw [if_neg (by decide)] at hc; omega
      rcases lowb_tab (sa d) h10 with q | ⟨q1, q2⟩
      · exact absurd q hne
      · rcases Nat.lt_or_ge (lowb (sa d)) H with z | z
        · exact z
        · rw [Nat.testBit_lt_two_pow (Nat.lt_of_lt_of_le (hs d) (Nat.pow_le_pow_right (by omega) z))] at q2
          cases q2
    · rw [if_neg hc]
      refine carG_in hH hs m (d + 1) _ ?_
      have h3 : ¬ (if 1 < popc (sa d) then t + 1 else t) = 3 := fun q => hc (Or.inr q)
      split at h3 <;> rename_i h9 <;> simp only [h9, if_true, if_false] <;> omega
theorem carH_in {wo co fr wh : Nat → Int32} {n H q : Nat} {p : Int32} (hH : H ≤ 10) : carH (carryS wo co fr wh n p H q) = -1 ∨ ∃ h, h < H ∧ carH (carryS wo co fr wh n p H q) = nI h := by
  unfold carryS
  rcases carG_in (sa := dawnS wo co fr wh n p H) hH (fun d => by unfold dawnS hsT; exact bitN_lt _ _) 30 ((q + 18) / 24) 0 (by omega) with e | ⟨h, d', hh, e⟩
  · rw [e]; exact Or.inl rfl
  · rw [e]; exact Or.inr ⟨h, hh, rfl⟩
theorem rch_c {Hs Ds Hs' Ds' : Nat → Int32} {d : Int32} : ∀ {q : Nat}, (∀ l, l < q → Hs l = Hs' l ∧ Ds l = Ds' l) → rchB Hs Ds d q = rchB Hs' Ds' d q
  | 0, _ => rfl
  | q + 1, h => by rw [rchB, rchB, (h q (by omega)).1, (h q (by omega)).2, rch_c (fun l hl => h l (by omega))]
theorem rch_lt {Hs Ds : Nat → Int32} {d : Int32} {H : Nat} (hH : H ≤ 10) : ∀ {q : Nat}, (∀ l, l < q → Hs l = -1 ∨ ∃ x, x < H ∧ Hs l = nI x) → rchB Hs Ds d q < 2 ^ H
  | 0, _ => Nat.two_pow_pos H
  | q + 1, h => by
    have ih := rch_lt (d := d) (Ds := Ds) hH (fun l hl => h l (Nat.lt_succ_of_lt hl))
    rw [rchB]
    split
    · rename_i hc
      rcases h q (Nat.lt_succ_self _) with e | ⟨x, hx, e⟩
      · rw [e] at hc; exact absurd hc.2 (by decide)
      · rw [e, nI_clamp (by omega)]
        exact Nat.or_lt_two_pow ih (Nat.pow_lt_pow_right (by omega) hx)
    · exact ih
theorem popc_9 : ∀ b, b < 1024 → b.testBit 0 = false → popc b ≤ 9 := by decide +kernel
theorem wk_ok {g mg : ZG} (wT : ∀ x y, x < 10 → y < 10 → (if x = y then 0 else g 20 (10 * x + y)) = mg 6 (10 * x + y) ∧ ∃ w, w ≤ 99 ∧ mg 6 (10 * x + y) = nI w) : (∀ x y, x < 10 → y < 10 → mg 6 (10 * x + y) = nI ((fun x y => if x < 10 ∧ y < 10 then (mg 6 (10 * x + y)).toNatClampNeg else 0) x y)) ∧ (∀ x y, x < 10 → y < 10 → (if x = y then 0 else g 20 (10 * x + y)) = nI ((fun x y => if x < 10 ∧ y < 10 then (mg 6 (10 * x + y)).toNatClampNeg else 0) x y)) ∧ ∀ x y, (fun x y => if x < 10 ∧ y < 10 then (mg 6 (10 * x + y)).toNatClampNeg else 0) x y ≤ 99 := by
  have h1 : ∀ x y, x < 10 → y < 10 → mg 6 (10 * x + y) = nI ((fun x y => if x < 10 ∧ y < 10 then (mg 6 (10 * x + y)).toNatClampNeg else 0) x y) := fun x y hx hy => by
    obtain ⟨w, hw, e⟩ := (wT x y hx hy).2
    simp only [hx, hy, and_self, if_true]
    rw [e, nI_clamp (by omega)]
  refine ⟨h1, fun x y hx hy => (wT x y hx hy).1.trans (h1 x y hx hy), fun x y => ?_⟩
  by_cases h : x < 10 ∧ y < 10
  · obtain ⟨w, hw, e⟩ := (wT x y h.1 h.2).2
    simp only [h, and_self, if_true]
    rw [e, nI_clamp (by omega)]; exact hw
  · simp only [h, if_false]; exact Nat.zero_le _
theorem j_round {l : Launch} {D : va_G} {cA : Nat → ClassId} {o a a' : Nat → Nat} {r0 : Nat} {s0 s1 : Nat → Option Nat} {v mv : ZV} {g mg : ZG} {x : Int32} (hE : SimE v g mv mg) : ∃ P XP Pm, MF l D cA o a yX10_round cX10_round 4 (some .int) 8 1 6 [(.ref (o 0)), .int x] v g P XP ∧ MG l D cA (WM r0 a' cA s0 s1) yX11_round cX11_round 3 (some .int) 12 [(.ref r0), .int x] mv mg Pm ∧ Agr k1 eN v g P XP Pm := by
  obtain ⟨H, P, R, A, n, L, m, T, ops, me, hS⟩ := hE
  obtain ⟨⟨b1, b2, b3, b4, b5, b6, b7, b8, b9⟩, ⟨⟨v15, v16, v17, v18, v9, v10, v11, v7⟩, ⟨m0, m1, m2, m3, w12, w19, w20, w25⟩, v0, v1, v01⟩, sT, ⟨lT, lS, rT, cT, tp1⟩, ⟨pT, p7, wT⟩, ⟨⟨K, k9, v29, w42, q34⟩, q35⟩, sk, xC, xM⟩ := id hS
  refine ⟨_, _, _, c_X10_round (wk := (fun x y => if x < 10 ∧ y < 10 then (mg 6 (10 * x + y)).toNatClampNeg else 0)) v9 b6 (sT.fr b2) sT.2.2 v10 b7 lS.hh (wk_ok wT).2.1 (wk_ok wT).2.2 q35, c_X11_round (hh := fun k => (g 7 k).toNatClampNeg) (wk := (fun x y => if x < 10 ∧ y < 10 then (mg 6 (10 * x + y)).toNatClampNeg else 0)) w12 b6 sT.co m0 b2 w19 b7 (fun k hk => by rw [← (lT k hk).2]; exact lS.hh k hk) (wk_ok wT).1 (wk_ok wT).2.2 (rch_lt b2 (fun l _ => carH_in b2)), ?_⟩
  have eB : rchB (fun l => carH (carryS (T5 g 0) (T5 g 5) (T5 g 1) (T5 g 2) n (g 6 l) 10 (g 7 l).toNatClampNeg)) (fun l => carD (carryS (T5 g 0) (T5 g 5) (T5 g 1) (T5 g 2) n (g 6 l) 10 (g 7 l).toNatClampNeg)) x L = rchB (fun l => carH (carryS (mg 13) (mg 18) (mg 14) (mg 15) n (mg 21 l) H (g 7 l).toNatClampNeg)) (fun l => carD (carryS (mg 13) (mg 18) (mg 14) (mg 15) n (mg 21 l) H (g 7 l).toNatClampNeg)) x L := rch_c (fun l hl => by
    have hp : g 6 l ≠ -1 := by
      obtain ⟨p, hp, e⟩ := (lS l hl).1
      rw [e]; exact nI_m1 (by omega)
    have e := sT.ca b6 b2 (q := (g 7 l).toNatClampNeg) hp
    rw [e, (lT l hl).1]
    exact ⟨rfl, rfl⟩)
  have h9 : popc (rchB (fun l => carH (carryS (mg 13) (mg 18) (mg 14) (mg 15) n (mg 21 l) H (g 7 l).toNatClampNeg)) (fun l => carD (carryS (mg 13) (mg 18) (mg 14) (mg 15) n (mg 21 l) H (g 7 l).toNatClampNeg)) x L) ≤ 9 := by
    obtain ⟨q1, q2⟩ := rchB_ok (Hs := fun l => carH (carryS (mg 13) (mg 18) (mg 14) (mg 15) n (mg 21 l) H (g 7 l).toNatClampNeg)) (Ds := fun l => carD (carryS (mg 13) (mg 18) (mg 14) (mg 15) n (mg 21 l) H (g 7 l).toNatClampNeg)) (d := x) (q := L) (fun l _ => by
      rcases carH_in (wo := mg 13) (co := mg 18) (fr := mg 14) (wh := mg 15) (n := n) (q := (g 7 l).toNatClampNeg) (p := mg 21 l) b2 with e | ⟨h, hh, e⟩
      · exact Or.inl e
      · exact Or.inr ⟨h, by omega, e⟩)
    exact popc_9 _ q1 q2
  refine ⟨fun v2 g2 r h => ?_, fun En h => h.1, fun v2 g2 r v3 g3 r' h h' => ?_, fun En v3 g3 r' h h' => ?_⟩
  · obtain ⟨-, -, -, -, -, -, rfl⟩ := h; exact ⟨_, rfl⟩
  · obtain ⟨h1, hK, h2, h35, h34, hc, rfl⟩ := h
    obtain ⟨h3, h4, h5, h6⟩ := h'
    rw [if_pos hc] at h4 h6
    obtain ⟨h7, h8, rfl⟩ := h6
    have ev : ∀ j, sV j = true → j ≠ 29 → v2 j = v j := fun j hj h29 => h1 j (sV_ne hj (k := 25) rfl) (sV_ne hj (k := 26) rfl) (sV_ne hj (k := 27) rfl) (sV_ne hj (k := 28) rfl) h29
    have eg : ∀ j, sG j = true → j ≠ 34 → j ≠ 35 → g2 j = g j := fun j hj ha hb => h2 j (sG_ne hj (k := 33) rfl) ha hb (sG_ne hj (k := 36) rfl)
    have em : ∀ j, sMV j = true → j ≠ 42 → v3 j = mv j := fun j hj ha => h3 j (sm2 hj) (sMV_ne hj (k := 38) rfl) (sMV_ne hj (k := 39) rfl) ha (sMV_ne hj (k := 43) rfl) (sMV_ne hj (k := 44) rfl)
    have en : ∀ j, sMG j = true → j ≠ 40 → g3 j = mg j := fun j hj ha => h5 j ha (sMG_ne hj (k := 41) rfl)
    have hf : Sim H P R A n L m T ops me (va_up v2 29 (v 29)) (va_up (va_up g2 34 (g 34)) 35 (g 35)) (va_up v3 42 (mv 42)) (va_up g3 40 (mg 40)) := hS.fr (fun j hj => by
        by_cases e : j = 29
        · subst e; exact va_up_self _ _ _
        · rw [va_up_ne _ _ e]; exact ev j hj e) (fun j hj => by
        by_cases e : j = 35
        · subst e; exact va_up_self _ _ _
        · rw [va_up_ne _ _ e]
          by_cases e2 : j = 34
          · subst e2; exact va_up_self _ _ _
          · rw [va_up_ne _ _ e2]; exact eg j hj e2 e) (fun j hj => by
        by_cases e : j = 42
        · subst e; exact va_up_self _ _ _
        · rw [va_up_ne _ _ e]; exact em j hj e) (fun j hj => by
        by_cases e : j = 40
        · subst e; exact va_up_self _ _ _
        · rw [va_up_ne _ _ e]; exact en j hj e)
    obtain ⟨f1, f2, f3, f4, f5, -, f7, f8, f9⟩ := hf
    refine ⟨⟨H, P, R, A, n, L, m, T, ops, me, f1, f2, f3.mv rfl (fun j ha hb => (va_up_ne _ _ (by omega)).symm), f4, f5, ⟨⟨popc (rchB (fun l => carH (carryS (mg 13) (mg 18) (mg 14) (mg 15) n (mg 21 l) H (g 7 l).toNatClampNeg)) (fun l => carD (carryS (mg 13) (mg 18) (mg 14) (mg 15) n (mg 21 l) H (g 7 l).toNatClampNeg)) x L), h9, by rw [hK, eB], Or.inl h7, fun i hi => ?_⟩, h35⟩, f7, f8, f9⟩, h4, by rw [eB]⟩
    rw [h8 i hi]
    refine (h34 i (by rw [eB]; exact hi)).trans ?_
    rw [eB]
  · obtain ⟨rfl, hc⟩ := h
    obtain ⟨h3, h4, h5, h6⟩ := h'
    rw [if_neg (by rw [hc]; decide)] at h4 h6
    obtain ⟨h7, z3, rfl⟩ := h6
    subst g3
    refine ⟨⟨H, P, R, A, n, L, m, T, ops, me, hS.fr (fun _ _ => rfl) (fun _ _ => rfl) (fun j hj => ?_) (fun _ _ => rfl)⟩, h4, _, rfl⟩
    by_cases e : j = 42
    · subst e; exact h7
    · exact h3 j (sm2 hj) (sMV_ne hj (k := 38) rfl) (sMV_ne hj (k := 39) rfl) e (sMV_ne hj (k := 43) rfl) (sMV_ne hj (k := 44) rfl)
