/-! agreement, a lemma a method -/
def SimE (v : ZV) (g : ZG) (mv : ZV) (mg : ZG) : Prop := ∃ (H P R A n L m T : Nat) (ops : Nat → Nat → Int32) (me : Nat → Nat), Sim H P R A n L m T ops me v g mv mg
def Agr (κ : String → Int32) (EN : String → Prop) (v : ZV) (g : ZG) (P : ZV → ZG → Option Value → Prop) (XP : String → Prop) (Pm : ZV → ZG → Option Value → Prop) : Prop :=
  (∀ v2 g2 r, P v2 g2 r → ∃ x : Int32, r = some (.int x)) ∧ (∀ En, XP En → EN En) ∧ (∀ v2 g2 r v3 g3 r', P v2 g2 r → Pm v3 g3 r' → SimE v2 g2 v3 g3 ∧ v3 2 = 0 ∧ r' = r) ∧ ∀ En v3 g3 r', XP En → Pm v3 g3 r' → SimE v g v3 g3 ∧ v3 2 = κ En ∧ ∃ y : Int32, r' = some (.int y)
def kN : String → Int32 := fun En => if En = sNSE then 1 else 2
def k1 : String → Int32 := fun _ => 1
def eN : String → Prop := fun En => En = sNSE
def eI : String → Prop := fun En => En = sIAE
def eB : String → Prop := fun En => En = sNSE ∨ En = sIAE
theorem kN_I : kN sIAE = 2 := by unfold kN; rw [if_neg (by decide)]
theorem kN_N : kN sNSE = 1 := by unfold kN; rw [if_pos rfl]
theorem sm2 {j : Nat} (h : sMV j = true) : j ≠ 2 := fun q => by subst q; exact absurd h (by decide)
theorem sV_ne {j k : Nat} (h : sV j = true) (hk : sV k = false) : j ≠ k := fun q => by subst q; rw [h] at hk; cases hk
theorem sG_ne {j k : Nat} (h : sG j = true) (hk : sG k = false) : j ≠ k := fun q => by subst q; rw [h] at hk; cases hk
theorem sMV_ne {j k : Nat} (h : sMV j = true) (hk : sMV k = false) : j ≠ k := fun q => by subst q; rw [h] at hk; cases hk
theorem sMG_ne {j k : Nat} (h : sMG j = true) (hk : sMG k = false) : j ≠ k := fun q => by subst q; rw [h] at hk; cases hk
section SimR
variable {H P R A n L m T : Nat} {ops : Nat → Nat → Int32} {me : Nat → Nat} {v v2 mv mv2 : ZV} {g g2 mg mg2 : ZG}
theorem Sim.rd (h : Sim H P R A n L m T ops me v g mv mg) {c : Int32} : SimE v g (va_up mv 2 c) mg :=
  ⟨H, P, R, A, n, L, m, T, ops, me, h.fr (fun _ _ => rfl) (fun _ _ => rfl) (fun _ hj => va_up_ne _ _ (sm2 hj)) (fun _ _ => rfl)⟩
theorem Sim.rf (h : Sim H P R A n L m T ops me v g mv mg) {c : Int32} (hv : ∀ j, sV j = true → v2 j = v j) (hg : ∀ j, sG j = true → g2 j = g j) (hmg : ∀ j, sMG j = true → mg2 j = mg j) : SimE v2 g2 (va_up mv 2 c) mg2 :=
  ⟨H, P, R, A, n, L, m, T, ops, me, h.fr hv hg (fun _ hj => va_up_ne _ _ (sm2 hj)) hmg⟩
theorem SimT.e (h : SimT H P n g mg) (j : Nat) (hj : j < 6) : ∀ t, t < n → T5 g j t = mg (13 + j) t := fun t ht => h.1 t j ht hj
theorem SimT.co (h : SimT H P n g mg) : ∀ t, t < n → mg 18 t = 0 ∨ mg 18 t = 1 := fun t ht => by
  have e := h.e 5 (by omega) t ht
  have e2 := (h.2.1 t ht).2.2.2
  rw [e] at e2; exact e2
theorem SimT.fr (h : SimT H P n g mg) (hH : H ≤ 10) : ∀ t, t < n → ∃ k, k < 10 ∧ T5 g 1 t = nI k := fun t ht => by
  obtain ⟨k, h1, h2⟩ := (h.2.1 t ht).2.1
  exact ⟨k, by omega, h2⟩
theorem SimT.frm (h : SimT H P n g mg) (hH : H ≤ 10) : ∀ t, t < n → ∃ k, k < 10 ∧ mg 14 t = nI k := fun t ht => by
  obtain ⟨k, h1, h2⟩ := h.fr hH t ht
  exact ⟨k, h1, (h.e 1 (by omega) t ht).symm.trans h2⟩
theorem SimT.wo (h : SimT H P n g mg) (hP : P ≤ 16) : ∀ t, t < n → ∃ p, p < 16 ∧ T5 g 0 t = nI p := fun t ht => by
  obtain ⟨k, h1, h2⟩ := (h.2.1 t ht).1
  exact ⟨k, by omega, h2⟩
theorem SimT.wom (h : SimT H P n g mg) (hP : P ≤ 16) : ∀ t, t < n → ∃ p, p < 16 ∧ mg 13 t = nI p := fun t ht => by
  obtain ⟨k, h1, h2⟩ := h.wo hP t ht
  exact ⟨k, h1, (h.e 0 (by omega) t ht).symm.trans h2⟩
theorem SimT.wN (h : SimT H P n g mg) : ∀ t, t < n → ∃ q, q < 2400 ∧ T5 g 2 t = nI q := fun t ht => (h.2.1 t ht).2.2.1
theorem SimT.nm (h : SimT H P n g mg) (hn : n ≤ 200) {x y : Int32} : nm2 (T5 g 0) (cbS (T5 g 5) (T5 g 1) (T5 g 2) x y n) = nm2 (mg 13) (cbS (mg 18) (mg 14) (mg 15) x y n) := nm_cong (by omega) (h.e 0 (by omega)) (h.e 5 (by omega)) (h.e 1 (by omega)) (h.e 2 (by omega))
theorem SimT.cb (h : SimT H P n g mg) {x y : Int32} : cbS (T5 g 5) (T5 g 1) (T5 g 2) x y n = cbS (mg 18) (mg 14) (mg 15) x y n := cbS_cong (h.e 5 (by omega)) (h.e 1 (by omega)) (h.e 2 (by omega))
theorem SimT.hs (h : SimT H P n g mg) (hn : n ≤ 200) (hH : H ≤ 10) {p y : Int32} (hp : p ≠ -1) : hsT (T5 g 0) (T5 g 5) (T5 g 1) (T5 g 2) n p y 10 = hsT (mg 13) (mg 18) (mg 14) (mg 15) n p y H := by
  rw [hsT_10 hp hH (fun t ht => (h.2.1 t ht).2.1)]
  exact hsT_cong (by omega) (h.e 0 (by omega)) (h.e 5 (by omega)) (h.e 1 (by omega)) (h.e 2 (by omega))
theorem SimT.nw (h : SimT H P n g mg) : (if n = 0 then 0 else T5 g 2 (n - 1)) = (if n = 0 then 0 else mg 15 (n - 1)) := by
  split
  · rfl
  · exact h.e 2 (by omega) (n - 1) (by omega)
theorem inI_p {x : Int32} {N : Nat} (h : inI x N = true) (hN : N < 2 ^ 31) : x.toNatClampNeg < N ∧ x = nI x.toNatClampNeg ∧ x ≠ -1 := by
  obtain ⟨k, hk, rfl⟩ := inI_t h hN
  rw [nI_clamp (by omega)]
  exact ⟨hk, rfl, fun q => nI_m1 (by omega) q⟩
end SimR
theorem nob_cong {hm ch hm' ch' : Nat → Int32} {x : Int32} : ∀ {P : Nat}, (∀ p, p < P → hm p = hm' p ∧ ch p = ch' p) → nobS hm ch x P = nobS hm' ch' x P
  | 0, _ => rfl
  | P + 1, h => by rw [nobS, nobS, (h P (by omega)).1, (h P (by omega)).2, nob_cong (fun p hp => h p (by omega))]
theorem wb_cong {co fr wh co' fr' wh' : Nat → Int32} {b : Nat} {hr : Int32} : ∀ {n : Nat}, (∀ t, t < n → co t = co' t) → (∀ t, t < n → fr t = fr' t) → (∀ t, t < n → wh t = wh' t) → wbS co fr wh b hr n = wbS co' fr' wh' b hr n
  | 0, _, _, _ => rfl
  | n + 1, h1, h2, h3 => by rw [wbS, wbS, h1 n (by omega), h2 n (by omega), h3 n (by omega), wb_cong (fun t ht => h1 t (by omega)) (fun t ht => h2 t (by omega)) (fun t ht => h3 t (by omega))]
theorem j_person {l : Launch} {D : va_G} {cA : Nat → ClassId} {o a a' : Nat → Nat} {r0 : Nat} {s0 s1 : Nat → Option Nat} {v mv : ZV} {g mg : ZG} {x w : Int32} (hE : SimE v g mv mg) : ∃ P XP Pm, MF l D cA o a yX10_person cX10_person 3 (some .int) 8 2 12 [(.ref (o 0)), .int x, .int w] v g P XP ∧ MG l D cA (WM r0 a' cA s0 s1) yX11_person cX11_person 3 (some .int) 3 [(.ref r0), .int x, .int w] mv mg Pm ∧ Agr k1 eN v g P XP Pm := by
  obtain ⟨H, P, R, A, n, L, m, T, ops, me, hS⟩ := hE
  obtain ⟨⟨b1, b2, b3, b4, b5, b6, b7, b8, b9⟩, ⟨⟨v15, v16, v17, v18, v9, v10, v11, v7⟩, ⟨m0, m1, m2, m3, w12, w19, w20, w25⟩, v0, v1, v01⟩, sT, ⟨lT, lS, rT, cT, tp1⟩, ⟨pT, p7, wT⟩, ⟨⟨K, k9, v29, w42, q34⟩, q35⟩, sk, xC, xM⟩ := id hS
  refine ⟨_, _, _, c_X10_person v16 b3, c_X11_person m1 b3 (fun p _ => p7 p), ?_⟩
  refine ⟨fun v2 g2 r h => ?_, fun En h => h.1, fun v2 g2 r v3 g3 r' h h' => ?_, fun En v3 g3 r' h h' => ?_⟩
  · obtain ⟨-, -, -, rfl⟩ := h; exact ⟨_, rfl⟩
  · obtain ⟨z1, z2, hc, rfl⟩ := h
    subst v2; subst g2
    obtain ⟨rfl, z3, rfl⟩ := h'
    subst g3
    rw [if_pos hc, if_pos hc]
    obtain ⟨hc1, hc2⟩ := Bool.and_eq_true_iff.mp hc
    obtain ⟨i1, i2, i3⟩ := inI_p hc1 (by omega)
    obtain ⟨e1, -, e2, e3⟩ := pT _ i1
    exact ⟨hS.rd, va_up_self _ _ _, by rw [e1, e2, e3]⟩
  · obtain ⟨rfl, hc⟩ := h
    obtain ⟨rfl, z3, rfl⟩ := h'
    subst g3
    rw [if_neg (by rw [hc]; decide), if_neg (by rw [hc]; decide)]
    exact ⟨hS.rd, va_up_self _ _ _, _, rfl⟩
theorem j_walk {l : Launch} {D : va_G} {cA : Nat → ClassId} {o a a' : Nat → Nat} {r0 : Nat} {s0 s1 : Nat → Option Nat} {v mv : ZV} {g mg : ZG} {x y : Int32} (hE : SimE v g mv mg) : ∃ P XP Pm, MF l D cA o a yX10_walk cX10_walk 3 (some .int) 8 2 12 [(.ref (o 0)), .int x, .int y] v g P XP ∧ MG l D cA (WM r0 a' cA s0 s1) yX11_walk cX11_walk 3 (some .int) 3 [(.ref r0), .int x, .int y] mv mg Pm ∧ Agr k1 eN v g P XP Pm := by
  obtain ⟨H, P, R, A, n, L, m, T, ops, me, hS⟩ := hE
  obtain ⟨⟨b1, b2, b3, b4, b5, b6, b7, b8, b9⟩, ⟨⟨v15, v16, v17, v18, v9, v10, v11, v7⟩, ⟨m0, m1, m2, m3, w12, w19, w20, w25⟩, v0, v1, v01⟩, sT, ⟨lT, lS, rT, cT, tp1⟩, ⟨pT, p7, wT⟩, ⟨⟨K, k9, v29, w42, q34⟩, q35⟩, sk, xC, xM⟩ := id hS
  refine ⟨_, _, _, c_X10_walk v15 b2, c_X11_walk m0 b2, ?_⟩
  refine ⟨fun v2 g2 r h => ?_, fun En h => h.1, fun v2 g2 r v3 g3 r' h h' => ?_, fun En v3 g3 r' h h' => ?_⟩
  · obtain ⟨-, -, -, rfl⟩ := h; exact ⟨_, rfl⟩
  · obtain ⟨z1, z2, hc, rfl⟩ := h
    subst v2; subst g2
    obtain ⟨rfl, z3, rfl⟩ := h'
    subst g3
    rw [if_pos hc, if_pos hc]
    obtain ⟨hc1, hc2⟩ := Bool.and_eq_true_iff.mp hc
    obtain ⟨i1, i2, i3⟩ := inI_p hc1 (by omega)
    obtain ⟨j1, j2, j3⟩ := inI_p hc2 (by omega)
    have e1 := (wT x.toNatClampNeg y.toNatClampNeg (by omega) (by omega)).1
    exact ⟨hS.rd, va_up_self _ _ _, by rw [e1]⟩
  · obtain ⟨rfl, hc⟩ := h
    obtain ⟨rfl, z3, rfl⟩ := h'
    subst g3
    rw [if_neg (by rw [hc]; decide), if_neg (by rw [hc]; decide)]
    exact ⟨hS.rd, va_up_self _ _ _, _, rfl⟩
theorem j_tears {l : Launch} {D : va_G} {cA : Nat → ClassId} {o a a' : Nat → Nat} {r0 : Nat} {s0 s1 : Nat → Option Nat} {v mv : ZV} {g mg : ZG} {x w : Int32} (hE : SimE v g mv mg) : ∃ P XP Pm, MF l D cA o a yX10_tears cX10_tears 3 (some .int) 8 1 6 [(.ref (o 0)), .int x, .int w] v g P XP ∧ MG l D cA (WM r0 a' cA s0 s1) yX11_tears cX11_tears 3 (some .int) 3 [(.ref r0), .int x, .int w] mv mg Pm ∧ Agr k1 eN v g P XP Pm := by
  obtain ⟨H, P, R, A, n, L, m, T, ops, me, hS⟩ := hE
  obtain ⟨⟨b1, b2, b3, b4, b5, b6, b7, b8, b9⟩, ⟨⟨v15, v16, v17, v18, v9, v10, v11, v7⟩, ⟨m0, m1, m2, m3, w12, w19, w20, w25⟩, v0, v1, v01⟩, sT, ⟨lT, lS, rT, cT, tp1⟩, ⟨pT, p7, wT⟩, ⟨⟨K, k9, v29, w42, q34⟩, q35⟩, sk, xC, xM⟩ := id hS
  refine ⟨_, _, _, c_X10_tears v9 b6, c_X11_tears w12 b6 sT.co, ?_⟩
  refine ⟨fun v2 g2 r h => ?_, fun En h => h.1, fun v2 g2 r v3 g3 r' h h' => ?_, fun En v3 g3 r' h h' => ?_⟩
  · obtain ⟨-, -, -, rfl⟩ := h; exact ⟨_, rfl⟩
  · obtain ⟨z1, z2, hc, rfl⟩ := h
    subst v2; subst g2
    obtain ⟨rfl, z3, rfl⟩ := h'
    subst g3
    rw [if_pos hc, if_pos hc]
    obtain ⟨hc1, hc2⟩ := Bool.and_eq_true_iff.mp hc
    obtain ⟨i1, i2, i3⟩ := inI_p hc1 (by omega)
    obtain ⟨j1, j2, j3⟩ := inI_p hc2 (by omega)
    have e1 := sT.e w.toNatClampNeg j1 x.toNatClampNeg i1
    exact ⟨hS.rd, va_up_self _ _ _, by rw [e1]⟩
  · obtain ⟨rfl, hc⟩ := h
    obtain ⟨rfl, z3, rfl⟩ := h'
    subst g3
    rw [if_neg (by rw [hc]; decide), if_neg (by rw [hc]; decide)]
    exact ⟨hS.rd, va_up_self _ _ _, _, rfl⟩
theorem j_nobody {l : Launch} {D : va_G} {cA : Nat → ClassId} {o a a' : Nat → Nat} {r0 : Nat} {s0 s1 : Nat → Option Nat} {v mv : ZV} {g mg : ZG} {x : Int32} (hE : SimE v g mv mg) : ∃ P XP Pm, MF l D cA o a yX10_nobody cX10_nobody 2 (some .int) 8 1 6 [(.ref (o 0)), .int x] v g P XP ∧ MG l D cA (WM r0 a' cA s0 s1) yX11_nobody cX11_nobody 2 (some .int) 3 [(.ref r0), .int x] mv mg Pm ∧ Agr k1 eN v g P XP Pm := by
  obtain ⟨H, P, R, A, n, L, m, T, ops, me, hS⟩ := hE
  obtain ⟨⟨b1, b2, b3, b4, b5, b6, b7, b8, b9⟩, ⟨⟨v15, v16, v17, v18, v9, v10, v11, v7⟩, ⟨m0, m1, m2, m3, w12, w19, w20, w25⟩, v0, v1, v01⟩, sT, ⟨lT, lS, rT, cT, tp1⟩, ⟨pT, p7, wT⟩, ⟨⟨K, k9, v29, w42, q34⟩, q35⟩, sk, xC, xM⟩ := id hS
  refine ⟨_, _, _, c_X10_nobody v16 b3 v15 b2, c_X11_nobody m1 b3 m0 b2, ?_⟩
  refine ⟨fun v2 g2 r h => ?_, fun En h => h.1, fun v2 g2 r v3 g3 r' h h' => ?_, fun En v3 g3 r' h h' => ?_⟩
  · obtain ⟨-, -, -, rfl⟩ := h; exact ⟨_, rfl⟩
  · obtain ⟨z1, z2, hc, rfl⟩ := h
    subst v2; subst g2
    obtain ⟨rfl, z3, rfl⟩ := h'
    subst g3
    rw [if_pos hc, if_pos hc]
    have e1 : nobS (g 9) (g 18) x P = nobS (mg 4) (mg 5) x P := nob_cong (fun p hp => ⟨(pT p hp).1, (pT p hp).2.2.1⟩)
    exact ⟨hS.rd, va_up_self _ _ _, by rw [e1]⟩
  · obtain ⟨rfl, hc⟩ := h
    obtain ⟨rfl, z3, rfl⟩ := h'
    subst g3
    rw [if_neg (by rw [hc]; decide), if_neg (by rw [hc]; decide)]
    exact ⟨hS.rd, va_up_self _ _ _, _, rfl⟩
theorem j_rounded {l : Launch} {D : va_G} {cA : Nat → ClassId} {o a a' : Nat → Nat} {r0 : Nat} {s0 s1 : Nat → Option Nat} {v mv : ZV} {g mg : ZG} {x : Int32} (hE : SimE v g mv mg) : ∃ P XP Pm, MF l D cA o a yX10_rounded cX10_rounded 2 (some .int) 8 1 6 [(.ref (o 0)), .int x] v g P XP ∧ MG l D cA (WM r0 a' cA s0 s1) yX11_rounded cX11_rounded 2 (some .int) 3 [(.ref r0), .int x] mv mg Pm ∧ Agr k1 eN v g P XP Pm := by
  obtain ⟨H, P, R, A, n, L, m, T, ops, me, hS⟩ := hE
  obtain ⟨⟨b1, b2, b3, b4, b5, b6, b7, b8, b9⟩, ⟨⟨v15, v16, v17, v18, v9, v10, v11, v7⟩, ⟨m0, m1, m2, m3, w12, w19, w20, w25⟩, v0, v1, v01⟩, sT, ⟨lT, lS, rT, cT, tp1⟩, ⟨pT, p7, wT⟩, ⟨⟨K, k9, v29, w42, q34⟩, q35⟩, sk, xC, xM⟩ := id hS
  refine ⟨_, _, _, c_X10_rounded v29 k9, c_X11_rounded w42 (by omega), ?_⟩
  refine ⟨fun v2 g2 r h => ?_, fun En h => h.1, fun v2 g2 r v3 g3 r' h h' => ?_, fun En v3 g3 r' h h' => ?_⟩
  · obtain ⟨-, -, -, rfl⟩ := h; exact ⟨_, rfl⟩
  · obtain ⟨z1, z2, hc, rfl⟩ := h
    subst v2; subst g2
    obtain ⟨rfl, z3, rfl⟩ := h'
    subst g3
    rw [if_pos hc, if_pos hc]
    obtain ⟨i1, i2, i3⟩ := inI_p hc (by omega)
    have e1 := q34 _ i1
    exact ⟨hS.rd, va_up_self _ _ _, by rw [e1]⟩
  · obtain ⟨rfl, hc⟩ := h
    obtain ⟨rfl, z3, rfl⟩ := h'
    subst g3
    rw [if_neg (by rw [hc]; decide), if_neg (by rw [hc]; decide)]
    exact ⟨hS.rd, va_up_self _ _ _, _, rfl⟩
theorem j_dry {l : Launch} {D : va_G} {cA : Nat → ClassId} {o a a' : Nat → Nat} {r0 : Nat} {s0 s1 : Nat → Option Nat} {v mv : ZV} {g mg : ZG} {x : Int32} (hE : SimE v g mv mg) : ∃ P XP Pm, MF l D cA o a yX10_dry cX10_dry 2 (some .int) 8 1 6 [(.ref (o 0)), .int x] v g P XP ∧ MG l D cA (WM r0 a' cA s0 s1) yX11_dry cX11_dry 4 (some .int) 3 [(.ref r0), .int x] mv mg Pm ∧ Agr k1 eI v g P XP Pm := by
  obtain ⟨H, P, R, A, n, L, m, T, ops, me, hS⟩ := hE
  obtain ⟨⟨b1, b2, b3, b4, b5, b6, b7, b8, b9⟩, ⟨⟨v15, v16, v17, v18, v9, v10, v11, v7⟩, ⟨m0, m1, m2, m3, w12, w19, w20, w25⟩, v0, v1, v01⟩, sT, ⟨lT, lS, rT, cT, tp1⟩, ⟨pT, p7, wT⟩, ⟨⟨K, k9, v29, w42, q34⟩, q35⟩, sk, xC, xM⟩ := id hS
  refine ⟨_, _, _, c_X10_dry v9 b6 v15 b2 (sT.fr b2), c_X11_dry w12 b6 m0 b2 (sT.frm b2), ?_⟩
  refine ⟨fun v2 g2 r h => ?_, fun En h => h.1, fun v2 g2 r v3 g3 r' h h' => ?_, fun En v3 g3 r' h h' => ?_⟩
  · obtain ⟨-, -, -, rfl⟩ := h; exact ⟨_, rfl⟩
  · obtain ⟨z1, z2, hc, rfl⟩ := h
    subst v2; subst g2
    obtain ⟨rfl, z3, rfl⟩ := h'
    subst g3
    rw [if_pos hc, if_pos hc]
    have e1 := dry_eq (co := T5 g 5) (fr := T5 g 1) (wh := T5 g 2) (hr := (if n = 0 then 0 else T5 g 2 (n - 1)) - 24 * x) (b := 2 ^ H - 1) (n := n) (fun t ht => (sT.2.1 t ht).2.2.2)
    rw [wb_cong (sT.e 5 (by omega)) (sT.e 1 (by omega)) (sT.e 2 (by omega)), sT.nw] at e1
    exact ⟨hS.rd, va_up_self _ _ _, by rw [sT.nw, e1]⟩
  · obtain ⟨rfl, hc⟩ := h
    obtain ⟨rfl, z3, rfl⟩ := h'
    subst g3
    rw [if_neg (by rw [hc]; decide), if_neg (by rw [hc]; decide)]
    exact ⟨hS.rd, va_up_self _ _ _, _, rfl⟩
theorem j_name {l : Launch} {D : va_G} {cA : Nat → ClassId} {o a a' : Nat → Nat} {r0 : Nat} {s0 s1 : Nat → Option Nat} {v mv : ZV} {g mg : ZG} {x y : Int32} (hE : SimE v g mv mg) : ∃ P XP Pm, MF l D cA o a yX10_name cX10_name 3 (some .int) 8 2 12 [(.ref (o 0)), .int x, .int y] v g P XP ∧ MG l D cA (WM r0 a' cA s0 s1) yX11_name cX11_name 3 (some .int) 3 [(.ref r0), .int x, .int y] mv mg Pm ∧ Agr k1 eN v g P XP Pm := by
  obtain ⟨H, P, R, A, n, L, m, T, ops, me, hS⟩ := hE
  obtain ⟨⟨b1, b2, b3, b4, b5, b6, b7, b8, b9⟩, ⟨⟨v15, v16, v17, v18, v9, v10, v11, v7⟩, ⟨m0, m1, m2, m3, w12, w19, w20, w25⟩, v0, v1, v01⟩, sT, ⟨lT, lS, rT, cT, tp1⟩, ⟨pT, p7, wT⟩, ⟨⟨K, k9, v29, w42, q34⟩, q35⟩, sk, xC, xM⟩ := id hS
  refine ⟨_, _, _, c_X10_name v9 b6 v15 b2 (sT.fr b2) sT.2.2, c_X11_name w12 b6 sT.co m0 b2, ?_⟩
  refine ⟨fun v2 g2 r h => ?_, fun En h => h.1, fun v2 g2 r v3 g3 r' h h' => ?_, fun En v3 g3 r' h h' => ?_⟩
  · obtain ⟨-, -, -, rfl⟩ := h; exact ⟨_, rfl⟩
  · obtain ⟨h1, h2, hc, rfl⟩ := h
    obtain ⟨rfl, z3, rfl⟩ := h'
    subst g3
    rw [if_pos hc, if_pos hc]
    have e1 := sT.nm b6 (x := x) (y := y)
    exact ⟨hS.rf (fun j hj => h1 j (sV_ne hj (k := 25) rfl)) (fun j hj => h2 j (sG_ne hj (k := 33) rfl)) (fun _ _ => rfl), va_up_self _ _ _, by rw [e1]⟩
  · obtain ⟨rfl, hc⟩ := h
    obtain ⟨rfl, z3, rfl⟩ := h'
    subst g3
    rw [if_neg (by rw [hc]; decide), if_neg (by rw [hc]; decide)]
    exact ⟨hS.rd, va_up_self _ _ _, _, rfl⟩
theorem j_houses {l : Launch} {D : va_G} {cA : Nat → ClassId} {o a a' : Nat → Nat} {r0 : Nat} {s0 s1 : Nat → Option Nat} {v mv : ZV} {g mg : ZG} {x y : Int32} (hE : SimE v g mv mg) : ∃ P XP Pm, MF l D cA o a yX10_houses cX10_houses 3 (some .int) 8 2 12 [(.ref (o 0)), .int x, .int y] v g P XP ∧ MG l D cA (WM r0 a' cA s0 s1) yX11_houses cX11_houses 3 (some .int) 4 [(.ref r0), .int x, .int y] mv mg Pm ∧ Agr k1 eN v g P XP Pm := by
  obtain ⟨H, P, R, A, n, L, m, T, ops, me, hS⟩ := hE
  obtain ⟨⟨b1, b2, b3, b4, b5, b6, b7, b8, b9⟩, ⟨⟨v15, v16, v17, v18, v9, v10, v11, v7⟩, ⟨m0, m1, m2, m3, w12, w19, w20, w25⟩, v0, v1, v01⟩, sT, ⟨lT, lS, rT, cT, tp1⟩, ⟨pT, p7, wT⟩, ⟨⟨K, k9, v29, w42, q34⟩, q35⟩, sk, xC, xM⟩ := id hS
  refine ⟨_, _, _, c_X10_houses v9 b6 v16 b3 (sT.fr b2) sT.2.2, c_X11_houses w12 b6 sT.co m0 b2 m1 b3, ?_⟩
  refine ⟨fun v2 g2 r h => ?_, fun En h => h.1, fun v2 g2 r v3 g3 r' h h' => ?_, fun En v3 g3 r' h h' => ?_⟩
  · obtain ⟨-, -, -, rfl⟩ := h; exact ⟨_, rfl⟩
  · obtain ⟨h1, h2, hc, rfl⟩ := h
    obtain ⟨rfl, z3, rfl⟩ := h'
    subst g3
    rw [if_pos hc, if_pos hc]
    obtain ⟨hc1, hc2⟩ := Bool.and_eq_true_iff.mp hc
    obtain ⟨i1, i2, i3⟩ := inI_p hc1 (by omega)
    have e1 := sT.hs b6 b2 (y := y) i3
    exact ⟨hS.rf (fun j hj => h1 j (sV_ne hj (k := 25) rfl)) (fun j hj => h2 j (sG_ne hj (k := 33) rfl)) (fun _ _ => rfl), va_up_self _ _ _, by rw [e1]⟩
  · obtain ⟨rfl, hc⟩ := h
    obtain ⟨rfl, z3, rfl⟩ := h'
    subst g3
    rw [if_neg (by rw [hc]; decide), if_neg (by rw [hc]; decide)]
    exact ⟨hS.rd, va_up_self _ _ _, _, rfl⟩
