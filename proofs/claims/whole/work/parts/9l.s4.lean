theorem SimT.mv {H P n : Nat} {g g2 mg mg2 : ZG} (h : SimT H P n g mg) (h5 : g2 5 = g 5) (hm : ∀ j, 13 ≤ j → j < 19 → mg2 j = mg j) : SimT H P n g2 mg2 := by
  have eT : T5 g2 = T5 g := funext (fun j => T5_off h5 j)
  exact ⟨fun t j ht hj => by rw [eT, hm (13 + j) (by omega) (by omega)]; exact h.1 t j ht hj, by rw [eT]; exact h.2⟩
theorem faf_c {p q : Nat → Bool} : ∀ {n : Nat}, (∀ k, k < n → p k = q k) → fa_first p n = fa_first q n
  | 0, _ => rfl
  | n + 1, h => by
    have ih := faf_c (n := n) (fun k hk => h k (by omega))
    simp only [fa_first] at ih ⊢
    rw [ih, h n (by omega)]
theorem str_c {ans ans' : Nat → Nat} {A b : Nat} {w : Int32} (ha : ∀ k, k < A → b &&& ans k = b &&& ans' k) : strV ans A b w = strV ans' A b w := by
  have e1 : fw ans A b = fw ans' A b := fw_cong ha b (Nat.and_self b)
  have e2 : faN ans A b = faN ans' A b := by
    unfold faN
    exact faf_c (fun k hk => by rw [byN_ans ha hk, e1])
  unfold strV firstN
  rw [e1, e2]
theorem and_bitN {b H : Nat} {p q : Nat → Bool} (h : ∀ j, j < H → p j = q j) : b &&& bitN (fun j => b.testBit j && p j) H = b &&& bitN q H := by
  apply Nat.eq_of_testBit_eq
  intro i
  rw [Nat.testBit_and, Nat.testBit_and, bitN_test, bitN_test]
  by_cases hi : i < H
  · rw [h i hi]; cases b.testBit i <;> simp
  · simp [hi]
def AgV (v : ZV) (g : ZG) (P : ZV → ZG → Option Value → Prop) (XP : String → Prop) (Pm : ZV → ZG → Option Value → Prop) : Prop :=
  (∀ v2 g2 r, P v2 g2 r → r = none) ∧ (∀ En, XP En → En = sNSE) ∧ (∀ v2 g2 r v3 g3 r', P v2 g2 r → Pm v3 g3 r' → SimE v2 g2 v3 g3 ∧ v3 2 = 0 ∧ r' = none) ∧ ∀ En v3 g3 r', XP En → Pm v3 g3 r' → SimE v g v3 g3 ∧ v3 2 = 1 ∧ r' = none
def AgB (P Pm : ZV → ZG → Option Value → Prop) : Prop := ∀ v2 g2 r v3 g3 r', P v2 g2 r → Pm v3 g3 r' → SimE v2 g2 v3 g3 ∧ r' = r ∧ (r = none ∨ ∃ x : Int32, r = some (.int x))
theorem j_stranger {l : Launch} {D : va_G} {cA : Nat → ClassId} {o a a' : Nat → Nat} {r0 : Nat} {s0 s1 : Nat → Option Nat} {v mv : ZV} {g mg : ZG} {x w : Int32} (hE : SimE v g mv mg) : ∃ P XP Pm, MF l D cA o a yX10_stranger cX10_stranger 4 (some .int) 8 2 12 [(.ref (o 0)), .int x, .int w] v g P XP ∧ MG l D cA (WM r0 a' cA s0 s1) yX11_stranger cX11_stranger 4 (some .int) 5 [(.ref r0), .int x, .int w] mv mg Pm ∧ Agr kN eB v g P XP Pm := by
  obtain ⟨H, P, R, A, n, L, m, T, ops, me, hS⟩ := hE
  obtain ⟨⟨b1, b2, b3, b4, b5, b6, b7, b8, b9⟩, ⟨⟨v15, v16, v17, v18, v9, v10, v11, v7⟩, ⟨m0, m1, m2, m3, w12, w19, w20, w25⟩, v0, v1, v01⟩, sT, ⟨lT, lS, rT, cT, tp1⟩, ⟨pT, p7, wT⟩, ⟨⟨K, k9, v29, w42, q34⟩, q35⟩, sk, xC, xM⟩ := id hS
  refine ⟨_, _, _, c_X10_stranger v9 b6 v15 b2 (sT.fr b2) sT.2.2 (sT.wo b3) xC v18 b5, c_X11_stranger w12 b6 sT.co m0 b2 xM m3 b5 (sT.wom b3) (fun p _ => p7 p), ?_⟩
  refine ⟨fun v2 g2 r h => ?_, fun En h => ?_, fun v2 g2 r v3 g3 r' h h' => ?_, fun En v3 g3 r' h h' => ?_⟩
  · obtain ⟨-, -, -, -, rfl⟩ := h; exact ⟨_, rfl⟩
  · rcases h with ⟨h, -⟩ | ⟨h, -⟩
    · exact .inl h
    · exact .inr h
  · obtain ⟨h1, h2, hc, hd, rfl⟩ := h
    obtain ⟨rfl, h3, rfl⟩ := h'
    rw [if_pos hc, if_pos hd, if_pos ⟨hc, hd⟩]

    exact ⟨hS.rf (fun j hj => h1 j (sV_ne hj (k := 25) rfl)) (fun j hj => h2 j (sG_ne hj (k := 0) rfl) (sG_ne hj (k := 24) rfl) (sG_ne hj (k := 33) rfl) (sG_ne hj (k := 37) rfl) (sG_ne hj (k := 38) rfl)) (fun j hj => h3 j (sMG_ne hj (k := 36) rfl) (sMG_ne hj (k := 37) rfl) (sMG_ne hj (k := 45) rfl) (sMG_ne hj (k := 46) rfl)), va_up_self _ _ _, by refine congrArg (fun q => some (Value.int q)) (Eq.symm (str_c (fun k hk => ?_))); show x.toNatClampNeg &&& bitN _ H = x.toNatClampNeg &&& bitN (ansM mg n ops me k) H; exact and_bitN (fun j hj => by unfold ansM; rw [sT.cb, sT.nw, vH_c (n := n) (P := P) (by omega) (by omega) (cbS_or _ _ _ _ _ _) (sT.e 0 (by omega)) (sT.e 3 (by omega)) (sT.e 2 (by omega)) (sT.e 4 (by omega)) (fun t ht => (sT.2.1 t ht).1) (fun p hp => (pT p hp).2.2.2)])⟩
  · obtain ⟨rfl, h3, rfl⟩ := h'
    rcases h with ⟨rfl, hc⟩ | ⟨rfl, hc, hd⟩
    · rw [if_neg (by rw [hc]; decide), kN_N]
      exact ⟨hS.rf (fun _ _ => rfl) (fun _ _ => rfl) (fun j hj => h3 j (sMG_ne hj (k := 36) rfl) (sMG_ne hj (k := 37) rfl) (sMG_ne hj (k := 45) rfl) (sMG_ne hj (k := 46) rfl)), va_up_self _ _ _, _, rfl⟩
    · rw [if_pos hc, if_neg (by rw [hd]; decide), kN_I]
      exact ⟨hS.rf (fun _ _ => rfl) (fun _ _ => rfl) (fun j hj => h3 j (sMG_ne hj (k := 36) rfl) (sMG_ne hj (k := 37) rfl) (sMG_ne hj (k := 45) rfl) (sMG_ne hj (k := 46) rfl)), va_up_self _ _ _, _, rfl⟩
theorem j_letter {l : Launch} {D : va_G} {cA : Nat → ClassId} {o a a' : Nat → Nat} {r0 : Nat} {s0 s1 : Nat → Option Nat} {v mv : ZV} {g mg : ZG} {x y : Int32} (hE : SimE v g mv mg) : ∃ P XP Pm, MF l D cA o a yX10_letter cX10_letter 3 (some .int) 8 2 12 [(.ref (o 0)), .int x, .int y] v g P XP ∧ MG l D cA (WM r0 a' cA s0 s1) yX11_letter cX11_letter 3 (some .int) 3 [(.ref r0), .int x, .int y] mv mg Pm ∧ Agr k1 eN v g P XP Pm := by
  obtain ⟨H, P, R, A, n, L, m, T, ops, me, hS⟩ := hE
  obtain ⟨⟨b1, b2, b3, b4, b5, b6, b7, b8, b9⟩, ⟨⟨v15, v16, v17, v18, v9, v10, v11, v7⟩, ⟨m0, m1, m2, m3, w12, w19, w20, w25⟩, v0, v1, v01⟩, sT, ⟨lT, lS, rT, cT, tp1⟩, ⟨pT, p7, wT⟩, ⟨⟨K, k9, v29, w42, q34⟩, q35⟩, sk, xC, xM⟩ := id hS
  refine ⟨_, _, _, c_X10_letter v16 b3 v10 b7, c_X11_letter m1 b3 w19 b7, ?_⟩
  refine ⟨fun v2 g2 r h => ?_, fun En h => h.1, fun v2 g2 r v3 g3 r' h h' => ?_, fun En v3 g3 r' h h' => ?_⟩
  · obtain ⟨-, h⟩ := h
    split at h
    · obtain ⟨-, -, rfl⟩ := h; exact ⟨_, rfl⟩
    · obtain ⟨-, -, rfl⟩ := h; exact ⟨_, rfl⟩
  · obtain ⟨hc, h⟩ := h
    dsimp only at h h'
    rw [if_pos hc] at h'
    obtain ⟨hc1, hc2⟩ := Bool.and_eq_true_iff.mp hc
    obtain ⟨i1, i2, i3⟩ := inI_p hc1 (by omega)
    obtain ⟨j1, j2, j3⟩ := inI_p hc2 (by omega)
    by_cases hq : L < 40
    · rw [if_pos hq] at h h'
      obtain ⟨rfl, rfl, rfl⟩ := h
      obtain ⟨rfl, rfl, rfl⟩ := h'
      exact ⟨⟨H, P, R, A, n, L + 1, m, T, ops, me, ⟨b1, b2, b3, b4, b5, b6, by omega, b8, b9⟩, ⟨⟨v15, v16, v17, v18, v9, rfl, v11, v7⟩, ⟨m0, m1, m2, m3, w12, rfl, w20, w25⟩, v0, v1, v01⟩, sT.mv rfl (fun j h1 h2 => by simp only [va_up]; repeat rw [if_neg (by omega)]), ⟨fun k hk => ⟨up_eq (fun k hk => (lT k hk).1) k hk, up_eq (fun k hk => (lT k hk).2) k hk⟩, le_up lS ⟨_, i1, i2⟩ ⟨_, j1, j2⟩, rT, cT, tp1⟩, ⟨pT, p7, wT⟩, ⟨⟨K, k9, v29, w42, q34⟩, q35⟩, sk, xC, xM⟩, rfl, rfl⟩
    · rw [if_neg hq] at h h'
      obtain ⟨z1, rfl, rfl⟩ := h
      subst v2
      obtain ⟨rfl, rfl, rfl⟩ := h'
      exact ⟨⟨H, P, R, A, n, L, m, T, ops, me, ⟨b1, b2, b3, b4, b5, b6, b7, b8, b9⟩, ⟨⟨v15, v16, v17, v18, v9, v10, v11, v7⟩, ⟨m0, m1, m2, m3, w12, w19, w20, w25⟩, v0, v1, v01⟩, sT.mv rfl (fun j h1 h2 => by simp only [va_up]; repeat rw [if_neg (by omega)]), ⟨lT, lS, rT, ct_up cT (by omega), tp1⟩, ⟨pT, p7, wT⟩, ⟨⟨K, k9, v29, w42, q34⟩, q35⟩, sk, xC, xM⟩, rfl, rfl⟩
  · obtain ⟨rfl, hc⟩ := h
    dsimp only at h'
    rw [if_neg (by rw [hc]; decide)] at h'
    obtain ⟨rfl, z3, rfl⟩ := h'
    subst g3
    exact ⟨hS.rd, va_up_self _ _ _, _, rfl⟩
theorem j_write {l : Launch} {D : va_G} {cA : Nat → ClassId} {o a a' : Nat → Nat} {r0 : Nat} {s0 s1 : Nat → Option Nat} {v mv : ZV} {g mg : ZG} {x : Int32} (hE : SimE v g mv mg) : ∃ P XP Pm, MF l D cA o a yX10_write cX10_write 2 (some .int) 8 1 6 [(.ref (o 0)), .int x] v g P XP ∧ MG l D cA (WM r0 a' cA s0 s1) yX11_write cX11_write 2 (some .int) 3 [(.ref r0), .int x] mv mg Pm ∧ Agr k1 eN v g P XP Pm := by
  obtain ⟨H, P, R, A, n, L, m, T, ops, me, hS⟩ := hE
  obtain ⟨⟨b1, b2, b3, b4, b5, b6, b7, b8, b9⟩, ⟨⟨v15, v16, v17, v18, v9, v10, v11, v7⟩, ⟨m0, m1, m2, m3, w12, w19, w20, w25⟩, v0, v1, v01⟩, sT, ⟨lT, lS, rT, cT, tp1⟩, ⟨pT, p7, wT⟩, ⟨⟨K, k9, v29, w42, q34⟩, q35⟩, sk, xC, xM⟩ := id hS
  refine ⟨_, _, _, c_X10_write v16 b3 v11 b8, c_X11_write m1 b3 w20 b8, ?_⟩
  refine ⟨fun v2 g2 r h => ?_, fun En h => h.1, fun v2 g2 r v3 g3 r' h h' => ?_, fun En v3 g3 r' h h' => ?_⟩
  · obtain ⟨-, h⟩ := h
    split at h
    · obtain ⟨-, -, rfl⟩ := h; exact ⟨_, rfl⟩
    · obtain ⟨-, -, rfl⟩ := h; exact ⟨_, rfl⟩
  · obtain ⟨hc, h⟩ := h
    dsimp only at h h'
    rw [if_pos hc] at h'
    by_cases hq : m < 40
    · rw [if_pos hq] at h h'
      obtain ⟨rfl, rfl, rfl⟩ := h
      obtain ⟨rfl, rfl, rfl⟩ := h'
      exact ⟨⟨H, P, R, A, n, L, m + 1, T, ops, me, ⟨b1, b2, b3, b4, b5, b6, b7, by omega, b9⟩, ⟨⟨v15, v16, v17, v18, v9, v10, rfl, v7⟩, ⟨m0, m1, m2, m3, w12, w19, rfl, w25⟩, v0, v1, v01⟩, sT.mv rfl (fun j h1 h2 => by simp only [va_up]; repeat rw [if_neg (by omega)]), ⟨lT, lS, up_eq rT, cT, tp1⟩, ⟨pT, p7, wT⟩, ⟨⟨K, k9, v29, w42, q34⟩, q35⟩, sk, xC, xM⟩, rfl, rfl⟩
    · rw [if_neg hq] at h h'
      obtain ⟨z1, rfl, rfl⟩ := h
      subst v2
      obtain ⟨rfl, rfl, rfl⟩ := h'
      exact ⟨⟨H, P, R, A, n, L, m, T, ops, me, ⟨b1, b2, b3, b4, b5, b6, b7, b8, b9⟩, ⟨⟨v15, v16, v17, v18, v9, v10, v11, v7⟩, ⟨m0, m1, m2, m3, w12, w19, w20, w25⟩, v0, v1, v01⟩, sT.mv rfl (fun j h1 h2 => by simp only [va_up]; repeat rw [if_neg (by omega)]), ⟨lT, lS, rT, ct_up cT (by omega), tp1⟩, ⟨pT, p7, wT⟩, ⟨⟨K, k9, v29, w42, q34⟩, q35⟩, sk, xC, xM⟩, rfl, rfl⟩
  · obtain ⟨rfl, hc⟩ := h
    dsimp only at h'
    rw [if_neg (by rw [hc]; decide)] at h'
    obtain ⟨rfl, z3, rfl⟩ := h'
    subst g3
    exact ⟨hS.rd, va_up_self _ _ _, _, rfl⟩
theorem j_move {l : Launch} {D : va_G} {cA : Nat → ClassId} {o a a' : Nat → Nat} {r0 : Nat} {s0 s1 : Nat → Option Nat} {v mv : ZV} {g mg : ZG} {x y : Int32} (hE : SimE v g mv mg) : ∃ P XP Pm, MF l D cA o a yX10_move cX10_move 3 none 8 2 12 [(.ref (o 0)), .int x, .int y] v g P XP ∧ MG l D cA (WM r0 a' cA s0 s1) yX11_move cX11_move 3 none 3 [(.ref r0), .int x, .int y] mv mg Pm ∧ AgV v g P XP Pm := by
  obtain ⟨H, P, R, A, n, L, m, T, ops, me, hS⟩ := hE
  obtain ⟨⟨b1, b2, b3, b4, b5, b6, b7, b8, b9⟩, ⟨⟨v15, v16, v17, v18, v9, v10, v11, v7⟩, ⟨m0, m1, m2, m3, w12, w19, w20, w25⟩, v0, v1, v01⟩, sT, ⟨lT, lS, rT, cT, tp1⟩, ⟨pT, p7, wT⟩, ⟨⟨K, k9, v29, w42, q34⟩, q35⟩, sk, xC, xM⟩ := id hS
  refine ⟨_, _, _, c_X10_move v16 b3 v15 b2, c_X11_move m1 b3 m0 b2, ?_⟩
  refine ⟨fun v2 g2 r h => h.2.2.2, fun En h => h.1, fun v2 g2 r v3 g3 r' h h' => ?_, fun En v3 g3 r' h h' => ?_⟩
  · obtain ⟨z1, rfl, hc, rfl⟩ := h
    subst v2
    obtain ⟨rfl, rfl, rfl⟩ := h'
    rw [if_pos hc, if_pos hc]
    obtain ⟨hc1, hc2⟩ := Bool.and_eq_true_iff.mp hc
    obtain ⟨i1, i2, i3⟩ := inI_p hc1 (by omega)
    obtain ⟨j1, j2, j3⟩ := inI_p hc2 (by omega)
    refine ⟨⟨H, P, R, A, n, L, m, T, ops, me, ⟨b1, b2, b3, b4, b5, b6, b7, b8, b9⟩, ⟨⟨v15, v16, v17, v18, v9, v10, v11, v7⟩, ⟨m0, m1, m2, m3, w12, w19, w20, w25⟩, v0, v1, v01⟩, sT.mv rfl (fun j h1 h2 => by simp only [va_up]; repeat rw [if_neg (by omega)]), ⟨lT, lS, rT, cT, tp1⟩, ⟨?_, p7, wT⟩, ⟨⟨K, k9, v29, w42, q34⟩, q35⟩, sk, xC, xM⟩, va_up_self _ _ _, rfl⟩
    intro p hp
    obtain ⟨e1, e2, e3, e4⟩ := pT p hp
    refine ⟨?_, ?_, e3, e4⟩
    · show upd (g 9) x.toNatClampNeg y p = upd (mg 4) x.toNatClampNeg y p
      by_cases e : p = x.toNatClampNeg
      · subst e; rw [upd_at, upd_at]
      · rw [upd_off e, upd_off e, e1]
    · show ∃ k, k < H ∧ upd (g 9) x.toNatClampNeg y p = nI k
      by_cases e : p = x.toNatClampNeg
      · subst e; rw [upd_at]; exact ⟨_, j1, j2⟩
      · rw [upd_off e]; exact e2
  · obtain ⟨rfl, hc⟩ := h
    obtain ⟨rfl, z3, rfl⟩ := h'
    rw [if_neg (by rw [hc]; decide)] at z3 ⊢
    subst g3
    exact ⟨hS.rd, va_up_self _ _ _, rfl⟩
theorem j_fault {l : Launch} {D : va_G} {cA : Nat → ClassId} {o a a' : Nat → Nat} {r0 : Nat} {s0 s1 : Nat → Option Nat} {v mv : ZV} {g mg : ZG} (hE : SimE v g mv mg) : ∃ P Pm, MG l D cA (WC o a cA) yX10_fault cX10_fault 1 (some .int) 1 [(.ref (o 0))] v g P ∧ MG l D cA (WM r0 a' cA s0 s1) yX11_fault cX11_fault 1 (some .int) 1 [(.ref r0)] mv mg Pm ∧ AgB P Pm := by
  obtain ⟨H, P, R, A, n, L, m, T, ops, me, hS⟩ := hE
  obtain ⟨⟨b1, b2, b3, b4, b5, b6, b7, b8, b9⟩, ⟨⟨v15, v16, v17, v18, v9, v10, v11, v7⟩, ⟨m0, m1, m2, m3, w12, w19, w20, w25⟩, v0, v1, v01⟩, sT, ⟨lT, lS, rT, cT, tp1⟩, ⟨pT, p7, wT⟩, ⟨⟨K, k9, v29, w42, q34⟩, q35⟩, sk, xC, xM⟩ := id hS
  refine ⟨_, _, c_X10_fault, c_X11_fault, fun v2 g2 r v3 g3 r' h h' => ?_⟩
  obtain ⟨z1, z2, rfl⟩ := h
  subst v2; subst g2
  obtain ⟨rfl, z3, rfl⟩ := h'
  subst g3
  exact ⟨hS.rd, by rw [v0], .inr ⟨_, rfl⟩⟩
theorem j_clear {l : Launch} {D : va_G} {cA : Nat → ClassId} {o a a' : Nat → Nat} {r0 : Nat} {s0 s1 : Nat → Option Nat} {v mv : ZV} {g mg : ZG} (hE : SimE v g mv mg) : ∃ P Pm, MG l D cA (WC o a cA) yX10_clear cX10_clear 2 (some .int) 1 [(.ref (o 0))] v g P ∧ MG l D cA (WM r0 a' cA s0 s1) yX11_clear cX11_clear 2 (some .int) 1 [(.ref r0)] mv mg Pm ∧ AgB P Pm := by
  obtain ⟨H, P, R, A, n, L, m, T, ops, me, hS⟩ := hE
  obtain ⟨⟨b1, b2, b3, b4, b5, b6, b7, b8, b9⟩, ⟨⟨v15, v16, v17, v18, v9, v10, v11, v7⟩, ⟨m0, m1, m2, m3, w12, w19, w20, w25⟩, v0, v1, v01⟩, sT, ⟨lT, lS, rT, cT, tp1⟩, ⟨pT, p7, wT⟩, ⟨⟨K, k9, v29, w42, q34⟩, q35⟩, sk, xC, xM⟩ := id hS
  refine ⟨_, _, c_X10_clear, c_X11_clear, fun v2 g2 r v3 g3 r' h h' => ?_⟩
  obtain ⟨rfl, z2, rfl⟩ := h
  subst g2
  obtain ⟨rfl, z3, rfl⟩ := h'
  subst g3
  exact ⟨⟨H, P, R, A, n, L, 0, T, ops, me, ⟨b1, b2, b3, b4, b5, b6, b7, Nat.zero_le _, b9⟩, ⟨⟨v15, v16, v17, v18, v9, v10, rfl, v7⟩, ⟨m0, m1, m2, m3, w12, w19, rfl, w25⟩, v0, v1, v01⟩, sT.mv rfl (fun j h1 h2 => by simp only [va_up]; repeat rw [if_neg (by omega)]), ⟨lT, lS, fun k hk => absurd hk (Nat.not_lt_zero _), cT, tp1⟩, ⟨pT, p7, wT⟩, ⟨⟨K, k9, v29, w42, q34⟩, q35⟩, sk, xC, xM⟩, by rw [v11, w20], .inr ⟨_, rfl⟩⟩
theorem j_feed {l : Launch} {D : va_G} {cA : Nat → ClassId} {o a a' : Nat → Nat} {r0 : Nat} {s0 s1 : Nat → Option Nat} {v mv : ZV} {g mg : ZG} {A1 B1 C1 D1 E1 : Int32} (hE : SimE v g mv mg) : ∃ P Pm, MG l D cA (WC o a cA) yX10_feed cX10_feed 6 (some .int) 3 [(.ref (o 0)), .int A1, .int B1, .int C1, .int D1, .int E1] v g P ∧ MG l D cA (WM r0 a' cA s0 s1) yX11_feed cX11_feed 8 (some .int) 1 [(.ref r0), .int A1, .int B1, .int C1, .int D1, .int E1] mv mg Pm ∧ AgB P Pm := by
  obtain ⟨H, P, R, A, n, L, m, T, ops, me, hS⟩ := hE
  obtain ⟨⟨b1, b2, b3, b4, b5, b6, b7, b8, b9⟩, ⟨⟨v15, v16, v17, v18, v9, v10, v11, v7⟩, ⟨m0, m1, m2, m3, w12, w19, w20, w25⟩, v0, v1, v01⟩, sT, ⟨lT, lS, rT, cT, tp1⟩, ⟨pT, p7, wT⟩, ⟨⟨K, k9, v29, w42, q34⟩, q35⟩, sk, xC, xM⟩ := id hS
  refine ⟨_, _, c_X10_feed v7 b9, c_X11_feed w25 b9, fun v2 g2 r v3 g3 r' h h' => ?_⟩
  dsimp only at h h'
  by_cases hT : T + 20 ≤ 700
  · rw [if_pos hT] at h h'
    obtain ⟨rfl, rfl, rfl⟩ := h
    obtain ⟨rfl, rfl, rfl⟩ := h'
    exact ⟨⟨H, P, R, A, n, L, m, T + 20, ops, me, ⟨b1, b2, b3, b4, b5, b6, b7, b8, hT⟩, ⟨⟨v15, v16, v17, v18, v9, v10, v11, rfl⟩, ⟨m0, m1, m2, m3, w12, w19, w20, rfl⟩, v0, v1, v01⟩, sT.mv rfl (fun j h1 h2 => by simp only [va_up]; repeat rw [if_neg (by omega)]), ⟨lT, lS, rT, cT, ⟨by rw [va_up_self, va_up_self, tap_eq, tp1.1], fun q => tap_nn tp1.2 20 q⟩⟩, ⟨pT, p7, wT⟩, ⟨⟨K, k9, v29, w42, q34⟩, q35⟩, sk, xC, xM⟩, rfl, .inr ⟨_, rfl⟩⟩
  · rw [if_neg hT] at h h'
    obtain ⟨z1, z2, rfl⟩ := h
    subst v2; subst g2
    obtain ⟨rfl, z3, rfl⟩ := h'
    subst g3
    exact ⟨hS.rd, rfl, .inr ⟨_, rfl⟩⟩
