theorem lsO_c {hm hm' : Nat → Int32} {p P : Nat} (h : ∀ q, q < P → hm q = hm' q) (hp : p < P) : ∀ q, q ≤ P → lsO hm p q = lsO hm' p q := fun q hq => fb_ct_cong (fun k hk => by rw [h k (by omega), h p hp])
theorem lsR_c {hm hm' ch ch' : Nat → Int32} {p P : Nat} {row : Nat → Int32} (h : ∀ q, q < P → hm q = hm' q) (hc : ∀ q, q < P → ch q = ch' q) (hp : p < P) : ∀ q, q ≤ P → lsR hm ch p row q = lsR hm' ch' p row q
  | 0, _ => rfl
  | q + 1, hq => by rw [lsR, lsR, lsR_c h hc hp q (by omega), lsO_c h hp (q + 1) hq, h q (by omega), h p hp, hc q (by omega)]
theorem last_c {hm hm' ch ch' : Nat → Int32} {p P : Nat} (h : ∀ q, q < P → hm q = hm' q) (hc : ∀ q, q < P → ch q = ch' q) (hp : p < P) : lastS hm ch p P = lastS hm' ch' p P := by
  unfold lastS; rw [lsR_c h hc hp P (Nat.le_refl _), lsO_c h hp P (Nat.le_refl _), hc p hp]
theorem gain_c {hm hm' ch ch' : Nat → Int32} {P : Nat} {x y : Int32} (h : ∀ q, q < P → hm q = hm' q) (hc : ∀ q, q < P → ch q = ch' q) (hy : y = -1 ∨ y.toNatClampNeg < P) : gainV hm ch P x y = gainV hm' ch' P x y := by
  unfold gainV
  rcases hy with hy | hy
  · rw [if_pos hy, if_pos hy]
  · rw [h _ hy, last_c h hc hy]
theorem mrS_c {B B' : Nat → Nat} {k : Nat} : ∀ {P : Nat}, (∀ p, p < P → B p = B' p) → mrS B k P = mrS B' k P
  | 0, _ => rfl
  | P + 1, h => by rw [mrS, mrS, h P (by omega), mrS_c (fun p hp => h p (by omega))]
theorem cRw_c {reg reg' wo wo' wh wh' : Nat → Int32} {d : Int32} {m : Nat} (hr : ∀ k, k < m → reg k = reg' k) : ∀ {n : Nat}, (∀ t, t < n → wo t = wo' t) → (∀ t, t < n → wh t = wh' t) → ∀ j, j ≤ m → cRw reg wo wh d n j = cRw reg' wo' wh' d n j
  | 0, _, _, _, _ => rfl
  | n + 1, h1, h2, j, hj => by
    have ih := cRw_c (d := d) hr (fun t ht => h1 t (Nat.lt_succ_of_lt ht)) (fun t ht => h2 t (Nat.lt_succ_of_lt ht))
    rw [cRw, cRw, h2 n (Nat.lt_succ_self _), h1 n (Nat.lt_succ_self _)]
    split
    · exact stpR_cong (fun k hk => hr k (by omega)) (fun k hk => ih k (by omega))
    · exact ih j hj
theorem vH_c {wo gr wh be hi wo' gr' wh' be' hi' : Nat → Int32} {k n P : Nat} {c : Int32} (hn : n < 2 ^ 31) (hP : P < 2 ^ 31) (hc : c = -1 ∨ ∃ t, t < n ∧ c = nI t) (h0 : ∀ t, t < n → wo t = wo' t) (h3 : ∀ t, t < n → gr t = gr' t) (h2 : ∀ t, t < n → wh t = wh' t) (h4 : ∀ t, t < n → be t = be' t) (hw : ∀ t, t < n → ∃ p, p < P ∧ wo t = nI p) (h7 : ∀ p, p < P → hi p = hi' p) : valsH wo gr wh be hi k c = valsH wo' gr' wh' be' hi' k c := by
  unfold valsH
  rcases hc with hc | ⟨t, ht, rfl⟩
  · rw [if_pos hc, if_pos hc]
  · rw [if_neg (nI_m1 (by omega)), if_neg (nI_m1 (by omega)), nI_clamp (by omega), h0 t ht, h3 t ht, h2 t ht, h4 t ht]
    obtain ⟨p, hp, e⟩ := hw t ht
    rw [← h0 t ht, e, nI_clamp (by omega), h7 p hp]
theorem up_eq {f f' : Nat → Int32} {L : Nat} {x : Int32} (h : ∀ k, k < L → f k = f' k) : ∀ k, k < L + 1 → upd f L x k = upd f' L x k := fun k hk => by
  by_cases e : k = L
  · subst e; rw [upd_at, upd_at]
  · rw [upd_off e, upd_off e, h k (by omega)]
theorem le_up {P L : Nat} {f h : Nat → Int32} {x y : Int32} (hl : LeS P L f h) (hx : ∃ p, p < P ∧ x = nI p) (hy : ∃ q, q < 2400 ∧ y = nI q) : LeS P (L + 1) (upd f L x) (upd h L y) := fun k hk => by
  by_cases e : k = L
  · subst e; rw [upd_at, upd_at]; exact ⟨hx, hy⟩
  · rw [upd_off e, upd_off e]; exact hl k (by omega)
theorem ct_up {f f' : Nat → Int32} {j : Nat} (h : ∀ k, k < 4 → f k = f' k) (hj : j < 4) : ∀ k, k < 4 → upd f j (f j + 1) k = upd f' j (f' j + 1) k := fun k hk => by
  by_cases e : k = j
  · subst e; rw [upd_at, upd_at, h k hk]
  · rw [upd_off e, upd_off e, h k hk]
theorem j_count {l : Launch} {D : va_G} {cA : Nat → ClassId} {o a a' : Nat → Nat} {r0 : Nat} {s0 s1 : Nat → Option Nat} {v mv : ZV} {g mg : ZG} {w : Int32} (hE : SimE v g mv mg) : ∃ P XP Pm, MF l D cA o a yX10_count cX10_count 2 (some .int) 8 1 6 [(.ref (o 0)), .int w] v g P XP ∧ MG l D cA (WM r0 a' cA s0 s1) yX11_count cX11_count 2 (some .int) 2 [(.ref r0), .int w] mv mg Pm ∧ Agr k1 eN v g P XP Pm := by
  obtain ⟨H, P, R, A, n, L, m, T, ops, me, hS⟩ := hE
  obtain ⟨⟨b1, b2, b3, b4, b5, b6, b7, b8, b9⟩, ⟨⟨v15, v16, v17, v18, v9, v10, v11, v7⟩, ⟨m0, m1, m2, m3, w12, w19, w20, w25⟩, v0, v1, v01⟩, sT, ⟨lT, lS, rT, cT, tp1⟩, ⟨pT, p7, wT⟩, ⟨⟨K, k9, v29, w42, q34⟩, q35⟩, sk, xC, xM⟩ := id hS
  refine ⟨_, _, _, c_X10_count v9 b6, c_X11_count w12 b6, ?_⟩
  refine ⟨fun v2 g2 r h => ?_, fun En h => h.1, fun v2 g2 r v3 g3 r' h h' => ?_, fun En v3 g3 r' h h' => ?_⟩
  · obtain ⟨-, -, ⟨k, -, -, rfl⟩ | ⟨k, -, -, rfl⟩⟩ := h <;> exact ⟨_, rfl⟩
  · obtain ⟨z1, z2, h⟩ := h
    subst v2; subst g2
    obtain ⟨rfl, z3, rfl⟩ := h'
    subst g3
    rcases h with ⟨k, hk, rfl, rfl⟩ | ⟨k, hk, rfl, rfl⟩
    · have hc : inI (nI k) 13 = true := by rw [inI_nI (by omega)]; exact decide_eq_true (by omega)
      rw [if_pos hc, if_pos hc, nI_clamp (by omega)]
      refine ⟨hS.rd, va_up_self _ _ _, ?_⟩
      have e : cntM mv mg (if n = 0 then 0 else mg 15 (n - 1)) k = cntV v (if n = 0 then 0 else T5 g 2 (n - 1)) k := by
        rw [← sT.nw]
        have e9 : k = 0 ∨ k = 1 ∨ k = 2 ∨ k = 3 ∨ k = 4 ∨ k = 5 ∨ k = 6 ∨ k = 7 ∨ k = 8 := by omega
        rcases e9 with rfl | rfl | rfl | rfl | rfl | rfl | rfl | rfl | rfl
        · exact m0.trans v15.symm
        · exact m1.trans v16.symm
        · exact m2.trans v17.symm
        · exact m3.trans v18.symm
        · exact w12.trans v9.symm
        · exact w19.trans v10.symm
        · exact w20.trans v11.symm
        · exact w25.trans v7.symm
        · exact rfl
      rw [e]
    · have hc : inI (nI (k + 9)) 13 = true := by rw [inI_nI (by omega)]; exact decide_eq_true (by omega)
      rw [if_pos hc, if_pos hc, nI_clamp (by omega)]
      refine ⟨hS.rd, va_up_self _ _ _, ?_⟩
      rw [cT k hk]; rfl
  · obtain ⟨rfl, hc⟩ := h
    obtain ⟨rfl, z3, rfl⟩ := h'
    subst g3
    rw [if_neg (by rw [hc]; decide), if_neg (by rw [hc]; decide)]
    exact ⟨hS.rd, va_up_self _ _ _, _, rfl⟩
theorem j_last {l : Launch} {D : va_G} {cA : Nat → ClassId} {o a a' : Nat → Nat} {r0 : Nat} {s0 s1 : Nat → Option Nat} {v mv : ZV} {g mg : ZG} {x : Int32} (hE : SimE v g mv mg) : ∃ P XP Pm, MF l D cA o a yX10_last cX10_last 2 (some .int) 8 1 6 [(.ref (o 0)), .int x] v g P XP ∧ MG l D cA (WM r0 a' cA s0 s1) yX11_last cX11_last 2 (some .int) 2 [(.ref r0), .int x] mv mg Pm ∧ Agr k1 eN v g P XP Pm := by
  obtain ⟨H, P, R, A, n, L, m, T, ops, me, hS⟩ := hE
  obtain ⟨⟨b1, b2, b3, b4, b5, b6, b7, b8, b9⟩, ⟨⟨v15, v16, v17, v18, v9, v10, v11, v7⟩, ⟨m0, m1, m2, m3, w12, w19, w20, w25⟩, v0, v1, v01⟩, sT, ⟨lT, lS, rT, cT, tp1⟩, ⟨pT, p7, wT⟩, ⟨⟨K, k9, v29, w42, q34⟩, q35⟩, sk, xC, xM⟩ := id hS
  refine ⟨_, _, _, c_X10_last v16 b3, c_X11_last m1 b3, ?_⟩
  refine ⟨fun v2 g2 r h => ?_, fun En h => h.1, fun v2 g2 r v3 g3 r' h h' => ?_, fun En v3 g3 r' h h' => ?_⟩
  · obtain ⟨-, -, -, rfl⟩ := h; exact ⟨_, rfl⟩
  · obtain ⟨h1, h2, hc, rfl⟩ := h
    obtain ⟨rfl, h3, rfl⟩ := h'
    rw [if_pos hc, if_pos hc]
    obtain ⟨i1, i2, i3⟩ := inI_p hc (by omega)
    have e1 := last_c (hm := g 9) (hm' := mg 4) (ch := g 18) (ch' := mg 5) (fun p hp => (pT p hp).1) (fun p hp => (pT p hp).2.2.1) i1
    exact ⟨hS.rf (fun j _ => congrFun h1 j) (fun j hj => h2 j (sG_ne hj (k := 40) rfl)) (fun j hj => h3 j (sMG_ne hj (k := 50) rfl)), va_up_self _ _ _, by rw [e1]⟩
  · obtain ⟨rfl, hc⟩ := h
    obtain ⟨rfl, h3, rfl⟩ := h'
    rw [if_neg (by rw [hc]; decide), if_neg (by rw [hc]; decide)]
    exact ⟨hS.rf (fun _ _ => rfl) (fun _ _ => rfl) (fun j hj => h3 j (sMG_ne hj (k := 50) rfl)), va_up_self _ _ _, _, rfl⟩
theorem j_will {l : Launch} {D : va_G} {cA : Nat → ClassId} {o a a' : Nat → Nat} {r0 : Nat} {s0 s1 : Nat → Option Nat} {v mv : ZV} {g mg : ZG} {x y f1 t1 w : Int32} (hE : SimE v g mv mg) : ∃ P XP Pm, MF l D cA o a yX10_will cX10_will 9 (some .int) 8 6 36 [(.ref (o 0)), .int x, .int y, .int f1, .int t1, .int w] v g P XP ∧ MG l D cA (WM r0 a' cA s0 s1) yX11_will cX11_will 9 (some .int) 4 [(.ref r0), .int x, .int y, .int f1, .int t1, .int w] mv mg Pm ∧ Agr kN eB v g P XP Pm := by
  obtain ⟨H, P, R, A, n, L, m, T, ops, me, hS⟩ := hE
  obtain ⟨⟨b1, b2, b3, b4, b5, b6, b7, b8, b9⟩, ⟨⟨v15, v16, v17, v18, v9, v10, v11, v7⟩, ⟨m0, m1, m2, m3, w12, w19, w20, w25⟩, v0, v1, v01⟩, sT, ⟨lT, lS, rT, cT, tp1⟩, ⟨pT, p7, wT⟩, ⟨⟨K, k9, v29, w42, q34⟩, q35⟩, sk, xC, xM⟩ := id hS
  refine ⟨_, _, _, c_X10_will v9 b6 v16 b3 v15 b2 (sT.fr b2) sT.2.2 sT.wN, c_X11_will w12 b6 sT.co m0 b2 m1 b3, ?_⟩
  refine ⟨fun v2 g2 r h => ?_, fun En h => ?_, fun v2 g2 r v3 g3 r' h h' => ?_, fun En v3 g3 r' h h' => ?_⟩
  · obtain ⟨-, -, -, -, rfl⟩ := h; exact ⟨_, rfl⟩
  · rcases h with ⟨h, -⟩ | ⟨h, -⟩
    · exact .inl h
    · exact .inr h
  · obtain ⟨h1, h2, hc, hd, rfl⟩ := h
    obtain ⟨rfl, h3, rfl⟩ := h'
    rw [if_pos hc, if_pos hd, if_pos ⟨hc, hd⟩]
    have e1 : hrsC (T5 g 0) (T5 g 5) (T5 g 1) (T5 g 2) n x f1.toNatClampNeg t1.toNatClampNeg = hrsC (mg 13) (mg 18) (mg 14) (mg 15) n x f1.toNatClampNeg t1.toNatClampNeg := by
      funext h9
      unfold hrsC
      rw [show (fun q => nm2 (T5 g 0) (cbS (T5 g 5) (T5 g 1) (T5 g 2) h9 (nI q) n)) = (fun q => nm2 (mg 13) (cbS (mg 18) (mg 14) (mg 15) h9 (nI q) n)) from funext (fun q => sT.nm b6)]
    exact ⟨hS.rf (fun j _ => congrFun h1 j) (fun j _ => congrFun h2 j) (fun j _ => congrFun h3 j), va_up_self _ _ _, by rw [e1]⟩
  · obtain ⟨rfl, h3, rfl⟩ := h'
    rcases h with ⟨rfl, hc⟩ | ⟨rfl, hc, hd⟩
    · rw [if_neg (by rw [hc]; decide), kN_N]
      exact ⟨hS.rf (fun _ _ => rfl) (fun _ _ => rfl) (fun j _ => congrFun h3 j), va_up_self _ _ _, _, rfl⟩
    · rw [if_pos hc, if_neg (fun q => Int32.lt_irrefl (Int32.lt_of_lt_of_le hd q)), kN_I]
      exact ⟨hS.rf (fun _ _ => rfl) (fun _ _ => rfl) (fun j _ => congrFun h3 j), va_up_self _ _ _, _, rfl⟩
theorem j_behind {l : Launch} {D : va_G} {cA : Nat → ClassId} {o a a' : Nat → Nat} {r0 : Nat} {s0 s1 : Nat → Option Nat} {v mv : ZV} {g mg : ZG} {x y d : Int32} (hE : SimE v g mv mg) : ∃ P XP Pm, MF l D cA o a yX10_behind cX10_behind 10 (some .int) 8 3 18 [(.ref (o 0)), .int x, .int y, .int d] v g P XP ∧ MG l D cA (WM r0 a' cA s0 s1) yX11_behind cX11_behind 11 (some .int) 4 [(.ref r0), .int x, .int y, .int d] mv mg Pm ∧ Agr kN eB v g P XP Pm := by
  obtain ⟨H, P, R, A, n, L, m, T, ops, me, hS⟩ := hE
  obtain ⟨⟨b1, b2, b3, b4, b5, b6, b7, b8, b9⟩, ⟨⟨v15, v16, v17, v18, v9, v10, v11, v7⟩, ⟨m0, m1, m2, m3, w12, w19, w20, w25⟩, v0, v1, v01⟩, sT, ⟨lT, lS, rT, cT, tp1⟩, ⟨pT, p7, wT⟩, ⟨⟨K, k9, v29, w42, q34⟩, q35⟩, sk, xC, xM⟩ := id hS
  refine ⟨_, _, _, c_X10_behind v9 b6 v15 b2 v16 b3 (sT.fr b2) sT.2.2, c_X11_behind w12 b6 sT.co m0 b2 m1 b3, ?_⟩
  refine ⟨fun v2 g2 r h => ?_, fun En h => ?_, fun v2 g2 r v3 g3 r' h h' => ?_, fun En v3 g3 r' h h' => ?_⟩
  · obtain ⟨-, -, -, -, rfl⟩ := h; exact ⟨_, rfl⟩
  · rcases h with ⟨h, -⟩ | ⟨h, -⟩
    · exact .inl h
    · exact .inr h
  · obtain ⟨h1, h2, hc, hd, rfl⟩ := h
    obtain ⟨rfl, h3, rfl⟩ := h'
    rw [if_pos hc, if_pos hd, if_pos ⟨hc, hd⟩]
    have hy : y = -1 ∨ y.toNatClampNeg < P := by
      rcases Bool.or_eq_true_iff.mp (Bool.and_eq_true_iff.mp hc).2 with q | q
      · exact .inl (of_decide_eq_true q)
      · exact .inr (inI_p q (by omega)).1
    have e1 := gain_c (hm := g 9) (hm' := mg 4) (ch := g 18) (ch' := mg 5) (x := x) (fun p hp => (pT p hp).1) (fun p hp => (pT p hp).2.2.1) hy
    have e2 : nobS (g 9) (g 18) x P = nobS (mg 4) (mg 5) x P := nob_cong (fun p hp => ⟨(pT p hp).1, (pT p hp).2.2.1⟩)
    exact ⟨hS.rf (fun j hj => h1 j (sV_ne hj (k := 25) rfl)) (fun j hj => h2 j (sG_ne hj (k := 33) rfl) (sG_ne hj (k := 40) rfl)) (fun j hj => h3 j (sMG_ne hj (k := 50) rfl)), va_up_self _ _ _, by rw [e1, e2, sT.nm b6, sT.nw]⟩
  · obtain ⟨rfl, h3, rfl⟩ := h'
    rcases h with ⟨rfl, hc⟩ | ⟨rfl, hc, hd⟩
    · rw [if_neg (by rw [hc]; decide), kN_N]
      exact ⟨hS.rf (fun _ _ => rfl) (fun _ _ => rfl) (fun j hj => h3 j (sMG_ne hj (k := 50) rfl)), va_up_self _ _ _, _, rfl⟩
    · rw [if_pos hc, if_neg (by rw [hd]; decide), kN_I]
      exact ⟨hS.rf (fun _ _ => rfl) (fun _ _ => rfl) (fun j hj => h3 j (sMG_ne hj (k := 50) rfl)), va_up_self _ _ _, _, rfl⟩
theorem j_mourner {l : Launch} {D : va_G} {cA : Nat → ClassId} {o a a' : Nat → Nat} {r0 : Nat} {s0 s1 : Nat → Option Nat} {v mv : ZV} {g mg : ZG} {x : Int32} (hE : SimE v g mv mg) : ∃ P XP Pm, MF l D cA o a yX10_mourner cX10_mourner 7 (some .int) 8 1 6 [(.ref (o 0)), .int x] v g P XP ∧ MG l D cA (WM r0 a' cA s0 s1) yX11_mourner cX11_mourner 2 (some .int) 5 [(.ref r0), .int x] mv mg Pm ∧ Agr k1 eN v g P XP Pm := by
  obtain ⟨H, P, R, A, n, L, m, T, ops, me, hS⟩ := hE
  obtain ⟨⟨b1, b2, b3, b4, b5, b6, b7, b8, b9⟩, ⟨⟨v15, v16, v17, v18, v9, v10, v11, v7⟩, ⟨m0, m1, m2, m3, w12, w19, w20, w25⟩, v0, v1, v01⟩, sT, ⟨lT, lS, rT, cT, tp1⟩, ⟨pT, p7, wT⟩, ⟨⟨K, k9, v29, w42, q34⟩, q35⟩, sk, xC, xM⟩ := id hS
  refine ⟨_, _, _, c_X10_mourner v9 b6 v16 b3 v15 b2 (sT.fr b2) sT.2.2 xC, c_X11_mourner w12 b6 sT.co m0 b2 m1 b3 xM, ?_⟩
  refine ⟨fun v2 g2 r h => ?_, fun En h => h.1, fun v2 g2 r v3 g3 r' h h' => ?_, fun En v3 g3 r' h h' => ?_⟩
  · obtain ⟨-, -, -, rfl⟩ := h; exact ⟨_, rfl⟩
  · obtain ⟨h1, h2, hc, rfl⟩ := h
    obtain ⟨rfl, h3, rfl⟩ := h'
    rw [if_pos hc, if_pos hc]
    obtain ⟨i1, i2, i3⟩ := inI_p hc (by omega)
    have e1 := mrS_c (k := x.toNatClampNeg) (P := P) (B := fun p => hsT (T5 g 0) (T5 g 5) (T5 g 1) (T5 g 2) n (nI p) (if n = 0 then 0 else T5 g 2 (n - 1)) 10) (B' := fun p => hsT (mg 13) (mg 18) (mg 14) (mg 15) n (nI p) (if n = 0 then 0 else mg 15 (n - 1)) H) (fun p hp => by rw [sT.nw]; exact sT.hs b6 b2 (nI_m1 (by omega)))
    have e3 := mrS_pl (fun p => hsT (mg 13) (mg 18) (mg 14) (mg 15) n (nI p) (if n = 0 then 0 else mg 15 (n - 1)) H) (k := x.toNatClampNeg) (by omega) P
    rw [← i2] at e3
    have e2 : ∀ d : Int32, fb_ct (onP (T5 g 1) (T5 g 2) x d) n = fb_ct (onP (mg 14) (mg 15) x d) n := fun d => fb_ct_cong (fun t ht => by unfold onP; rw [sT.e 1 (by omega) t ht, sT.e 2 (by omega) t ht])
    exact ⟨hS.rf (fun j hj => h1 j (sV_ne hj (k := 25) rfl)) (fun j hj => h2 j (sG_ne hj (k := 0) rfl) (sG_ne hj (k := 24) rfl) (sG_ne hj (k := 33) rfl)) (fun j hj => h3 j (sMG_ne hj (k := 36) rfl) (sMG_ne hj (k := 37) rfl)), va_up_self _ _ _, by rw [e1, e3, e2, sT.nw]⟩
  · obtain ⟨rfl, hc⟩ := h
    obtain ⟨rfl, h3, rfl⟩ := h'
    rw [if_neg (by rw [hc]; decide), if_neg (by rw [hc]; decide)]
    exact ⟨hS.rf (fun _ _ => rfl) (fun _ _ => rfl) (fun j hj => h3 j (sMG_ne hj (k := 36) rfl) (sMG_ne hj (k := 37) rfl)), va_up_self _ _ _, _, rfl⟩
theorem j_holds {l : Launch} {D : va_G} {cA : Nat → ClassId} {o a a' : Nat → Nat} {r0 : Nat} {s0 s1 : Nat → Option Nat} {v mv : ZV} {g mg : ZG} {x y : Int32} (hE : SimE v g mv mg) : ∃ P XP Pm, MF l D cA o a yX10_holds cX10_holds 3 (some .boolean) 8 1 6 [(.ref (o 0)), .int x, .int y] v g P XP ∧ MG l D cA (WM r0 a' cA s0 s1) yX11_holds cX11_holds 3 (some .boolean) 4 [(.ref r0), .int x, .int y] mv mg Pm ∧ Agr k1 eN v g P XP Pm := by
  obtain ⟨H, P, R, A, n, L, m, T, ops, me, hS⟩ := hE
  obtain ⟨⟨b1, b2, b3, b4, b5, b6, b7, b8, b9⟩, ⟨⟨v15, v16, v17, v18, v9, v10, v11, v7⟩, ⟨m0, m1, m2, m3, w12, w19, w20, w25⟩, v0, v1, v01⟩, sT, ⟨lT, lS, rT, cT, tp1⟩, ⟨pT, p7, wT⟩, ⟨⟨K, k9, v29, w42, q34⟩, q35⟩, sk, xC, xM⟩ := id hS
  refine ⟨_, _, _, c_X10_holds v9 b6 v15 b2 (sT.fr b2) sT.2.2 (sT.wo b3) xC v18 b5, c_X11_holds w12 b6 sT.co m0 b2 xM m3 b5 (sT.wom b3) (fun p _ => p7 p), ?_⟩
  refine ⟨fun v2 g2 r h => ?_, fun En h => h.1, fun v2 g2 r v3 g3 r' h h' => ?_, fun En v3 g3 r' h h' => ?_⟩
  · obtain ⟨-, -, -, rfl⟩ := h; exact ⟨_, rfl⟩
  · obtain ⟨h1, h2, hc, rfl⟩ := h
    obtain ⟨rfl, h3, rfl⟩ := h'
    rw [if_pos hc, if_pos hc]
    have e1 : valsH (T5 g 0) (T5 g 3) (T5 g 2) (T5 g 4) (g 19) y.toNatClampNeg (cbS (T5 g 5) (T5 g 1) (T5 g 2) (nI y.toNatClampNeg) (if n = 0 then 0 else T5 g 2 (n - 1)) n) = valsH (mg 13) (mg 16) (mg 15) (mg 17) (mg 7) y.toNatClampNeg (cbS (mg 18) (mg 14) (mg 15) (nI y.toNatClampNeg) (if n = 0 then 0 else mg 15 (n - 1)) n) := by
      rw [sT.cb, sT.nw]
      exact vH_c (n := n) (P := P) (by omega) (by omega) (cbS_or _ _ _ _ _ _) (sT.e 0 (by omega)) (sT.e 3 (by omega)) (sT.e 2 (by omega)) (sT.e 4 (by omega)) (fun t ht => (sT.2.1 t ht).1) (fun p hp => (pT p hp).2.2.2)
    exact ⟨hS.rf (fun j hj => h1 j (sV_ne hj (k := 25) rfl)) (fun j hj => h2 j (sG_ne hj (k := 33) rfl) (sG_ne hj (k := 24) rfl) (sG_ne hj (k := 0) rfl)) (fun j hj => h3 j (sMG_ne hj (k := 37) rfl) (sMG_ne hj (k := 36) rfl)), va_up_self _ _ _, by rw [e1]⟩
  · obtain ⟨rfl, hc⟩ := h
    obtain ⟨rfl, h3, rfl⟩ := h'
    rw [if_neg (by rw [hc]; decide), if_neg (by rw [hc]; decide)]
    exact ⟨hS.rf (fun _ _ => rfl) (fun _ _ => rfl) (fun j hj => h3 j (sMG_ne hj (k := 37) rfl) (sMG_ne hj (k := 36) rfl)), va_up_self _ _ _, _, rfl⟩
theorem j_register {l : Launch} {D : va_G} {cA : Nat → ClassId} {o a a' : Nat → Nat} {r0 : Nat} {s0 s1 : Nat → Option Nat} {v mv : ZV} {g mg : ZG} {x w : Int32} (hE : SimE v g mv mg) : ∃ P XP Pm, MF l D cA o a yX10_register cX10_register 3 (some .int) 8 1 6 [(.ref (o 0)), .int x, .int w] v g P XP ∧ MG l D cA (WM r0 a' cA s0 s1) yX11_register cX11_register 8 (some .int) 1 [(.ref r0), .int x, .int w] mv mg Pm ∧ Agr k1 eN v g P XP Pm := by
  obtain ⟨H, P, R, A, n, L, m, T, ops, me, hS⟩ := hE
  obtain ⟨⟨b1, b2, b3, b4, b5, b6, b7, b8, b9⟩, ⟨⟨v15, v16, v17, v18, v9, v10, v11, v7⟩, ⟨m0, m1, m2, m3, w12, w19, w20, w25⟩, v0, v1, v01⟩, sT, ⟨lT, lS, rT, cT, tp1⟩, ⟨pT, p7, wT⟩, ⟨⟨K, k9, v29, w42, q34⟩, q35⟩, sk, xC, xM⟩ := id hS
  refine ⟨_, _, _, c_X10_register v11 b8 v9 b6, c_X11_register w12 b6 w20 b8, ?_⟩
  refine ⟨fun v2 g2 r h => ?_, fun En h => h.1, fun v2 g2 r v3 g3 r' h h' => ?_, fun En v3 g3 r' h h' => ?_⟩
  · obtain ⟨-, -, -, rfl⟩ := h; exact ⟨_, rfl⟩
  · obtain ⟨h1, h2, hc, rfl⟩ := h
    obtain ⟨rfl, h3, rfl⟩ := h'
    have hcc : (inB x 0 99 && inB w 0 2) = (inI x 100 && inI w 3) := by rw [← inB_inI (n := 100) (by decide), ← inB_inI (n := 3) (by decide), show (nI 100 - 1 : Int32) = 99 from by decide, show (nI 3 - 1 : Int32) = 2 from by decide]
    rw [hcc]
    rw [if_pos hc, if_pos hc]
    obtain ⟨hc1, hc2⟩ := Bool.and_eq_true_iff.mp hc
    have e1 := cRw_c (d := x) (m := m) rT (sT.e 0 (by omega)) (sT.e 2 (by omega)) m (Nat.le_refl _)
    have e2 : fb_ct (dayB (T5 g 2) x) n = fb_ct (dayB (mg 15) x) n := fb_ct_cong (fun t ht => by unfold dayB; rw [sT.e 2 (by omega) t ht])
    rw [e1, e2]
    have e3 : (if w = 2 then nI (fb_ct (dayB (mg 15) x) n) else if w = 0 then nI (chN (cRw (mg 23) (mg 13) (mg 15) x n m)) else nI (gpN (cRw (mg 23) (mg 13) (mg 15) x n m))) = (if w = 0 then nI (chN (cRw (mg 23) (mg 13) (mg 15) x n m)) else if w = 1 then nI (gpN (cRw (mg 23) (mg 13) (mg 15) x n m)) else nI (fb_ct (dayB (mg 15) x) n)) := by
      obtain ⟨k, hk, rfl⟩ := inI_t hc2 (by omega)
      have e9 : k = 0 ∨ k = 1 ∨ k = 2 := by omega
      rcases e9 with rfl | rfl | rfl
      · rw [if_neg (by decide), if_pos (by decide), if_pos (by decide)]
      · rw [if_neg (by decide), if_neg (by decide), if_neg (by decide), if_pos (by decide)]
      · rw [if_pos (by decide), if_neg (by decide), if_neg (by decide)]
    exact ⟨hS.rf (fun j hj => h1 j (sV_ne hj (k := 30) rfl) (sV_ne hj (k := 31) rfl) (sV_ne hj (k := 32) rfl)) (fun j hj => h2 j (sG_ne hj (k := 39) rfl)) (fun j hj => h3 j (sMG_ne hj (k := 47) rfl) (sMG_ne hj (k := 48) rfl) (sMG_ne hj (k := 49) rfl)), va_up_self _ _ _, by rw [e3]⟩
  · obtain ⟨rfl, hc⟩ := h
    obtain ⟨rfl, h3, rfl⟩ := h'
    have hcc : (inB x 0 99 && inB w 0 2) = (inI x 100 && inI w 3) := by rw [← inB_inI (n := 100) (by decide), ← inB_inI (n := 3) (by decide), show (nI 100 - 1 : Int32) = 99 from by decide, show (nI 3 - 1 : Int32) = 2 from by decide]
    rw [hcc]
    rw [if_neg (by rw [hc]; decide), if_neg (by rw [hc]; decide)]
    exact ⟨hS.rf (fun _ _ => rfl) (fun _ _ => rfl) (fun j hj => h3 j (sMG_ne hj (k := 47) rfl) (sMG_ne hj (k := 48) rfl) (sMG_ne hj (k := 49) rfl)), va_up_self _ _ _, _, rfl⟩
