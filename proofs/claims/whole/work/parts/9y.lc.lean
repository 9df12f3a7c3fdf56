/-! the law's loop, its start -/
theorem lw_and (x : Int32) : ∃ j : Nat, j < 32 ∧ x &&& 31 = nI j := pk_andE x 5 (by decide)
theorem lw_room {n t : Nat} (hn : n ≤ 3072) (ht : 6 * t ≤ 4000) (c : ¬ nI n - 6 < nI (6 * t)) : 6 * t + 6 ≤ n := by
  rcases Nat.lt_or_ge n 6 with h | h
  · exact absurd (Int32.lt_of_lt_of_le (pk_sneg (a := n) (b := 6) (by omega) h) (nI_pos' (by omega))) c
  · have e : nI n - 6 = nI (n - 6) := pk_sub (b := 6) h
    rw [e, nI_ltI (by omega) (by omega)] at c
    omega
section LawLoop
variable {l : Launch} {D : va_G} {cA : Nat → ClassId} {aK aV : Nat → Nat} {b n : Nat} {xs : Nat → Int32} {Z : ZT}
variable {u w t x0 r q : Nat} {o a a' : Nat → Nat} {v mv : ZV} {g mg : ZG} {f : Nat → Int64} {s0 s1 : Nat → Option Nat} {L5 L6 : Option Value}
theorem lw_head (hW : ZW l D cA (LSX l aK aV b n xs) RL cL_law 7 2048 601024 7293034 LE Z) (hn : n ≤ 3072) (ht : 6 * t ≤ 4000) (hu : u ≤ 601024) (hw : w ≤ 7293034) (kk : 6 * t + 6 ≤ n → Z u w (WL o a cA v g r a' s0 s1 mv mg q f) [some (.ref b), some (.ref x0), some (.ref r), some (.ref q), some (.int (nI (6 * t))), L5, L6] [] 33) : Z u w (WL o a cA v g r a' s0 s1 mv mg q f) [some (.ref b), some (.ref x0), some (.ref r), some (.ref q), some (.int (nI (6 * t))), L5, L6] [] 23 := by
  have hZ := hW.toZR
  refine z_iload hZ (pc := 23) dL_law_23 rfl ?_
  refine z_aload_n hZ (pc := 25) dL_law_25 rfl ?_
  refine z_scrn hW (n := n) (f := xs) (fun A U H h => h.2) (pc := 26) dL_law_26 ?_
  refine z_bipush hZ (pc := 27) (v := 6) dL_law_27 (by decide) ?_
  refine z_isub hZ (pc := 29) dL_law_29 ?_
  refine z_icmp_gt hZ (pc := 30) (tgt := 1800) dL_law_30 rfl (fun _ => ?_) (fun c => ?_)
  · refine z_iconst hZ (pc := 1800) (v := 1) dL_law_1800 (by decide) ?_
    exact z_ireturn hZ dL_law_1801 ⟨hu, hw, rfl⟩
  · exact kk (lw_room hn ht c)
theorem lw_body (hW : ZW l D cA (LSX l aK aV b n xs) RL cL_law 7 2048 601024 7293034 LE Z) (hE : SimE v g mv mg) (ho : o 0 = x0) (hs0 : ∀ k, k < 5 → s0 k = some (aK (clN k))) (hs1 : ∀ k, k < 7 → s1 k = some (aK k)) (ht : 6 * t + 6 ≤ n) (hn : n ≤ 3072) (hu : u + 6 ≤ 601024) (hw : w + 36 ≤ 7293034) (hN : LNext Z cA b x0 r q a' s0 s1 (nI (6 * t)) u w) : Z u w (WL o a cA v g r a' s0 s1 mv mg q f) [some (.ref b), some (.ref x0), some (.ref r), some (.ref q), some (.int (nI (6 * t))), L5, L6] [] 33 := by
  have hZ := hW.toZR
  refine z_aload_n hZ (pc := 33) dL_law_33 rfl ?_
  refine z_iload hZ (pc := 34) dL_law_34 rfl ?_
  refine z_scr hW (n := n) (f := xs) (fun A U H h => h.2) (pc := 36) dL_law_36 (vp_in_nI (by omega) (by omega)) ?_
  rw [nI_clamp (by omega)]
  refine z_bipush hZ (pc := 37) (v := 31) dL_law_37 (by decide) ?_
  refine z_iand hZ (pc := 39) dL_law_39 ?_
  obtain ⟨j, hj, ej⟩ := lw_and (xs (6 * t))
  rw [ej]
  match j, hj with
  | 0, _ =>
    refine z_swIn hZ (pc := 40) (off := 128) (tgt := 168) dL_law_40 (by decide) (by decide) (by decide +kernel) rfl ?_
    exact lw_c0 hW hE ho hs0 hs1 ht hn hu hw hN
  | 1, _ =>
    refine z_swIn hZ (pc := 40) (off := 201) (tgt := 241) dL_law_40 (by decide) (by decide) (by decide +kernel) rfl ?_
    exact lw_c1 hW hE ho hs0 hs1 ht hn hu hw hN
  | 2, _ =>
    refine z_swIn hZ (pc := 40) (off := 257) (tgt := 297) dL_law_40 (by decide) (by decide) (by decide +kernel) rfl ?_
    exact lw_c2 hW hE ho hs0 hs1 ht hn hu hw hN
  | 3, _ =>
    refine z_swIn hZ (pc := 40) (off := 270) (tgt := 310) dL_law_40 (by decide) (by decide) (by decide +kernel) rfl ?_
    exact lw_c3 hW hE ho hs0 hs1 ht hn hu hw hN
  | 4, _ =>
    refine z_swIn hZ (pc := 40) (off := 326) (tgt := 366) dL_law_40 (by decide) (by decide) (by decide +kernel) rfl ?_
    exact lw_c4 hW hE ho hs0 hs1 ht hn hu hw hN
  | 5, _ =>
    refine z_swIn hZ (pc := 40) (off := 394) (tgt := 434) dL_law_40 (by decide) (by decide) (by decide +kernel) rfl ?_
    exact lw_c5 hW hE ho hs0 hs1 ht hn hu hw hN
  | 6, _ =>
    refine z_swIn hZ (pc := 40) (off := 462) (tgt := 502) dL_law_40 (by decide) (by decide) (by decide +kernel) rfl ?_
    exact lw_c6 hW hE ho hs0 hs1 ht hn hu hw hN
  | 7, _ =>
    refine z_swIn hZ (pc := 40) (off := 510) (tgt := 550) dL_law_40 (by decide) (by decide) (by decide +kernel) rfl ?_
    exact lw_c7 hW hE ho hs0 hs1 ht hn hu hw hN
  | 8, _ =>
    refine z_swIn hZ (pc := 40) (off := 590) (tgt := 630) dL_law_40 (by decide) (by decide) (by decide +kernel) rfl ?_
    exact lw_c8 hW hE ho hs0 hs1 ht hn hu hw hN
  | 9, _ =>
    refine z_swIn hZ (pc := 40) (off := 658) (tgt := 698) dL_law_40 (by decide) (by decide) (by decide +kernel) rfl ?_
    exact lw_c9 hW hE ho hs0 hs1 ht hn hu hw hN
  | 10, _ =>
    refine z_swIn hZ (pc := 40) (off := 726) (tgt := 766) dL_law_40 (by decide) (by decide) (by decide +kernel) rfl ?_
    exact lw_c10 hW hE ho hs0 hs1 ht hn hu hw hN
  | 11, _ =>
    refine z_swIn hZ (pc := 40) (off := 794) (tgt := 834) dL_law_40 (by decide) (by decide) (by decide +kernel) rfl ?_
    exact lw_c11 hW hE ho hs0 hs1 ht hn hu hw hN
  | 12, _ =>
    refine z_swIn hZ (pc := 40) (off := 862) (tgt := 902) dL_law_40 (by decide) (by decide) (by decide +kernel) rfl ?_
    exact lw_c12 hW hE ho hs0 hs1 ht hn hu hw hN
  | 13, _ =>
    refine z_swIn hZ (pc := 40) (off := 930) (tgt := 970) dL_law_40 (by decide) (by decide) (by decide +kernel) rfl ?_
    exact lw_c13 hW hE ho hs0 hs1 ht hn hu hw hN
  | 14, _ =>
    refine z_swIn hZ (pc := 40) (off := 986) (tgt := 1026) dL_law_40 (by decide) (by decide) (by decide +kernel) rfl ?_
    exact lw_c14 hW hE ho hs0 hs1 ht hn hu hw hN
  | 15, _ =>
    refine z_swIn hZ (pc := 40) (off := 1042) (tgt := 1082) dL_law_40 (by decide) (by decide) (by decide +kernel) rfl ?_
    exact lw_c15 hW hE ho hs0 hs1 ht hn hu hw hN
  | 16, _ =>
    refine z_swIn hZ (pc := 40) (off := 1117) (tgt := 1157) dL_law_40 (by decide) (by decide) (by decide +kernel) rfl ?_
    exact lw_c16 hW hE ho hs0 hs1 ht hn hu hw hN
  | 17, _ =>
    refine z_swIn hZ (pc := 40) (off := 1185) (tgt := 1225) dL_law_40 (by decide) (by decide) (by decide +kernel) rfl ?_
    exact lw_c17 hW hE ho hs0 hs1 ht hn hu hw hN
  | 18, _ =>
    refine z_swIn hZ (pc := 40) (off := 1241) (tgt := 1281) dL_law_40 (by decide) (by decide) (by decide +kernel) rfl ?_
    exact lw_c18 hW hE ho hs0 hs1 ht hn hu hw hN
  | 19, _ =>
    refine z_swIn hZ (pc := 40) (off := 1254) (tgt := 1294) dL_law_40 (by decide) (by decide) (by decide +kernel) rfl ?_
    exact lw_c19 hW hE ho hs0 hs1 ht hn hu hw hN
  | 20, _ =>
    refine z_swIn hZ (pc := 40) (off := 1322) (tgt := 1362) dL_law_40 (by decide) (by decide) (by decide +kernel) rfl ?_
    exact lw_c20 hW hE ho hs0 hs1 ht hn hu hw hN
  | 21, _ =>
    refine z_swIn hZ (pc := 40) (off := 1426) (tgt := 1466) dL_law_40 (by decide) (by decide) (by decide +kernel) rfl ?_
    exact lw_c21 hW hE ho hs0 hs1 ht hn hu hw hN
  | 22, _ =>
    refine z_swIn hZ (pc := 40) (off := 1482) (tgt := 1522) dL_law_40 (by decide) (by decide) (by decide +kernel) rfl ?_
    exact lw_c22 hW hE ho hs0 hs1 ht hn hu hw hN
  | 23, _ =>
    refine z_swIn hZ (pc := 40) (off := 1538) (tgt := 1578) dL_law_40 (by decide) (by decide) (by decide +kernel) rfl ?_
    exact lw_c23 hW hE ho hs0 hs1 ht hn hu hw hN
  | 24, _ =>
    refine z_swIn hZ (pc := 40) (off := 1618) (tgt := 1658) dL_law_40 (by decide) (by decide) (by decide +kernel) rfl ?_
    exact lw_c24 hW hE ho hs0 hs1 ht hn hu hw hN
  | 25, _ =>
    refine z_swIn hZ (pc := 40) (off := 1674) (tgt := 1714) dL_law_40 (by decide) (by decide) (by decide +kernel) rfl ?_
    exact lw_c25 hW hE ho hs0 hs1 ht hn hu hw hN
  | 26, _ =>
    refine z_swIn hZ (pc := 40) (off := 1730) (tgt := 1770) dL_law_40 (by decide) (by decide) (by decide +kernel) rfl ?_
    exact lw_c26 hW hE ho hs0 hs1 ht hn hu hw hN
  | 27, _ =>
    refine z_swIn hZ (pc := 40) (off := 1741) (tgt := 1781) dL_law_40 (by decide) (by decide) (by decide +kernel) rfl ?_
    exact lw_c27 hW hE ho hs0 hs1 ht hn hu hw hN
  | 28, _ =>
    refine z_swOut hZ (pc := 40) (tgt := 1794) dL_law_40 (Or.inr (by decide)) rfl ?_
    exact hN _ _ _ _ _ _ _ _ _ _ _ hE (by omega) (by omega) ho
  | 29, _ =>
    refine z_swOut hZ (pc := 40) (tgt := 1794) dL_law_40 (Or.inr (by decide)) rfl ?_
    exact hN _ _ _ _ _ _ _ _ _ _ _ hE (by omega) (by omega) ho
  | 30, _ =>
    refine z_swOut hZ (pc := 40) (tgt := 1794) dL_law_40 (Or.inr (by decide)) rfl ?_
    exact hN _ _ _ _ _ _ _ _ _ _ _ hE (by omega) (by omega) ho
  | 31, _ =>
    refine z_swOut hZ (pc := 40) (tgt := 1794) dL_law_40 (Or.inr (by decide)) rfl ?_
    exact hN _ _ _ _ _ _ _ _ _ _ _ hE (by omega) (by omega) ho
  | k + 32, h => exact absurd h (by omega)
theorem lw_loop (hW : ZW l D cA (LSX l aK aV b n xs) RL cL_law 7 2048 601024 7293034 LE Z) (hs0 : ∀ k, k < 5 → s0 k = some (aK (clN k))) (hs1 : ∀ k, k < 7 → s1 k = some (aK k)) (hn : n ≤ 3072) : ∀ (N t u w : Nat) (o a : Nat → Nat) (v : ZV) (g : ZG) (mv : ZV) (mg : ZG) (f : Nat → Int64) (L5 L6 : Option Value), n < 6 * t + 6 * N + 6 → 6 * t ≤ n → u ≤ 1000 + 6 * t → w ≤ 100000 + 36 * t → SimE v g mv mg → o 0 = x0 → Z u w (WL o a cA v g r a' s0 s1 mv mg q f) [some (.ref b), some (.ref x0), some (.ref r), some (.ref q), some (.int (nI (6 * t))), L5, L6] [] 23 := by
  have hZ := hW.toZR
  intro N
  induction N with
  | zero =>
    intro t u w o a v g mv mg f L5 L6 h1 h2 h3 h4 hE ho
    exact lw_head hW hn (by omega) (by omega) (by omega) (fun ht => absurd h1 (by omega))
  | succ N ih =>
    intro t u w o a v g mv mg f L5 L6 h1 h2 h3 h4 hE ho
    refine lw_head hW hn (by omega) (by omega) (by omega) (fun ht => ?_)
    refine lw_body hW hE ho hs0 hs1 ht hn (by omega) (by omega) (fun u2 w2 o2 a2 v2 g2 mv2 mg2 f2 M5 M6 hE2 hu2 hw2 ho2 => ?_)
    refine q_iinc_7_4 hZ (pc := 1794) dL_law_1794 rfl ?_
    refine z_goto hZ (pc := 1797) (tgt := 23) dL_law_1797 rfl ?_
    rw [show nI (6 * t) + Int32.ofInt 6 = nI (6 * (t + 1)) from nI_add (6 * t) 6]
    exact ih (t + 1) u2 w2 o2 a2 v2 g2 mv2 mg2 f2 M5 M6 (by omega) (by omega) (by omega) (by omega) hE2 ho2
theorem z_newl {own : String} {cc : ByteArray} {nl k mc ms pc : Nat} {ws : va_W} {L : List (Option Value)} {st : List Value} (hB : ZB l D cA own cc nl k mc ms Z) {m : Nat} (hm : m < 2 ^ 24) (d : decode cc pc = .ok (.newarray .long, 2)) (hu : u + 1 ≤ mc) (hw : w + m ≤ ms)
    (kk : ∀ q : Nat, Z (u + 1) (w + m) (ws ++ [(q, .inl (cA 2, m, .inr (.inl (fun _ => 0))))]) L (.ref q :: st) (pc + 2)) : Z u w ws L (.int (nI m) :: st) pc := by
  obtain ⟨p, e, s, m9, args, below, meth, c, A, Q, ⟨hx, hb, hnl, hown, hev, hK, hA⟩, rfl⟩ := hB
  intro H locs ls hP hD hS hl
  refine va_newa (atype := .long) (a0 := (m, .inr (.inl (fun _ => 0)))) (N' := m) hx hb (hev.use (List.mem_of_getElem? (i := 1700) (by decide +kernel)) rfl args) rfl hK hP hD hS hA (fun _ => rfl) (nI_pos (by omega)) (nI_clamp (by omega)) (by show m * 8 ≤ _; omega) hu hw d (fun q c' H1 hK1 hP1 hD1 hS1 => ?_)
  have e1 : c' = cA 2 := tyK_cls (j := 2) rfl hK1
  subst e1
  exact kk q H1 locs ls hP1 hD1 hS1 hl
theorem lw_start (hW : ZW l D cA (LSX l aK aV b n xs) RL cL_law 7 2048 601024 7293034 LE Z) (hn : n ≤ 3072) : Z 0 0 [] [some (.ref b), none, none, none, none, none, none] [] 0 := by
  have hZ := hW.toZR
  have hB := hZ.toB
  refine z_new hB (pc := 0) (fs := [.null, .null, .null, .null, .null, .null, .null, .null, .null, .null, .null, .int 0, .int 0]) cf_X10 (List.mem_of_getElem? (i := 139) (by decide +kernel)) (List.mem_of_getElem? (i := 140) (by decide +kernel)) (List.mem_of_getElem? (i := 114) (by decide +kernel)) (fun j hj => by
    match j, hj with
    | 0, _ => rfl
    | 1, _ => rfl
    | 2, _ => rfl
    | 3, _ => rfl
    | 4, _ => rfl
    | 5, _ => rfl
    | 6, _ => rfl
    | 7, _ => rfl
    | 8, _ => rfl
    | 9, _ => rfl
    | 10, _ => rfl
    | 11, _ => rfl
    | 12, _ => rfl
    | n + 13, h => exact absurd h (by omega)) dL_law_0 (Nat.le_of_ble_eq_true rfl) (Nat.le_of_ble_eq_true rfl) (fun x0 => ?_)
  refine z_dup hZ (pc := 3) dL_law_3 rfl ?_
  refine z_callI hZ (w1 := []) (w2 := []) (st := [.ref x0]) (As := []) (pc := 4) dL_law_4 lk_L_88 mn_X10_init mi_X10_init (c_X10_init (q := x0)) rfl rfl (Nat.le_of_ble_eq_true rfl) (by decide) (by decide) (Nat.le_of_ble_eq_true rfl) (Nat.le_of_ble_eq_true rfl) (fun r9 ws9 h9 => ?_)
  obtain ⟨rfl, o, a, ho, hp⟩ := h9
  refine z_st (st' := [.ref x0]) ?_ rfl
  refine z_perm hZ (ws' := WC o a cA vI gI) (by rw [List.nil_append, List.append_nil]; exact hp) ?_
  refine q_astore_n_7_1 hZ (pc := 7) dL_law_7 rfl ?_
  refine z_new hB (pc := 8) (fs := [.null, .null, .int 0, .null, .null, .null, .null, .null, .null, .null, .null, .null, .int 0, .null, .null, .null, .null, .null, .null, .int 0, .int 0, .null, .null, .null, .null, .int 0, .int 0, .int 0, .int 0, .int 0, .int 0, .int 0, .int 0, .int 0, .int 0, .int 0, .null, .null, .int 0, .int 0, .null, .null, .int 0, .int 0, .int 0, .null, .null, .null, .null, .null, .null, .int 0, .null, .null, .null, .null, .null, .null, .null]) cf_X11 (List.mem_of_getElem? (i := 1173) (by decide +kernel)) (List.mem_of_getElem? (i := 1174) (by decide +kernel)) (List.mem_of_getElem? (i := 126) (by decide +kernel)) (fun j hj => by
    match j, hj with
    | 0, _ => rfl
    | 1, _ => rfl
    | 2, _ => rfl
    | 3, _ => rfl
    | 4, _ => rfl
    | 5, _ => rfl
    | 6, _ => rfl
    | 7, _ => rfl
    | 8, _ => rfl
    | 9, _ => rfl
    | 10, _ => rfl
    | 11, _ => rfl
    | 12, _ => rfl
    | 13, _ => rfl
    | 14, _ => rfl
    | 15, _ => rfl
    | 16, _ => rfl
    | 17, _ => rfl
    | 18, _ => rfl
    | 19, _ => rfl
    | 20, _ => rfl
    | 21, _ => rfl
    | 22, _ => rfl
    | 23, _ => rfl
    | 24, _ => rfl
    | 25, _ => rfl
    | 26, _ => rfl
    | 27, _ => rfl
    | 28, _ => rfl
    | 29, _ => rfl
    | 30, _ => rfl
    | 31, _ => rfl
    | 32, _ => rfl
    | 33, _ => rfl
    | 34, _ => rfl
    | 35, _ => rfl
    | 36, _ => rfl
    | 37, _ => rfl
    | 38, _ => rfl
    | 39, _ => rfl
    | 40, _ => rfl
    | 41, _ => rfl
    | 42, _ => rfl
    | 43, _ => rfl
    | 44, _ => rfl
    | 45, _ => rfl
    | 46, _ => rfl
    | 47, _ => rfl
    | 48, _ => rfl
    | 49, _ => rfl
    | 50, _ => rfl
    | 51, _ => rfl
    | 52, _ => rfl
    | 53, _ => rfl
    | 54, _ => rfl
    | 55, _ => rfl
    | 56, _ => rfl
    | 57, _ => rfl
    | 58, _ => rfl
    | n + 59, h => exact absurd h (by omega)) dL_law_8 (Nat.le_of_ble_eq_true rfl) (Nat.le_of_ble_eq_true rfl) (fun r => ?_)
  refine z_dup hZ (pc := 11) dL_law_11 rfl ?_
  refine z_ws (ws' := WC o a cA vI gI ++ ([(r, .inr (11, [.null, .null, .int 0, .null, .null, .null, .null, .null, .null, .null, .null, .null, .int 0, .null, .null, .null, .null, .null, .null, .int 0, .int 0, .null, .null, .null, .null, .int 0, .int 0, .int 0, .int 0, .int 0, .int 0, .int 0, .int 0, .int 0, .int 0, .int 0, .null, .null, .int 0, .int 0, .null, .null, .int 0, .int 0, .int 0, .null, .null, .null, .null, .null, .null, .int 0, .null, .null, .null, .null, .null, .null, .null]))] ++ [])) ?_ (by rw [List.append_nil])
  refine z_callBI hW LSX.ok SC.ok (fun _ _ _ h => h.1.1) (st := [.ref r]) (As := []) (pc := 12) dL_law_12 lk_L_91 mn_X11_init mi_X11_init (MY.toMB (c_X11_init (q := r) (aK := aK) (aV := aV)) (fun _ _ h => h)) rfl rfl (Nat.le_of_ble_eq_true rfl) (by decide) (by decide) (Nat.le_of_ble_eq_true rfl) (Nat.le_of_ble_eq_true rfl) (fun r9 ws9 h9 => ?_)
  obtain ⟨rfl, a', s0, s1, rfl, hs0, hs1⟩ := h9
  refine z_st (st' := [.ref r]) ?_ rfl
  refine q_astore_n_7_2 hZ (pc := 15) dL_law_15 rfl ?_
  refine z_iconst hZ (pc := 16) (v := 1) dL_law_16 (by decide) ?_
  refine z_newl hB (m := 1) (by decide) (pc := 17) dL_law_17 (Nat.le_of_ble_eq_true rfl) (Nat.le_of_ble_eq_true rfl) (fun q => ?_)
  refine q_astore_n_7_3 hZ (pc := 19) dL_law_19 rfl ?_
  refine z_perm hZ (ws' := WL o a cA vI gI r a' s0 s1 vMi gM0 q (fun _ => 0)) (by
    show List.Perm _ ((WC o a cA vI gI ++ oC cA q (fun _ => 0)) ++ WM r a' cA s0 s1 vMi gM0)
    rw [List.append_nil, List.append_assoc, List.append_assoc]
    exact List.Perm.append_left _ List.perm_append_comm) ?_
  refine z_iconst hZ (pc := 20) (v := 0) dL_law_20 (by decide) ?_
  refine q_istore_7_4 hZ (pc := 21) dL_law_21 rfl ?_
  exact lw_loop hW hs0 hs1 hn (n + 1) 0 _ _ o a _ _ _ _ _ none none (by omega) (Nat.zero_le _) (Nat.le_of_ble_eq_true rfl) (Nat.le_of_ble_eq_true rfl) Sim0 ho
end LawLoop
