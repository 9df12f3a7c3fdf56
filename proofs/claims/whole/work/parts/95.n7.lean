theorem can_er {K N : Nat → Int32} {m : Nat} : ∀ (n i : Nat), ¬ canK (K i) = true → pP K N n i = .er 1 i := by
  have hp : ∀ (d : Nat) (rec : Nat → PR) (i : Nat), ¬ canK (K i) = true → (¬ K i = 1 ∧ isWdK (K i) = false ∧ ¬ K i = 4) := fun d rec i h => by
    unfold canK at h
    refine ⟨fun z => h (by rw [decide_eq_true z]; rfl), ?_, fun z => h (by rw [decide_eq_true z, Bool.true_or, Bool.or_true])⟩
    cases hw : isWdK (K i)
    · rfl
    · exact absurd (by rw [hw, Bool.or_true, Bool.or_true]) h
  have hpart : ∀ (d : Nat) (rec : Nat → PR) (i : Nat), ¬ canK (K i) = true → pPart K N d rec i = .er 1 i := fun d rec i h => by
    obtain ⟨h1, h2, h3⟩ := hp d rec i h
    have hv : ¬ (K i ≤ -1 ∧ ¬ K i ≤ -8) := fun z => by
      have : isWdK (K i) = true := by
        rw [isWdK, decide_eq_true z.1, decide_eq_true (Int32.le_trans (by decide : (-10 : Int32) ≤ -8) (Int32.le_of_lt (Int32.not_le.mp z.2)))]
        rfl
      rw [h2] at this
      cases this
    rw [pPart, if_neg h1, if_neg hv, if_neg (by rw [h2]; decide), if_pos h3]
  have hk8 : ∀ i, ¬ canK (K i) = true → ¬ K i = -8 := fun i h z => by
    have := (hp 0 (fun i => .er 0 i) i h).2.1
    rw [z] at this
    exact absurd this (by decide)
  intro n
  induction n with
  | zero => intro i h; unfold pP; exact hpart _ _ i h
  | succ n ih =>
    intro i h
    unfold pP
    split
    · exact hpart _ _ i h
    · split
      · have h0 : notsN K i = 0 := first_0 (by show decide (¬ K (i + 0) = -8) = true; rw [Nat.add_zero]; exact decide_eq_true (hk8 i h))
        rw [pTest, h0, Nat.add_zero, if_neg (hk8 i h), ih i h]
        rfl
      · rw [pLev, ih i h]
        rfl
theorem c_X11_readNot {l : Launch} {D : va_G} {cA : Nat → ClassId} {r : Nat} {a : Nat → Nat} {s0 s1 : Nat → Option Nat} {v : ZV} {g : ZG} {aK aV : Nat → Nat} {t : Nat → Int32} {n m i : Nat} {K N : Nat → Int32} {L : List Int32} {d kk Kl : Nat} {rec : Nat → PR} (hG : GM t n m K N) (hM : MI t n m v g i L) (hKl : 20 ≤ Kl) (hkk : kk + 1 ≤ Kl) (hsub : NC l D cA aK aV r a s0 s1 yX11_readSum cX11_readSum 3 kk d t n m rec) (hprg : ∀ q, q ≤ m → Prg m q (rec q)) : MGY l D cA aK aV (WM r a cA s0 s1) yX11_readNot cX11_readNot 4 none Kl [(.ref r), .int (nI d)] v g ((MRp t n m v g L (pTest K rec i))) := by
  refine MGY.of (by decide) rfl (Nat.le_of_ble_eq_true rfl) (by simp [Value.category]) (fun Z hY => ?_)
  have hZ := hY.toZR
  have h24 : g 24 = t := hM.1
  have hb : v 32 = 0 := hM.2.2.2.1
  have h30 : v 30 = nI (tokS t n i) := hM.2.2.2.2.1.1
  have h31 : v 31 = nI (eNd t n (tokS t n i)) := hM.2.2.2.2.1.2.2.1
  have h28 : v 28 = tcM t n (tokS t n i) := hM.2.2.2.2.1.2.2.2.1
  have h26 : v 26 = nI (eNd t n (tokS t n i)) := hM.2.2.2.2.1.2.1
  have hi : i ≤ m := hM.2.2.1
  have hn7 : n ≤ 700 := hG.2.1
  have htok : ¬ K i = 0 → tokS t n i < n := tok_in hG.1 hi
  have hm7 := hG.m7
  refine z_iconst hZ (pc := 0) (v := 0) dX11_readNot_0 (by decide) ?_
  refine q_istore_n_4_2 hZ (pc := 1) dX11_readNot_1 rfl ?_
  have lp2 : ∀ (f q : Nat) (v' : ZV), q ≤ 6 → 6 - q < f → FS v v' → MI t n m v' g (i + q) L → (∀ k, k < q → K (i + k) = -8) → Z 0 0 (WM r a cA s0 s1 v' g) [some (.ref r), some (.int (nI d)), some (.int (nI q)), none] [] 2 := by
    intro f
    induction f with
    | zero => intro q v' _ hf; exact absurd hf (Nat.not_lt_zero _)
    | succ f ih2 =>
      intro q v' hq hf hF hJ hqs
      skip
      refine z_aload_n hZ (pc := 2) dX11_readNot_2 rfl ?_
      refine z_ldcwS hY (pc := 3) (tx := "not") (q := aK 7) (fun _ _ _ h => h.2.2.1 ("TearsPostModel", 261, "not", 7) (List.mem_of_getElem? (i := 22) (by decide +kernel))) dX11_readNot_3 ?_
      refine cVY hY (pc := 6) dX11_readNot_6 lk_X11_223 mn_X11_is mv_X11_is (c_X11_is (j := 7) hG hJ (by decide)) rc_M rfl rfl (Nat.le_of_ble_eq_true rfl) (by omega) (by decide) (Nat.zero_le _) (Nat.zero_le _) (fun v2 g2 r h => ?_)
      obtain ⟨e1, e2, rfl⟩ := h
      subst v2
      subst g2
      refine z_if_eq hZ (pc := 9) (tgt := 40) dX11_readNot_9 rfl (fun c9 => ?_) (fun c9 => ?_)
      · skip
        have hK8 : ¬ K (i + q) = -8 := bD0 c9
        have hN : notsN K i = q := by
          rcases Nat.lt_or_ge q 6 with z | z
          · exact first_at (fun k hk => by rw [hqs k hk]; rfl) z (decide_eq_true hK8)
          · have h1 := first_ge (n := 6) (p := fun k => decide (¬ K (i + k) = -8)) (i := q) (fun k hk => by rw [hqs k hk]; rfl) hq
            have h2 := nots_le (K := K) (i := i)
            show fa_first _ 6 = q
            unfold notsN at h2
            omega
        refine z_aload_n hZ (pc := 40) dX11_readNot_40 rfl ?_
        refine z_iload_n hZ (pc := 41) dX11_readNot_41 rfl ?_
        refine cVY hY (pc := 42) dX11_readNot_42 lk_X11_263 mn_X11_readSum mv_X11_readSum (hsub _ _ (i + q) L hJ) rc_M rfl rfl (Nat.le_of_ble_eq_true rfl) hkk (by decide) (Nat.zero_le _) (Nat.zero_le _) (fun v2 g2 r h => ?_)
        obtain ⟨rfl, f1, f2, h⟩ := h
        rcases PR.cs (rec (i + q)) with ⟨c, q0, hr⟩ | ⟨j, l, hr⟩
        · skip
          rw [hr] at h
          have hbad := er_bad (by rw [← hr]; exact hprg (i + q) hJ.2.2.1) h.1
          refine z_aload_n hZ (pc := 45) dX11_readNot_45 rfl ?_
          refine z_bipush hZ (pc := 46) (v := 60) dX11_readNot_46 (by decide) ?_
          refine cV_i hZ (pc := 48) dX11_readNot_48 lk_X11_227 mn_X11_isMarked mv_X11_isMarked (c_X11_isMarked_b hbad) rc_M rfl rfl (Nat.le_of_ble_eq_true rfl) (by omega) (by decide) (Nat.zero_le _) (Nat.zero_le _) ?_
          refine z_if_ne hZ (pc := 51) (tgt := 63) dX11_readNot_51 rfl (fun c51 => absurd c51 (by decide)) (fun _ => ?_)
          refine z_aload_n hZ (pc := 54) dX11_readNot_54 rfl ?_
          refine z_bipush hZ (pc := 55) (v := 61) dX11_readNot_55 (by decide) ?_
          refine cV_i hZ (pc := 57) dX11_readNot_57 lk_X11_227 mn_X11_isMarked mv_X11_isMarked (c_X11_isMarked_b hbad) rc_M rfl rfl (Nat.le_of_ble_eq_true rfl) (by omega) (by decide) (Nat.zero_le _) (Nat.zero_le _) ?_
          refine z_if_eq hZ (pc := 60) (tgt := 94) dX11_readNot_60 rfl (fun _ => ?_) (fun c60 => absurd c60 (by decide))
          refine z_iconst hZ (pc := 94) (v := 0) dX11_readNot_94 (by decide) ?_
          refine q_istore_n_4_3 hZ (pc := 95) dX11_readNot_95 rfl ?_
          have lpe : ∀ (f k : Nat), k ≤ q → q - k < f → Z 0 0 (WM r a cA s0 s1 v2 g2) [some (.ref r), some (.int (nI d)), some (.int (nI (q))), some (.int (nI k))] [] 96 := by
            intro f
            induction f with
            | zero => intro k _ hf; exact absurd hf (Nat.not_lt_zero _)
            | succ f ihe =>
              intro k hk hf
              refine z_iload_n hZ (pc := 96) dX11_readNot_96 rfl ?_
              refine z_iload_n hZ (pc := 97) dX11_readNot_97 rfl ?_
              refine z_icmp_ge hZ (pc := 98) (tgt := 113) dX11_readNot_98 rfl (fun c98 => ?_) (fun c98 => ?_)
              · skip
                refine zr_v hZ (pc := 113) dX11_readNot_113 ?_
                exact MRp_er (by rw [pTest, hN, if_neg hK8, hr]; rfl) (hF.fm.trans f1) f2 h.1 h.2
              · skip
                have hkq : k < q := lp_lt rfl (by omega) hk c98
                refine z_aload_n hZ (pc := 101) dX11_readNot_101 rfl ?_
                refine z_bipush hZ (pc := 102) (v := (-28)) dX11_readNot_102 (by decide) ?_
                refine cV_v hZ (pc := 104) dX11_readNot_104 lk_X11_242 mn_X11_lay mv_X11_lay (c_X11_lay_b hbad) rc_M rfl rfl (Nat.le_of_ble_eq_true rfl) (by omega) (by decide) (Nat.zero_le _) (Nat.zero_le _) ?_
                refine q_iinc_4_3 hZ (pc := 107) dX11_readNot_107 rfl ?_
                refine z_goto hZ (pc := 110) (tgt := 96) dX11_readNot_110 rfl ?_
                exact z_back hZ (ihe (k + 1) (by omega) (by omega)) rfl ⟨rfl, rfl, rfl, zi (nI_inc _), trivial⟩
          exact z_back hZ (lpe (q + 1) 0 (Nat.zero_le _) (by omega)) rfl ⟨rfl, rfl, rfl, rfl, trivial⟩
        rw [hr] at h
        have hJ2 : MI t n m v2 g2 j (L ++ l.map trE) := h
        have hp1 := hprg (i + q) hJ.2.2.1
        rw [hr] at hp1
        obtain ⟨p1, p2, p3⟩ := hp1
        refine z_aload_n hZ (pc := 45) dX11_readNot_45 rfl ?_
        refine z_bipush hZ (pc := 46) (v := 60) dX11_readNot_46 (by decide) ?_
        refine cV_i hZ (pc := 48) dX11_readNot_48 lk_X11_227 mn_X11_isMarked mv_X11_isMarked (c_X11_isMk (j := 7) hG hJ2 (by decide)) rc_M rfl rfl (Nat.le_of_ble_eq_true rfl) (by omega) (by decide) (Nat.zero_le _) (Nat.zero_le _) ?_
        refine z_if_ne hZ (pc := 51) (tgt := 63) dX11_readNot_51 rfl (fun c51 => ?_) (fun c51 => ?_)
        · skip
          have hjn : jnK 2 (K j) = true := by rw [show K j = mcN 7 from bD1 c51]; rfl
          have hjm : j < m := TK_lt hG.1 hJ2.2.2.1 (jnK_no0 _ _ hjn)
          have hsx : trE (K j) = -24 := by rw [show K j = mcN 7 from bD1 c51]; rfl
          refine z_aload_n hZ (pc := 63) dX11_readNot_63 rfl ?_
          refine z_bipush hZ (pc := 64) (v := 60) dX11_readNot_64 (by decide) ?_
          refine cV_i hZ (pc := 66) dX11_readNot_66 lk_X11_227 mn_X11_isMarked mv_X11_isMarked (c_X11_isMk (j := 7) hG hJ2 (by decide)) rc_M rfl rfl (Nat.le_of_ble_eq_true rfl) (by omega) (by decide) (Nat.zero_le _) (Nat.zero_le _) ?_
          refine z_if_eq hZ (pc := 69) (tgt := 77) dX11_readNot_69 rfl (fun c69 => ?_) (fun c69 => ?_)
          · skip
            exact absurd (bD1 c51) (bD0 c69)
          · skip
            skip
            refine z_bipush hZ (pc := 72) (v := (-24)) dX11_readNot_72 (by decide) ?_
            refine z_goto hZ (pc := 74) (tgt := 79) dX11_readNot_74 rfl ?_
            refine q_istore_n_4_3 hZ (pc := 79) dX11_readNot_79 rfl ?_
            refine z_aload_n hZ (pc := 80) dX11_readNot_80 rfl ?_
            refine cV hZ (pc := 81) dX11_readNot_81 lk_X11_233 mn_X11_stepOn mv_X11_stepOn (c_X11_stepOn (p := eNd t n (tokS t n j)) hJ2.h26 hJ2.2.1 eNd_le hn7 (by rw [hJ2.1]; exact hG.2.2)) rc_M rfl rfl (Nat.le_of_ble_eq_true rfl) (by omega) (by decide) (Nat.zero_le _) (Nat.zero_le _) ?_
            intro v3 g3 r h
            obtain ⟨rfl, e3, f3, h⟩ := h
            subst g3
            have hJ3 := hJ2.next hG.1 hjm f3 h
            refine z_aload_n hZ (pc := 84) dX11_readNot_84 rfl ?_
            refine z_iload_n hZ (pc := 85) dX11_readNot_85 rfl ?_
            refine cVY hY (pc := 86) dX11_readNot_86 lk_X11_263 mn_X11_readSum mv_X11_readSum (hsub _ _ (j + 1) (L ++ l.map trE) hJ3) rc_M rfl rfl (Nat.le_of_ble_eq_true rfl) hkk (by decide) (Nat.zero_le _) (Nat.zero_le _) (fun v2 g2 r h => ?_)
            obtain ⟨rfl, f4, f5, h⟩ := h
            rcases PR.cs (rec (j + 1)) with ⟨c, q0, hr2⟩ | ⟨j2, l2, hr2⟩
            · skip
              rw [hr2] at h
              have hbad := er_bad (by rw [← hr2]; exact hprg (j + 1) hjm) h.1
              refine z_aload_n hZ (pc := 89) dX11_readNot_89 rfl ?_
              refine z_iload_n hZ (pc := 90) dX11_readNot_90 rfl ?_
              refine cV_v hZ (pc := 91) dX11_readNot_91 lk_X11_242 mn_X11_lay mv_X11_lay (c_X11_lay_b hbad) rc_M rfl rfl (Nat.le_of_ble_eq_true rfl) (by omega) (by decide) (Nat.zero_le _) (Nat.zero_le _) ?_
              refine z_iconst hZ (pc := 94) (v := 0) dX11_readNot_94 (by decide) ?_
              refine q_istore_n_4_3 hZ (pc := 95) dX11_readNot_95 rfl ?_
              have lpe : ∀ (f k : Nat), k ≤ q → q - k < f → Z 0 0 (WM r a cA s0 s1 v2 g2) [some (.ref r), some (.int (nI d)), some (.int (nI (q))), some (.int (nI k))] [] 96 := by
                intro f
                induction f with
                | zero => intro k _ hf; exact absurd hf (Nat.not_lt_zero _)
                | succ f ihe =>
                  intro k hk hf
                  refine z_iload_n hZ (pc := 96) dX11_readNot_96 rfl ?_
                  refine z_iload_n hZ (pc := 97) dX11_readNot_97 rfl ?_
                  refine z_icmp_ge hZ (pc := 98) (tgt := 113) dX11_readNot_98 rfl (fun c98 => ?_) (fun c98 => ?_)
                  · skip
                    refine zr_v hZ (pc := 113) dX11_readNot_113 ?_
                    exact MRp_er (by rw [pTest, hN, if_neg hK8, hr]; show (if jnK 2 (K j) = true then _ else _) = _; rw [if_pos hjn, hr2]; rfl) (((hF.fm.trans f1).trans f3.fm).trans f4) (f2.trans f5) h.1 h.2
                  · skip
                    have hkq : k < q := lp_lt rfl (by omega) hk c98
                    refine z_aload_n hZ (pc := 101) dX11_readNot_101 rfl ?_
                    refine z_bipush hZ (pc := 102) (v := (-28)) dX11_readNot_102 (by decide) ?_
                    refine cV_v hZ (pc := 104) dX11_readNot_104 lk_X11_242 mn_X11_lay mv_X11_lay (c_X11_lay_b hbad) rc_M rfl rfl (Nat.le_of_ble_eq_true rfl) (by omega) (by decide) (Nat.zero_le _) (Nat.zero_le _) ?_
                    refine q_iinc_4_3 hZ (pc := 107) dX11_readNot_107 rfl ?_
                    refine z_goto hZ (pc := 110) (tgt := 96) dX11_readNot_110 rfl ?_
                    exact z_back hZ (ihe (k + 1) (by omega) (by omega)) rfl ⟨rfl, rfl, rfl, zi (nI_inc _), trivial⟩
              exact z_back hZ (lpe (q + 1) 0 (Nat.zero_le _) (by omega)) rfl ⟨rfl, rfl, rfl, rfl, trivial⟩
            rw [hr2] at h
            have hJ4 : MI t n m v2 g2 j2 (L ++ l.map trE ++ l2.map trE) := h
            have hp2 := hprg (j + 1) hjm
            rw [hr2] at hp2
            obtain ⟨s1', s2', s3'⟩ := hp2
            have hlen5 : (L ++ l.map trE ++ l2.map trE).length + q + 1 ≤ j2 := by have := hM.len; simp only [List.length_append, List.length_map] at this ⊢; omega
            have hlen4 : (L ++ l.map trE ++ l2.map trE).length < j2 := by omega
            refine z_aload_n hZ (pc := 89) dX11_readNot_89 rfl ?_
            refine z_iload_n hZ (pc := 90) dX11_readNot_90 rfl ?_
            refine cV_v hZ (pc := 91) dX11_readNot_91 lk_X11_242 mn_X11_lay mv_X11_lay (c_X11_lay (c := (L ++ l.map trE ++ l2.map trE).length) hJ4.bad hJ4.cd (by have := hJ4.2.2.1; omega)) rc_M rfl rfl (Nat.le_of_ble_eq_true rfl) (by omega) (by decide) (Nat.zero_le _) (Nat.zero_le _) ?_
            obtain ⟨J, LL, hres, hJI, hlen, hf1, hf2⟩ : ∃ J LL, pTest K rec i = .ok J (LL ++ List.replicate q (-8)) ∧ MI t n m (va_up v2 35 (nI ((L ++ l.map trE ++ l2.map trE).length + 1))) (va_up g2 10 (upd (g2 10) (700 + (L ++ l.map trE ++ l2.map trE).length) (-24))) J (L ++ LL.map trE) ∧ (L ++ LL.map trE).length + q ≤ J ∧ FM v (va_up v2 35 (nI ((L ++ l.map trE ++ l2.map trE).length + 1))) ∧ FMg g (va_up g2 10 (upd (g2 10) (700 + (L ++ l.map trE ++ l2.map trE).length) (-24))) := ⟨j2, l ++ l2 ++ [K j], by rw [pTest, hN, if_neg hK8, hr]; show (if jnK 2 (K j) = true then _ else _) = _; rw [if_pos hjn, hr2]; rfl, by rw [show L ++ (l ++ l2 ++ [K j]).map trE = L ++ l.map trE ++ l2.map trE ++ [trE (K j)] from by simp only [List.map_append, List.map_cons, List.map_nil, List.append_assoc], hsx]; exact hJ4.code hlen4, by simp only [List.length_append, List.length_map, List.length_cons, List.length_nil] at hlen5 ⊢; omega, (((hF.fm.trans f1).trans f3.fm).trans f4).trans (FM.up (by omega)), (f2.trans f5).trans FMg.up⟩
            refine z_iconst hZ (pc := 94) (v := 0) dX11_readNot_94 (by decide) ?_
            refine q_istore_n_4_3 hZ (pc := 95) dX11_readNot_95 rfl ?_
            have lp96 : ∀ (f k : Nat) (v5 : ZV) (g5 : ZG), k ≤ q → q - k < f → FM v v5 → FMg g g5 → MI t n m v5 g5 J (L ++ LL.map trE ++ List.replicate k (-28)) → Z 0 0 (WM r a cA s0 s1 v5 g5) [some (.ref r), some (.int (nI d)), some (.int (nI q)), some (.int (nI k))] [] 96 := by
              intro f
              induction f with
              | zero => intro k v5 g5 _ hf; exact absurd hf (Nat.not_lt_zero _)
              | succ f ih96 =>
                intro k v5 g5 hk hf hF5 hG5 hI5
                refine z_iload_n hZ (pc := 96) dX11_readNot_96 rfl ?_
                refine z_iload_n hZ (pc := 97) dX11_readNot_97 rfl ?_
                refine z_icmp_ge hZ (pc := 98) (tgt := 113) dX11_readNot_98 rfl (fun c98 => ?_) (fun c98 => ?_)
                · skip
                  have ekq : k = q := lp_ge rfl (by omega) hk c98
                  subst ekq
                  refine zr_v hZ (pc := 113) dX11_readNot_113 ?_
                  exact MRp_ok hres hF5 hG5 hI5 (by rw [List.map_append, List.map_replicate, show trE (-8) = -28 from by decide, List.append_assoc])
                · skip
                  have hkq : k < q := lp_lt rfl (by omega) hk c98
                  refine z_aload_n hZ (pc := 101) dX11_readNot_101 rfl ?_
                  refine z_bipush hZ (pc := 102) (v := (-28)) dX11_readNot_102 (by decide) ?_
                  refine cV_v hZ (pc := 104) dX11_readNot_104 lk_X11_242 mn_X11_lay mv_X11_lay (c_X11_lay (c := (L ++ LL.map trE ++ List.replicate k (-28)).length) hI5.bad hI5.cd (by have := hI5.2.2.1; simp only [List.length_append, List.length_replicate] at hlen ⊢; omega)) rc_M rfl rfl (Nat.le_of_ble_eq_true rfl) (by omega) (by decide) (Nat.zero_le _) (Nat.zero_le _) ?_
                  refine q_iinc_4_3 hZ (pc := 107) dX11_readNot_107 rfl ?_
                  refine z_goto hZ (pc := 110) (tgt := 96) dX11_readNot_110 rfl ?_
                  exact z_back hZ (ih96 (k + 1) _ _ hkq (by omega) (hF5.trans (FM.up (by omega))) (hG5.trans FMg.up) (by rw [List.replicate_succ', ← List.append_assoc]; exact hI5.code (by simp only [List.length_append, List.length_replicate] at hlen ⊢; omega))) rfl ⟨rfl, rfl, rfl, zi (nI_inc _), trivial⟩
            exact z_back hZ (lp96 (q + 1) 0 _ _ (Nat.zero_le _) (by omega) hf1 hf2 (by rw [show L ++ LL.map trE ++ List.replicate 0 (-28) = L ++ LL.map trE from by simp]; exact hJI)) rfl ⟨rfl, rfl, rfl, rfl, trivial⟩
        · skip
          refine z_aload_n hZ (pc := 54) dX11_readNot_54 rfl ?_
          refine z_bipush hZ (pc := 55) (v := 61) dX11_readNot_55 (by decide) ?_
          refine cV_i hZ (pc := 57) dX11_readNot_57 lk_X11_227 mn_X11_isMarked mv_X11_isMarked (c_X11_isMk (j := 8) hG hJ2 (by decide)) rc_M rfl rfl (Nat.le_of_ble_eq_true rfl) (by omega) (by decide) (Nat.zero_le _) (Nat.zero_le _) ?_
          refine z_if_eq hZ (pc := 60) (tgt := 94) dX11_readNot_60 rfl (fun c60 => ?_) (fun c60 => ?_)
          · skip
            obtain ⟨J, LL, hres, hJI, hlen, hf1, hf2⟩ : ∃ J LL, pTest K rec i = .ok J (LL ++ List.replicate q (-8)) ∧ MI t n m v2 g2 J (L ++ LL.map trE) ∧ (L ++ LL.map trE).length + q ≤ J ∧ FM v v2 ∧ FMg g g2 := ⟨j, l, by rw [pTest, hN, if_neg hK8, hr]; show (if jnK 2 (K j) = true then _ else _) = _; rw [if_neg (by rw [show jnK 2 (K j) = false from by rw [jnK2, decide_eq_false (show ¬ K j = -11 from bD0 c51), decide_eq_false (show ¬ K j = -12 from bD0 c60)]; rfl]; decide)], hJ2, by have := hM.len; simp only [List.length_append, List.length_map] at this ⊢; omega, hF.fm.trans f1, f2⟩
            refine z_iconst hZ (pc := 94) (v := 0) dX11_readNot_94 (by decide) ?_
            refine q_istore_n_4_3 hZ (pc := 95) dX11_readNot_95 rfl ?_
            have lp96 : ∀ (f k : Nat) (v5 : ZV) (g5 : ZG), k ≤ q → q - k < f → FM v v5 → FMg g g5 → MI t n m v5 g5 J (L ++ LL.map trE ++ List.replicate k (-28)) → Z 0 0 (WM r a cA s0 s1 v5 g5) [some (.ref r), some (.int (nI d)), some (.int (nI q)), some (.int (nI k))] [] 96 := by
              intro f
              induction f with
              | zero => intro k v5 g5 _ hf; exact absurd hf (Nat.not_lt_zero _)
              | succ f ih96 =>
                intro k v5 g5 hk hf hF5 hG5 hI5
                refine z_iload_n hZ (pc := 96) dX11_readNot_96 rfl ?_
                refine z_iload_n hZ (pc := 97) dX11_readNot_97 rfl ?_
                refine z_icmp_ge hZ (pc := 98) (tgt := 113) dX11_readNot_98 rfl (fun c98 => ?_) (fun c98 => ?_)
                · skip
                  have ekq : k = q := lp_ge rfl (by omega) hk c98
                  subst ekq
                  refine zr_v hZ (pc := 113) dX11_readNot_113 ?_
                  exact MRp_ok hres hF5 hG5 hI5 (by rw [List.map_append, List.map_replicate, show trE (-8) = -28 from by decide, List.append_assoc])
                · skip
                  have hkq : k < q := lp_lt rfl (by omega) hk c98
                  refine z_aload_n hZ (pc := 101) dX11_readNot_101 rfl ?_
                  refine z_bipush hZ (pc := 102) (v := (-28)) dX11_readNot_102 (by decide) ?_
                  refine cV_v hZ (pc := 104) dX11_readNot_104 lk_X11_242 mn_X11_lay mv_X11_lay (c_X11_lay (c := (L ++ LL.map trE ++ List.replicate k (-28)).length) hI5.bad hI5.cd (by have := hI5.2.2.1; simp only [List.length_append, List.length_replicate] at hlen ⊢; omega)) rc_M rfl rfl (Nat.le_of_ble_eq_true rfl) (by omega) (by decide) (Nat.zero_le _) (Nat.zero_le _) ?_
                  refine q_iinc_4_3 hZ (pc := 107) dX11_readNot_107 rfl ?_
                  refine z_goto hZ (pc := 110) (tgt := 96) dX11_readNot_110 rfl ?_
                  exact z_back hZ (ih96 (k + 1) _ _ hkq (by omega) (hF5.trans (FM.up (by omega))) (hG5.trans FMg.up) (by rw [List.replicate_succ', ← List.append_assoc]; exact hI5.code (by simp only [List.length_append, List.length_replicate] at hlen ⊢; omega))) rfl ⟨rfl, rfl, rfl, zi (nI_inc _), trivial⟩
            exact z_back hZ (lp96 (q + 1) 0 _ _ (Nat.zero_le _) (by omega) hf1 hf2 (by rw [show L ++ LL.map trE ++ List.replicate 0 (-28) = L ++ LL.map trE from by simp]; exact hJI)) rfl ⟨rfl, rfl, rfl, rfl, trivial⟩
          · skip
            have hjn : jnK 2 (K j) = true := by rw [show K j = mcN 8 from bD1 c60]; rfl
            have hjm : j < m := TK_lt hG.1 hJ2.2.2.1 (jnK_no0 _ _ hjn)
            have hsx : trE (K j) = -25 := by rw [show K j = mcN 8 from bD1 c60]; rfl
            refine z_aload_n hZ (pc := 63) dX11_readNot_63 rfl ?_
            refine z_bipush hZ (pc := 64) (v := 60) dX11_readNot_64 (by decide) ?_
            refine cV_i hZ (pc := 66) dX11_readNot_66 lk_X11_227 mn_X11_isMarked mv_X11_isMarked (c_X11_isMk (j := 7) hG hJ2 (by decide)) rc_M rfl rfl (Nat.le_of_ble_eq_true rfl) (by omega) (by decide) (Nat.zero_le _) (Nat.zero_le _) ?_
            refine z_if_eq hZ (pc := 69) (tgt := 77) dX11_readNot_69 rfl (fun c69 => ?_) (fun c69 => ?_)
            · skip
              skip
              refine z_bipush hZ (pc := 77) (v := (-25)) dX11_readNot_77 (by decide) ?_
              refine q_istore_n_4_3 hZ (pc := 79) dX11_readNot_79 rfl ?_
              refine z_aload_n hZ (pc := 80) dX11_readNot_80 rfl ?_
              refine cV hZ (pc := 81) dX11_readNot_81 lk_X11_233 mn_X11_stepOn mv_X11_stepOn (c_X11_stepOn (p := eNd t n (tokS t n j)) hJ2.h26 hJ2.2.1 eNd_le hn7 (by rw [hJ2.1]; exact hG.2.2)) rc_M rfl rfl (Nat.le_of_ble_eq_true rfl) (by omega) (by decide) (Nat.zero_le _) (Nat.zero_le _) ?_
              intro v3 g3 r h
              obtain ⟨rfl, e3, f3, h⟩ := h
              subst g3
              have hJ3 := hJ2.next hG.1 hjm f3 h
              refine z_aload_n hZ (pc := 84) dX11_readNot_84 rfl ?_
              refine z_iload_n hZ (pc := 85) dX11_readNot_85 rfl ?_
              refine cVY hY (pc := 86) dX11_readNot_86 lk_X11_263 mn_X11_readSum mv_X11_readSum (hsub _ _ (j + 1) (L ++ l.map trE) hJ3) rc_M rfl rfl (Nat.le_of_ble_eq_true rfl) hkk (by decide) (Nat.zero_le _) (Nat.zero_le _) (fun v2 g2 r h => ?_)
              obtain ⟨rfl, f4, f5, h⟩ := h
              rcases PR.cs (rec (j + 1)) with ⟨c, q0, hr2⟩ | ⟨j2, l2, hr2⟩
              · skip
                rw [hr2] at h
                have hbad := er_bad (by rw [← hr2]; exact hprg (j + 1) hjm) h.1
                refine z_aload_n hZ (pc := 89) dX11_readNot_89 rfl ?_
                refine z_iload_n hZ (pc := 90) dX11_readNot_90 rfl ?_
                refine cV_v hZ (pc := 91) dX11_readNot_91 lk_X11_242 mn_X11_lay mv_X11_lay (c_X11_lay_b hbad) rc_M rfl rfl (Nat.le_of_ble_eq_true rfl) (by omega) (by decide) (Nat.zero_le _) (Nat.zero_le _) ?_
                refine z_iconst hZ (pc := 94) (v := 0) dX11_readNot_94 (by decide) ?_
                refine q_istore_n_4_3 hZ (pc := 95) dX11_readNot_95 rfl ?_
                have lpe : ∀ (f k : Nat), k ≤ q → q - k < f → Z 0 0 (WM r a cA s0 s1 v2 g2) [some (.ref r), some (.int (nI d)), some (.int (nI (q))), some (.int (nI k))] [] 96 := by
                  intro f
                  induction f with
                  | zero => intro k _ hf; exact absurd hf (Nat.not_lt_zero _)
                  | succ f ihe =>
                    intro k hk hf
                    refine z_iload_n hZ (pc := 96) dX11_readNot_96 rfl ?_
                    refine z_iload_n hZ (pc := 97) dX11_readNot_97 rfl ?_
                    refine z_icmp_ge hZ (pc := 98) (tgt := 113) dX11_readNot_98 rfl (fun c98 => ?_) (fun c98 => ?_)
                    · skip
                      refine zr_v hZ (pc := 113) dX11_readNot_113 ?_
                      exact MRp_er (by rw [pTest, hN, if_neg hK8, hr]; show (if jnK 2 (K j) = true then _ else _) = _; rw [if_pos hjn, hr2]; rfl) (((hF.fm.trans f1).trans f3.fm).trans f4) (f2.trans f5) h.1 h.2
                    · skip
                      have hkq : k < q := lp_lt rfl (by omega) hk c98
                      refine z_aload_n hZ (pc := 101) dX11_readNot_101 rfl ?_
                      refine z_bipush hZ (pc := 102) (v := (-28)) dX11_readNot_102 (by decide) ?_
                      refine cV_v hZ (pc := 104) dX11_readNot_104 lk_X11_242 mn_X11_lay mv_X11_lay (c_X11_lay_b hbad) rc_M rfl rfl (Nat.le_of_ble_eq_true rfl) (by omega) (by decide) (Nat.zero_le _) (Nat.zero_le _) ?_
                      refine q_iinc_4_3 hZ (pc := 107) dX11_readNot_107 rfl ?_
                      refine z_goto hZ (pc := 110) (tgt := 96) dX11_readNot_110 rfl ?_
                      exact z_back hZ (ihe (k + 1) (by omega) (by omega)) rfl ⟨rfl, rfl, rfl, zi (nI_inc _), trivial⟩
                exact z_back hZ (lpe (q + 1) 0 (Nat.zero_le _) (by omega)) rfl ⟨rfl, rfl, rfl, rfl, trivial⟩
              rw [hr2] at h
              have hJ4 : MI t n m v2 g2 j2 (L ++ l.map trE ++ l2.map trE) := h
              have hp2 := hprg (j + 1) hjm
              rw [hr2] at hp2
              obtain ⟨s1', s2', s3'⟩ := hp2
              have hlen5 : (L ++ l.map trE ++ l2.map trE).length + q + 1 ≤ j2 := by have := hM.len; simp only [List.length_append, List.length_map] at this ⊢; omega
              have hlen4 : (L ++ l.map trE ++ l2.map trE).length < j2 := by omega
              refine z_aload_n hZ (pc := 89) dX11_readNot_89 rfl ?_
              refine z_iload_n hZ (pc := 90) dX11_readNot_90 rfl ?_
              refine cV_v hZ (pc := 91) dX11_readNot_91 lk_X11_242 mn_X11_lay mv_X11_lay (c_X11_lay (c := (L ++ l.map trE ++ l2.map trE).length) hJ4.bad hJ4.cd (by have := hJ4.2.2.1; omega)) rc_M rfl rfl (Nat.le_of_ble_eq_true rfl) (by omega) (by decide) (Nat.zero_le _) (Nat.zero_le _) ?_
              obtain ⟨J, LL, hres, hJI, hlen, hf1, hf2⟩ : ∃ J LL, pTest K rec i = .ok J (LL ++ List.replicate q (-8)) ∧ MI t n m (va_up v2 35 (nI ((L ++ l.map trE ++ l2.map trE).length + 1))) (va_up g2 10 (upd (g2 10) (700 + (L ++ l.map trE ++ l2.map trE).length) (-25))) J (L ++ LL.map trE) ∧ (L ++ LL.map trE).length + q ≤ J ∧ FM v (va_up v2 35 (nI ((L ++ l.map trE ++ l2.map trE).length + 1))) ∧ FMg g (va_up g2 10 (upd (g2 10) (700 + (L ++ l.map trE ++ l2.map trE).length) (-25))) := ⟨j2, l ++ l2 ++ [K j], by rw [pTest, hN, if_neg hK8, hr]; show (if jnK 2 (K j) = true then _ else _) = _; rw [if_pos hjn, hr2]; rfl, by rw [show L ++ (l ++ l2 ++ [K j]).map trE = L ++ l.map trE ++ l2.map trE ++ [trE (K j)] from by simp only [List.map_append, List.map_cons, List.map_nil, List.append_assoc], hsx]; exact hJ4.code hlen4, by simp only [List.length_append, List.length_map, List.length_cons, List.length_nil] at hlen5 ⊢; omega, (((hF.fm.trans f1).trans f3.fm).trans f4).trans (FM.up (by omega)), (f2.trans f5).trans FMg.up⟩
              refine z_iconst hZ (pc := 94) (v := 0) dX11_readNot_94 (by decide) ?_
              refine q_istore_n_4_3 hZ (pc := 95) dX11_readNot_95 rfl ?_
              have lp96 : ∀ (f k : Nat) (v5 : ZV) (g5 : ZG), k ≤ q → q - k < f → FM v v5 → FMg g g5 → MI t n m v5 g5 J (L ++ LL.map trE ++ List.replicate k (-28)) → Z 0 0 (WM r a cA s0 s1 v5 g5) [some (.ref r), some (.int (nI d)), some (.int (nI q)), some (.int (nI k))] [] 96 := by
                intro f
                induction f with
                | zero => intro k v5 g5 _ hf; exact absurd hf (Nat.not_lt_zero _)
                | succ f ih96 =>
                  intro k v5 g5 hk hf hF5 hG5 hI5
                  refine z_iload_n hZ (pc := 96) dX11_readNot_96 rfl ?_
                  refine z_iload_n hZ (pc := 97) dX11_readNot_97 rfl ?_
                  refine z_icmp_ge hZ (pc := 98) (tgt := 113) dX11_readNot_98 rfl (fun c98 => ?_) (fun c98 => ?_)
                  · skip
                    have ekq : k = q := lp_ge rfl (by omega) hk c98
                    subst ekq
                    refine zr_v hZ (pc := 113) dX11_readNot_113 ?_
                    exact MRp_ok hres hF5 hG5 hI5 (by rw [List.map_append, List.map_replicate, show trE (-8) = -28 from by decide, List.append_assoc])
                  · skip
                    have hkq : k < q := lp_lt rfl (by omega) hk c98
                    refine z_aload_n hZ (pc := 101) dX11_readNot_101 rfl ?_
                    refine z_bipush hZ (pc := 102) (v := (-28)) dX11_readNot_102 (by decide) ?_
                    refine cV_v hZ (pc := 104) dX11_readNot_104 lk_X11_242 mn_X11_lay mv_X11_lay (c_X11_lay (c := (L ++ LL.map trE ++ List.replicate k (-28)).length) hI5.bad hI5.cd (by have := hI5.2.2.1; simp only [List.length_append, List.length_replicate] at hlen ⊢; omega)) rc_M rfl rfl (Nat.le_of_ble_eq_true rfl) (by omega) (by decide) (Nat.zero_le _) (Nat.zero_le _) ?_
                    refine q_iinc_4_3 hZ (pc := 107) dX11_readNot_107 rfl ?_
                    refine z_goto hZ (pc := 110) (tgt := 96) dX11_readNot_110 rfl ?_
                    exact z_back hZ (ih96 (k + 1) _ _ hkq (by omega) (hF5.trans (FM.up (by omega))) (hG5.trans FMg.up) (by rw [List.replicate_succ', ← List.append_assoc]; exact hI5.code (by simp only [List.length_append, List.length_replicate] at hlen ⊢; omega))) rfl ⟨rfl, rfl, rfl, zi (nI_inc _), trivial⟩
              exact z_back hZ (lp96 (q + 1) 0 _ _ (Nat.zero_le _) (by omega) hf1 hf2 (by rw [show L ++ LL.map trE ++ List.replicate 0 (-28) = L ++ LL.map trE from by simp]; exact hJI)) rfl ⟨rfl, rfl, rfl, rfl, trivial⟩
            · skip
              exact absurd (bD1 c69) (bD0 c51)
      · skip
        have hKq : K (i + q) = -8 := bD1 c9
        have hqm : i + q < m := TK_lt hG.1 hJ.2.2.1 (by rw [hKq]; decide)
        refine z_iload_n hZ (pc := 12) dX11_readNot_12 rfl ?_
        refine z_bipush hZ (pc := 13) (v := 6) dX11_readNot_13 (by decide) ?_
        refine z_icmp_ne hZ (pc := 15) (tgt := 23) dX11_readNot_15 rfl (fun c15 => ?_) (fun c15 => ?_)
        · skip
          have hq6 : q < 6 := by
            rcases Nat.lt_or_ge q 6 with z | z
            · exact z
            · exact absurd (by rw [show q = 6 by omega]; rfl) c15
          refine q_iinc_4_2 hZ (pc := 23) dX11_readNot_23 rfl ?_
          refine z_aload_n hZ (pc := 26) dX11_readNot_26 rfl ?_
          skip
          refine gM_32 hZ (pc := 27) fl_X11_209 dX11_readNot_27 ?_
          refine z_if_ne hZ (pc := 30) (tgt := 2) dX11_readNot_30 rfl (fun c30 => ?_) (fun c30 => ?_)
          · skip
            exact absurd hJ.bad c30
          · skip
            refine z_aload_n hZ (pc := 33) dX11_readNot_33 rfl ?_
            refine cV hZ (pc := 34) dX11_readNot_34 lk_X11_233 mn_X11_stepOn mv_X11_stepOn (c_X11_stepOn (p := eNd t n (tokS t n (i + q))) hJ.h26 hJ.2.1 eNd_le hn7 (by rw [hJ.1]; exact hG.2.2)) rc_M rfl rfl (Nat.le_of_ble_eq_true rfl) (by omega) (by decide) (Nat.zero_le _) (Nat.zero_le _) ?_
            intro v3 g3 r h
            obtain ⟨rfl, e3, f3, h⟩ := h
            subst g3
            have hJn := hJ.next hG.1 hqm f3 h
            refine z_goto hZ (pc := 37) (tgt := 2) dX11_readNot_37 rfl ?_
            exact z_back hZ (ih2 (q + 1) _ hq6 (by omega) (fun k hk => (f3 k hk).trans (hF k hk)) hJn (lt_s hqs hKq)) rfl ⟨rfl, rfl, zi (nI_inc _), trivial⟩
        · skip
          have e6 : q = 6 := (nI_eq (a := q) (b := 6) (by omega) (by decide)).mp c15
          have hKq : K (i + q) = -8 := bD1 c9
          have hN : notsN K i = q := by
            have h1 := first_ge (n := 6) (p := fun k => decide (¬ K (i + k) = -8)) (i := q) (fun k hk => by rw [hqs k hk]; rfl) hq
            have h2 := nots_le (K := K) (i := i)
            show fa_first _ 6 = q
            unfold notsN at h2
            omega
          refine z_aload_n hZ (pc := 18) dX11_readNot_18 rfl ?_
          refine z_iconst hZ (pc := 19) (v := 2) dX11_readNot_19 (by decide) ?_
          refine cV_v hZ (pc := 20) dX11_readNot_20 lk_X11_230 mn_X11_wrong mv_X11_wrong (c_X11_wrong hJ.bad) rc_M rfl rfl (Nat.le_of_ble_eq_true rfl) (by omega) (by decide) (Nat.zero_le _) (Nat.zero_le _) ?_
          have hbad := bad33 (v := v') (c := 2) (x := v' 30) (by decide)
          refine q_iinc_4_2 hZ (pc := 23) dX11_readNot_23 rfl ?_
          refine z_aload_n hZ (pc := 26) dX11_readNot_26 rfl ?_
          refine gM_32 hZ (pc := 27) fl_X11_209 dX11_readNot_27 ?_
          refine z_if_ne hZ (pc := 30) (tgt := 2) dX11_readNot_30 rfl (fun _ => ?_) (fun c30 => absurd c30 hbad)
          refine z_aload_n hZ (pc := 2) dX11_readNot_2 rfl ?_
          refine z_ldcwS hY (pc := 3) (tx := "not") (q := aK 7) (fun _ _ _ h => h.2.2.1 ("TearsPostModel", 261, "not", 7) (List.mem_of_getElem? (i := 22) (by decide +kernel))) dX11_readNot_3 ?_
          refine cV_i hZ (pc := 6) dX11_readNot_6 lk_X11_223 mn_X11_is mv_X11_is (c_X11_is_b hbad) rc_M rfl rfl (Nat.le_of_ble_eq_true rfl) (by omega) (by decide) (Nat.zero_le _) (Nat.zero_le _) ?_
          refine z_if_eq hZ (pc := 9) (tgt := 40) dX11_readNot_9 rfl (fun _ => ?_) (fun c9 => absurd c9 (by decide))
          refine z_aload_n hZ (pc := 40) dX11_readNot_40 rfl ?_
          refine z_iload_n hZ (pc := 41) dX11_readNot_41 rfl ?_
          refine cV_v hZ (pc := 42) dX11_readNot_42 lk_X11_263 mn_X11_readSum mv_X11_readSum (c_X11_readSum_b hbad) rc_M rfl rfl (Nat.le_of_ble_eq_true rfl) (by omega) (by decide) (Nat.zero_le _) (Nat.zero_le _) ?_
          refine z_aload_n hZ (pc := 45) dX11_readNot_45 rfl ?_
          refine z_bipush hZ (pc := 46) (v := 60) dX11_readNot_46 (by decide) ?_
          refine cV_i hZ (pc := 48) dX11_readNot_48 lk_X11_227 mn_X11_isMarked mv_X11_isMarked (c_X11_isMarked_b hbad) rc_M rfl rfl (Nat.le_of_ble_eq_true rfl) (by omega) (by decide) (Nat.zero_le _) (Nat.zero_le _) ?_
          refine z_if_ne hZ (pc := 51) (tgt := 63) dX11_readNot_51 rfl (fun c51 => absurd c51 (by decide)) (fun _ => ?_)
          refine z_aload_n hZ (pc := 54) dX11_readNot_54 rfl ?_
          refine z_bipush hZ (pc := 55) (v := 61) dX11_readNot_55 (by decide) ?_
          refine cV_i hZ (pc := 57) dX11_readNot_57 lk_X11_227 mn_X11_isMarked mv_X11_isMarked (c_X11_isMarked_b hbad) rc_M rfl rfl (Nat.le_of_ble_eq_true rfl) (by omega) (by decide) (Nat.zero_le _) (Nat.zero_le _) ?_
          refine z_if_eq hZ (pc := 60) (tgt := 94) dX11_readNot_60 rfl (fun _ => ?_) (fun c60 => absurd c60 (by decide))
          refine z_iconst hZ (pc := 94) (v := 0) dX11_readNot_94 (by decide) ?_
          refine q_istore_n_4_3 hZ (pc := 95) dX11_readNot_95 rfl ?_
          have lpe : ∀ (f k : Nat), k ≤ q + 1 → q + 1 - k < f → Z 0 0 (WM r a cA s0 s1 (va_up (va_up v' 32 2) 33 (v' 30)) g) [some (.ref r), some (.int (nI d)), some (.int (nI (q + 1))), some (.int (nI k))] [] 96 := by
            intro f
            induction f with
            | zero => intro k _ hf; exact absurd hf (Nat.not_lt_zero _)
            | succ f ihe =>
              intro k hk hf
              refine z_iload_n hZ (pc := 96) dX11_readNot_96 rfl ?_
              refine z_iload_n hZ (pc := 97) dX11_readNot_97 rfl ?_
              refine z_icmp_ge hZ (pc := 98) (tgt := 113) dX11_readNot_98 rfl (fun c98 => ?_) (fun c98 => ?_)
              · skip
                refine zr_v hZ (pc := 113) dX11_readNot_113 ?_
                exact MRp_er (c := 2) (q := i + q) (by rw [pTest, hN, if_pos hKq]) (hF.fm.trans ((FM.up (by omega)).trans (FM.up (by omega)))) FMg.rf (by rw [up_off (by decide), up_at]; rfl) (by rw [up_at]; exact hJ.2.2.2.2.1.1)
              · skip
                have hkq : k < q + 1 := lp_lt rfl (by omega) hk c98
                refine z_aload_n hZ (pc := 101) dX11_readNot_101 rfl ?_
                refine z_bipush hZ (pc := 102) (v := (-28)) dX11_readNot_102 (by decide) ?_
                refine cV_v hZ (pc := 104) dX11_readNot_104 lk_X11_242 mn_X11_lay mv_X11_lay (c_X11_lay_b hbad) rc_M rfl rfl (Nat.le_of_ble_eq_true rfl) (by omega) (by decide) (Nat.zero_le _) (Nat.zero_le _) ?_
                refine q_iinc_4_3 hZ (pc := 107) dX11_readNot_107 rfl ?_
                refine z_goto hZ (pc := 110) (tgt := 96) dX11_readNot_110 rfl ?_
                exact z_back hZ (ihe (k + 1) (by omega) (by omega)) rfl ⟨rfl, rfl, rfl, zi (nI_inc _), trivial⟩
          exact z_back hZ (lpe (q + 1 + 1) 0 (Nat.zero_le _) (by omega)) rfl ⟨rfl, rfl, zi (nI_inc _), rfl, trivial⟩
  exact z_back hZ (lp2 7 0 v (by decide) (by decide) FS.rf hM (fun k hk => absurd hk (Nat.not_lt_zero _))) rfl ⟨rfl, rfl, rfl, trivial⟩
theorem c_X11_readExpression {l : Launch} {D : va_G} {cA : Nat → ClassId} {r : Nat} {a : Nat → Nat} {s0 s1 : Nat → Option Nat} {v : ZV} {g : ZG} {aK aV : Nat → Nat} {t : Nat → Int32} {n m i : Nat} {K N : Nat → Int32} {L : List Int32} {d kk Kl : Nat} {rec : Nat → PR} (hG : GM t n m K N) (hM : MI t n m v g i L) (hKl : 20 ≤ Kl) (hkk : kk + 1 ≤ Kl) (hsub : NC l D cA aK aV r a s0 s1 yX11_readAnd cX11_readAnd 2 kk d t n m rec) (hprg : ∀ q, q ≤ m → Prg m q (rec q)) (hd : d ≤ 5) (hcan : ¬ canK (K i) = true → rec i = .er 1 i) : MGY l D cA aK aV (WM r a cA s0 s1) yX11_readExpression cX11_readExpression 3 none Kl [(.ref r), .int (nI d)] v g ((MRp t n m v g L (pLev K 0 rec i))) := by
  refine MGY.of (by decide) rfl (Nat.le_of_ble_eq_true rfl) (by simp [Value.category]) (fun Z hY => ?_)
  have hZ := hY.toZR
  have h24 : g 24 = t := hM.1
  have hb : v 32 = 0 := hM.2.2.2.1
  have h30 : v 30 = nI (tokS t n i) := hM.2.2.2.2.1.1
  have h31 : v 31 = nI (eNd t n (tokS t n i)) := hM.2.2.2.2.1.2.2.1
  have h28 : v 28 = tcM t n (tokS t n i) := hM.2.2.2.2.1.2.2.2.1
  have h26 : v 26 = nI (eNd t n (tokS t n i)) := hM.2.2.2.2.1.2.1
  have hi : i ≤ m := hM.2.2.1
  have hn7 : n ≤ 700 := hG.2.1
  have htok : ¬ K i = 0 → tokS t n i < n := tok_in hG.1 hi
  have hm7 := hG.m7
  refine z_aload_n hZ (pc := 0) dX11_readExpression_0 rfl ?_
  refine gM_32 hZ (pc := 1) fl_X11_209 dX11_readExpression_1 ?_
  refine z_if_eq hZ (pc := 4) (tgt := 8) dX11_readExpression_4 rfl (fun c4 => ?_) (fun c4 => ?_)
  · skip
    refine z_aload_n hZ (pc := 8) dX11_readExpression_8 rfl ?_
    refine gM_28 hZ (pc := 9) fl_X11_183 dX11_readExpression_9 ?_
    refine z_iconst hZ (pc := 12) (v := 2) dX11_readExpression_12 (by decide) ?_
    refine z_icmp_eq hZ (pc := 13) (tgt := 33) dX11_readExpression_13 rfl (fun c13 => ?_) (fun c13 => ?_)
    · skip
      refine z_iconst hZ (pc := 33) (v := 1) dX11_readExpression_33 (by decide) ?_
      refine z_goto hZ (pc := 34) (tgt := 38) dX11_readExpression_34 rfl ?_
      refine q_istore_n_3_2 hZ (pc := 38) dX11_readExpression_38 rfl ?_
      refine z_iload_n hZ (pc := 39) dX11_readExpression_39 rfl ?_
      refine z_if_ne hZ (pc := 40) (tgt := 51) dX11_readExpression_40 rfl (fun _ => ?_) (fun c40 => absurd c40 (by decide))
      refine z_iload_n hZ (pc := 51) dX11_readExpression_51 rfl ?_
      refine z_bipush hZ (pc := 52) (v := 6) dX11_readExpression_52 (by decide) ?_
      refine z_icmp_ne hZ (pc := 54) (tgt := 62) dX11_readExpression_54 rfl (fun c54 => ?_) (fun c54 => ?_)
      · skip
        refine z_aload_n hZ (pc := 62) dX11_readExpression_62 rfl ?_
        refine z_iload_n hZ (pc := 63) dX11_readExpression_63 rfl ?_
        refine cVY hY (pc := 64) dX11_readExpression_64 lk_X11_271 mn_X11_readAnd mv_X11_readAnd (hsub v g i L hM) rc_M rfl rfl (Nat.le_of_ble_eq_true rfl) hkk (by decide) (Nat.zero_le _) (Nat.zero_le _) (fun v2 g2 r h => ?_)
        obtain ⟨rfl, f1, f2, h⟩ := h
        rcases PR.cs (rec i) with ⟨c, q, hr⟩ | ⟨j0, l0, hr⟩
        · skip
          rw [hr] at h
          have hbad := er_bad (by rw [← hr]; exact hprg i hi) h.1
          refine z_aload_n hZ (pc := 67) dX11_readExpression_67 rfl ?_
          refine z_ldcwS hY (pc := 68) (tx := "or") (q := aK 8) (fun _ _ _ h => h.2.2.1 ("TearsPostModel", 274, "or", 8) (List.mem_of_getElem? (i := 23) (by decide +kernel))) dX11_readExpression_68 ?_
          refine cV_i hZ (pc := 71) dX11_readExpression_71 lk_X11_223 mn_X11_is mv_X11_is (c_X11_is_b hbad) rc_M rfl rfl (Nat.le_of_ble_eq_true rfl) (by omega) (by decide) (Nat.zero_le _) (Nat.zero_le _) ?_
          refine z_if_eq hZ (pc := 74) (tgt := 95) dX11_readExpression_74 rfl (fun _ => ?_) (fun c74 => absurd c74 (by decide))
          refine zr_v hZ (pc := 95) dX11_readExpression_95 ?_
          exact MRp_er (by rw [pLev, hr]; rfl) f1 f2 h.1 h.2
        rw [hr] at h
        have hMJ : MI t n m v2 g2 j0 (L ++ l0.map trE) := h
        have hp0 := hprg i hi
        rw [hr] at hp0
        have lp : ∀ (f F j : Nat) (l : List Int32) (v' : ZV) (g' : ZG), m - j < f → m - j < F → FM v v' → FMg g g' → MI t n m v' g' j (L ++ l.map trE) → pLev K 0 rec i = pLoop K 0 rec F j l → Z 0 0 (WM r a cA s0 s1 v' g') [some (.ref r), some (.int (nI d)), none] [] 67 := by
          intro f
          induction f with
          | zero => intro F j l v' g' hf; exact absurd hf (Nat.not_lt_zero _)
          | succ f ih =>
            intro F j l v' g' hf hf2 hF hH hJ hres
            obtain ⟨F, rfl⟩ : ∃ F', F = F' + 1 := ⟨F - 1, by omega⟩
            refine z_aload_n hZ (pc := 67) dX11_readExpression_67 rfl ?_
            refine z_ldcwS hY (pc := 68) (tx := "or") (q := aK 8) (fun _ _ _ h => h.2.2.1 ("TearsPostModel", 274, "or", 8) (List.mem_of_getElem? (i := 23) (by decide +kernel))) dX11_readExpression_68 ?_
            refine cVY hY (pc := 71) dX11_readExpression_71 lk_X11_223 mn_X11_is mv_X11_is (c_X11_is (j := 8) hG hJ (by decide)) rc_M rfl rfl (Nat.le_of_ble_eq_true rfl) (by omega) (by decide) (Nat.zero_le _) (Nat.zero_le _) (fun v2 g2 r h => ?_)
            obtain ⟨e1, e2, rfl⟩ := h
            subst v2
            subst g2
            refine z_if_eq hZ (pc := 74) (tgt := 95) dX11_readExpression_74 rfl (fun c74 => ?_) (fun c74 => ?_)
            · skip
              refine zr_v hZ (pc := 95) dX11_readExpression_95 ?_
              exact MRp_ok (j := j) (l := l) (by rw [hres, pLoop, if_neg (by rw [show jnK 0 (K j) = false from by rw [jnK0]; exact decide_eq_false (show ¬ K j = -9 from bD0 c74)]; decide)]) hF hH hJ rfl
            · skip
              have hjn : jnK 0 (K j) = true := by rw [show K j = kcN 8 from bD1 c74]; rfl
              have hjm : j < m := TK_lt hG.1 hJ.2.2.1 (jnK_no0 _ _ hjn)
              have hsx : trE (K j) = -27 := by rw [show K j = kcN 8 from bD1 c74]; rfl
              refine z_aload_n hZ (pc := 77) dX11_readExpression_77 rfl ?_
              refine cV hZ (pc := 78) dX11_readExpression_78 lk_X11_233 mn_X11_stepOn mv_X11_stepOn (c_X11_stepOn (p := eNd t n (tokS t n j)) hJ.h26 hJ.2.1 eNd_le hn7 (by rw [hJ.1]; exact hG.2.2)) rc_M rfl rfl (Nat.le_of_ble_eq_true rfl) (by omega) (by decide) (Nat.zero_le _) (Nat.zero_le _) ?_
              intro v3 g3 r h
              obtain ⟨rfl, e3, f3, h⟩ := h
              subst g3
              have hJ2 := hJ.next hG.1 hjm f3 h
              refine z_aload_n hZ (pc := 81) dX11_readExpression_81 rfl ?_
              refine z_iload_n hZ (pc := 82) dX11_readExpression_82 rfl ?_
              refine cVY hY (pc := 83) dX11_readExpression_83 lk_X11_271 mn_X11_readAnd mv_X11_readAnd (hsub _ _ (j + 1) (L ++ l.map trE) hJ2) rc_M rfl rfl (Nat.le_of_ble_eq_true rfl) hkk (by decide) (Nat.zero_le _) (Nat.zero_le _) (fun v2 g2 r h => ?_)
              obtain ⟨rfl, f4, f5, h⟩ := h
              rcases PR.cs (rec (j + 1)) with ⟨c, q, hr2⟩ | ⟨j2, l2, hr2⟩
              · skip
                rw [hr2] at h
                have hbad := er_bad (by rw [← hr2]; exact hprg (j + 1) hjm) h.1
                refine z_aload_n hZ (pc := 86) dX11_readExpression_86 rfl ?_
                refine z_bipush hZ (pc := 87) (v := (-27)) dX11_readExpression_87 (by decide) ?_
                refine cV_v hZ (pc := 89) dX11_readExpression_89 lk_X11_242 mn_X11_lay mv_X11_lay (c_X11_lay_b hbad) rc_M rfl rfl (Nat.le_of_ble_eq_true rfl) (by omega) (by decide) (Nat.zero_le _) (Nat.zero_le _) ?_
                refine z_goto hZ (pc := 92) (tgt := 67) dX11_readExpression_92 rfl ?_
                refine z_aload_n hZ (pc := 67) dX11_readExpression_67 rfl ?_
                refine z_ldcwS hY (pc := 68) (tx := "or") (q := aK 8) (fun _ _ _ h => h.2.2.1 ("TearsPostModel", 274, "or", 8) (List.mem_of_getElem? (i := 23) (by decide +kernel))) dX11_readExpression_68 ?_
                refine cV_i hZ (pc := 71) dX11_readExpression_71 lk_X11_223 mn_X11_is mv_X11_is (c_X11_is_b hbad) rc_M rfl rfl (Nat.le_of_ble_eq_true rfl) (by omega) (by decide) (Nat.zero_le _) (Nat.zero_le _) ?_
                refine z_if_eq hZ (pc := 74) (tgt := 95) dX11_readExpression_74 rfl (fun _ => ?_) (fun c74 => absurd c74 (by decide))
                refine zr_v hZ (pc := 95) dX11_readExpression_95 ?_
                exact MRp_er (by rw [hres, pLoop, if_pos hjn, hr2]; rfl) ((hF.trans f3.fm).trans f4) (hH.trans f5) h.1 h.2
              rw [hr2] at h
              have hJ3 : MI t n m v2 g2 j2 (L ++ l.map trE ++ l2.map trE) := h
              have hp2 := hprg (j + 1) hjm
              rw [hr2] at hp2
              obtain ⟨s1', s2', s3'⟩ := hp2
              have hlen : (L ++ l.map trE ++ l2.map trE).length < j2 := by have := hJ.len; simp only [List.length_append, List.length_map] at this ⊢; omega
              refine z_aload_n hZ (pc := 86) dX11_readExpression_86 rfl ?_
              refine z_bipush hZ (pc := 87) (v := (-27)) dX11_readExpression_87 (by decide) ?_
              refine cV_v hZ (pc := 89) dX11_readExpression_89 lk_X11_242 mn_X11_lay mv_X11_lay (c_X11_lay (c := (L ++ l.map trE ++ l2.map trE).length) hJ3.bad hJ3.cd (by have := hJ3.2.2.1; omega)) rc_M rfl rfl (Nat.le_of_ble_eq_true rfl) (by omega) (by decide) (Nat.zero_le _) (Nat.zero_le _) ?_
              refine z_goto hZ (pc := 92) (tgt := 67) dX11_readExpression_92 rfl ?_
              exact z_back hZ (ih F j2 (l ++ l2 ++ [K j]) _ _ (by omega) (by omega) (((hF.trans f3.fm).trans f4).trans (FM.up (by omega))) ((hH.trans f5).trans FMg.up) (by rw [show L ++ (l ++ l2 ++ [K j]).map trE = L ++ l.map trE ++ l2.map trE ++ [trE (K j)] from by simp only [List.map_append, List.map_cons, List.map_nil, List.append_assoc], hsx]; exact hJ3.code hlen) (by rw [hres, pLoop, if_pos hjn, hr2]; rfl)) rfl ⟨rfl, rfl, trivial⟩
        exact z_back hZ (lp (m + 1) 700 j0 l0 _ _ (by omega) (by have := hp0.1; omega) f1 f2 hMJ (by rw [pLev, hr]; rfl)) rfl ⟨rfl, rfl, trivial⟩
      · skip
        exact absurd ((nI_eq (a := d) (b := 6) (by omega) (by decide)).mp c54) (by omega)
    · skip
      refine z_aload_n hZ (pc := 16) dX11_readExpression_16 rfl ?_
      refine gM_28 hZ (pc := 17) fl_X11_183 dX11_readExpression_17 ?_
      refine z_iconst hZ (pc := 20) (v := 1) dX11_readExpression_20 (by decide) ?_
      refine z_icmp_eq hZ (pc := 21) (tgt := 33) dX11_readExpression_21 rfl (fun c21 => ?_) (fun c21 => ?_)
      · skip
        refine z_iconst hZ (pc := 33) (v := 1) dX11_readExpression_33 (by decide) ?_
        refine z_goto hZ (pc := 34) (tgt := 38) dX11_readExpression_34 rfl ?_
        refine q_istore_n_3_2 hZ (pc := 38) dX11_readExpression_38 rfl ?_
        refine z_iload_n hZ (pc := 39) dX11_readExpression_39 rfl ?_
        refine z_if_ne hZ (pc := 40) (tgt := 51) dX11_readExpression_40 rfl (fun _ => ?_) (fun c40 => absurd c40 (by decide))
        refine z_iload_n hZ (pc := 51) dX11_readExpression_51 rfl ?_
        refine z_bipush hZ (pc := 52) (v := 6) dX11_readExpression_52 (by decide) ?_
        refine z_icmp_ne hZ (pc := 54) (tgt := 62) dX11_readExpression_54 rfl (fun c54 => ?_) (fun c54 => ?_)
        · skip
          refine z_aload_n hZ (pc := 62) dX11_readExpression_62 rfl ?_
          refine z_iload_n hZ (pc := 63) dX11_readExpression_63 rfl ?_
          refine cVY hY (pc := 64) dX11_readExpression_64 lk_X11_271 mn_X11_readAnd mv_X11_readAnd (hsub v g i L hM) rc_M rfl rfl (Nat.le_of_ble_eq_true rfl) hkk (by decide) (Nat.zero_le _) (Nat.zero_le _) (fun v2 g2 r h => ?_)
          obtain ⟨rfl, f1, f2, h⟩ := h
          rcases PR.cs (rec i) with ⟨c, q, hr⟩ | ⟨j0, l0, hr⟩
          · skip
            rw [hr] at h
            have hbad := er_bad (by rw [← hr]; exact hprg i hi) h.1
            refine z_aload_n hZ (pc := 67) dX11_readExpression_67 rfl ?_
            refine z_ldcwS hY (pc := 68) (tx := "or") (q := aK 8) (fun _ _ _ h => h.2.2.1 ("TearsPostModel", 274, "or", 8) (List.mem_of_getElem? (i := 23) (by decide +kernel))) dX11_readExpression_68 ?_
            refine cV_i hZ (pc := 71) dX11_readExpression_71 lk_X11_223 mn_X11_is mv_X11_is (c_X11_is_b hbad) rc_M rfl rfl (Nat.le_of_ble_eq_true rfl) (by omega) (by decide) (Nat.zero_le _) (Nat.zero_le _) ?_
            refine z_if_eq hZ (pc := 74) (tgt := 95) dX11_readExpression_74 rfl (fun _ => ?_) (fun c74 => absurd c74 (by decide))
            refine zr_v hZ (pc := 95) dX11_readExpression_95 ?_
            exact MRp_er (by rw [pLev, hr]; rfl) f1 f2 h.1 h.2
          rw [hr] at h
          have hMJ : MI t n m v2 g2 j0 (L ++ l0.map trE) := h
          have hp0 := hprg i hi
          rw [hr] at hp0
          have lp : ∀ (f F j : Nat) (l : List Int32) (v' : ZV) (g' : ZG), m - j < f → m - j < F → FM v v' → FMg g g' → MI t n m v' g' j (L ++ l.map trE) → pLev K 0 rec i = pLoop K 0 rec F j l → Z 0 0 (WM r a cA s0 s1 v' g') [some (.ref r), some (.int (nI d)), none] [] 67 := by
            intro f
            induction f with
            | zero => intro F j l v' g' hf; exact absurd hf (Nat.not_lt_zero _)
            | succ f ih =>
              intro F j l v' g' hf hf2 hF hH hJ hres
              obtain ⟨F, rfl⟩ : ∃ F', F = F' + 1 := ⟨F - 1, by omega⟩
              refine z_aload_n hZ (pc := 67) dX11_readExpression_67 rfl ?_
              refine z_ldcwS hY (pc := 68) (tx := "or") (q := aK 8) (fun _ _ _ h => h.2.2.1 ("TearsPostModel", 274, "or", 8) (List.mem_of_getElem? (i := 23) (by decide +kernel))) dX11_readExpression_68 ?_
              refine cVY hY (pc := 71) dX11_readExpression_71 lk_X11_223 mn_X11_is mv_X11_is (c_X11_is (j := 8) hG hJ (by decide)) rc_M rfl rfl (Nat.le_of_ble_eq_true rfl) (by omega) (by decide) (Nat.zero_le _) (Nat.zero_le _) (fun v2 g2 r h => ?_)
              obtain ⟨e1, e2, rfl⟩ := h
              subst v2
              subst g2
              refine z_if_eq hZ (pc := 74) (tgt := 95) dX11_readExpression_74 rfl (fun c74 => ?_) (fun c74 => ?_)
              · skip
                refine zr_v hZ (pc := 95) dX11_readExpression_95 ?_
                exact MRp_ok (j := j) (l := l) (by rw [hres, pLoop, if_neg (by rw [show jnK 0 (K j) = false from by rw [jnK0]; exact decide_eq_false (show ¬ K j = -9 from bD0 c74)]; decide)]) hF hH hJ rfl
              · skip
                have hjn : jnK 0 (K j) = true := by rw [show K j = kcN 8 from bD1 c74]; rfl
                have hjm : j < m := TK_lt hG.1 hJ.2.2.1 (jnK_no0 _ _ hjn)
                have hsx : trE (K j) = -27 := by rw [show K j = kcN 8 from bD1 c74]; rfl
                refine z_aload_n hZ (pc := 77) dX11_readExpression_77 rfl ?_
                refine cV hZ (pc := 78) dX11_readExpression_78 lk_X11_233 mn_X11_stepOn mv_X11_stepOn (c_X11_stepOn (p := eNd t n (tokS t n j)) hJ.h26 hJ.2.1 eNd_le hn7 (by rw [hJ.1]; exact hG.2.2)) rc_M rfl rfl (Nat.le_of_ble_eq_true rfl) (by omega) (by decide) (Nat.zero_le _) (Nat.zero_le _) ?_
                intro v3 g3 r h
                obtain ⟨rfl, e3, f3, h⟩ := h
                subst g3
                have hJ2 := hJ.next hG.1 hjm f3 h
                refine z_aload_n hZ (pc := 81) dX11_readExpression_81 rfl ?_
                refine z_iload_n hZ (pc := 82) dX11_readExpression_82 rfl ?_
                refine cVY hY (pc := 83) dX11_readExpression_83 lk_X11_271 mn_X11_readAnd mv_X11_readAnd (hsub _ _ (j + 1) (L ++ l.map trE) hJ2) rc_M rfl rfl (Nat.le_of_ble_eq_true rfl) hkk (by decide) (Nat.zero_le _) (Nat.zero_le _) (fun v2 g2 r h => ?_)
                obtain ⟨rfl, f4, f5, h⟩ := h
                rcases PR.cs (rec (j + 1)) with ⟨c, q, hr2⟩ | ⟨j2, l2, hr2⟩
                · skip
                  rw [hr2] at h
                  have hbad := er_bad (by rw [← hr2]; exact hprg (j + 1) hjm) h.1
                  refine z_aload_n hZ (pc := 86) dX11_readExpression_86 rfl ?_
                  refine z_bipush hZ (pc := 87) (v := (-27)) dX11_readExpression_87 (by decide) ?_
                  refine cV_v hZ (pc := 89) dX11_readExpression_89 lk_X11_242 mn_X11_lay mv_X11_lay (c_X11_lay_b hbad) rc_M rfl rfl (Nat.le_of_ble_eq_true rfl) (by omega) (by decide) (Nat.zero_le _) (Nat.zero_le _) ?_
                  refine z_goto hZ (pc := 92) (tgt := 67) dX11_readExpression_92 rfl ?_
                  refine z_aload_n hZ (pc := 67) dX11_readExpression_67 rfl ?_
                  refine z_ldcwS hY (pc := 68) (tx := "or") (q := aK 8) (fun _ _ _ h => h.2.2.1 ("TearsPostModel", 274, "or", 8) (List.mem_of_getElem? (i := 23) (by decide +kernel))) dX11_readExpression_68 ?_
                  refine cV_i hZ (pc := 71) dX11_readExpression_71 lk_X11_223 mn_X11_is mv_X11_is (c_X11_is_b hbad) rc_M rfl rfl (Nat.le_of_ble_eq_true rfl) (by omega) (by decide) (Nat.zero_le _) (Nat.zero_le _) ?_
                  refine z_if_eq hZ (pc := 74) (tgt := 95) dX11_readExpression_74 rfl (fun _ => ?_) (fun c74 => absurd c74 (by decide))
                  refine zr_v hZ (pc := 95) dX11_readExpression_95 ?_
                  exact MRp_er (by rw [hres, pLoop, if_pos hjn, hr2]; rfl) ((hF.trans f3.fm).trans f4) (hH.trans f5) h.1 h.2
                rw [hr2] at h
                have hJ3 : MI t n m v2 g2 j2 (L ++ l.map trE ++ l2.map trE) := h
                have hp2 := hprg (j + 1) hjm
                rw [hr2] at hp2
                obtain ⟨s1', s2', s3'⟩ := hp2
                have hlen : (L ++ l.map trE ++ l2.map trE).length < j2 := by have := hJ.len; simp only [List.length_append, List.length_map] at this ⊢; omega
                refine z_aload_n hZ (pc := 86) dX11_readExpression_86 rfl ?_
                refine z_bipush hZ (pc := 87) (v := (-27)) dX11_readExpression_87 (by decide) ?_
                refine cV_v hZ (pc := 89) dX11_readExpression_89 lk_X11_242 mn_X11_lay mv_X11_lay (c_X11_lay (c := (L ++ l.map trE ++ l2.map trE).length) hJ3.bad hJ3.cd (by have := hJ3.2.2.1; omega)) rc_M rfl rfl (Nat.le_of_ble_eq_true rfl) (by omega) (by decide) (Nat.zero_le _) (Nat.zero_le _) ?_
                refine z_goto hZ (pc := 92) (tgt := 67) dX11_readExpression_92 rfl ?_
                exact z_back hZ (ih F j2 (l ++ l2 ++ [K j]) _ _ (by omega) (by omega) (((hF.trans f3.fm).trans f4).trans (FM.up (by omega))) ((hH.trans f5).trans FMg.up) (by rw [show L ++ (l ++ l2 ++ [K j]).map trE = L ++ l.map trE ++ l2.map trE ++ [trE (K j)] from by simp only [List.map_append, List.map_cons, List.map_nil, List.append_assoc], hsx]; exact hJ3.code hlen) (by rw [hres, pLoop, if_pos hjn, hr2]; rfl)) rfl ⟨rfl, rfl, trivial⟩
          exact z_back hZ (lp (m + 1) 700 j0 l0 _ _ (by omega) (by have := hp0.1; omega) f1 f2 hMJ (by rw [pLev, hr]; rfl)) rfl ⟨rfl, rfl, trivial⟩
        · skip
          exact absurd ((nI_eq (a := d) (b := 6) (by omega) (by decide)).mp c54) (by omega)
      · skip
        refine z_aload_n hZ (pc := 24) dX11_readExpression_24 rfl ?_
        refine z_bipush hZ (pc := 25) (v := 40) dX11_readExpression_25 (by decide) ?_
        refine cV_i hZ (pc := 27) dX11_readExpression_27 lk_X11_227 mn_X11_isMarked mv_X11_isMarked (c_X11_isMk (j := 1) hG hM (by decide)) rc_M rfl rfl (Nat.le_of_ble_eq_true rfl) (by omega) (by decide) (Nat.zero_le _) (Nat.zero_le _) ?_
        refine z_if_eq hZ (pc := 30) (tgt := 37) dX11_readExpression_30 rfl (fun c30 => ?_) (fun c30 => ?_)
        · skip
          refine z_iconst hZ (pc := 37) (v := 0) dX11_readExpression_37 (by decide) ?_
          refine q_istore_n_3_2 hZ (pc := 38) dX11_readExpression_38 rfl ?_
          refine z_iload_n hZ (pc := 39) dX11_readExpression_39 rfl ?_
          refine z_if_ne hZ (pc := 40) (tgt := 51) dX11_readExpression_40 rfl (fun c40 => absurd c40 (by decide)) (fun _ => ?_)
          have hcn : canK (K i) = false := by
            rw [canK, decide_eq_false (fun z => c13 (by rw [h28]; exact (tc_2 hG.1 hi).mpr z)), decide_eq_false (show ¬ K i = 4 from bD0 c30)]
            cases hw : isWdK (K i)
            · rfl
            · exact absurd (by rw [h28]; exact (tc_1 hG.1 hi).mpr hw) c21
          refine z_aload_n hZ (pc := 43) dX11_readExpression_43 rfl ?_
          refine z_iconst hZ (pc := 44) (v := 1) dX11_readExpression_44 (by decide) ?_
          refine cV_v hZ (pc := 45) dX11_readExpression_45 lk_X11_230 mn_X11_wrong mv_X11_wrong (c_X11_wrong hb) rc_M rfl rfl (Nat.le_of_ble_eq_true rfl) (by omega) (by decide) (Nat.zero_le _) (Nat.zero_le _) ?_
          have hbad := bad33 (v := v) (c := 1) (x := v 30) (by decide)
          refine z_goto hZ (pc := 48) (tgt := 62) dX11_readExpression_48 rfl ?_
          refine z_aload_n hZ (pc := 62) dX11_readExpression_62 rfl ?_
          refine z_iload_n hZ (pc := 63) dX11_readExpression_63 rfl ?_
          refine cVY hY (pc := 64) dX11_readExpression_64 lk_X11_271 mn_X11_readAnd mv_X11_readAnd (c_X11_readAnd_b hbad) rc_M rfl rfl (Nat.le_of_ble_eq_true rfl) (by omega) (by decide) (Nat.zero_le _) (Nat.zero_le _) (fun v2 g2 r h => ?_)
          obtain ⟨e1, e2, rfl⟩ := h
          subst v2
          subst g2
          refine z_aload_n hZ (pc := 67) dX11_readExpression_67 rfl ?_
          refine z_ldcwS hY (pc := 68) (tx := "or") (q := aK 8) (fun _ _ _ h => h.2.2.1 ("TearsPostModel", 274, "or", 8) (List.mem_of_getElem? (i := 23) (by decide +kernel))) dX11_readExpression_68 ?_
          refine cV_i hZ (pc := 71) dX11_readExpression_71 lk_X11_223 mn_X11_is mv_X11_is (c_X11_is_b hbad) rc_M rfl rfl (Nat.le_of_ble_eq_true rfl) (by omega) (by decide) (Nat.zero_le _) (Nat.zero_le _) ?_
          refine z_if_eq hZ (pc := 74) (tgt := 95) dX11_readExpression_74 rfl (fun _ => ?_) (fun c74 => absurd c74 (by decide))
          refine zr_v hZ (pc := 95) dX11_readExpression_95 ?_
          exact MRp_er (c := 1) (q := i) (by rw [pLev, hcan (by rw [hcn]; decide)]; rfl) ((FM.up (by omega)).trans (FM.up (by omega))) FMg.rf (by rw [up_off (by decide), up_at]; rfl) (by rw [up_at]; exact h30)
        · skip
          refine z_iconst hZ (pc := 33) (v := 1) dX11_readExpression_33 (by decide) ?_
          refine z_goto hZ (pc := 34) (tgt := 38) dX11_readExpression_34 rfl ?_
          refine q_istore_n_3_2 hZ (pc := 38) dX11_readExpression_38 rfl ?_
          refine z_iload_n hZ (pc := 39) dX11_readExpression_39 rfl ?_
          refine z_if_ne hZ (pc := 40) (tgt := 51) dX11_readExpression_40 rfl (fun _ => ?_) (fun c40 => absurd c40 (by decide))
          refine z_iload_n hZ (pc := 51) dX11_readExpression_51 rfl ?_
          refine z_bipush hZ (pc := 52) (v := 6) dX11_readExpression_52 (by decide) ?_
          refine z_icmp_ne hZ (pc := 54) (tgt := 62) dX11_readExpression_54 rfl (fun c54 => ?_) (fun c54 => ?_)
          · skip
            refine z_aload_n hZ (pc := 62) dX11_readExpression_62 rfl ?_
            refine z_iload_n hZ (pc := 63) dX11_readExpression_63 rfl ?_
            refine cVY hY (pc := 64) dX11_readExpression_64 lk_X11_271 mn_X11_readAnd mv_X11_readAnd (hsub v g i L hM) rc_M rfl rfl (Nat.le_of_ble_eq_true rfl) hkk (by decide) (Nat.zero_le _) (Nat.zero_le _) (fun v2 g2 r h => ?_)
            obtain ⟨rfl, f1, f2, h⟩ := h
            rcases PR.cs (rec i) with ⟨c, q, hr⟩ | ⟨j0, l0, hr⟩
            · skip
              rw [hr] at h
              have hbad := er_bad (by rw [← hr]; exact hprg i hi) h.1
              refine z_aload_n hZ (pc := 67) dX11_readExpression_67 rfl ?_
              refine z_ldcwS hY (pc := 68) (tx := "or") (q := aK 8) (fun _ _ _ h => h.2.2.1 ("TearsPostModel", 274, "or", 8) (List.mem_of_getElem? (i := 23) (by decide +kernel))) dX11_readExpression_68 ?_
              refine cV_i hZ (pc := 71) dX11_readExpression_71 lk_X11_223 mn_X11_is mv_X11_is (c_X11_is_b hbad) rc_M rfl rfl (Nat.le_of_ble_eq_true rfl) (by omega) (by decide) (Nat.zero_le _) (Nat.zero_le _) ?_
              refine z_if_eq hZ (pc := 74) (tgt := 95) dX11_readExpression_74 rfl (fun _ => ?_) (fun c74 => absurd c74 (by decide))
              refine zr_v hZ (pc := 95) dX11_readExpression_95 ?_
              exact MRp_er (by rw [pLev, hr]; rfl) f1 f2 h.1 h.2
            rw [hr] at h
            have hMJ : MI t n m v2 g2 j0 (L ++ l0.map trE) := h
            have hp0 := hprg i hi
            rw [hr] at hp0
            have lp : ∀ (f F j : Nat) (l : List Int32) (v' : ZV) (g' : ZG), m - j < f → m - j < F → FM v v' → FMg g g' → MI t n m v' g' j (L ++ l.map trE) → pLev K 0 rec i = pLoop K 0 rec F j l → Z 0 0 (WM r a cA s0 s1 v' g') [some (.ref r), some (.int (nI d)), none] [] 67 := by
              intro f
              induction f with
              | zero => intro F j l v' g' hf; exact absurd hf (Nat.not_lt_zero _)
              | succ f ih =>
                intro F j l v' g' hf hf2 hF hH hJ hres
                obtain ⟨F, rfl⟩ : ∃ F', F = F' + 1 := ⟨F - 1, by omega⟩
                refine z_aload_n hZ (pc := 67) dX11_readExpression_67 rfl ?_
                refine z_ldcwS hY (pc := 68) (tx := "or") (q := aK 8) (fun _ _ _ h => h.2.2.1 ("TearsPostModel", 274, "or", 8) (List.mem_of_getElem? (i := 23) (by decide +kernel))) dX11_readExpression_68 ?_
                refine cVY hY (pc := 71) dX11_readExpression_71 lk_X11_223 mn_X11_is mv_X11_is (c_X11_is (j := 8) hG hJ (by decide)) rc_M rfl rfl (Nat.le_of_ble_eq_true rfl) (by omega) (by decide) (Nat.zero_le _) (Nat.zero_le _) (fun v2 g2 r h => ?_)
                obtain ⟨e1, e2, rfl⟩ := h
                subst v2
                subst g2
                refine z_if_eq hZ (pc := 74) (tgt := 95) dX11_readExpression_74 rfl (fun c74 => ?_) (fun c74 => ?_)
                · skip
                  refine zr_v hZ (pc := 95) dX11_readExpression_95 ?_
                  exact MRp_ok (j := j) (l := l) (by rw [hres, pLoop, if_neg (by rw [show jnK 0 (K j) = false from by rw [jnK0]; exact decide_eq_false (show ¬ K j = -9 from bD0 c74)]; decide)]) hF hH hJ rfl
                · skip
                  have hjn : jnK 0 (K j) = true := by rw [show K j = kcN 8 from bD1 c74]; rfl
                  have hjm : j < m := TK_lt hG.1 hJ.2.2.1 (jnK_no0 _ _ hjn)
                  have hsx : trE (K j) = -27 := by rw [show K j = kcN 8 from bD1 c74]; rfl
                  refine z_aload_n hZ (pc := 77) dX11_readExpression_77 rfl ?_
                  refine cV hZ (pc := 78) dX11_readExpression_78 lk_X11_233 mn_X11_stepOn mv_X11_stepOn (c_X11_stepOn (p := eNd t n (tokS t n j)) hJ.h26 hJ.2.1 eNd_le hn7 (by rw [hJ.1]; exact hG.2.2)) rc_M rfl rfl (Nat.le_of_ble_eq_true rfl) (by omega) (by decide) (Nat.zero_le _) (Nat.zero_le _) ?_
                  intro v3 g3 r h
                  obtain ⟨rfl, e3, f3, h⟩ := h
                  subst g3
                  have hJ2 := hJ.next hG.1 hjm f3 h
                  refine z_aload_n hZ (pc := 81) dX11_readExpression_81 rfl ?_
                  refine z_iload_n hZ (pc := 82) dX11_readExpression_82 rfl ?_
                  refine cVY hY (pc := 83) dX11_readExpression_83 lk_X11_271 mn_X11_readAnd mv_X11_readAnd (hsub _ _ (j + 1) (L ++ l.map trE) hJ2) rc_M rfl rfl (Nat.le_of_ble_eq_true rfl) hkk (by decide) (Nat.zero_le _) (Nat.zero_le _) (fun v2 g2 r h => ?_)
                  obtain ⟨rfl, f4, f5, h⟩ := h
                  rcases PR.cs (rec (j + 1)) with ⟨c, q, hr2⟩ | ⟨j2, l2, hr2⟩
                  · skip
                    rw [hr2] at h
                    have hbad := er_bad (by rw [← hr2]; exact hprg (j + 1) hjm) h.1
                    refine z_aload_n hZ (pc := 86) dX11_readExpression_86 rfl ?_
                    refine z_bipush hZ (pc := 87) (v := (-27)) dX11_readExpression_87 (by decide) ?_
                    refine cV_v hZ (pc := 89) dX11_readExpression_89 lk_X11_242 mn_X11_lay mv_X11_lay (c_X11_lay_b hbad) rc_M rfl rfl (Nat.le_of_ble_eq_true rfl) (by omega) (by decide) (Nat.zero_le _) (Nat.zero_le _) ?_
                    refine z_goto hZ (pc := 92) (tgt := 67) dX11_readExpression_92 rfl ?_
                    refine z_aload_n hZ (pc := 67) dX11_readExpression_67 rfl ?_
                    refine z_ldcwS hY (pc := 68) (tx := "or") (q := aK 8) (fun _ _ _ h => h.2.2.1 ("TearsPostModel", 274, "or", 8) (List.mem_of_getElem? (i := 23) (by decide +kernel))) dX11_readExpression_68 ?_
                    refine cV_i hZ (pc := 71) dX11_readExpression_71 lk_X11_223 mn_X11_is mv_X11_is (c_X11_is_b hbad) rc_M rfl rfl (Nat.le_of_ble_eq_true rfl) (by omega) (by decide) (Nat.zero_le _) (Nat.zero_le _) ?_
                    refine z_if_eq hZ (pc := 74) (tgt := 95) dX11_readExpression_74 rfl (fun _ => ?_) (fun c74 => absurd c74 (by decide))
                    refine zr_v hZ (pc := 95) dX11_readExpression_95 ?_
                    exact MRp_er (by rw [hres, pLoop, if_pos hjn, hr2]; rfl) ((hF.trans f3.fm).trans f4) (hH.trans f5) h.1 h.2
                  rw [hr2] at h
                  have hJ3 : MI t n m v2 g2 j2 (L ++ l.map trE ++ l2.map trE) := h
                  have hp2 := hprg (j + 1) hjm
                  rw [hr2] at hp2
                  obtain ⟨s1', s2', s3'⟩ := hp2
                  have hlen : (L ++ l.map trE ++ l2.map trE).length < j2 := by have := hJ.len; simp only [List.length_append, List.length_map] at this ⊢; omega
                  refine z_aload_n hZ (pc := 86) dX11_readExpression_86 rfl ?_
                  refine z_bipush hZ (pc := 87) (v := (-27)) dX11_readExpression_87 (by decide) ?_
                  refine cV_v hZ (pc := 89) dX11_readExpression_89 lk_X11_242 mn_X11_lay mv_X11_lay (c_X11_lay (c := (L ++ l.map trE ++ l2.map trE).length) hJ3.bad hJ3.cd (by have := hJ3.2.2.1; omega)) rc_M rfl rfl (Nat.le_of_ble_eq_true rfl) (by omega) (by decide) (Nat.zero_le _) (Nat.zero_le _) ?_
                  refine z_goto hZ (pc := 92) (tgt := 67) dX11_readExpression_92 rfl ?_
                  exact z_back hZ (ih F j2 (l ++ l2 ++ [K j]) _ _ (by omega) (by omega) (((hF.trans f3.fm).trans f4).trans (FM.up (by omega))) ((hH.trans f5).trans FMg.up) (by rw [show L ++ (l ++ l2 ++ [K j]).map trE = L ++ l.map trE ++ l2.map trE ++ [trE (K j)] from by simp only [List.map_append, List.map_cons, List.map_nil, List.append_assoc], hsx]; exact hJ3.code hlen) (by rw [hres, pLoop, if_pos hjn, hr2]; rfl)) rfl ⟨rfl, rfl, trivial⟩
            exact z_back hZ (lp (m + 1) 700 j0 l0 _ _ (by omega) (by have := hp0.1; omega) f1 f2 hMJ (by rw [pLev, hr]; rfl)) rfl ⟨rfl, rfl, trivial⟩
          · skip
            exact absurd ((nI_eq (a := d) (b := 6) (by omega) (by decide)).mp c54) (by omega)
  · skip
    exact absurd hb c4
theorem c_X11_readExpression_6 {l : Launch} {D : va_G} {cA : Nat → ClassId} {r : Nat} {a : Nat → Nat} {s0 s1 : Nat → Option Nat} {v : ZV} {g : ZG} {aK aV : Nat → Nat} {t : Nat → Int32} {n m i : Nat} {K N : Nat → Int32} {L : List Int32} {Kl : Nat} (hG : GM t n m K N) (hM : MI t n m v g i L) (hKl : 20 ≤ Kl) : MGY l D cA aK aV (WM r a cA s0 s1) yX11_readExpression cX11_readExpression 3 none Kl [(.ref r), .int 6] v g ((MRp t n m v g L (deepM K i))) := by
  refine MGY.of (by decide) rfl (Nat.le_of_ble_eq_true rfl) (by simp [Value.category]) (fun Z hY => ?_)
  have hZ := hY.toZR
  have h24 : g 24 = t := hM.1
  have hb : v 32 = 0 := hM.2.2.2.1
  have h30 : v 30 = nI (tokS t n i) := hM.2.2.2.2.1.1
  have h31 : v 31 = nI (eNd t n (tokS t n i)) := hM.2.2.2.2.1.2.2.1
  have h28 : v 28 = tcM t n (tokS t n i) := hM.2.2.2.2.1.2.2.2.1
  have h26 : v 26 = nI (eNd t n (tokS t n i)) := hM.2.2.2.2.1.2.1
  have hi : i ≤ m := hM.2.2.1
  have hn7 : n ≤ 700 := hG.2.1
  have htok : ¬ K i = 0 → tokS t n i < n := tok_in hG.1 hi
  refine z_aload_n hZ (pc := 0) dX11_readExpression_0 rfl ?_
  refine gM_32 hZ (pc := 1) fl_X11_209 dX11_readExpression_1 ?_
  refine z_if_eq hZ (pc := 4) (tgt := 8) dX11_readExpression_4 rfl (fun c4 => ?_) (fun c4 => ?_)
  · skip
    refine z_aload_n hZ (pc := 8) dX11_readExpression_8 rfl ?_
    refine gM_28 hZ (pc := 9) fl_X11_183 dX11_readExpression_9 ?_
    refine z_iconst hZ (pc := 12) (v := 2) dX11_readExpression_12 (by decide) ?_
    refine z_icmp_eq hZ (pc := 13) (tgt := 33) dX11_readExpression_13 rfl (fun c13 => ?_) (fun c13 => ?_)
    · skip
      refine z_iconst hZ (pc := 33) (v := 1) dX11_readExpression_33 (by decide) ?_
      refine z_goto hZ (pc := 34) (tgt := 38) dX11_readExpression_34 rfl ?_
      refine q_istore_n_3_2 hZ (pc := 38) dX11_readExpression_38 rfl ?_
      refine z_iload_n hZ (pc := 39) dX11_readExpression_39 rfl ?_
      refine z_if_ne hZ (pc := 40) (tgt := 51) dX11_readExpression_40 rfl (fun _ => ?_) (fun c40 => absurd c40 (by decide))
      refine z_iload_n hZ (pc := 51) dX11_readExpression_51 rfl ?_
      refine z_bipush hZ (pc := 52) (v := 6) dX11_readExpression_52 (by decide) ?_
      refine z_icmp_ne hZ (pc := 54) (tgt := 62) dX11_readExpression_54 rfl (fun c54 => ?_) (fun c54 => ?_)
      · skip
        exact absurd rfl c54
      · skip
        have hcy : canK (K i) = true := by rw [canK, decide_eq_true ((tc_2 hG.1 hi).mp (by rw [← h28]; exact c13))]; rfl
        refine z_aload_n hZ (pc := 57) dX11_readExpression_57 rfl ?_
        refine z_iconst hZ (pc := 58) (v := 2) dX11_readExpression_58 (by decide) ?_
        refine cV_v hZ (pc := 59) dX11_readExpression_59 lk_X11_230 mn_X11_wrong mv_X11_wrong (c_X11_wrong hb) rc_M rfl rfl (Nat.le_of_ble_eq_true rfl) (by omega) (by decide) (Nat.zero_le _) (Nat.zero_le _) ?_
        have hbad := bad33 (v := v) (c := 2) (x := v 30) (by decide)
        refine z_aload_n hZ (pc := 62) dX11_readExpression_62 rfl ?_
        refine z_iload_n hZ (pc := 63) dX11_readExpression_63 rfl ?_
        refine cVY hY (pc := 64) dX11_readExpression_64 lk_X11_271 mn_X11_readAnd mv_X11_readAnd (c_X11_readAnd_b hbad) rc_M rfl rfl (Nat.le_of_ble_eq_true rfl) (by omega) (by decide) (Nat.zero_le _) (Nat.zero_le _) (fun v2 g2 r h => ?_)
        obtain ⟨e1, e2, rfl⟩ := h
        subst v2
        subst g2
        refine z_aload_n hZ (pc := 67) dX11_readExpression_67 rfl ?_
        refine z_ldcwS hY (pc := 68) (tx := "or") (q := aK 8) (fun _ _ _ h => h.2.2.1 ("TearsPostModel", 274, "or", 8) (List.mem_of_getElem? (i := 23) (by decide +kernel))) dX11_readExpression_68 ?_
        refine cV_i hZ (pc := 71) dX11_readExpression_71 lk_X11_223 mn_X11_is mv_X11_is (c_X11_is_b hbad) rc_M rfl rfl (Nat.le_of_ble_eq_true rfl) (by omega) (by decide) (Nat.zero_le _) (Nat.zero_le _) ?_
        refine z_if_eq hZ (pc := 74) (tgt := 95) dX11_readExpression_74 rfl (fun _ => ?_) (fun c74 => absurd c74 (by decide))
        refine zr_v hZ (pc := 95) dX11_readExpression_95 ?_
        exact MRp_er (c := 2) (q := i) (by rw [deepM, if_pos hcy]) ((FM.up (by omega)).trans (FM.up (by omega))) FMg.rf (by rw [up_off (by decide), up_at]; rfl) (by rw [up_at]; exact h30)
    · skip
      refine z_aload_n hZ (pc := 16) dX11_readExpression_16 rfl ?_
      refine gM_28 hZ (pc := 17) fl_X11_183 dX11_readExpression_17 ?_
      refine z_iconst hZ (pc := 20) (v := 1) dX11_readExpression_20 (by decide) ?_
      refine z_icmp_eq hZ (pc := 21) (tgt := 33) dX11_readExpression_21 rfl (fun c21 => ?_) (fun c21 => ?_)
      · skip
        refine z_iconst hZ (pc := 33) (v := 1) dX11_readExpression_33 (by decide) ?_
        refine z_goto hZ (pc := 34) (tgt := 38) dX11_readExpression_34 rfl ?_
        refine q_istore_n_3_2 hZ (pc := 38) dX11_readExpression_38 rfl ?_
        refine z_iload_n hZ (pc := 39) dX11_readExpression_39 rfl ?_
        refine z_if_ne hZ (pc := 40) (tgt := 51) dX11_readExpression_40 rfl (fun _ => ?_) (fun c40 => absurd c40 (by decide))
        refine z_iload_n hZ (pc := 51) dX11_readExpression_51 rfl ?_
        refine z_bipush hZ (pc := 52) (v := 6) dX11_readExpression_52 (by decide) ?_
        refine z_icmp_ne hZ (pc := 54) (tgt := 62) dX11_readExpression_54 rfl (fun c54 => ?_) (fun c54 => ?_)
        · skip
          exact absurd rfl c54
        · skip
          have hcy : canK (K i) = true := by rw [canK, (tc_1 hG.1 hi).mp (by rw [← h28]; exact c21), Bool.or_true, Bool.or_true]
          refine z_aload_n hZ (pc := 57) dX11_readExpression_57 rfl ?_
          refine z_iconst hZ (pc := 58) (v := 2) dX11_readExpression_58 (by decide) ?_
          refine cV_v hZ (pc := 59) dX11_readExpression_59 lk_X11_230 mn_X11_wrong mv_X11_wrong (c_X11_wrong hb) rc_M rfl rfl (Nat.le_of_ble_eq_true rfl) (by omega) (by decide) (Nat.zero_le _) (Nat.zero_le _) ?_
          have hbad := bad33 (v := v) (c := 2) (x := v 30) (by decide)
          refine z_aload_n hZ (pc := 62) dX11_readExpression_62 rfl ?_
          refine z_iload_n hZ (pc := 63) dX11_readExpression_63 rfl ?_
          refine cVY hY (pc := 64) dX11_readExpression_64 lk_X11_271 mn_X11_readAnd mv_X11_readAnd (c_X11_readAnd_b hbad) rc_M rfl rfl (Nat.le_of_ble_eq_true rfl) (by omega) (by decide) (Nat.zero_le _) (Nat.zero_le _) (fun v2 g2 r h => ?_)
          obtain ⟨e1, e2, rfl⟩ := h
          subst v2
          subst g2
          refine z_aload_n hZ (pc := 67) dX11_readExpression_67 rfl ?_
          refine z_ldcwS hY (pc := 68) (tx := "or") (q := aK 8) (fun _ _ _ h => h.2.2.1 ("TearsPostModel", 274, "or", 8) (List.mem_of_getElem? (i := 23) (by decide +kernel))) dX11_readExpression_68 ?_
          refine cV_i hZ (pc := 71) dX11_readExpression_71 lk_X11_223 mn_X11_is mv_X11_is (c_X11_is_b hbad) rc_M rfl rfl (Nat.le_of_ble_eq_true rfl) (by omega) (by decide) (Nat.zero_le _) (Nat.zero_le _) ?_
          refine z_if_eq hZ (pc := 74) (tgt := 95) dX11_readExpression_74 rfl (fun _ => ?_) (fun c74 => absurd c74 (by decide))
          refine zr_v hZ (pc := 95) dX11_readExpression_95 ?_
          exact MRp_er (c := 2) (q := i) (by rw [deepM, if_pos hcy]) ((FM.up (by omega)).trans (FM.up (by omega))) FMg.rf (by rw [up_off (by decide), up_at]; rfl) (by rw [up_at]; exact h30)
      · skip
        refine z_aload_n hZ (pc := 24) dX11_readExpression_24 rfl ?_
        refine z_bipush hZ (pc := 25) (v := 40) dX11_readExpression_25 (by decide) ?_
        refine cV_i hZ (pc := 27) dX11_readExpression_27 lk_X11_227 mn_X11_isMarked mv_X11_isMarked (c_X11_isMk (j := 1) hG hM (by decide)) rc_M rfl rfl (Nat.le_of_ble_eq_true rfl) (by omega) (by decide) (Nat.zero_le _) (Nat.zero_le _) ?_
        refine z_if_eq hZ (pc := 30) (tgt := 37) dX11_readExpression_30 rfl (fun c30 => ?_) (fun c30 => ?_)
        · skip
          refine z_iconst hZ (pc := 37) (v := 0) dX11_readExpression_37 (by decide) ?_
          refine q_istore_n_3_2 hZ (pc := 38) dX11_readExpression_38 rfl ?_
          refine z_iload_n hZ (pc := 39) dX11_readExpression_39 rfl ?_
          refine z_if_ne hZ (pc := 40) (tgt := 51) dX11_readExpression_40 rfl (fun c40 => absurd c40 (by decide)) (fun _ => ?_)
          have hcn : canK (K i) = false := by
            rw [canK, decide_eq_false (fun z => c13 (by rw [h28]; exact (tc_2 hG.1 hi).mpr z)), decide_eq_false (show ¬ K i = 4 from bD0 c30)]
            cases hw : isWdK (K i)
            · rfl
            · exact absurd (by rw [h28]; exact (tc_1 hG.1 hi).mpr hw) c21
          refine z_aload_n hZ (pc := 43) dX11_readExpression_43 rfl ?_
          refine z_iconst hZ (pc := 44) (v := 1) dX11_readExpression_44 (by decide) ?_
          refine cV_v hZ (pc := 45) dX11_readExpression_45 lk_X11_230 mn_X11_wrong mv_X11_wrong (c_X11_wrong hb) rc_M rfl rfl (Nat.le_of_ble_eq_true rfl) (by omega) (by decide) (Nat.zero_le _) (Nat.zero_le _) ?_
          have hbad := bad33 (v := v) (c := 1) (x := v 30) (by decide)
          refine z_goto hZ (pc := 48) (tgt := 62) dX11_readExpression_48 rfl ?_
          refine z_aload_n hZ (pc := 62) dX11_readExpression_62 rfl ?_
          refine z_iload_n hZ (pc := 63) dX11_readExpression_63 rfl ?_
          refine cVY hY (pc := 64) dX11_readExpression_64 lk_X11_271 mn_X11_readAnd mv_X11_readAnd (c_X11_readAnd_b hbad) rc_M rfl rfl (Nat.le_of_ble_eq_true rfl) (by omega) (by decide) (Nat.zero_le _) (Nat.zero_le _) (fun v2 g2 r h => ?_)
          obtain ⟨e1, e2, rfl⟩ := h
          subst v2
          subst g2
          refine z_aload_n hZ (pc := 67) dX11_readExpression_67 rfl ?_
          refine z_ldcwS hY (pc := 68) (tx := "or") (q := aK 8) (fun _ _ _ h => h.2.2.1 ("TearsPostModel", 274, "or", 8) (List.mem_of_getElem? (i := 23) (by decide +kernel))) dX11_readExpression_68 ?_
          refine cV_i hZ (pc := 71) dX11_readExpression_71 lk_X11_223 mn_X11_is mv_X11_is (c_X11_is_b hbad) rc_M rfl rfl (Nat.le_of_ble_eq_true rfl) (by omega) (by decide) (Nat.zero_le _) (Nat.zero_le _) ?_
          refine z_if_eq hZ (pc := 74) (tgt := 95) dX11_readExpression_74 rfl (fun _ => ?_) (fun c74 => absurd c74 (by decide))
          refine zr_v hZ (pc := 95) dX11_readExpression_95 ?_
          exact MRp_er (c := 1) (q := i) (by rw [deepM, if_neg (by rw [hcn]; decide)]) ((FM.up (by omega)).trans (FM.up (by omega))) FMg.rf (by rw [up_off (by decide), up_at]; rfl) (by rw [up_at]; exact h30)
        · skip
          refine z_iconst hZ (pc := 33) (v := 1) dX11_readExpression_33 (by decide) ?_
          refine z_goto hZ (pc := 34) (tgt := 38) dX11_readExpression_34 rfl ?_
          refine q_istore_n_3_2 hZ (pc := 38) dX11_readExpression_38 rfl ?_
          refine z_iload_n hZ (pc := 39) dX11_readExpression_39 rfl ?_
          refine z_if_ne hZ (pc := 40) (tgt := 51) dX11_readExpression_40 rfl (fun _ => ?_) (fun c40 => absurd c40 (by decide))
          refine z_iload_n hZ (pc := 51) dX11_readExpression_51 rfl ?_
          refine z_bipush hZ (pc := 52) (v := 6) dX11_readExpression_52 (by decide) ?_
          refine z_icmp_ne hZ (pc := 54) (tgt := 62) dX11_readExpression_54 rfl (fun c54 => ?_) (fun c54 => ?_)
          · skip
            exact absurd rfl c54
          · skip
            have hcy : canK (K i) = true := by rw [canK, decide_eq_true (show K i = 4 from bD1 c30), Bool.true_or, Bool.or_true]
            refine z_aload_n hZ (pc := 57) dX11_readExpression_57 rfl ?_
            refine z_iconst hZ (pc := 58) (v := 2) dX11_readExpression_58 (by decide) ?_
            refine cV_v hZ (pc := 59) dX11_readExpression_59 lk_X11_230 mn_X11_wrong mv_X11_wrong (c_X11_wrong hb) rc_M rfl rfl (Nat.le_of_ble_eq_true rfl) (by omega) (by decide) (Nat.zero_le _) (Nat.zero_le _) ?_
            have hbad := bad33 (v := v) (c := 2) (x := v 30) (by decide)
            refine z_aload_n hZ (pc := 62) dX11_readExpression_62 rfl ?_
            refine z_iload_n hZ (pc := 63) dX11_readExpression_63 rfl ?_
            refine cVY hY (pc := 64) dX11_readExpression_64 lk_X11_271 mn_X11_readAnd mv_X11_readAnd (c_X11_readAnd_b hbad) rc_M rfl rfl (Nat.le_of_ble_eq_true rfl) (by omega) (by decide) (Nat.zero_le _) (Nat.zero_le _) (fun v2 g2 r h => ?_)
            obtain ⟨e1, e2, rfl⟩ := h
            subst v2
            subst g2
            refine z_aload_n hZ (pc := 67) dX11_readExpression_67 rfl ?_
            refine z_ldcwS hY (pc := 68) (tx := "or") (q := aK 8) (fun _ _ _ h => h.2.2.1 ("TearsPostModel", 274, "or", 8) (List.mem_of_getElem? (i := 23) (by decide +kernel))) dX11_readExpression_68 ?_
            refine cV_i hZ (pc := 71) dX11_readExpression_71 lk_X11_223 mn_X11_is mv_X11_is (c_X11_is_b hbad) rc_M rfl rfl (Nat.le_of_ble_eq_true rfl) (by omega) (by decide) (Nat.zero_le _) (Nat.zero_le _) ?_
            refine z_if_eq hZ (pc := 74) (tgt := 95) dX11_readExpression_74 rfl (fun _ => ?_) (fun c74 => absurd c74 (by decide))
            refine zr_v hZ (pc := 95) dX11_readExpression_95 ?_
            exact MRp_er (c := 2) (q := i) (by rw [deepM, if_pos hcy]) ((FM.up (by omega)).trans (FM.up (by omega))) FMg.rf (by rw [up_off (by decide), up_at]; rfl) (by rw [up_at]; exact h30)
  · skip
    exact absurd hb c4
