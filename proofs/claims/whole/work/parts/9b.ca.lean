/-! the city that was read goes into force: the two cities change places -/
def sgo (k : Nat) : Nat := if k = 5 then 6 else if k = 6 then 5 else k
def sga (j : Nat) : Nat := if 17 ≤ j ∧ j < 25 then j + 8 else if 25 ≤ j ∧ j < 33 then j - 8 else j
def sgv (j : Nat) : Nat := if 15 ≤ j ∧ j < 20 then j + 5 else if 20 ≤ j ∧ j < 25 then j - 5 else j
abbrev swO (o : Nat → Nat) : Nat → Nat := fun k => o (sgo k)
abbrev swA (a : Nat → Nat) : Nat → Nat := fun j => a (sga j)
abbrev swV (v : ZV) : ZV := fun j => v (sgv j)
abbrev swG (g : ZG) : ZG := fun j => g (sga j)
theorem va_P.perm {D : va_G} {ws ws' : va_W} {H : Heap} (h : ws.Perm ws') (hP : va_P D vwCl ws H) : va_P D vwCl ws' H := fun k q hq => by
  have hm : q ∈ ws := h.mem_iff.mpr (List.mem_of_getElem? hq)
  obtain ⟨i, hi⟩ := List.getElem?_of_mem hm
  exact hP i q hi
theorem va_D.perm {A : Nat → Prop} {ws ws' : va_W} (h : ws.Perm ws') (hD : va_D A ws) : va_D A ws' := by
  have n1 : (ws.map (·.1)).Nodup := by
    refine List.pairwise_iff_getElem.mpr (fun i j hi hj hij e => ?_)
    rw [List.getElem_map, List.getElem_map] at e
    rw [List.length_map] at hi hj
    have := hD.1 i j _ _ (List.getElem?_eq_getElem hi) (List.getElem?_eq_getElem hj) e
    omega
  have n2 : (ws'.map (·.1)).Nodup := ((h.map (·.1)).nodup_iff).mp n1
  refine ⟨fun i j p q hi hj e => ?_, fun k q hq => ?_⟩
  · have key : ∀ i j (p q : Nat × va_E), ws'[i]? = some p → ws'[j]? = some q → p.1 = q.1 → ¬ i < j := fun i j p q hi hj e hij => by
      obtain ⟨hil, hi⟩ := List.getElem?_eq_some_iff.mp hi
      obtain ⟨hjl, hj⟩ := List.getElem?_eq_some_iff.mp hj
      refine List.pairwise_iff_getElem.mp n2 i j (by rw [List.length_map]; exact hil) (by rw [List.length_map]; exact hjl) hij ?_
      rw [List.getElem_map, List.getElem_map, hi, hj]
      exact e
    have h1 := key i j p q hi hj e
    have h2 := key j i q p hj hi e.symm
    omega
  · obtain ⟨i, hi⟩ := List.getElem?_of_mem (h.mem_iff.mpr (List.mem_of_getElem? hq))
    exact hD.2 i q hi
theorem z_perm {l : Launch} {D : va_G} {cA : Nat → ClassId} {own : String} {cc : ByteArray} {nl k mc ms : Nat} {E : Nat → Nat → va_W → Option Value → Prop} {X : Nat → Nat → va_W → String → Prop} {Z : ZT} {u w pc : Nat} {ws ws' : va_W} {L : List (Option Value)} {st : List Value} (hZ : ZR l D cA own cc nl k mc ms E X Z) (h : ws.Perm ws') (kk : Z u w ws' L st pc) : Z u w ws L st pc := by
  obtain ⟨p, e, s, m, args, below, meth, c, A, Q, ⟨hx, hb, hnl, hown, hev, hK, hA⟩, h1, h2, h3, rfl⟩ := hZ
  intro H locs ls hP hD hS hl
  exact kk H locs ls (va_P.perm h hP) (va_D.perm h hD) hS hl
/-- the cities' references, changed -/
def swW (o a : Nat → Nat) (cA : Nat → ClassId) (v : ZV) (g : ZG) : va_W := ((WC o a cA v g).set 1 (o 1, .inr (5, [.ref (o 2), .ref (o 5), .int (v 2), .int (v 3), .int (v 4), .int (v 5), .int (v 6)]))).set 0 (o 0, .inr (10, [.ref (o 1), .ref (o 3), .ref (o 4), .ref (o 7), .ref (o 8), .ref (o 9), .ref (o 10), .ref (o 11), .ref (o 12), .ref (a 0), .ref (o 6), .int (v 0), .int (v 1)]))
theorem sga_perm : ((List.range 41).map sga).Perm (List.range 41) := by decide +kernel
theorem sga_len : ∀ j, j < 41 → lenC (sga j) = lenC j := by decide +kernel
theorem WCa_sw {a : Nat → Nat} {cA : Nat → ClassId} {g : ZG} : (WCa a cA g).Perm (WCa (swA a) cA (swG g)) := by
  have e : WCa (swA a) cA (swG g) = ((List.range 41).map sga).map (fun j => (a j, .inl (cA 0, lenC j, .inl (g j)))) := by
    rw [List.map_map]
    unfold WCa
    refine List.map_congr_left (fun j hj => ?_)
    show (a (sga j), _) = (a (sga j), _)
    rw [← sga_len j (List.mem_range.mp hj)]
  rw [e]
  exact (sga_perm.symm.map _)
theorem sw_perm {o a : Nat → Nat} {cA : Nat → ClassId} {v : ZV} {g : ZG} : (swW o a cA v g).Perm (WC (swO o) (swA a) cA (swV v) (swG g)) := by
  have e : swW o a cA v g = (((WCo o a v).set 1 (o 1, .inr (5, [.ref (o 2), .ref (o 5), .int (v 2), .int (v 3), .int (v 4), .int (v 5), .int (v 6)]))).set 0 (o 0, .inr (10, [.ref (o 1), .ref (o 3), .ref (o 4), .ref (o 7), .ref (o 8), .ref (o 9), .ref (o 10), .ref (o 11), .ref (o 12), .ref (a 0), .ref (o 6), .int (v 0), .int (v 1)]))) ++ WCa a cA g := rfl
  rw [e]
  refine List.Perm.append ?_ WCa_sw
  exact .cons _ (.cons _ (.cons _ (.cons _ (.cons _ (.swap _ _ _)))))
/-- a draft, in force in the class -/
def DrC (d : Dr) (LL : List Int32) (v : ZV) (g : ZG) : Prop := v 15 = d.H ∧ v 16 = nI d.P ∧ v 17 = nI d.R ∧ v 18 = nI d.A ∧ v 19 = nI LL.length ∧ (∀ p, p < d.P → g 17 p = d.hm p ∧ g 18 p = d.ch p ∧ g 19 p = d.hi p) ∧ (∀ k, k < 100 → g 20 k = d.wk k) ∧ (∀ e, e < d.R → ∃ b, g 21 e = nI b ∧ Seg LL b (d.rs e)) ∧ (∀ e, e < d.A → ∃ b, g 22 e = nI b ∧ Seg LL b (d.as e)) ∧ ∀ k, k < LL.length → g 23 k = LL.getD k 0
/-- what city answers and leaves in the class -/
def CtyP (o a : Nat → Nat) (cA : Nat → ClassId) (v : ZV) (g : ZG) (x : Int32) (T : Nat) : va_W → Option Value → Prop := fun ws r => ∃ n, x = nI n ∧ n ≤ T ∧ ∃ (m : Nat) (K N : Nat → Int32), TK (g 1) n m K N ∧ (∀ i, i ≤ m → K i = 1 → 0 ≤ N i) ∧ ((∃ (c : Int32) (q : Nat) (v2 : ZV) (g2 : ZG), pCity K N 700 true dr0 0 = .er c q ∧ ¬ c = 0 ∧ ws = WC o a cA v2 g2 ∧ r = some (.int c) ∧ v2 0 = nI (tokS (g 1) n q) ∧ v2 1 = v 1 ∧ v2 7 = 0 ∧ (∀ k, ((8 < k ∧ k < 20) ∨ 24 < k) → v2 k = v k) ∧ (∀ k, (k < 2 ∨ (4 < k ∧ k < 25) ∨ 31 < k) → k ≠ 10 → g2 k = g k) ∧ g2 10 = upd (g 10) 0 (g 10 0 + 1)) ∨
  ∃ (j : Nat) (d : Dr) (v2 : ZV) (g2 : ZG), pCity K N 700 true dr0 0 = .ok j d ∧ ws = WC (swO o) (swA a) cA v2 g2 ∧ r = some (.int 0) ∧ DrK d ∧ (∃ L, L.length ≤ 700 ∧ DrC d L v2 g2) ∧ v2 0 = -1 ∧ v2 1 = 0 ∧ v2 7 = 0 ∧ v2 9 = 0 ∧ v2 10 = 0 ∧ v2 11 = 0 ∧ v2 29 = 0 ∧ (∀ k, ((11 < k ∧ k < 15) ∨ (24 < k ∧ k ≠ 29)) → v2 k = v k) ∧ (∀ p, p < 16 → g2 9 p = g2 17 p) ∧ (∀ k, (k < 2 ∨ (4 < k ∧ k < 17) ∨ 32 < k) → k ≠ 9 → g2 k = g k))
theorem c_X10_city {l : Launch} {D : va_G} {cA : Nat → ClassId} {o a : Nat → Nat} {v : ZV} {g : ZG} {aK aV : Nat → Nat} {x : Int32} {T : Nat} (hT : v 7 = nI T) (hT7 : T ≤ 700) : MY l D cA (SC l aK aV) yX10_city cX10_city 4 (some .int) 120 1 6 [.ref (o 0), .int x] (WC o a cA v g) (CtyP o a cA v g x T) (fun En ws => ws = WC o a cA v g ∧ En = sIAE ∧ (x < 0 ∨ nI T < x)) := by
  refine MY.of (by decide) rfl (Nat.le_of_ble_eq_true rfl) (by simp [Value.category]) (fun Z hY => ?_)
  have hZ := hY.toZR
  have hX := hY.toZX (fun _ _ _ h => h.1)
  refine z_iload_n hZ (pc := 0) dX10_city_0 rfl ?_
  refine z_if_lt hZ (pc := 1) (tgt := 18) dX10_city_1 rfl (fun c1 => ?_) (fun c1 => ?_)
  · skip
    exact z_iae hX (pc := 18) (n := 2) (txm_102) dX10_city_18 dX10_city_21 (Or.inl ⟨rfl, dX10_city_22⟩) dX10_city_24 dX10_city_27 (by decide) (Nat.le_of_ble_eq_true rfl) (by decide) (by decide) ⟨rfl, rfl, Or.inl c1⟩
  · skip
    refine z_iload_n hZ (pc := 4) dX10_city_4 rfl ?_
    refine z_aload_n hZ (pc := 5) dX10_city_5 rfl ?_
    refine gC_0_0 hZ (pc := 6) fl_X10_10 dX10_city_6 ?_
    refine gC_1_0 hZ (pc := 9) fl_X10_87 dX10_city_9 ?_
    refine gC_2_1 hZ (pc := 12) fl_X10_91 dX10_city_12 ?_
    refine z_top hT ?_
    refine z_icmp_le hZ (pc := 15) (tgt := 28) dX10_city_15 rfl (fun c15 => ?_) (fun c15 => ?_)
    · skip
      obtain ⟨n, hn31, rfl⟩ := nI_of c1
      have hnT : n ≤ T := (nI_leI hn31 (by omega)).mp c15
      refine z_aload_n hZ (pc := 28) dX10_city_28 rfl ?_
      refine gC_0_0 hZ (pc := 29) fl_X10_10 dX10_city_29 ?_
      refine z_iload_n hZ (pc := 32) dX10_city_32 rfl ?_
      refine cVY hY (pc := 33) dX10_city_33 lk_X10_107 mn_X5_readCity mv_X5_readCity (c_X5_readCity (n := n) (by omega)) rc_1 rfl rfl (Nat.le_of_ble_eq_true rfl) (by decide) (by decide) (by decide) (by decide) (fun v2 g2 r h => ?_)
      obtain ⟨m, K, N, hTK, hf, hf7, hg, h⟩ := h
      have hNn : ∀ i, i ≤ m → K i = 1 → 0 ≤ N i := fun i hi h1 => by
        obtain ⟨w1, w2⟩ := hTK.2.2.2 i (Nat.lt_succ_of_le hi)
        rw [w2]
        exact tN_nn (by rw [← w1]; exact h1)
      have hm7 : m ≤ 700 := by have := hTK.1; omega
      rcases PC.cs (pCity K N 700 true dr0 0) with ⟨c, q, hr⟩ | ⟨j, d, hr⟩
      · skip
        rw [hr] at h
        obtain ⟨rfl, h2, hqm, hc0, h3⟩ := h
        refine q_istore_n_4_2 hZ (pc := 36) dX10_city_36 rfl ?_
        refine z_iload_n hZ (pc := 37) dX10_city_37 rfl ?_
        refine z_if_eq hZ (pc := 38) (tgt := 62) dX10_city_38 rfl (fun c38 => ?_) (fun c38 => ?_)
        · skip
          exact absurd c38 hc0
        · skip
          refine z_aload_n hZ (pc := 41) dX10_city_41 rfl ?_
          refine z_aload_n hZ (pc := 42) dX10_city_42 rfl ?_
          refine gC_0_0 hZ (pc := 43) fl_X10_10 dX10_city_43 ?_
          refine cV_i hZ (pc := 46) dX10_city_46 lk_X10_111 mn_X5_place mv_X5_place (c_X5_place (i := q) h2 (by omega)) rc_1 rfl rfl (Nat.le_of_ble_eq_true rfl) (by decide) (by decide) (by decide) (by decide) ?_
          refine pC_0_11 hZ (pc := 49) fl_X10_79 dX10_city_49 ?_
          refine z_aload_n hZ (pc := 52) dX10_city_52 rfl ?_
          refine gC_0_1 hZ (pc := 53) fl_X10_19 dX10_city_53 ?_
          refine z_iconst hZ (pc := 56) (v := 0) dX10_city_56 (by decide) ?_
          refine cV_v hZ (pc := 57) dX10_city_57 lk_X10_115 mn_X6_countRefused mv_X6_countRefused (c_X6_countRefused (w := 0) (by decide)) rc_3 rfl rfl (Nat.le_of_ble_eq_true rfl) (by decide) (by decide) (by decide) (by decide) ?_
          refine z_iload_n hZ (pc := 60) dX10_city_60 rfl ?_
          exact z_ireturn hZ (pc := 61) dX10_city_61 ⟨by decide, by decide, FitR.int, ⟨fun h => (by cases h), fun h => (by cases h)⟩, n, rfl, hnT, m, K, N, hTK, hNn, Or.inl ⟨c, q, _, _, hr, hc0, rfl, rfl, h3, (hf 1 (by decide)), hf7, fun k hk => by rw [up_off (by omega)]; exact hf k (by omega), fun k hk hk2 => by rw [up_off hk2]; exact hg k (by omega), by rw [up_at, hg 10 (by decide)]⟩⟩
      rw [hr] at h
      obtain ⟨rfl, hDK, LL, hLL, hCd, hDA⟩ := h
      obtain ⟨v5, ev5⟩ : ∃ v5 : ZV, v5 = v2 := ⟨_, rfl⟩
      obtain ⟨g5, eg5⟩ : ∃ g5 : ZG, g5 = g2 := ⟨_, rfl⟩
      subst v2
      subst g2
      refine q_istore_n_4_2 hZ (pc := 36) dX10_city_36 rfl ?_
      refine z_iload_n hZ (pc := 37) dX10_city_37 rfl ?_
      refine z_if_eq hZ (pc := 38) (tgt := 62) dX10_city_38 rfl (fun _ => ?_) (fun c38 => absurd c38 (by decide))
      refine z_aload_n hZ (pc := 62) dX10_city_62 rfl ?_
      refine gC_0_0 hZ (pc := 63) fl_X10_10 dX10_city_63 ?_
      refine gC_1_1 hZ (pc := 66) fl_X10_118 dX10_city_66 ?_
      refine q_astore_n_4_3 hZ (pc := 69) dX10_city_69 rfl ?_
      refine z_aload_n hZ (pc := 70) dX10_city_70 rfl ?_
      refine gC_0_0 hZ (pc := 71) fl_X10_10 dX10_city_71 ?_
      refine z_aload_n hZ (pc := 74) dX10_city_74 rfl ?_
      refine gC_0_10 hZ (pc := 75) fl_X10_75 dX10_city_75 ?_
      have hDC : DrC d LL (va_up (va_up (va_up (va_up (va_up (va_up (swV v5) 0 (-1)) 9 0) 10 0) 11 0) 29 0) 1 0) (va_up (swG g5) 9 (cpyf 16 (swG g5 17) (swG g5 9))) := by
        obtain ⟨w1, w2, w3, w4, w5, w6, w7, w8⟩ := hDA
        exact ⟨w1, w2, w3, w4, hCd.1, w5, w6, w7, w8, hCd.2⟩
      have hvk : ∀ k, ((11 < k ∧ k < 15) ∨ (24 < k ∧ k ≠ 29)) → (va_up (va_up (va_up (va_up (va_up (va_up (swV v5) 0 (-1)) 9 0) 10 0) 11 0) 29 0) 1 0) k = v k := fun k hk => by
        rw [up_off (by omega), up_off (by omega), up_off (by omega), up_off (by omega), up_off (by omega), up_off (by omega)]
        show v5 (sgv k) = v k
        rw [show sgv k = k by unfold sgv; rw [if_neg (by omega), if_neg (by omega)]]
        exact hf k (by omega)
      have hg9 : ∀ p, p < 16 → (va_up (swG g5) 9 (cpyf 16 (swG g5 17) (swG g5 9))) 9 p = (va_up (swG g5) 9 (cpyf 16 (swG g5 17) (swG g5 9))) 17 p := fun p hp => by
        show cpyf 16 (swG g5 17) (swG g5 9) p = swG g5 17 p
        simp [cpyf, hp]
      have hgk : ∀ k, (k < 2 ∨ (4 < k ∧ k < 17) ∨ 32 < k) → k ≠ 9 → (va_up (swG g5) 9 (cpyf 16 (swG g5 17) (swG g5 9))) k = g k := fun k hk hk9 => by
        rw [up_off hk9]
        show g5 (sga k) = g k
        rw [show sga k = k by unfold sga; rw [if_neg (by omega), if_neg (by omega)]]
        exact hg k (by omega)
      refine z_putf hZ (pc := 78) cf_X5 fl_X10_118 (by decide) rfl rfl rfl (Nat.le_of_ble_eq_true rfl) dX10_city_78 (q0 := 1) rfl rfl ?_
      refine z_aload_n hZ (pc := 81) dX10_city_81 rfl ?_
      refine z_aload_n hZ (pc := 82) dX10_city_82 rfl ?_
      refine z_putf hZ (pc := 83) cf_X10 fl_X10_75 (by decide) rfl rfl rfl (Nat.le_of_ble_eq_true rfl) dX10_city_83 (q0 := 0) rfl (show _ = swW o a cA v5 g5 from rfl) ?_
      refine z_perm hZ sw_perm ?_
      refine z_aload_n hZ (pc := 86) dX10_city_86 rfl ?_
      refine z_iconst hZ (pc := 87) (v := (-1)) dX10_city_87 (by decide) ?_
      refine pC_0_11 hZ (pc := 88) fl_X10_79 dX10_city_88 ?_
      refine z_aload_n hZ (pc := 91) dX10_city_91 rfl ?_
      refine gC_0_1 hZ (pc := 92) fl_X10_19 dX10_city_92 ?_
      refine z_aload_n hZ (pc := 95) dX10_city_95 rfl ?_
      refine cV_v hZ (pc := 96) dX10_city_96 lk_X10_121 mn_X6_startAnew mv_X6_startAnew (c_X6_startAnew (o := swO o) (a := swA a)) rc_3 rfl rfl (Nat.le_of_ble_eq_true rfl) (by decide) (by decide) (by decide) (by decide) ?_
      refine z_aload_n hZ (pc := 99) dX10_city_99 rfl ?_
      refine gC_0_5 hZ (pc := 100) fl_X10_43 dX10_city_100 ?_
      refine z_iconst hZ (pc := 103) (v := 0) dX10_city_103 (by decide) ?_
      refine pC_9_0 hZ (pc := 104) fl_X10_125 dX10_city_104 ?_
      refine z_aload_n hZ (pc := 107) dX10_city_107 rfl ?_
      refine z_iconst hZ (pc := 108) (v := 0) dX10_city_108 (by decide) ?_
      refine pC_0_12 hZ (pc := 109) fl_X10_83 dX10_city_109 (by decide) (by decide) ?_
      refine z_iconst hZ (pc := 112) (v := 0) dX10_city_112 (by decide) ?_
      exact z_ireturn hZ (pc := 113) dX10_city_113 ⟨by decide, by decide, FitR.int, ⟨fun h => (by cases h), fun h => (by cases h)⟩, n, rfl, hnT, m, K, N, hTK, hNn, Or.inr ⟨j, d, (va_up (va_up (va_up (va_up (va_up (va_up (swV v5) 0 (-1)) 9 0) 10 0) 11 0) 29 0) 1 0), (va_up (swG g5) 9 (cpyf 16 (swG g5 17) (swG g5 9))), hr, rfl, rfl, hDK, ⟨LL, hLL, hDC⟩, rfl, rfl, hf7, rfl, rfl, rfl, rfl, hvk, hg9, hgk⟩⟩
    · skip
      exact z_iae hX (pc := 18) (n := 2) (txm_102) dX10_city_18 dX10_city_21 (Or.inl ⟨rfl, dX10_city_22⟩) dX10_city_24 dX10_city_27 (by decide) (Nat.le_of_ble_eq_true rfl) (by decide) (by decide) ⟨rfl, rfl, Or.inr (Int32.not_le.mp c15)⟩
