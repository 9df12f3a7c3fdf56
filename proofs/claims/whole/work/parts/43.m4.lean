theorem c_X11_most {l : Launch} {D : va_G} {cA : Nat → ClassId} {r : Nat} {a : Nat → Nat} {s0 s1 : Nat → Option Nat} {v : ZV} {g : ZG} {x y : Nat} (hx : x ≤ 99) (hy : y ≤ 99) : MG l D cA (WM r a cA s0 s1) yX11_most cX11_most 2 (some .int) 1 [.int (encN x), .int (encN y)] v g (PF v g (some (.int (encN (max x y))))) := by
  refine MG.of (by decide) rfl (Nat.le_of_ble_eq_true rfl) (by simp [Value.category]) (fun Z hZ => ?_)
  refine z_iload_n hZ (pc := 0) dX11_most_0 rfl ?_
  refine z_iconst hZ (pc := 1) (v := (-1)) dX11_most_1 (by decide) ?_
  refine z_icmp_eq hZ (pc := 2) (tgt := 10) dX11_most_2 rfl (fun c2 => ?_) (fun c2 => ?_)
  · skip
    refine z_iconst hZ (pc := 10) (v := (-1)) dX11_most_10 (by decide) ?_
    refine z_goto hZ (pc := 11) (tgt := 19) dX11_most_11 rfl ?_
    refine zr_i hZ (pc := 19) dX11_most_19 FitR.int ?_
    have h := encN_m1.mp c2
    exact ⟨rfl, rfl, by rw [encN_no (by omega)]⟩
  · skip
    refine z_iload_n hZ (pc := 5) dX11_most_5 rfl ?_
    refine z_iconst hZ (pc := 6) (v := (-1)) dX11_most_6 (by decide) ?_
    refine z_icmp_ne hZ (pc := 7) (tgt := 14) dX11_most_7 rfl (fun c7 => ?_) (fun c7 => ?_)
    · skip
      have hx9 : x < 99 := by
        rcases Nat.lt_or_ge x 99 with q | q
        · exact q
        · exact absurd (encN_m1.mpr q) c2
      have hy9 : y < 99 := by
        rcases Nat.lt_or_ge y 99 with q | q
        · exact q
        · exact absurd (encN_m1.mpr q) c7
      refine z_iload_n hZ (pc := 14) dX11_most_14 rfl ?_
      refine z_iload_n hZ (pc := 15) dX11_most_15 rfl ?_
      refine z_max hZ (pc := 16) dX11_most_16 (List.mem_of_getElem? (i := 1630) (by decide +kernel)) (List.mem_of_getElem? (i := 1066) (by decide +kernel)) (List.mem_of_getElem? (i := 135) (by decide +kernel)) (List.mem_of_getElem? (i := 1067) (by decide +kernel)) (Nat.le_of_ble_eq_true rfl) (by decide) (Nat.zero_le _) (Nat.zero_le _) ?_
      refine zr_i hZ (pc := 19) dX11_most_19 FitR.int ?_
      exact ⟨rfl, rfl, by rw [encN_ne hx9, encN_ne hy9, nI_max x y (by omega) (by omega), encN_ne (by omega)]⟩
    · skip
      refine z_iconst hZ (pc := 10) (v := (-1)) dX11_most_10 (by decide) ?_
      refine z_goto hZ (pc := 11) (tgt := 19) dX11_most_11 rfl ?_
      refine zr_i hZ (pc := 19) dX11_most_19 FitR.int ?_
      have h := encN_m1.mp c7
      exact ⟨rfl, rfl, by rw [encN_no (by omega)]⟩
theorem c_X11_askBy {l : Launch} {D : va_G} {cA : Nat → ClassId} {r : Nat} {a : Nat → Nat} {s0 s1 : Nat → Option Nat} {v : ZV} {g : ZG} {s k : Nat} {ans R : Nat → Nat} (hs : s < 1024) (hk : k < 6) (hA : g 45 k = nI (ans k)) (hF : ∀ t, t < s → g 46 t = encN (R t)) (hR : ∀ t, R t ≤ 99) (hR2 : ∀ t, t < s → R t = 99 ∨ R t ≤ 10) : MG l D cA (WM r a cA s0 s1) yX11_askBy cX11_askBy 5 (some .int) 2 [(.ref r), .int (nI s), .int (nI k)] v g (PF v g (some (.int (encN (byN ans R s k))))) := by
  refine MG.of (by decide) rfl (Nat.le_of_ble_eq_true rfl) (by simp [Value.category]) (fun Z hZ => ?_)
  obtain ⟨y, hy⟩ : ∃ y, y = s &&& ans k := ⟨_, rfl⟩
  obtain ⟨z, hz⟩ : ∃ z, z = s ^^^ (s &&& ans k) := ⟨_, rfl⟩
  have hys : y ≤ s := by rw [hy]; exact Nat.and_le_left
  have hzs : z ≤ s := by rw [hz, xor_part]; exact Nat.and_le_left
  refine z_iload_n hZ (pc := 0) dX11_askBy_0 rfl ?_
  refine z_aload_n hZ (pc := 1) dX11_askBy_1 rfl ?_
  refine gM_45 hZ (pc := 2) fl_X11_117 dX11_askBy_2 ?_
  refine z_iload_n hZ (pc := 5) dX11_askBy_5 rfl ?_
  refine lMn_45 hZ (pc := 6) dX11_askBy_6 hk ?_
  refine z_top hA ?_
  refine z_iand hZ (pc := 7) dX11_askBy_7 ?_
  refine z_top (y := nI y) (by rw [hy]; exact fa_and _ _) ?_
  refine q_istore_n_5_3 hZ (pc := 8) dX11_askBy_8 rfl ?_
  refine z_iload_n hZ (pc := 9) dX11_askBy_9 rfl ?_
  refine z_if_eq hZ (pc := 10) (tgt := 18) dX11_askBy_10 rfl (fun c10 => ?_) (fun c10 => ?_)
  · skip
    refine z_iconst hZ (pc := 18) (v := (-1)) dX11_askBy_18 (by decide) ?_
    refine zr_i hZ (pc := 19) dX11_askBy_19 FitR.int ?_
    have h0 : y = 0 := by
      rcases Nat.eq_zero_or_pos y with q | q
      · exact q
      · exact absurd c10 (nI_ne0 q (by omega))
    exact ⟨rfl, rfl, by rw [byN, if_pos (Or.inl (hy ▸ h0))]; rfl⟩
  · skip
    refine z_iload_n hZ (pc := 13) dX11_askBy_13 rfl ?_
    refine z_iload_n hZ (pc := 14) dX11_askBy_14 rfl ?_
    refine z_icmp_ne hZ (pc := 15) (tgt := 20) dX11_askBy_15 rfl (fun c15 => ?_) (fun c15 => ?_)
    · skip
      have hy0 : y ≠ 0 := fun q => c10 (by rw [q]; rfl)
      have hny : y ≠ s := fun q => c15 (by rw [q])
      have hy1 : y < s := by omega
      have hz1 : z < s := by rw [hz]; exact xor_lt (by rw [← hy]; exact hy0)
      have hRy := hR y
      have hRz := hR z
      have eby : byN ans R s k = 1 + max (R y) (R z) := by rw [byN, if_neg (by rw [← hy]; omega), ← hz, ← hy]
      have h98 := hR2 y hy1
      have h97 := hR2 z hz1
      refine z_aload_n hZ (pc := 20) dX11_askBy_20 rfl ?_
      refine gM_46 hZ (pc := 21) fl_X11_120 dX11_askBy_21 ?_
      refine z_iload_n hZ (pc := 24) dX11_askBy_24 rfl ?_
      refine lMn_46 hZ (pc := 25) dX11_askBy_25 (show y < 1024 by omega) ?_
      refine z_top (hF y hy1) ?_
      refine z_aload_n hZ (pc := 26) dX11_askBy_26 rfl ?_
      refine gM_46 hZ (pc := 27) fl_X11_120 dX11_askBy_27 ?_
      refine z_iload_n hZ (pc := 30) dX11_askBy_30 rfl ?_
      refine z_iload_n hZ (pc := 31) dX11_askBy_31 rfl ?_
      refine z_iconst hZ (pc := 32) (v := (-1)) dX11_askBy_32 (by decide) ?_
      refine z_ixor hZ (pc := 33) dX11_askBy_33 ?_
      refine z_iand hZ (pc := 34) dX11_askBy_34 ?_
      refine z_top (y := nI z) (by rw [hy, hz]; exact bit_rest _ _) ?_
      refine lMn_46 hZ (pc := 35) dX11_askBy_35 (show z < 1024 by omega) ?_
      refine z_top (hF z hz1) ?_
      refine cS_i hZ (pc := 36) dX11_askBy_36 lk_X11_385 mn_X11_most ms_X11_most (c_X11_most (hR y) (hR z)) rfl rfl (Nat.le_of_ble_eq_true rfl) (by decide) (by decide) (Nat.zero_le _) (Nat.zero_le _) ?_
      refine q_istore_5_4 hZ (pc := 39) dX11_askBy_39 rfl ?_
      refine z_iload hZ (pc := 41) dX11_askBy_41 rfl ?_
      refine z_iconst hZ (pc := 43) (v := (-1)) dX11_askBy_43 (by decide) ?_
      refine z_icmp_ne hZ (pc := 44) (tgt := 51) dX11_askBy_44 rfl (fun c44 => ?_) (fun c44 => ?_)
      · skip
        refine z_iload hZ (pc := 51) dX11_askBy_51 rfl ?_
        refine z_iconst hZ (pc := 53) (v := 1) dX11_askBy_53 (by decide) ?_
        refine z_iadd hZ (pc := 54) dX11_askBy_54 ?_
        refine zr_i hZ (pc := 55) dX11_askBy_55 FitR.int ?_
        have h : max (R y) (R z) < 99 := by
          rcases Nat.lt_or_ge (max (R y) (R z)) 99 with q | q
          · exact q
          · exact absurd (encN_m1.mpr q) c44
        exact ⟨rfl, rfl, by rw [eby, encN_ne h, encN_ne (by omega), nI_1, Nat.add_comm]⟩
      · skip
        refine z_iconst hZ (pc := 47) (v := (-1)) dX11_askBy_47 (by decide) ?_
        refine z_goto hZ (pc := 48) (tgt := 55) dX11_askBy_48 rfl ?_
        refine zr_i hZ (pc := 55) dX11_askBy_55 FitR.int ?_
        have h := encN_m1.mp c44
        exact ⟨rfl, rfl, by rw [eby, encN_no (by omega)]⟩
    · skip
      refine z_iconst hZ (pc := 18) (v := (-1)) dX11_askBy_18 (by decide) ?_
      refine zr_i hZ (pc := 19) dX11_askBy_19 FitR.int ?_
      have h0 : y = s := (nI_eq (by omega) (by omega)).mp c15
      exact ⟨rfl, rfl, by rw [byN, if_pos (Or.inr (hy ▸ h0))]; rfl⟩
theorem upd_twice {f : Nat → Int32} {k : Nat} {x y : Int32} : upd (upd f k x) k y = upd f k y := by
  funext j
  by_cases h : j = k <;> simp [upd, h]
/-- what an ask answers of the houses, as bits -/
def ansM (g : ZG) (n : Nat) (ops : Nat → Nat → Int32) (m : Nat → Nat) (e k : Nat) : Bool := holdE (valsH (g 13) (g 16) (g 15) (g 17) (g 7) k (cbS (g 18) (g 14) (g 15) (nI k) (if n = 0 then 0 else g 15 (n - 1)) n)) ops m (4 + e)
def ansB (g : ZG) (n : Nat) (ops : Nat → Nat → Int32) (m : Nat → Nat) (H e : Nat) : Nat := bitN (ansM g n ops m e) H
theorem ansB_lt {g : ZG} {n : Nat} {ops : Nat → Nat → Int32} {m : Nat → Nat} {H e : Nat} (h10 : H ≤ 10) : ansB g n ops m H e < 1024 := Nat.lt_of_lt_of_le (bitN_lt _ _) (Nat.pow_le_pow_right (n := 2) (by omega) h10)
theorem ansM_mv {g g' : ZG} {n : Nat} {ops : Nat → Nat → Int32} {m : Nat → Nat} {e k : Nat} (h : ∀ j, j ≠ 37 → j ≠ 36 → j ≠ 45 → g' j = g j) : ansM g' n ops m e k = ansM g n ops m e k := by
  unfold ansM
  rw [h 13 (by decide) (by decide) (by decide), h 16 (by decide) (by decide) (by decide), h 15 (by decide) (by decide) (by decide), h 17 (by decide) (by decide) (by decide), h 7 (by decide) (by decide) (by decide), h 18 (by decide) (by decide) (by decide), h 14 (by decide) (by decide) (by decide)]
theorem encN_min {w x : Nat} (hw : w ≤ 99) (h : 99 ≤ x ∨ x ≤ 11) : encN (min w x) = if encN x = -1 then encN w else if encN w = -1 then encN x else if encN x < encN w then encN x else encN w := by
  by_cases h1 : 99 ≤ x
  · rw [if_pos (encN_m1.mpr h1), Nat.min_eq_left (by omega)]
  · rw [if_neg (fun q => h1 (encN_m1.mp q))]
    by_cases h2 : 99 ≤ w
    · rw [if_pos (encN_m1.mpr h2), Nat.min_eq_right (by omega)]
    · rw [if_neg (fun q => h2 (encN_m1.mp q)), encN_ne (x := x) (by omega), encN_ne (x := w) (by omega), nI_min w x (by omega) (by omega), encN_ne (by omega)]
theorem c_X11_tellAsks {l : Launch} {D : va_G} {cA : Nat → ClassId} {r : Nat} {a : Nat → Nat} {s0 s1 : Nat → Option Nat} {v : ZV} {g : ZG} {n R A H : Nat} {ops : Nat → Nat → Int32} {m : Nat → Nat} (hn : v 12 = nI n) (h2 : n ≤ 200) (hco : ∀ t, t < n → g 18 t = 0 ∨ g 18 t = 1) (hX : ExM g R A ops m) (hwo : ∀ t, t < n → ∃ p, p < 16 ∧ g 13 t = nI p) (hhi : ∀ p, p < 16 → g 7 p = 0 ∨ g 7 p = 1) (hH : g 3 0 = nI H) (h10 : H ≤ 10) : MG l D cA (WM r a cA s0 s1) yX11_tellAsks cX11_tellAsks 4 none 3 [(.ref r)] v g (fun v2 g2 r => v2 = v ∧ (∀ j, j ≠ 37 → j ≠ 36 → j ≠ 45 → j ≠ 46 → g2 j = g j) ∧ (∀ k, k < A → g2 45 k = nI (ansB g n ops m H k)) ∧ (∀ t, t < 2 ^ H → g2 46 t = encN (fw (ansB g n ops m H) A t)) ∧ r = none) := by
  refine MG.of (by decide) rfl (Nat.le_of_ble_eq_true rfl) (by simp [Value.category]) (fun Z hZ => ?_)
  obtain ⟨b, hR, hA, hR4, hA6, hE⟩ := id hX
  have h1024 : 2 ^ H ≤ 1024 := Nat.pow_le_pow_right (n := 2) (by omega) h10
  refine z_iconst hZ (pc := 0) (v := 0) dX11_tellAsks_0 (by decide) ?_
  refine q_istore_n_4_1 hZ (pc := 1) dX11_tellAsks_1 rfl ?_
  have lp2 : ∀ (f i : Nat) (g1 : ZG), i ≤ A → A - i < f → (∀ j, j ≠ 37 → j ≠ 36 → j ≠ 45 → g1 j = g j) → (∀ k, k < i → g1 45 k = nI ((ansB g n ops m H) k)) → Z 0 0 (WM r a cA s0 s1 v g1) [some (.ref r), some (.int (nI i)), none, none] [] 2 := by
    intro f
    induction f with
    | zero => intro i _ _ hf; exact absurd hf (Nat.not_lt_zero _)
    | succ f ih2 =>
      intro i g1 hi hf hg1 hY
      refine z_iload_n hZ (pc := 2) dX11_tellAsks_2 rfl ?_
      refine z_aload_n hZ (pc := 3) dX11_tellAsks_3 rfl ?_
      refine gM_3 hZ (pc := 4) fl_X11_40 dX11_tellAsks_4 ?_
      refine z_iconst hZ (pc := 7) (v := 3) dX11_tellAsks_7 (by decide) ?_
      refine lMn_3 hZ (pc := 8) (q := 3) dX11_tellAsks_8 (by decide) ?_
      refine z_top (y := nI A) (by rw [hg1 3 (by decide) (by decide) (by decide)]; exact hA) ?_
      refine z_icmp_ge hZ (pc := 9) (tgt := 68) dX11_tellAsks_9 rfl (fun c9 => ?_) (fun c9 => ?_)
      · skip
        have ei : i = A := lp_ge rfl (by omega) hi c9
        subst ei
        refine z_iconst hZ (pc := 68) (v := 0) dX11_tellAsks_68 (by decide) ?_
        refine q_istore_n_4_1 hZ (pc := 69) dX11_tellAsks_69 rfl ?_
        have lp70 : ∀ (f s : Nat) (T : Nat → Int32), s ≤ 2 ^ H → 2 ^ H - s < f → (∀ t, t < s → T t = encN (fw (ansB g n ops m H) i t)) → Z 0 0 (WM r a cA s0 s1 v (va_up g1 46 T)) [some (.ref r), some (.int (nI s)), none, none] [] 70 := by
          intro f
          induction f with
          | zero => intro s _ _ hf; exact absurd hf (Nat.not_lt_zero _)
          | succ f ih70 =>
            intro s T hs hfs hT
            refine z_iload_n hZ (pc := 70) dX11_tellAsks_70 rfl ?_
            refine z_iconst hZ (pc := 71) (v := 1) dX11_tellAsks_71 (by decide) ?_
            refine z_aload_n hZ (pc := 72) dX11_tellAsks_72 rfl ?_
            refine gM_3 hZ (pc := 73) fl_X11_40 dX11_tellAsks_73 ?_
            refine z_iconst hZ (pc := 76) (v := 0) dX11_tellAsks_76 (by decide) ?_
            refine lMn_3 hZ (pc := 77) (q := 0) dX11_tellAsks_77 (by decide) ?_
            refine z_top (y := nI H) (by rw [up_off (by decide), hg1 3 (by decide) (by decide) (by decide)]; exact hH) ?_
            refine z_ishl hZ (pc := 78) dX11_tellAsks_78 ?_
            refine z_top (y := nI (2 ^ H)) (sh_one H (by omega)) ?_
            refine z_icmp_ge hZ (pc := 79) (tgt := 172) dX11_tellAsks_79 rfl (fun c79 => ?_) (fun c79 => ?_)
            · skip
              have es : s = 2 ^ H := lp_ge rfl (by omega) hs c79
              subst es
              refine zr_v hZ (pc := 172) dX11_tellAsks_172 ?_
              exact ⟨rfl, fun j h1 h2 h3 h4 => (up_off h4).trans (hg1 j h1 h2 h3), fun k hk => by rw [up_off (by decide)]; exact hY k hk, fun t ht => by rw [up_at]; exact hT t ht, rfl⟩
            · skip
              have hls : s < 2 ^ H := lp_lt rfl (by omega) hs c79
              have hps := popc_le s
              refine z_aload_n hZ (pc := 82) dX11_tellAsks_82 rfl ?_
              have join101 : Z 0 0 (WM r a cA s0 s1 v (va_up g1 46 (upd T s (encN (if popc s ≤ 1 then 0 else minN (byN (ansB g n ops m H) (fw (ansB g n ops m H) i) s) 0))))) [some (.ref r), some (.int (nI s)), none, none] [] 101 := by
                refine z_iconst hZ (pc := 101) (v := 0) dX11_tellAsks_101 (by decide) ?_
                refine q_istore_n_4_2 hZ (pc := 102) dX11_tellAsks_102 rfl ?_
                have lp103 : ∀ (f q : Nat), q ≤ i → i - q < f → Z 0 0 (WM r a cA s0 s1 v (va_up g1 46 (upd T s (encN (if popc s ≤ 1 then 0 else minN (byN (ansB g n ops m H) (fw (ansB g n ops m H) i) s) q))))) [some (.ref r), some (.int (nI s)), some (.int (nI q)), none] [] 103 := by
                  intro f
                  induction f with
                  | zero => intro q _ hf; exact absurd hf (Nat.not_lt_zero _)
                  | succ f ih103 =>
                    intro q hq hfq
                    refine z_iload_n hZ (pc := 103) dX11_tellAsks_103 rfl ?_
                    refine z_aload_n hZ (pc := 104) dX11_tellAsks_104 rfl ?_
                    refine gM_3 hZ (pc := 105) fl_X11_40 dX11_tellAsks_105 ?_
                    refine z_iconst hZ (pc := 108) (v := 3) dX11_tellAsks_108 (by decide) ?_
                    refine lMn_3 hZ (pc := 109) (q := 3) dX11_tellAsks_109 (by decide) ?_
                    refine z_top (y := nI i) (by rw [up_off (by decide), hg1 3 (by decide) (by decide) (by decide)]; exact hA) ?_
                    refine z_icmp_ge hZ (pc := 110) (tgt := 166) dX11_tellAsks_110 rfl (fun c110 => ?_) (fun c110 => ?_)
                    · skip
                      have eq : q = i := lp_ge rfl (by omega) hq c110
                      subst eq
                      have efw : (if popc s ≤ 1 then 0 else minN (byN (ansB g n ops m H) (fw (ansB g n ops m H) q) s) q) = fw (ansB g n ops m H) q s := (fw_eq _ _ _).symm
                      refine q_iinc_4_1 hZ (pc := 166) dX11_tellAsks_166 rfl ?_
                      refine z_goto hZ (pc := 169) (tgt := 70) dX11_tellAsks_169 rfl ?_
                      exact z_back hZ (ih70 (s + 1) (upd T s (encN (fw (ansB g n ops m H) q s))) (by omega) (by omega) (lt_s (fun t ht => by rw [upd_off (by omega)]; exact hT t ht) upd_at)) (WM_eq rfl (by rw [efw])) ⟨rfl, zi (nI_inc s), trivial⟩
                    · skip
                      have hlq : q < i := lp_lt rfl (by omega) hq c110
                      refine z_iload_n hZ (pc := 113) dX11_tellAsks_113 rfl ?_
                      refine cS_i hZ (pc := 114) dX11_tellAsks_114 lk_X11_347 mn_X11_bitsOf ms_X11_bitsOf (c_X11_bitsOf (b := s) (by omega)) rfl rfl (Nat.le_of_ble_eq_true rfl) (by decide) (by decide) (Nat.zero_le _) (Nat.zero_le _) ?_
                      refine z_iconst hZ (pc := 117) (v := 1) dX11_tellAsks_117 (by decide) ?_
                      refine z_icmp_le hZ (pc := 118) (tgt := 166) dX11_tellAsks_118 rfl (fun c118 => ?_) (fun c118 => ?_)
                      · skip
                        have hp1 : popc s ≤ 1 := (nI_leI (a := popc s) (b := 1) (by omega) (by omega)).mp c118
                        have efw : (if popc s ≤ 1 then 0 else minN (byN (ansB g n ops m H) (fw (ansB g n ops m H) i) s) q) = fw (ansB g n ops m H) i s := by rw [fw_eq, if_pos hp1, if_pos hp1]
                        refine q_iinc_4_1 hZ (pc := 166) dX11_tellAsks_166 rfl ?_
                        refine z_goto hZ (pc := 169) (tgt := 70) dX11_tellAsks_169 rfl ?_
                        exact z_back hZ (ih70 (s + 1) (upd T s (encN (fw (ansB g n ops m H) i s))) (by omega) (by omega) (lt_s (fun t ht => by rw [upd_off (by omega)]; exact hT t ht) upd_at)) (WM_eq rfl (by rw [efw])) ⟨rfl, zi (nI_inc s), trivial⟩
                      · skip
                        have hpc : ¬ popc s ≤ 1 := fun z => c118 (nI_le (b := 1) z (by omega))
                        have hmq := minN_le (byN (ansB g n ops m H) (fw (ansB g n ops m H) i) s) q
                        have hby := byN_or (ans := (ansB g n ops m H)) (A := i) (s := s) (k := q) (by omega)
                        have hem := encN_min hmq hby
                        refine z_aload_n hZ (pc := 121) dX11_tellAsks_121 rfl ?_
                        refine z_iload_n hZ (pc := 122) dX11_tellAsks_122 rfl ?_
                        refine z_iload_n hZ (pc := 123) dX11_tellAsks_123 rfl ?_
                        refine cV_i hZ (pc := 124) dX11_tellAsks_124 lk_X11_382 mn_X11_askBy mv_X11_askBy (c_X11_askBy (s := s) (k := q) (ans := ansB g n ops m H) (R := fw (ansB g n ops m H) i) (by omega) (by omega) (hY q hlq) (fun t ht => by rw [up_at, upd_off (by omega)]; exact hT t ht) (fw_le _ _) (fun t ht => by
                          have h1 := fw_or (ansB g n ops m H) i t (by omega)
                          have h2 := popc_le t
                          omega)) rc_M rfl rfl (Nat.le_of_ble_eq_true rfl) (by decide) (by decide) (Nat.zero_le _) (Nat.zero_le _) ?_
                        refine q_istore_n_4_3 hZ (pc := 127) dX11_tellAsks_127 rfl ?_
                        refine z_iload_n hZ (pc := 128) dX11_tellAsks_128 rfl ?_
                        refine z_iconst hZ (pc := 129) (v := (-1)) dX11_tellAsks_129 (by decide) ?_
                        refine z_icmp_eq hZ (pc := 130) (tgt := 160) dX11_tellAsks_130 rfl (fun c130 => ?_) (fun c130 => ?_)
                        · skip
                          refine q_iinc_4_2 hZ (pc := 160) dX11_tellAsks_160 rfl ?_
                          refine z_goto hZ (pc := 163) (tgt := 103) dX11_tellAsks_163 rfl ?_
                          exact z_back hZ (ih103 (q + 1) (by omega) (by omega)) (WM_eq rfl (by rw [if_neg hpc, if_neg hpc, minN, hem, if_pos c130])) ⟨rfl, rfl, zi (nI_inc q), trivial⟩
                        · skip
                          refine z_aload_n hZ (pc := 133) dX11_tellAsks_133 rfl ?_
                          refine gM_46 hZ (pc := 134) fl_X11_120 dX11_tellAsks_134 ?_
                          refine z_iload_n hZ (pc := 137) dX11_tellAsks_137 rfl ?_
                          refine lMn_46 hZ (pc := 138) dX11_tellAsks_138 (show s < 1024 by omega) ?_
                          refine z_top (y := encN (minN (byN (ansB g n ops m H) (fw (ansB g n ops m H) i) s) q)) (by rw [up_at, upd_at, if_neg hpc]) ?_
                          refine z_iconst hZ (pc := 139) (v := (-1)) dX11_tellAsks_139 (by decide) ?_
                          refine z_icmp_eq hZ (pc := 140) (tgt := 153) dX11_tellAsks_140 rfl (fun c140 => ?_) (fun c140 => ?_)
                          · skip
                            refine z_aload_n hZ (pc := 153) dX11_tellAsks_153 rfl ?_
                            refine gM_46 hZ (pc := 154) fl_X11_120 dX11_tellAsks_154 ?_
                            refine z_iload_n hZ (pc := 157) dX11_tellAsks_157 rfl ?_
                            refine z_iload_n hZ (pc := 158) dX11_tellAsks_158 rfl ?_
                            refine sMn_46 hZ (pc := 159) dX11_tellAsks_159 (show s < 1024 by omega) ?_
                            refine q_iinc_4_2 hZ (pc := 160) dX11_tellAsks_160 rfl ?_
                            refine z_goto hZ (pc := 163) (tgt := 103) dX11_tellAsks_163 rfl ?_
                            exact z_back hZ (ih103 (q + 1) (by omega) (by omega)) (WM_eq rfl (by rw [up_twice, up_at, upd_twice, if_neg hpc, minN, hem, if_neg c130, if_pos c140])) ⟨rfl, rfl, zi (nI_inc q), trivial⟩
                          · skip
                            refine z_iload_n hZ (pc := 143) dX11_tellAsks_143 rfl ?_
                            refine z_aload_n hZ (pc := 144) dX11_tellAsks_144 rfl ?_
                            refine gM_46 hZ (pc := 145) fl_X11_120 dX11_tellAsks_145 ?_
                            refine z_iload_n hZ (pc := 148) dX11_tellAsks_148 rfl ?_
                            refine lMn_46 hZ (pc := 149) dX11_tellAsks_149 (show s < 1024 by omega) ?_
                            refine z_top (y := encN (minN (byN (ansB g n ops m H) (fw (ansB g n ops m H) i) s) q)) (by rw [up_at, upd_at, if_neg hpc]) ?_
                            refine z_icmp_ge hZ (pc := 150) (tgt := 160) dX11_tellAsks_150 rfl (fun c150 => ?_) (fun c150 => ?_)
                            · skip
                              refine q_iinc_4_2 hZ (pc := 160) dX11_tellAsks_160 rfl ?_
                              refine z_goto hZ (pc := 163) (tgt := 103) dX11_tellAsks_163 rfl ?_
                              exact z_back hZ (ih103 (q + 1) (by omega) (by omega)) (WM_eq rfl (by rw [if_neg hpc, if_neg hpc, minN, hem, if_neg c130, if_neg c140, if_neg (Int32.not_lt.mpr c150)])) ⟨rfl, rfl, zi (nI_inc q), trivial⟩
                            · skip
                              refine z_aload_n hZ (pc := 153) dX11_tellAsks_153 rfl ?_
                              refine gM_46 hZ (pc := 154) fl_X11_120 dX11_tellAsks_154 ?_
                              refine z_iload_n hZ (pc := 157) dX11_tellAsks_157 rfl ?_
                              refine z_iload_n hZ (pc := 158) dX11_tellAsks_158 rfl ?_
                              refine sMn_46 hZ (pc := 159) dX11_tellAsks_159 (show s < 1024 by omega) ?_
                              refine q_iinc_4_2 hZ (pc := 160) dX11_tellAsks_160 rfl ?_
                              refine z_goto hZ (pc := 163) (tgt := 103) dX11_tellAsks_163 rfl ?_
                              exact z_back hZ (ih103 (q + 1) (by omega) (by omega)) (WM_eq rfl (by rw [up_twice, up_at, upd_twice, if_neg hpc, minN, hem, if_neg c130, if_neg c140, if_pos (Int32.not_le.mp c150)])) ⟨rfl, rfl, zi (nI_inc q), trivial⟩
                exact z_back hZ (lp103 (i + 1) 0 (Nat.zero_le _) (by omega)) rfl ⟨rfl, rfl, rfl, trivial⟩
              refine gM_46 hZ (pc := 83) fl_X11_120 dX11_tellAsks_83 ?_
              refine z_iload_n hZ (pc := 86) dX11_tellAsks_86 rfl ?_
              refine z_iload_n hZ (pc := 87) dX11_tellAsks_87 rfl ?_
              refine cS_i hZ (pc := 88) dX11_tellAsks_88 lk_X11_347 mn_X11_bitsOf ms_X11_bitsOf (c_X11_bitsOf (b := s) (by omega)) rfl rfl (Nat.le_of_ble_eq_true rfl) (by decide) (by decide) (Nat.zero_le _) (Nat.zero_le _) ?_
              refine z_iconst hZ (pc := 91) (v := 2) dX11_tellAsks_91 (by decide) ?_
              refine z_icmp_ge hZ (pc := 92) (tgt := 99) dX11_tellAsks_92 rfl (fun c92 => ?_) (fun c92 => ?_)
              · skip
                have hp2 : ¬ popc s ≤ 1 := by
                  have := (nI_leI (a := 2) (b := popc s) (by omega) (by omega)).mp c92
                  omega
                refine z_iconst hZ (pc := 99) (v := (-1)) dX11_tellAsks_99 (by decide) ?_
                refine sMn_46 hZ (pc := 100) dX11_tellAsks_100 (show s < 1024 by omega) ?_
                exact z_back hZ join101 (WM_eq rfl (by rw [up_twice, up_at, if_neg hp2]; rfl)) ⟨rfl, rfl, trivial⟩
              · skip
                have hp1 : popc s ≤ 1 := by
                  rcases Nat.lt_or_ge 1 (popc s) with z | z
                  · exact absurd (nI_le (a := 2) (b := popc s) (by omega) (by omega)) c92
                  · exact z
                refine z_iconst hZ (pc := 95) (v := 0) dX11_tellAsks_95 (by decide) ?_
                refine z_goto hZ (pc := 96) (tgt := 100) dX11_tellAsks_96 rfl ?_
                refine sMn_46 hZ (pc := 100) dX11_tellAsks_100 (show s < 1024 by omega) ?_
                exact z_back hZ join101 (WM_eq rfl (by rw [up_twice, up_at, if_pos hp1]; rfl)) ⟨rfl, rfl, trivial⟩
        exact z_back hZ (lp70 (2 ^ H + 1) 0 (g1 46) (Nat.zero_le _) (Nat.lt_succ_of_le (Nat.sub_le _ _)) (fun k hk => absurd hk (Nat.not_lt_zero _))) (WM_eq rfl up_self.symm) ⟨rfl, rfl, trivial⟩
      · skip
        have hlA : i < A := lp_lt rfl (by omega) hi c9
        refine z_aload_n hZ (pc := 12) dX11_tellAsks_12 rfl ?_
        refine gM_45 hZ (pc := 13) fl_X11_117 dX11_tellAsks_13 ?_
        refine z_iload_n hZ (pc := 16) dX11_tellAsks_16 rfl ?_
        refine z_iconst hZ (pc := 17) (v := 0) dX11_tellAsks_17 (by decide) ?_
        refine sMn_45 hZ (pc := 18) dX11_tellAsks_18 (show i < 6 by omega) ?_
        refine z_iconst hZ (pc := 19) (v := 0) dX11_tellAsks_19 (by decide) ?_
        refine q_istore_n_4_2 hZ (pc := 20) dX11_tellAsks_20 rfl ?_
        have lp21 : ∀ (f q : Nat) (g1 : ZG), q ≤ H → H - q < f → (∀ j, j ≠ 37 → j ≠ 36 → j ≠ 45 → g1 j = g j) → (∀ k, k < i → g1 45 k = nI ((ansB g n ops m H) k)) → g1 45 i = nI (bitN (ansM g n ops m i) q) → Z 0 0 (WM r a cA s0 s1 v g1) [some (.ref r), some (.int (nI i)), some (.int (nI q)), none] [] 21 := by
          intro f
          induction f with
          | zero => intro q _ _ hf; exact absurd hf (Nat.not_lt_zero _)
          | succ f ih21 =>
            intro q g1 hq hfq hg1 hY hYi
            refine z_iload_n hZ (pc := 21) dX11_tellAsks_21 rfl ?_
            refine z_aload_n hZ (pc := 22) dX11_tellAsks_22 rfl ?_
            refine gM_3 hZ (pc := 23) fl_X11_40 dX11_tellAsks_23 ?_
            refine z_iconst hZ (pc := 26) (v := 0) dX11_tellAsks_26 (by decide) ?_
            refine lMn_3 hZ (pc := 27) (q := 0) dX11_tellAsks_27 (by decide) ?_
            refine z_top (y := nI H) (by rw [hg1 3 (by decide) (by decide) (by decide)]; exact hH) ?_
            refine z_icmp_ge hZ (pc := 28) (tgt := 62) dX11_tellAsks_28 rfl (fun c28 => ?_) (fun c28 => ?_)
            · skip
              have eq : q = H := lp_ge rfl (by omega) hq c28
              subst eq
              refine q_iinc_4_1 hZ (pc := 62) dX11_tellAsks_62 rfl ?_
              refine z_goto hZ (pc := 65) (tgt := 2) dX11_tellAsks_65 rfl ?_
              exact z_back hZ (ih2 (i + 1) g1 (by omega) (by omega) hg1 (lt_s hY hYi)) rfl ⟨rfl, zi (nI_inc i), trivial⟩
            · skip
              have hlH : q < H := lp_lt rfl (by omega) hq c28
              refine z_aload_n hZ (pc := 31) dX11_tellAsks_31 rfl ?_
              refine gM_45 hZ (pc := 32) fl_X11_117 dX11_tellAsks_32 ?_
              refine z_iload_n hZ (pc := 35) dX11_tellAsks_35 rfl ?_
              refine z_dup2 hZ (pc := 36) dX11_tellAsks_36 rfl rfl ?_
              refine lMn_45 hZ (pc := 37) dX11_tellAsks_37 (show i < 6 by omega) ?_
              refine z_top hYi ?_
              refine z_aload_n hZ (pc := 38) dX11_tellAsks_38 rfl ?_
              refine z_iload_n hZ (pc := 39) dX11_tellAsks_39 rfl ?_
              refine z_iload_n hZ (pc := 40) dX11_tellAsks_40 rfl ?_
              refine cV hZ (pc := 41) dX11_tellAsks_41 lk_X11_375 mn_X11_holdsOf mv_X11_holdsOf (c_X11_holdsOf (n := n) (R := R) (A := A) (e := i) (k := q) (ops := ops) (m := m) hn h2 (by rw [hg1 18 (by decide) (by decide) (by decide)]; exact hco) (ExM_mv hX (hg1 3 (by decide) (by decide) (by decide)) (hg1 8 (by decide) (by decide) (by decide)) (hg1 9 (by decide) (by decide) (by decide)) (hg1 10 (by decide) (by decide) (by decide))) (by omega) (by rw [hg1 13 (by decide) (by decide) (by decide)]; exact hwo) (by rw [hg1 7 (by decide) (by decide) (by decide)]; exact hhi)) rc_M rfl rfl (Nat.le_of_ble_eq_true rfl) (by decide) (by decide) (Nat.zero_le _) (Nat.zero_le _) ?_
              intro v2 g2 r h
              obtain ⟨rfl, hg2, rfl⟩ := h
              refine z_top (congrArg bI (ansM_mv hg1)) ?_
              refine z_if_eq hZ (pc := 44) (tgt := 53) dX11_tellAsks_44 rfl (fun c44 => ?_) (fun c44 => ?_)
              · skip
                refine z_iconst hZ (pc := 53) (v := 0) dX11_tellAsks_53 (by decide) ?_
                refine z_ior hZ (pc := 54) dX11_tellAsks_54 ?_
                refine z_top (y := nI (bitN (ansM g n ops m i) (q + 1))) (by rw [show (0 : Int32) = nI 0 from rfl, bit_or, Nat.or_zero]; exact or_no (bI_eq.mp c44)) ?_
                refine sMn_45 hZ (pc := 55) dX11_tellAsks_55 (show i < 6 by omega) ?_
                refine q_iinc_4_2 hZ (pc := 56) dX11_tellAsks_56 rfl ?_
                refine z_goto hZ (pc := 59) (tgt := 21) dX11_tellAsks_59 rfl ?_
                exact z_back hZ (ih21 (q + 1) (va_up g2 45 (upd (g2 45) i (nI (bitN (ansM g n ops m i) (q + 1))))) (by omega) (by omega) (fun j h1 h2 h3 => (up_off h3).trans ((hg2 j h1 h2).trans (hg1 j h1 h2 h3))) (fun k hk => by rw [up_at, upd_off (by omega), hg2 45 (by decide) (by decide)]; exact hY k hk) (by rw [up_at, upd_at])) rfl ⟨rfl, rfl, zi (nI_inc q), trivial⟩
              · skip
                refine z_iconst hZ (pc := 47) (v := 1) dX11_tellAsks_47 (by decide) ?_
                refine z_iload_n hZ (pc := 48) dX11_tellAsks_48 rfl ?_
                refine z_ishl hZ (pc := 49) dX11_tellAsks_49 ?_
                refine z_goto hZ (pc := 50) (tgt := 54) dX11_tellAsks_50 rfl ?_
                refine z_ior hZ (pc := 54) dX11_tellAsks_54 ?_
                refine z_top (y := nI (bitN (ansM g n ops m i) (q + 1))) (or_bit (by omega) (bI_ne c44)) ?_
                refine sMn_45 hZ (pc := 55) dX11_tellAsks_55 (show i < 6 by omega) ?_
                refine q_iinc_4_2 hZ (pc := 56) dX11_tellAsks_56 rfl ?_
                refine z_goto hZ (pc := 59) (tgt := 21) dX11_tellAsks_59 rfl ?_
                exact z_back hZ (ih21 (q + 1) (va_up g2 45 (upd (g2 45) i (nI (bitN (ansM g n ops m i) (q + 1))))) (by omega) (by omega) (fun j h1 h2 h3 => (up_off h3).trans ((hg2 j h1 h2).trans (hg1 j h1 h2 h3))) (fun k hk => by rw [up_at, upd_off (by omega), hg2 45 (by decide) (by decide)]; exact hY k hk) (by rw [up_at, upd_at])) rfl ⟨rfl, rfl, zi (nI_inc q), trivial⟩
        exact z_back hZ (lp21 (H + 1) 0 _ (Nat.zero_le _) (by omega) (fun j h1 h2 h3 => (up_off h3).trans (hg1 j h1 h2 h3)) (fun k hk => by rw [up_at, upd_off (by omega)]; exact hY k hk) (by rw [up_at, upd_at]; rfl)) rfl ⟨rfl, rfl, rfl, trivial⟩
  exact z_back hZ (lp2 (A + 1) 0 g (Nat.zero_le _) (by omega) (fun _ _ _ _ => rfl) (fun k hk => absurd hk (Nat.not_lt_zero _))) rfl ⟨rfl, rfl, trivial⟩
