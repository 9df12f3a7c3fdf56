abbrev NC (l : Launch) (D : va_G) (cA : Nat → ClassId) (aK aV : Nat → Nat) (r : Nat) (a : Nat → Nat) (s0 s1 : Nat → Option Nat) (y : MethodName) (b : ByteArray) (nl k d : Nat) (t : Nat → Int32) (n m : Nat) (rec : Nat → PR) : Prop := ∀ (v : ZV) (g : ZG) (i : Nat) (L : List Int32), MI t n m v g i L → MGY l D cA aK aV (WM r a cA s0 s1) y b nl none k [.ref r, .int (nI d)] v g (MRp t n m v g L (rec i))
/-- a part, over what the expression inside answers -/
def pPartM (K N : Nat → Int32) (rs : Nat → PR) (i : Nat) : PR :=
  if K i = 1 then (if tnC 1 (N i) 0 9999 = 0 then .ok (i + 1) [N i] else .er 2 i)
  else if K i ≤ -1 ∧ ¬ K i ≤ -8 then .ok (i + 1) [K i]
  else if isWdK (K i) = true then .er 3 i
  else if ¬ K i = 4 then .er 1 i
  else (rs (i + 1)).bind (fun j l => if K j = 5 then .ok (j + 1) l else .er 1 j)
def deepM (K : Nat → Int32) (i : Nat) : PR := if canK (K i) = true then .er 2 i else .er 1 i
theorem pPartM_lt {K N : Nat → Int32} {d i : Nat} {rec : Nat → PR} (hd : d < 5) : pPartM K N rec i = pPart K N d rec i := by
  unfold pPartM pPart
  rw [if_neg (show ¬ 5 ≤ d by omega)]
theorem pPartM_5 {K N : Nat → Int32} {d i : Nat} {rec : Nat → PR} (hd : 5 ≤ d) : pPartM K N (deepM K) i = pPart K N d rec i := by
  unfold pPartM pPart deepM
  rw [if_pos hd]
  by_cases h1 : K i = 1
  · rw [if_pos h1, if_pos h1]
  · rw [if_neg h1, if_neg h1]
    by_cases h2 : K i ≤ -1 ∧ ¬ K i ≤ -8
    · rw [if_pos h2, if_pos h2]
    · rw [if_neg h2, if_neg h2]
      by_cases h3 : isWdK (K i) = true
      · rw [if_pos h3, if_pos h3]
      · rw [if_neg h3, if_neg h3]
        by_cases h4 : ¬ K i = 4
        · rw [if_pos h4, if_pos h4]
        · rw [if_neg h4, if_neg h4]
          by_cases h5 : canK (K (i + 1)) = true
          · rw [if_pos h5]; rfl
          · rw [if_neg h5]; rfl
theorem kc_val : ∀ k, k < 7 → kcN k ≤ -1 ∧ ¬ kcN k ≤ -8 ∧ -1 - nI k = kcN k ∧ trE (kcN k) = kcN k := by decide +kernel
theorem kc_valR : ∀ k, k < 15 → (kcN k ≤ -1 ∧ ¬ kcN k ≤ -8) → k < 7 := by decide +kernel
theorem mc_val : ∀ k, k < 9 → ¬ (mcN k ≤ -1 ∧ ¬ mcN k ≤ -8) := by decide +kernel
theorem val_of {t : Nat → Int32} {n m i : Nat} {K N : Nat → Int32} (hT : TK t n m K N) (hi : i ≤ m) (h : K i ≤ -1 ∧ ¬ K i ≤ -8) : ∃ k, k < 7 ∧ K i = kcN k := by
  rcases tc_cases hT hi with ⟨h1, -⟩ | ⟨-, -, h3⟩ | ⟨-, -, h3, -⟩ | ⟨-, -, j, hj, -, h3⟩ | ⟨-, -, h3, -⟩
  · rw [h1] at h; exact absurd h (by decide)
  · rcases wk_or (wdL t (tokS t n i) (eNd t n (tokS t n i) - tokS t n i)) with ⟨j, j1, -, j3⟩ | ⟨j1, -⟩
    · rw [h3, j3] at h ⊢
      exact ⟨j, kc_valR j j1 h, rfl⟩
    · rw [h3, j1] at h; exact absurd h (by decide)
  · rw [h3] at h; exact absurd h (by decide)
  · rw [h3] at h; exact absurd h (mc_val j hj)
  · rw [h3] at h; exact absurd h (by decide)
theorem trE_pos {x : Int32} (h : 0 ≤ x) : trE x = x := by
  unfold trE
  rw [if_pos (Int32.lt_of_lt_of_le (by decide) h)]
theorem c_X11_readPart_b {l : Launch} {D : va_G} {cA : Nat → ClassId} {r : Nat} {a : Nat → Nat} {s0 s1 : Nat → Option Nat} {v : ZV} {g : ZG} {x : Int32} (hb : ¬ v 32 = 0) : MG l D cA (WM r a cA s0 s1) yX11_readPart cX11_readPart 3 none 1 [(.ref r), .int x] v g (PF v g (none)) := by
  refine MG.of (by decide) rfl (Nat.le_of_ble_eq_true rfl) (by simp [Value.category]) (fun Z hZ => ?_)
  refine z_aload_n hZ (pc := 0) dX11_readPart_0 rfl ?_
  refine gM_32 hZ (pc := 1) fl_X11_209 dX11_readPart_1 ?_
  refine z_if_eq hZ (pc := 4) (tgt := 8) dX11_readPart_4 rfl (fun c4 => absurd c4 hb) (fun _ => ?_)
  refine zr_v hZ (pc := 7) dX11_readPart_7 ?_
  exact ⟨rfl, rfl, rfl⟩
theorem c_X11_readProduct_b {l : Launch} {D : va_G} {cA : Nat → ClassId} {r : Nat} {a : Nat → Nat} {s0 s1 : Nat → Option Nat} {v : ZV} {g : ZG} {x : Int32} (hb : ¬ v 32 = 0) : MG l D cA (WM r a cA s0 s1) yX11_readProduct cX11_readProduct 3 none 2 [(.ref r), .int x] v g (PF v g (none)) := by
  refine MG.of (by decide) rfl (Nat.le_of_ble_eq_true rfl) (by simp [Value.category]) (fun Z hZ => ?_)
  refine z_aload_n hZ (pc := 0) dX11_readProduct_0 rfl ?_
  refine z_iload_n hZ (pc := 1) dX11_readProduct_1 rfl ?_
  refine cV_v hZ (pc := 2) dX11_readProduct_2 lk_X11_255 mn_X11_readPart mv_X11_readPart (c_X11_readPart_b hb) rc_M rfl rfl (Nat.le_of_ble_eq_true rfl) (by decide) (by decide) (Nat.zero_le _) (Nat.zero_le _) ?_
  refine z_aload_n hZ (pc := 5) dX11_readProduct_5 rfl ?_
  refine z_bipush hZ (pc := 6) (v := 42) dX11_readProduct_6 (by decide) ?_
  refine cV_i hZ (pc := 8) dX11_readProduct_8 lk_X11_227 mn_X11_isMarked mv_X11_isMarked (c_X11_isMarked_b hb) rc_M rfl rfl (Nat.le_of_ble_eq_true rfl) (by decide) (by decide) (Nat.zero_le _) (Nat.zero_le _) ?_
  refine z_if_ne hZ (pc := 11) (tgt := 23) dX11_readProduct_11 rfl (fun c11 => absurd c11 (by decide)) (fun _ => ?_)
  refine z_aload_n hZ (pc := 14) dX11_readProduct_14 rfl ?_
  refine z_bipush hZ (pc := 15) (v := 47) dX11_readProduct_15 (by decide) ?_
  refine cV_i hZ (pc := 17) dX11_readProduct_17 lk_X11_227 mn_X11_isMarked mv_X11_isMarked (c_X11_isMarked_b hb) rc_M rfl rfl (Nat.le_of_ble_eq_true rfl) (by decide) (by decide) (Nat.zero_le _) (Nat.zero_le _) ?_
  refine z_if_eq hZ (pc := 20) (tgt := 57) dX11_readProduct_20 rfl (fun _ => ?_) (fun c20 => absurd c20 (by decide))
  refine zr_v hZ (pc := 57) dX11_readProduct_57 ?_
  exact ⟨rfl, rfl, rfl⟩
theorem c_X11_readSum_b {l : Launch} {D : va_G} {cA : Nat → ClassId} {r : Nat} {a : Nat → Nat} {s0 s1 : Nat → Option Nat} {v : ZV} {g : ZG} {x : Int32} (hb : ¬ v 32 = 0) : MG l D cA (WM r a cA s0 s1) yX11_readSum cX11_readSum 3 none 3 [(.ref r), .int x] v g (PF v g (none)) := by
  refine MG.of (by decide) rfl (Nat.le_of_ble_eq_true rfl) (by simp [Value.category]) (fun Z hZ => ?_)
  refine z_aload_n hZ (pc := 0) dX11_readSum_0 rfl ?_
  refine z_iload_n hZ (pc := 1) dX11_readSum_1 rfl ?_
  refine cV_v hZ (pc := 2) dX11_readSum_2 lk_X11_258 mn_X11_readProduct mv_X11_readProduct (c_X11_readProduct_b hb) rc_M rfl rfl (Nat.le_of_ble_eq_true rfl) (by decide) (by decide) (Nat.zero_le _) (Nat.zero_le _) ?_
  refine z_aload_n hZ (pc := 5) dX11_readSum_5 rfl ?_
  refine z_bipush hZ (pc := 6) (v := 43) dX11_readSum_6 (by decide) ?_
  refine cV_i hZ (pc := 8) dX11_readSum_8 lk_X11_227 mn_X11_isMarked mv_X11_isMarked (c_X11_isMarked_b hb) rc_M rfl rfl (Nat.le_of_ble_eq_true rfl) (by decide) (by decide) (Nat.zero_le _) (Nat.zero_le _) ?_
  refine z_if_ne hZ (pc := 11) (tgt := 23) dX11_readSum_11 rfl (fun c11 => absurd c11 (by decide)) (fun _ => ?_)
  refine z_aload_n hZ (pc := 14) dX11_readSum_14 rfl ?_
  refine z_bipush hZ (pc := 15) (v := 45) dX11_readSum_15 (by decide) ?_
  refine cV_i hZ (pc := 17) dX11_readSum_17 lk_X11_227 mn_X11_isMarked mv_X11_isMarked (c_X11_isMarked_b hb) rc_M rfl rfl (Nat.le_of_ble_eq_true rfl) (by decide) (by decide) (Nat.zero_le _) (Nat.zero_le _) ?_
  refine z_if_eq hZ (pc := 20) (tgt := 57) dX11_readSum_20 rfl (fun _ => ?_) (fun c20 => absurd c20 (by decide))
  refine zr_v hZ (pc := 57) dX11_readSum_57 ?_
  exact ⟨rfl, rfl, rfl⟩
theorem c_X11_readNot_b {l : Launch} {D : va_G} {cA : Nat → ClassId} {r : Nat} {a : Nat → Nat} {s0 s1 : Nat → Option Nat} {v : ZV} {g : ZG} {aK aV : Nat → Nat} {x : Int32} (hb : ¬ v 32 = 0) : MGY l D cA aK aV (WM r a cA s0 s1) yX11_readNot cX11_readNot 4 none 4 [(.ref r), .int x] v g (PF v g (none)) := by
  refine MGY.of (by decide) rfl (Nat.le_of_ble_eq_true rfl) (by simp [Value.category]) (fun Z hY => ?_)
  have hZ := hY.toZR
  refine z_iconst hZ (pc := 0) (v := 0) dX11_readNot_0 (by decide) ?_
  refine q_istore_n_4_2 hZ (pc := 1) dX11_readNot_1 rfl ?_
  refine z_aload_n hZ (pc := 2) dX11_readNot_2 rfl ?_
  refine z_ldcwS hY (pc := 3) (tx := "not") (q := aK 7) (fun _ _ _ h => h.2.2.1 ("TearsPostModel", 261, "not", 7) (List.mem_of_getElem? (i := 22) (by decide +kernel))) dX11_readNot_3 ?_
  refine cV_i hZ (pc := 6) dX11_readNot_6 lk_X11_223 mn_X11_is mv_X11_is (c_X11_is_b hb) rc_M rfl rfl (Nat.le_of_ble_eq_true rfl) (by decide) (by decide) (Nat.zero_le _) (Nat.zero_le _) ?_
  refine z_if_eq hZ (pc := 9) (tgt := 40) dX11_readNot_9 rfl (fun _ => ?_) (fun c9 => absurd c9 (by decide))
  refine z_aload_n hZ (pc := 40) dX11_readNot_40 rfl ?_
  refine z_iload_n hZ (pc := 41) dX11_readNot_41 rfl ?_
  refine cV_v hZ (pc := 42) dX11_readNot_42 lk_X11_263 mn_X11_readSum mv_X11_readSum (c_X11_readSum_b hb) rc_M rfl rfl (Nat.le_of_ble_eq_true rfl) (by decide) (by decide) (Nat.zero_le _) (Nat.zero_le _) ?_
  refine z_aload_n hZ (pc := 45) dX11_readNot_45 rfl ?_
  refine z_bipush hZ (pc := 46) (v := 60) dX11_readNot_46 (by decide) ?_
  refine cV_i hZ (pc := 48) dX11_readNot_48 lk_X11_227 mn_X11_isMarked mv_X11_isMarked (c_X11_isMarked_b hb) rc_M rfl rfl (Nat.le_of_ble_eq_true rfl) (by decide) (by decide) (Nat.zero_le _) (Nat.zero_le _) ?_
  refine z_if_ne hZ (pc := 51) (tgt := 63) dX11_readNot_51 rfl (fun c51 => absurd c51 (by decide)) (fun _ => ?_)
  refine z_aload_n hZ (pc := 54) dX11_readNot_54 rfl ?_
  refine z_bipush hZ (pc := 55) (v := 61) dX11_readNot_55 (by decide) ?_
  refine cV_i hZ (pc := 57) dX11_readNot_57 lk_X11_227 mn_X11_isMarked mv_X11_isMarked (c_X11_isMarked_b hb) rc_M rfl rfl (Nat.le_of_ble_eq_true rfl) (by decide) (by decide) (Nat.zero_le _) (Nat.zero_le _) ?_
  refine z_if_eq hZ (pc := 60) (tgt := 94) dX11_readNot_60 rfl (fun _ => ?_) (fun c60 => absurd c60 (by decide))
  refine z_iconst hZ (pc := 94) (v := 0) dX11_readNot_94 (by decide) ?_
  refine q_istore_n_4_3 hZ (pc := 95) dX11_readNot_95 rfl ?_
  refine z_iload_n hZ (pc := 96) dX11_readNot_96 rfl ?_
  refine z_iload_n hZ (pc := 97) dX11_readNot_97 rfl ?_
  refine z_icmp_ge hZ (pc := 98) (tgt := 113) dX11_readNot_98 rfl (fun _ => ?_) (fun c98 => absurd c98 (by decide))
  skip
  refine zr_v hZ (pc := 113) dX11_readNot_113 ?_
  exact ⟨rfl, rfl, rfl⟩
theorem c_X11_readAnd_b {l : Launch} {D : va_G} {cA : Nat → ClassId} {r : Nat} {a : Nat → Nat} {s0 s1 : Nat → Option Nat} {v : ZV} {g : ZG} {aK aV : Nat → Nat} {x : Int32} (hb : ¬ v 32 = 0) : MGY l D cA aK aV (WM r a cA s0 s1) yX11_readAnd cX11_readAnd 2 none 5 [(.ref r), .int x] v g (PF v g (none)) := by
  refine MGY.of (by decide) rfl (Nat.le_of_ble_eq_true rfl) (by simp [Value.category]) (fun Z hY => ?_)
  have hZ := hY.toZR
  refine z_aload_n hZ (pc := 0) dX11_readAnd_0 rfl ?_
  refine z_iload_n hZ (pc := 1) dX11_readAnd_1 rfl ?_
  refine cVY hY (pc := 2) dX11_readAnd_2 lk_X11_266 mn_X11_readNot mv_X11_readNot (c_X11_readNot_b hb) rc_M rfl rfl (Nat.le_of_ble_eq_true rfl) (by decide) (by decide) (Nat.zero_le _) (Nat.zero_le _) (fun v2 g2 r h => ?_)
  obtain ⟨e1, e2, rfl⟩ := h
  subst v2
  subst g2
  refine z_aload_n hZ (pc := 5) dX11_readAnd_5 rfl ?_
  refine z_ldcwS hY (pc := 6) (tx := "and") (q := aK 9) (fun _ _ _ h => h.2.2.1 ("TearsPostModel", 269, "and", 9) (List.mem_of_getElem? (i := 24) (by decide +kernel))) dX11_readAnd_6 ?_
  refine cV_i hZ (pc := 9) dX11_readAnd_9 lk_X11_223 mn_X11_is mv_X11_is (c_X11_is_b hb) rc_M rfl rfl (Nat.le_of_ble_eq_true rfl) (by decide) (by decide) (Nat.zero_le _) (Nat.zero_le _) ?_
  refine z_if_eq hZ (pc := 12) (tgt := 33) dX11_readAnd_12 rfl (fun _ => ?_) (fun c12 => absurd c12 (by decide))
  refine zr_v hZ (pc := 33) dX11_readAnd_33 ?_
  exact ⟨rfl, rfl, rfl⟩
theorem c_X11_readExpression_b {l : Launch} {D : va_G} {cA : Nat → ClassId} {r : Nat} {a : Nat → Nat} {s0 s1 : Nat → Option Nat} {v : ZV} {g : ZG} {x : Int32} (hb : ¬ v 32 = 0) : MG l D cA (WM r a cA s0 s1) yX11_readExpression cX11_readExpression 3 none 1 [(.ref r), .int x] v g (PF v g (none)) := by
  refine MG.of (by decide) rfl (Nat.le_of_ble_eq_true rfl) (by simp [Value.category]) (fun Z hZ => ?_)
  refine z_aload_n hZ (pc := 0) dX11_readExpression_0 rfl ?_
  refine gM_32 hZ (pc := 1) fl_X11_209 dX11_readExpression_1 ?_
  refine z_if_eq hZ (pc := 4) (tgt := 8) dX11_readExpression_4 rfl (fun c4 => absurd c4 hb) (fun _ => ?_)
  refine zr_v hZ (pc := 7) dX11_readExpression_7 ?_
  exact ⟨rfl, rfl, rfl⟩
theorem c_X11_isMk {l : Launch} {D : va_G} {cA : Nat → ClassId} {r : Nat} {a : Nat → Nat} {s0 s1 : Nat → Option Nat} {v : ZV} {g : ZG} {t : Nat → Int32} {n m i : Nat} {K N : Nat → Int32} {L : List Int32} {j : Nat} (hG : GM t n m K N) (hM : MI t n m v g i L) (hj : j < 9) : MG l D cA (WM r a cA s0 s1) yX11_isMarked cX11_isMarked 2 (some .boolean) 0 [.ref r, .int (mkN j)] v g (PF v g (some (.int (bI (decide (K i = mcN j)))))) := by
  have hi : i ≤ m := hM.2.2.1
  have h28 : v 28 = tcM t n (tokS t n i) := hM.2.2.2.2.1.2.2.2.1
  have hmk : (decide (v 28 = 3) && decide (g 24 (tokS t n i) = mkN j)) = decide (K i = mcN j) := by rw [hM.1, h28]; exact mkT_K hG.1 hi hj
  have h := c_X11_isMarked (l := l) (D := D) (cA := cA) (r := r) (a := a) (s0 := s0) (s1 := s1) (v := v) (g := g) (c := mkN j) (s := tokS t n i) hM.2.2.2.1 hM.2.2.2.2.1.1 (fun z => by
    have := tok_in hG.1 hi (fun q => by rw [h28, (tc_0 hG.1 hi).mpr q] at z; exact absurd z (by decide))
    have := hG.2.1
    omega)
  rw [hmk] at h
  exact h
