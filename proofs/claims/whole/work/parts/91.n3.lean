/-! the reference at a token -/
def CdM (L : List Int32) (v : ZV) (g : ZG) : Prop := v 35 = nI L.length ∧ ∀ k, k < L.length → g 10 (700 + k) = L.getD k 0
theorem CdM_add {L : List Int32} {v : ZV} {g : ZG} {x : Int32} (h : CdM L v g) : CdM (L ++ [x]) (va_up v 35 (nI (L.length + 1))) (va_up g 10 (upd (g 10) (700 + L.length) x)) := by
  refine ⟨by rw [up_at, List.length_append]; rfl, fun k hk => ?_⟩
  rw [up_at]
  rw [List.length_append] at hk
  rcases Nat.lt_or_ge k L.length with q | q
  · rw [upd_off (by omega), h.2 k q, List.getD_eq_getElem?_getD, List.getD_eq_getElem?_getD, List.getElem?_append_left q]
  · have e : k = L.length := by have : k < L.length + 1 := hk; omega
    subst e
    rw [upd_at, List.getD_eq_getElem?_getD, List.getElem?_append_right (Nat.le_refl _), Nat.sub_self]
    rfl
theorem CdM_same {L : List Int32} {v v2 : ZV} {g g2 : ZG} (h : CdM L v g) (h1 : v2 35 = v 35) (h2 : g2 10 = g 10) : CdM L v2 g2 := ⟨by rw [h1]; exact h.1, by rw [h2]; exact h.2⟩
def MI (t : Nat → Int32) (n m : Nat) (v : ZV) (g : ZG) (i : Nat) (L : List Int32) : Prop := g 24 = t ∧ v 27 = nI n ∧ i ≤ m ∧ v 32 = 0 ∧ StM t n (tokS t n i) v ∧ CdM L v g ∧ L.length ≤ i
def FM (v v2 : ZV) : Prop := ∀ k, (k < 26 ∨ k = 27 ∨ k = 34 ∨ 35 < k) → v2 k = v k
def FMg (g g2 : ZG) : Prop := (∀ k, k ≠ 10 → g2 k = g k) ∧ ∀ k, k < 700 → g2 10 k = g 10 k
theorem FM.rf {v : ZV} : FM v v := fun _ _ => rfl
theorem FM.trans {v v2 v3 : ZV} (h : FM v v2) (h2 : FM v2 v3) : FM v v3 := fun k a => (h2 k a).trans (h k a)
theorem FM.up {v : ZV} {k : Nat} {x : Int32} (h : k = 26 ∨ (28 ≤ k ∧ k ≤ 33) ∨ k = 35) : FM v (va_up v k x) := fun j hj => up_off (by omega)
theorem FS.fm {v v2 : ZV} (h : FS v v2) : FM v v2 := fun k hk => h k (by omega)
theorem FMg.rf {g : ZG} : FMg g g := ⟨fun _ _ => rfl, fun _ _ => rfl⟩
theorem FMg.trans {g g2 g3 : ZG} (h : FMg g g2) (h2 : FMg g2 g3) : FMg g g3 := ⟨fun k a => (h2.1 k a).trans (h.1 k a), fun k a => (h2.2 k a).trans (h.2 k a)⟩
theorem FMg.up {g : ZG} {c : Nat} {x : Int32} : FMg g (va_up g 10 (upd (g 10) (700 + c) x)) := ⟨fun j hj => up_off hj, fun j hj => by rw [up_at, upd_off (by omega)]⟩
/-- what stays while a text is read -/
def GM (t : Nat → Int32) (n m : Nat) (K N : Nat → Int32) : Prop := TK t n m K N ∧ n ≤ 700 ∧ ∀ q, q < 700 → 0 ≤ t q
theorem eNd_le {t : Nat → Int32} {n s : Nat} : eNd t n s ≤ n := by
  unfold eNd
  split
  · next h => exact endN_le _ h
  · exact Nat.le_refl _
theorem tok_in {t : Nat → Int32} {n m i : Nat} {K N : Nat → Int32} (hT : TK t n m K N) (hi : i ≤ m) (hk : ¬ K i = 0) : tokS t n i < n := by
  rcases tc_cases hT hi with ⟨h1, -, -⟩ | ⟨h, -⟩ | ⟨h, -⟩ | ⟨h, -⟩ | ⟨h, -⟩
  · exact absurd h1 hk
  · exact h
  · exact h
  · exact h
  · exact h
theorem TK_lt {t : Nat → Int32} {n m i : Nat} {K N : Nat → Int32} (hT : TK t n m K N) (hi : i ≤ m) (hk : ¬ K i = 0) : i < m := k_lt (TK_0 hT) hi hk
/-- a step on -/
theorem MI.next {t : Nat → Int32} {n m i : Nat} {K N : Nat → Int32} {v v2 : ZV} {g : ZG} {L : List Int32} (hT : TK t n m K N) (h : MI t n m v g i L) (hi : i < m) (h1 : FS v v2) (h2 : StM (g 24) n (nbN (g 24) n (eNd t n (tokS t n i))) v2) : MI t n m v2 g (i + 1) L := by
  obtain ⟨a1, a2, a3, a4, a5, a6, a7⟩ := h
  rw [a1] at h2
  have e : tokS t n (i + 1) = nbN t n (eNd t n (tokS t n i)) := by rw [tokS, eNd, if_pos (hT.2.2.1 i hi)]
  exact ⟨a1, by rw [h1 27 (by omega)]; exact a2, hi, by rw [h1 32 (by omega)]; exact a4, by rw [e]; exact h2, CdM_same a6 (h1 35 (by omega)) rfl, Nat.le_succ_of_le a7⟩
theorem MI.code {t : Nat → Int32} {n m i : Nat} {v : ZV} {g : ZG} {L : List Int32} {x : Int32} (h : MI t n m v g i L) (h1 : L.length < i) : MI t n m (va_up v 35 (nI (L.length + 1))) (va_up g 10 (upd (g 10) (700 + L.length) x)) i (L ++ [x]) := by
  obtain ⟨a1, a2, a3, a4, ⟨b1, b2, b3, b4, b5⟩, a6, a7⟩ := h
  exact ⟨by rw [up_off (by decide)]; exact a1, by rw [up_off (by decide)]; exact a2, a3, by rw [up_off (by decide)]; exact a4, ⟨by rw [up_off (by decide)]; exact b1, by rw [up_off (by decide)]; exact b2, by rw [up_off (by decide)]; exact b3, by rw [up_off (by decide)]; exact b4, by rw [up_off (by decide), up_off (by decide)]; exact b5⟩, CdM_add a6, by rw [List.length_append]; exact h1⟩
/-- what a piece leaves -/
def MR (t : Nat → Int32) (n m : Nat) (v : ZV) (g : ZG) (L : List Int32) (v2 : ZV) (g2 : ZG) : PR → Prop
  | Sum.inl (c, q) => v2 32 = nI c ∧ v2 33 = nI (tokS t n q)
  | Sum.inr (j, l) => MI t n m v2 g2 j (L ++ l.map trE)
def MRp (t : Nat → Int32) (n m : Nat) (v : ZV) (g : ZG) (L : List Int32) (res : PR) : ZV → ZG → Option Value → Prop := fun v2 g2 r => r = none ∧ FM v v2 ∧ FMg g g2 ∧ MR t n m v g L v2 g2 res
theorem PR.cs (r : PR) : (∃ c q, r = .er c q) ∨ ∃ j l, r = .ok j l := by
  induction r using PR.el with
  | er c q => exact Or.inl ⟨c, q, rfl⟩
  | ok j l => exact Or.inr ⟨j, l, rfl⟩
theorem MRp_er {t : Nat → Int32} {n m : Nat} {v v2 : ZV} {g g2 : ZG} {L : List Int32} {res : PR} {c q : Nat} (he : res = .er c q) (h1 : FM v v2) (h2 : FMg g g2) (h3 : v2 32 = nI c) (h4 : v2 33 = nI (tokS t n q)) : MRp t n m v g L res v2 g2 none := by
  subst he
  exact ⟨rfl, h1, h2, h3, h4⟩
theorem MRp_ok {t : Nat → Int32} {n m : Nat} {v v2 : ZV} {g g2 : ZG} {L L2 : List Int32} {res : PR} {j : Nat} {l : List Int32} (he : res = .ok j l) (h1 : FM v v2) (h2 : FMg g g2) (h3 : MI t n m v2 g2 j L2) (h4 : L2 = L ++ l.map trE) : MRp t n m v g L res v2 g2 none := by
  subst he h4
  exact ⟨rfl, h1, h2, h3⟩
theorem er_bad {m i c q : Nat} (h : Prg m i (.er c q)) {x : Int32} (hx : x = nI c) : ¬ x = 0 := by
  obtain ⟨-, h⟩ := h
  rw [hx]
  exact cN0 h
theorem N_long {t : Nat → Int32} {n m i : Nat} {K N : Nat → Int32} (hT : TK t n m K N) (hi : i ≤ m) (hk : K i = 1) : (4 < eNd t n (tokS t n i) - tokS t n i → N i = 10000) ∧ (¬ 4 < eNd t n (tokS t n i) - tokS t n i → N i = numD t (tokS t n i) (eNd t n (tokS t n i) - tokS t n i)) := by
  rcases tc_cases hT hi with ⟨h1, -, -⟩ | ⟨-, h2, h3⟩ | ⟨-, h2, h3, h4, -⟩ | ⟨-, h2, j, hj, -, h3⟩ | ⟨-, h2, h3, -⟩
  · rw [h1] at hk; exact absurd hk (by decide)
  · rw [h3] at hk; exact absurd hk (wk_not _).2.1
  · rw [h4]
    exact ⟨fun h => if_pos h, fun h => if_neg h⟩
  · rw [h3] at hk; exact absurd hk (mc_nw j hj).2.1
  · rw [h3] at hk; exact absurd hk (by decide)
theorem tok_end {t : Nat → Int32} {n m i : Nat} {K N : Nat → Int32} (hT : TK t n m K N) (hi : i ≤ m) : tokS t n i ≤ eNd t n (tokS t n i) := by
  unfold eNd
  split
  · exact Nat.le_of_lt (endN_gt _ _ _)
  · next h =>
    have : tokS t n i ≤ n := by
      rcases Nat.lt_or_ge i m with q | q
      · exact Nat.le_of_lt (hT.2.2.1 i q)
      · rw [show i = m by omega, hT.2.1]; exact Nat.le_refl _
    omega
theorem num_of {t : Nat → Int32} {n m i : Nat} {K N : Nat → Int32} (hT : TK t n m K N) (hi : i ≤ m) (hk : K i = 1) (h4 : ¬ 4 < eNd t n (tokS t n i) - tokS t n i) : ∃ X, X < 10000 ∧ N i = nI X := by
  have hN2 := (N_long hT hi hk).2 h4
  rcases tc_cases hT hi with ⟨h1, -, -⟩ | ⟨-, h2, h3⟩ | ⟨hs, h2, h3, h5, hd⟩ | ⟨-, h2, j, hj, -, h3⟩ | ⟨-, h2, h3, -⟩
  · rw [h1] at hk; exact absurd hk (by decide)
  · rw [h3] at hk; exact absurd hk (wk_not _).2.1
  · obtain ⟨X, hX, e⟩ := numD_nI (t := t) (s := tokS t n i) (eNd t n (tokS t n i) - tokS t n i) (fun j hj => end_dig (n := n) hd (by rw [eNd, if_pos hs] at hj; omega))
    have : 10 ^ (eNd t n (tokS t n i) - tokS t n i) ≤ 10 ^ 4 := Nat.pow_le_pow_right (by decide) (by omega)
    exact ⟨X, by omega, by rw [hN2, e]⟩
  · rw [h3] at hk; exact absurd hk (mc_nw j hj).2.1
  · rw [h3] at hk; exact absurd hk (by decide)
theorem c_X11_wrong {l : Launch} {D : va_G} {cA : Nat → ClassId} {r : Nat} {a : Nat → Nat} {s0 s1 : Nat → Option Nat} {v : ZV} {g : ZG} {k : Int32} (hb : v 32 = 0) : MG l D cA (WM r a cA s0 s1) yX11_wrong cX11_wrong 2 none 0 [(.ref r), .int k] v g (PF (va_up (va_up v 32 k) 33 (v 30)) g (none)) := by
  refine MG.of (by decide) rfl (Nat.le_of_ble_eq_true rfl) (by simp [Value.category]) (fun Z hZ => ?_)
  refine z_aload_n hZ (pc := 0) dX11_wrong_0 rfl ?_
  refine gM_32 hZ (pc := 1) fl_X11_209 dX11_wrong_1 ?_
  refine z_if_eq hZ (pc := 4) (tgt := 8) dX11_wrong_4 rfl (fun c4 => ?_) (fun c4 => ?_)
  · skip
    refine z_aload_n hZ (pc := 8) dX11_wrong_8 rfl ?_
    refine z_iload_n hZ (pc := 9) dX11_wrong_9 rfl ?_
    refine pM_32 hZ (pc := 10) fl_X11_209 dX11_wrong_10 ?_
    refine z_aload_n hZ (pc := 13) dX11_wrong_13 rfl ?_
    refine z_aload_n hZ (pc := 14) dX11_wrong_14 rfl ?_
    refine gM_30 hZ (pc := 15) fl_X11_180 dX11_wrong_15 ?_
    refine pM_33 hZ (pc := 18) fl_X11_212 dX11_wrong_18 ?_
    refine zr_v hZ (pc := 21) dX11_wrong_21 ?_
    exact ⟨rfl, rfl, rfl⟩
  · skip
    exact absurd hb c4
theorem c_X11_wrong_b {l : Launch} {D : va_G} {cA : Nat → ClassId} {r : Nat} {a : Nat → Nat} {s0 s1 : Nat → Option Nat} {v : ZV} {g : ZG} {k : Int32} (hb : ¬ v 32 = 0) : MG l D cA (WM r a cA s0 s1) yX11_wrong cX11_wrong 2 none 0 [(.ref r), .int k] v g (PF v g (none)) := by
  refine MG.of (by decide) rfl (Nat.le_of_ble_eq_true rfl) (by simp [Value.category]) (fun Z hZ => ?_)
  refine z_aload_n hZ (pc := 0) dX11_wrong_0 rfl ?_
  refine gM_32 hZ (pc := 1) fl_X11_209 dX11_wrong_1 ?_
  refine z_if_eq hZ (pc := 4) (tgt := 8) dX11_wrong_4 rfl (fun c4 => ?_) (fun c4 => ?_)
  · skip
    exact absurd c4 hb
  · skip
    refine zr_v hZ (pc := 7) dX11_wrong_7 ?_
    exact ⟨rfl, rfl, rfl⟩
theorem c_X11_isMarked {l : Launch} {D : va_G} {cA : Nat → ClassId} {r : Nat} {a : Nat → Nat} {s0 s1 : Nat → Option Nat} {v : ZV} {g : ZG} {c : Int32} {s : Nat} (hb : v 32 = 0) (h30 : v 30 = nI s) (hs : v 28 = 3 → s < 700) : MG l D cA (WM r a cA s0 s1) yX11_isMarked cX11_isMarked 2 (some .boolean) 0 [(.ref r), .int c] v g (PF v g (some (.int (bI (decide (v 28 = 3) && decide (g 24 s = c)))))) := by
  refine MG.of (by decide) rfl (Nat.le_of_ble_eq_true rfl) (by simp [Value.category]) (fun Z hZ => ?_)
  refine z_aload_n hZ (pc := 0) dX11_isMarked_0 rfl ?_
  refine gM_32 hZ (pc := 1) fl_X11_209 dX11_isMarked_1 ?_
  refine z_if_ne hZ (pc := 4) (tgt := 32) dX11_isMarked_4 rfl (fun c4 => ?_) (fun c4 => ?_)
  · skip
    exact absurd hb c4
  · skip
    refine z_aload_n hZ (pc := 7) dX11_isMarked_7 rfl ?_
    refine gM_28 hZ (pc := 8) fl_X11_183 dX11_isMarked_8 ?_
    refine z_iconst hZ (pc := 11) (v := 3) dX11_isMarked_11 (by decide) ?_
    refine z_icmp_ne hZ (pc := 12) (tgt := 32) dX11_isMarked_12 rfl (fun c12 => ?_) (fun c12 => ?_)
    · skip
      skip
      refine z_iconst hZ (pc := 32) (v := 0) dX11_isMarked_32 (by decide) ?_
      refine zr_i hZ (pc := 33) dX11_isMarked_33 FitR.b0 ?_
      exact ⟨rfl, rfl, by rw [decide_eq_false c12]; rfl⟩
    · skip
      refine z_aload_n hZ (pc := 15) dX11_isMarked_15 rfl ?_
      refine gM_24 hZ (pc := 16) fl_X11_95 dX11_isMarked_16 ?_
      refine z_aload_n hZ (pc := 19) dX11_isMarked_19 rfl ?_
      refine gM_30 hZ (pc := 20) fl_X11_180 dX11_isMarked_20 ?_
      refine z_top h30 ?_
      have hs7 := hs c12
      refine lMn_24 hZ (pc := 23) dX11_isMarked_23 hs7 ?_
      refine z_iload_n hZ (pc := 24) dX11_isMarked_24 rfl ?_
      refine z_icmp_ne hZ (pc := 25) (tgt := 32) dX11_isMarked_25 rfl (fun c25 => ?_) (fun c25 => ?_)
      · skip
        skip
        refine z_iconst hZ (pc := 32) (v := 0) dX11_isMarked_32 (by decide) ?_
        refine zr_i hZ (pc := 33) dX11_isMarked_33 FitR.b0 ?_
        exact ⟨rfl, rfl, by rw [decide_eq_true c12, decide_eq_false c25]; rfl⟩
      · skip
        refine z_iconst hZ (pc := 28) (v := 1) dX11_isMarked_28 (by decide) ?_
        refine z_goto hZ (pc := 29) (tgt := 33) dX11_isMarked_29 rfl ?_
        refine zr_i hZ (pc := 33) dX11_isMarked_33 FitR.b1 ?_
        exact ⟨rfl, rfl, by rw [decide_eq_true c12, decide_eq_true c25]; rfl⟩
theorem c_X11_isMarked_b {l : Launch} {D : va_G} {cA : Nat → ClassId} {r : Nat} {a : Nat → Nat} {s0 s1 : Nat → Option Nat} {v : ZV} {g : ZG} {c : Int32} (hb : ¬ v 32 = 0) : MG l D cA (WM r a cA s0 s1) yX11_isMarked cX11_isMarked 2 (some .boolean) 0 [(.ref r), .int c] v g (PF v g (some (.int 0))) := by
  refine MG.of (by decide) rfl (Nat.le_of_ble_eq_true rfl) (by simp [Value.category]) (fun Z hZ => ?_)
  refine z_aload_n hZ (pc := 0) dX11_isMarked_0 rfl ?_
  refine gM_32 hZ (pc := 1) fl_X11_209 dX11_isMarked_1 ?_
  refine z_if_ne hZ (pc := 4) (tgt := 32) dX11_isMarked_4 rfl (fun c4 => ?_) (fun c4 => ?_)
  · skip
    refine z_iconst hZ (pc := 32) (v := 0) dX11_isMarked_32 (by decide) ?_
    refine zr_i hZ (pc := 33) dX11_isMarked_33 FitR.b0 ?_
    exact ⟨rfl, rfl, rfl⟩
  · skip
    exact absurd c4 hb
theorem c_X11_lay {l : Launch} {D : va_G} {cA : Nat → ClassId} {r : Nat} {a : Nat → Nat} {s0 s1 : Nat → Option Nat} {v : ZV} {g : ZG} {x : Int32} {c : Nat} (hb : v 32 = 0) (hc : v 35 = nI c) (h7 : c < 700) : MG l D cA (WM r a cA s0 s1) yX11_lay cX11_lay 2 none 1 [(.ref r), .int x] v g (PF (va_up v 35 (nI (c + 1))) (va_up g 10 (upd (g 10) (700 + c) x)) (none)) := by
  refine MG.of (by decide) rfl (Nat.le_of_ble_eq_true rfl) (by simp [Value.category]) (fun Z hZ => ?_)
  refine z_aload_n hZ (pc := 0) dX11_lay_0 rfl ?_
  refine gM_32 hZ (pc := 1) fl_X11_209 dX11_lay_1 ?_
  refine z_if_eq hZ (pc := 4) (tgt := 8) dX11_lay_4 rfl (fun c4 => ?_) (fun c4 => ?_)
  · skip
    refine z_aload_n hZ (pc := 8) dX11_lay_8 rfl ?_
    refine gM_10 hZ (pc := 9) fl_X11_63 dX11_lay_9 ?_
    refine z_sipush hZ (pc := 12) (v := 700) dX11_lay_12 (by decide) ?_
    refine z_aload_n hZ (pc := 15) dX11_lay_15 rfl ?_
    refine gM_35 hZ (pc := 16) fl_X11_236 dX11_lay_16 ?_
    refine z_iadd hZ (pc := 19) dX11_lay_19 ?_
    refine z_top (y := nI (700 + c)) (by rw [hc]; exact nI_add 700 c) ?_
    refine z_iload_n hZ (pc := 20) dX11_lay_20 rfl ?_
    refine sMn_10 hZ (pc := 21) dX11_lay_21 (by omega) ?_
    refine z_aload_n hZ (pc := 22) dX11_lay_22 rfl ?_
    refine z_dup hZ (pc := 23) dX11_lay_23 rfl ?_
    refine gM_35 hZ (pc := 24) fl_X11_236 dX11_lay_24 ?_
    refine z_iconst hZ (pc := 27) (v := 1) dX11_lay_27 (by decide) ?_
    refine z_iadd hZ (pc := 28) dX11_lay_28 ?_
    refine z_top (y := nI (c + 1)) (by show v 35 + 1 = _; rw [hc]; exact nI_1 c) ?_
    refine pM_35 hZ (pc := 29) fl_X11_236 dX11_lay_29 ?_
    refine zr_v hZ (pc := 32) dX11_lay_32 ?_
    exact ⟨rfl, rfl, rfl⟩
  · skip
    exact absurd hb c4
theorem c_X11_lay_b {l : Launch} {D : va_G} {cA : Nat → ClassId} {r : Nat} {a : Nat → Nat} {s0 s1 : Nat → Option Nat} {v : ZV} {g : ZG} {x : Int32} (hb : ¬ v 32 = 0) : MG l D cA (WM r a cA s0 s1) yX11_lay cX11_lay 2 none 1 [(.ref r), .int x] v g (PF v g (none)) := by
  refine MG.of (by decide) rfl (Nat.le_of_ble_eq_true rfl) (by simp [Value.category]) (fun Z hZ => ?_)
  refine z_aload_n hZ (pc := 0) dX11_lay_0 rfl ?_
  refine gM_32 hZ (pc := 1) fl_X11_209 dX11_lay_1 ?_
  refine z_if_eq hZ (pc := 4) (tgt := 8) dX11_lay_4 rfl (fun c4 => ?_) (fun c4 => ?_)
  · skip
    exact absurd c4 hb
  · skip
    refine zr_v hZ (pc := 7) dX11_lay_7 ?_
    exact ⟨rfl, rfl, rfl⟩
theorem c_X11_mark {l : Launch} {D : va_G} {cA : Nat → ClassId} {r : Nat} {a : Nat → Nat} {s0 s1 : Nat → Option Nat} {v : ZV} {g : ZG} {t : Nat → Int32} {n m i : Nat} {K N : Nat → Int32} {L : List Int32} {j : Nat} (hG : GM t n m K N) (hM : MI t n m v g i L) (hj : j < 9) : MG l D cA (WM r a cA s0 s1) yX11_mark cX11_mark 2 none 3 [(.ref r), .int (mkN j)] v g (fun v2 g2 r => r = none ∧ g2 = g ∧ ((K i = mcN j ∧ FM v v2 ∧ MI t n m v2 g (i + 1) L) ∨ (¬ K i = mcN j ∧ v2 = va_up (va_up v 32 1) 33 (v 30)))) := by
  refine MG.of (by decide) rfl (Nat.le_of_ble_eq_true rfl) (by simp [Value.category]) (fun Z hZ => ?_)
  have h24 : g 24 = t := hM.1
  have hb : v 32 = 0 := hM.2.2.2.1
  have h30 : v 30 = nI (tokS t n i) := hM.2.2.2.2.1.1
  have h31 : v 31 = nI (eNd t n (tokS t n i)) := hM.2.2.2.2.1.2.2.1
  have h28 : v 28 = tcM t n (tokS t n i) := hM.2.2.2.2.1.2.2.2.1
  have h26 : v 26 = nI (eNd t n (tokS t n i)) := hM.2.2.2.2.1.2.1
  have hi : i ≤ m := hM.2.2.1
  have hn7 : n ≤ 700 := hG.2.1
  have htok : ¬ K i = 0 → tokS t n i < n := tok_in hG.1 hi
  have hmk : (decide (v 28 = 3) && decide (g 24 (tokS t n i) = mkN j)) = decide (K i = mcN j) := by rw [h24, h28]; exact mkT_K hG.1 hi hj
  refine z_aload_n hZ (pc := 0) dX11_mark_0 rfl ?_
  refine gM_32 hZ (pc := 1) fl_X11_209 dX11_mark_1 ?_
  refine z_if_ne hZ (pc := 4) (tgt := 20) dX11_mark_4 rfl (fun c4 => ?_) (fun c4 => ?_)
  · skip
    exact absurd hb c4
  · skip
    refine z_aload_n hZ (pc := 7) dX11_mark_7 rfl ?_
    refine z_iload_n hZ (pc := 8) dX11_mark_8 rfl ?_
    refine cV_i hZ (pc := 9) dX11_mark_9 lk_X11_227 mn_X11_isMarked mv_X11_isMarked (c_X11_isMarked (s := tokS t n i) hb h30 (fun z => by have := htok (fun q => by rw [h28, (tc_0 hG.1 hi).mpr q] at z; exact absurd z (by decide)); omega)) rc_M rfl rfl (Nat.le_of_ble_eq_true rfl) (by decide) (by decide) (Nat.zero_le _) (Nat.zero_le _) ?_
    refine z_if_ne hZ (pc := 12) (tgt := 20) dX11_mark_12 rfl (fun c12 => ?_) (fun c12 => ?_)
    · skip
      have hkm : K i = mcN j := of_decide_eq_true (by rw [← hmk]; exact bI_ne c12)
      refine z_aload_n hZ (pc := 20) dX11_mark_20 rfl ?_
      refine gM_32 hZ (pc := 21) fl_X11_209 dX11_mark_21 ?_
      refine z_if_ne hZ (pc := 24) (tgt := 31) dX11_mark_24 rfl (fun c24 => ?_) (fun c24 => ?_)
      · skip
        exact absurd hb c24
      · skip
        skip
        refine z_aload_n hZ (pc := 27) dX11_mark_27 rfl ?_
        refine cV hZ (pc := 28) dX11_mark_28 lk_X11_233 mn_X11_stepOn mv_X11_stepOn (c_X11_stepOn (p := eNd t n (tokS t n i)) h26 hM.2.1 eNd_le hn7 (by rw [h24]; exact hG.2.2)) rc_M rfl rfl (Nat.le_of_ble_eq_true rfl) (by decide) (by decide) (Nat.zero_le _) (Nat.zero_le _) ?_
        intro v2 g2 r h
        obtain ⟨rfl, rfl, f1, h⟩ := h
        skip
        refine zr_v hZ (pc := 31) dX11_mark_31 ?_
        exact ⟨rfl, rfl, Or.inl ⟨hkm, f1.fm, hM.next hG.1 (TK_lt hG.1 hi (by rw [hkm]; exact (mc_nw j hj).2.2.1)) f1 h⟩⟩
    · skip
      refine z_aload_n hZ (pc := 15) dX11_mark_15 rfl ?_
      refine z_iconst hZ (pc := 16) (v := 1) dX11_mark_16 (by decide) ?_
      refine cV_v hZ (pc := 17) dX11_mark_17 lk_X11_230 mn_X11_wrong mv_X11_wrong (c_X11_wrong hb) rc_M rfl rfl (Nat.le_of_ble_eq_true rfl) (by decide) (by decide) (Nat.zero_le _) (Nat.zero_le _) ?_
      have hkm : ¬ K i = mcN j := of_decide_eq_false (by rw [← hmk]; exact bI_eq.mp c12)
      refine z_aload_n hZ (pc := 20) dX11_mark_20 rfl ?_
      refine gM_32 hZ (pc := 21) fl_X11_209 dX11_mark_21 ?_
      refine z_if_ne hZ (pc := 24) (tgt := 31) dX11_mark_24 rfl (fun c24 => ?_) (fun c24 => ?_)
      · skip
        skip
        refine zr_v hZ (pc := 31) dX11_mark_31 ?_
        exact ⟨rfl, rfl, Or.inr ⟨hkm, rfl⟩⟩
      · skip
        exact absurd c24 (by show ¬ (1 : Int32) = 0; decide)
theorem c_X11_mark_b {l : Launch} {D : va_G} {cA : Nat → ClassId} {r : Nat} {a : Nat → Nat} {s0 s1 : Nat → Option Nat} {v : ZV} {g : ZG} {c : Int32} (hb : ¬ v 32 = 0) : MG l D cA (WM r a cA s0 s1) yX11_mark cX11_mark 2 none 3 [(.ref r), .int c] v g (PF v g (none)) := by
  refine MG.of (by decide) rfl (Nat.le_of_ble_eq_true rfl) (by simp [Value.category]) (fun Z hZ => ?_)
  refine z_aload_n hZ (pc := 0) dX11_mark_0 rfl ?_
  refine gM_32 hZ (pc := 1) fl_X11_209 dX11_mark_1 ?_
  refine z_if_ne hZ (pc := 4) (tgt := 20) dX11_mark_4 rfl (fun c4 => ?_) (fun c4 => ?_)
  · skip
    refine z_aload_n hZ (pc := 20) dX11_mark_20 rfl ?_
    refine gM_32 hZ (pc := 21) fl_X11_209 dX11_mark_21 ?_
    refine z_if_ne hZ (pc := 24) (tgt := 31) dX11_mark_24 rfl (fun c24 => ?_) (fun c24 => ?_)
    · skip
      refine zr_v hZ (pc := 31) dX11_mark_31 ?_
      exact ⟨rfl, rfl, rfl⟩
    · skip
      exact absurd c24 hb
  · skip
    exact absurd c4 hb
theorem c_X11_readNumber {l : Launch} {D : va_G} {cA : Nat → ClassId} {r : Nat} {a : Nat → Nat} {s0 s1 : Nat → Option Nat} {v : ZV} {g : ZG} {t : Nat → Int32} {n m i : Nat} {K N : Nat → Int32} {L : List Int32} {p q : Int32} (hG : GM t n m K N) (hM : MI t n m v g i L) (hq : q < 10000) : MG l D cA (WM r a cA s0 s1) yX11_readNumber cX11_readNumber 4 (some .int) 3 [(.ref r), .int p, .int q] v g (fun v2 g2 r => g2 = g ∧ ∃ x, r = some (.int x) ∧ ((tnC (K i) (N i) p q = 0 ∧ x = N i ∧ FM v v2 ∧ MI t n m v2 g (i + 1) L) ∨ (¬ tnC (K i) (N i) p q = 0 ∧ v2 = va_up (va_up v 32 (tnC (K i) (N i) p q)) 33 (v 30)))) := by
  refine MG.of (by decide) rfl (Nat.le_of_ble_eq_true rfl) (by simp [Value.category]) (fun Z hZ => ?_)
  have h24 : g 24 = t := hM.1
  have hb : v 32 = 0 := hM.2.2.2.1
  have h30 : v 30 = nI (tokS t n i) := hM.2.2.2.2.1.1
  have h31 : v 31 = nI (eNd t n (tokS t n i)) := hM.2.2.2.2.1.2.2.1
  have h28 : v 28 = tcM t n (tokS t n i) := hM.2.2.2.2.1.2.2.2.1
  have h26 : v 26 = nI (eNd t n (tokS t n i)) := hM.2.2.2.2.1.2.1
  have hi : i ≤ m := hM.2.2.1
  have hn7 : n ≤ 700 := hG.2.1
  have htok : ¬ K i = 0 → tokS t n i < n := tok_in hG.1 hi
  have hse := tok_end hG.1 hi
  have he7 : eNd t n (tokS t n i) ≤ 700 := Nat.le_trans eNd_le hn7
  refine z_aload_n hZ (pc := 0) dX11_readNumber_0 rfl ?_
  refine gM_32 hZ (pc := 1) fl_X11_209 dX11_readNumber_1 ?_
  refine z_if_eq hZ (pc := 4) (tgt := 9) dX11_readNumber_4 rfl (fun c4 => ?_) (fun c4 => ?_)
  · skip
    refine z_aload_n hZ (pc := 9) dX11_readNumber_9 rfl ?_
    refine gM_28 hZ (pc := 10) fl_X11_183 dX11_readNumber_10 ?_
    refine z_iconst hZ (pc := 13) (v := 2) dX11_readNumber_13 (by decide) ?_
    refine z_icmp_eq hZ (pc := 14) (tgt := 25) dX11_readNumber_14 rfl (fun c14 => ?_) (fun c14 => ?_)
    · skip
      have hk : K i = 1 := (tc_2 hG.1 hi).mp (by rw [← h28]; exact c14)
      obtain ⟨hN1, hN2⟩ := N_long hG.1 hi hk
      refine z_aload_n hZ (pc := 25) dX11_readNumber_25 rfl ?_
      refine gM_31 hZ (pc := 26) fl_X11_206 dX11_readNumber_26 ?_
      refine z_top h31 ?_
      refine z_aload_n hZ (pc := 29) dX11_readNumber_29 rfl ?_
      refine gM_30 hZ (pc := 30) fl_X11_180 dX11_readNumber_30 ?_
      refine z_top h30 ?_
      refine z_isub hZ (pc := 33) dX11_readNumber_33 ?_
      refine z_top (y := nI (eNd t n (tokS t n i) - tokS t n i)) (pk_sub hse) ?_
      refine z_iconst hZ (pc := 34) (v := 4) dX11_readNumber_34 (by decide) ?_
      refine z_icmp_gt hZ (pc := 35) (tgt := 54) dX11_readNumber_35 rfl (fun c35 => ?_) (fun c35 => ?_)
      · skip
        have hc : tnC (K i) (N i) p q = 2 := by
          have h4 : 4 < eNd t n (tokS t n i) - tokS t n i := by
            rcases Nat.lt_or_ge 4 (eNd t n (tokS t n i) - tokS t n i) with z | z
            · exact z
            · exact absurd c35 (Int32.not_lt.mpr (nI_le (b := 4) z (by decide)))
          rw [tnC, if_pos hk, hN1 h4]
          split
          · rfl
          · first | rfl | exact if_pos hq
        refine z_aload_n hZ (pc := 54) dX11_readNumber_54 rfl ?_
        refine z_iconst hZ (pc := 55) (v := 2) dX11_readNumber_55 (by decide) ?_
        refine cV_v hZ (pc := 56) dX11_readNumber_56 lk_X11_230 mn_X11_wrong mv_X11_wrong (c_X11_wrong hb) rc_M rfl rfl (Nat.le_of_ble_eq_true rfl) (by decide) (by decide) (Nat.zero_le _) (Nat.zero_le _) ?_
        skip
        refine z_aload_n hZ (pc := 59) dX11_readNumber_59 rfl ?_
        refine gM_29 hZ (pc := 60) fl_X11_193 dX11_readNumber_60 ?_
        refine q_istore_n_4_3 hZ (pc := 63) dX11_readNumber_63 rfl ?_
        refine z_aload_n hZ (pc := 64) dX11_readNumber_64 rfl ?_
        refine gM_32 hZ (pc := 65) fl_X11_209 dX11_readNumber_65 ?_
        refine z_if_ne hZ (pc := 68) (tgt := 75) dX11_readNumber_68 rfl (fun c68 => ?_) (fun c68 => ?_)
        · skip
          skip
          refine z_iload_n hZ (pc := 75) dX11_readNumber_75 rfl ?_
          refine zr_i hZ (pc := 76) dX11_readNumber_76 FitR.int ?_
          exact ⟨rfl, _, rfl, Or.inr ⟨by rw [hc]; decide, by rw [hc]⟩⟩
        · skip
          exact absurd c68 (by show ¬ (va_up (va_up v 32 2) 33 (v 30)) 32 = 0; rw [up_off (by decide), up_at]; decide)
      · skip
        have h4 : ¬ 4 < eNd t n (tokS t n i) - tokS t n i := fun z => c35 (nI_lt (a := 4) z (by omega))
        have hv : v 29 = N i := by rw [hN2 h4]; exact hM.2.2.2.2.1.2.2.2.2 c14 (by omega)
        refine z_aload_n hZ (pc := 38) dX11_readNumber_38 rfl ?_
        refine gM_29 hZ (pc := 39) fl_X11_193 dX11_readNumber_39 ?_
        refine z_iload_n hZ (pc := 42) dX11_readNumber_42 rfl ?_
        refine z_icmp_lt hZ (pc := 43) (tgt := 54) dX11_readNumber_43 rfl (fun c43 => ?_) (fun c43 => ?_)
        · skip
          have hc : tnC (K i) (N i) p q = 2 := by rw [tnC, if_pos hk, ← hv, if_pos c43]
          refine z_aload_n hZ (pc := 54) dX11_readNumber_54 rfl ?_
          refine z_iconst hZ (pc := 55) (v := 2) dX11_readNumber_55 (by decide) ?_
          refine cV_v hZ (pc := 56) dX11_readNumber_56 lk_X11_230 mn_X11_wrong mv_X11_wrong (c_X11_wrong hb) rc_M rfl rfl (Nat.le_of_ble_eq_true rfl) (by decide) (by decide) (Nat.zero_le _) (Nat.zero_le _) ?_
          skip
          refine z_aload_n hZ (pc := 59) dX11_readNumber_59 rfl ?_
          refine gM_29 hZ (pc := 60) fl_X11_193 dX11_readNumber_60 ?_
          refine q_istore_n_4_3 hZ (pc := 63) dX11_readNumber_63 rfl ?_
          refine z_aload_n hZ (pc := 64) dX11_readNumber_64 rfl ?_
          refine gM_32 hZ (pc := 65) fl_X11_209 dX11_readNumber_65 ?_
          refine z_if_ne hZ (pc := 68) (tgt := 75) dX11_readNumber_68 rfl (fun c68 => ?_) (fun c68 => ?_)
          · skip
            skip
            refine z_iload_n hZ (pc := 75) dX11_readNumber_75 rfl ?_
            refine zr_i hZ (pc := 76) dX11_readNumber_76 FitR.int ?_
            exact ⟨rfl, _, rfl, Or.inr ⟨by rw [hc]; decide, by rw [hc]⟩⟩
          · skip
            exact absurd c68 (by show ¬ (va_up (va_up v 32 2) 33 (v 30)) 32 = 0; rw [up_off (by decide), up_at]; decide)
        · skip
          refine z_aload_n hZ (pc := 46) dX11_readNumber_46 rfl ?_
          refine gM_29 hZ (pc := 47) fl_X11_193 dX11_readNumber_47 ?_
          refine z_iload_n hZ (pc := 50) dX11_readNumber_50 rfl ?_
          refine z_icmp_le hZ (pc := 51) (tgt := 59) dX11_readNumber_51 rfl (fun c51 => ?_) (fun c51 => ?_)
          · skip
            have hc : tnC (K i) (N i) p q = 0 := by rw [tnC, if_pos hk, ← hv, if_neg c43, if_neg (Int32.not_lt.mpr c51)]
            refine z_aload_n hZ (pc := 59) dX11_readNumber_59 rfl ?_
            refine gM_29 hZ (pc := 60) fl_X11_193 dX11_readNumber_60 ?_
            refine q_istore_n_4_3 hZ (pc := 63) dX11_readNumber_63 rfl ?_
            refine z_aload_n hZ (pc := 64) dX11_readNumber_64 rfl ?_
            refine gM_32 hZ (pc := 65) fl_X11_209 dX11_readNumber_65 ?_
            refine z_if_ne hZ (pc := 68) (tgt := 75) dX11_readNumber_68 rfl (fun c68 => ?_) (fun c68 => ?_)
            · skip
              exact absurd hb c68
            · skip
              skip
              refine z_aload_n hZ (pc := 71) dX11_readNumber_71 rfl ?_
              refine cV hZ (pc := 72) dX11_readNumber_72 lk_X11_233 mn_X11_stepOn mv_X11_stepOn (c_X11_stepOn (p := eNd t n (tokS t n i)) h26 hM.2.1 eNd_le hn7 (by rw [h24]; exact hG.2.2)) rc_M rfl rfl (Nat.le_of_ble_eq_true rfl) (by decide) (by decide) (Nat.zero_le _) (Nat.zero_le _) ?_
              intro v2 g2 r h
              obtain ⟨rfl, rfl, f1, h⟩ := h
              skip
              refine z_iload_n hZ (pc := 75) dX11_readNumber_75 rfl ?_
              refine zr_i hZ (pc := 76) dX11_readNumber_76 FitR.int ?_
              exact ⟨rfl, _, rfl, Or.inl ⟨hc, hv, f1.fm, hM.next hG.1 (TK_lt hG.1 hi (by rw [hk]; decide)) f1 h⟩⟩
          · skip
            have hc : tnC (K i) (N i) p q = 2 := by rw [tnC, if_pos hk, ← hv, if_neg c43, if_pos (Int32.not_le.mp c51)]
            refine z_aload_n hZ (pc := 54) dX11_readNumber_54 rfl ?_
            refine z_iconst hZ (pc := 55) (v := 2) dX11_readNumber_55 (by decide) ?_
            refine cV_v hZ (pc := 56) dX11_readNumber_56 lk_X11_230 mn_X11_wrong mv_X11_wrong (c_X11_wrong hb) rc_M rfl rfl (Nat.le_of_ble_eq_true rfl) (by decide) (by decide) (Nat.zero_le _) (Nat.zero_le _) ?_
            skip
            refine z_aload_n hZ (pc := 59) dX11_readNumber_59 rfl ?_
            refine gM_29 hZ (pc := 60) fl_X11_193 dX11_readNumber_60 ?_
            refine q_istore_n_4_3 hZ (pc := 63) dX11_readNumber_63 rfl ?_
            refine z_aload_n hZ (pc := 64) dX11_readNumber_64 rfl ?_
            refine gM_32 hZ (pc := 65) fl_X11_209 dX11_readNumber_65 ?_
            refine z_if_ne hZ (pc := 68) (tgt := 75) dX11_readNumber_68 rfl (fun c68 => ?_) (fun c68 => ?_)
            · skip
              skip
              refine z_iload_n hZ (pc := 75) dX11_readNumber_75 rfl ?_
              refine zr_i hZ (pc := 76) dX11_readNumber_76 FitR.int ?_
              exact ⟨rfl, _, rfl, Or.inr ⟨by rw [hc]; decide, by rw [hc]⟩⟩
            · skip
              exact absurd c68 (by show ¬ (va_up (va_up v 32 2) 33 (v 30)) 32 = 0; rw [up_off (by decide), up_at]; decide)
    · skip
      have hk : ¬ K i = 1 := fun z => c14 (by rw [h28]; exact (tc_2 hG.1 hi).mpr z)
      have hc : tnC (K i) (N i) p q = 1 := by rw [tnC, if_neg hk]
      refine z_aload_n hZ (pc := 17) dX11_readNumber_17 rfl ?_
      refine z_iconst hZ (pc := 18) (v := 1) dX11_readNumber_18 (by decide) ?_
      refine cV_v hZ (pc := 19) dX11_readNumber_19 lk_X11_230 mn_X11_wrong mv_X11_wrong (c_X11_wrong hb) rc_M rfl rfl (Nat.le_of_ble_eq_true rfl) (by decide) (by decide) (Nat.zero_le _) (Nat.zero_le _) ?_
      refine z_goto hZ (pc := 22) (tgt := 59) dX11_readNumber_22 rfl ?_
      skip
      refine z_aload_n hZ (pc := 59) dX11_readNumber_59 rfl ?_
      refine gM_29 hZ (pc := 60) fl_X11_193 dX11_readNumber_60 ?_
      refine q_istore_n_4_3 hZ (pc := 63) dX11_readNumber_63 rfl ?_
      refine z_aload_n hZ (pc := 64) dX11_readNumber_64 rfl ?_
      refine gM_32 hZ (pc := 65) fl_X11_209 dX11_readNumber_65 ?_
      refine z_if_ne hZ (pc := 68) (tgt := 75) dX11_readNumber_68 rfl (fun c68 => ?_) (fun c68 => ?_)
      · skip
        skip
        refine z_iload_n hZ (pc := 75) dX11_readNumber_75 rfl ?_
        refine zr_i hZ (pc := 76) dX11_readNumber_76 FitR.int ?_
        exact ⟨rfl, _, rfl, Or.inr ⟨by rw [hc]; decide, by rw [hc]⟩⟩
      · skip
        exact absurd c68 (by show ¬ (va_up (va_up v 32 1) 33 (v 30)) 32 = 0; rw [up_off (by decide), up_at]; decide)
  · skip
    exact absurd hb c4
theorem c_X11_readNumber_b {l : Launch} {D : va_G} {cA : Nat → ClassId} {r : Nat} {a : Nat → Nat} {s0 s1 : Nat → Option Nat} {v : ZV} {g : ZG} {p q : Int32} (hb : ¬ v 32 = 0) : MG l D cA (WM r a cA s0 s1) yX11_readNumber cX11_readNumber 4 (some .int) 3 [(.ref r), .int p, .int q] v g (PF v g (some (.int 0))) := by
  refine MG.of (by decide) rfl (Nat.le_of_ble_eq_true rfl) (by simp [Value.category]) (fun Z hZ => ?_)
  refine z_aload_n hZ (pc := 0) dX11_readNumber_0 rfl ?_
  refine gM_32 hZ (pc := 1) fl_X11_209 dX11_readNumber_1 ?_
  refine z_if_eq hZ (pc := 4) (tgt := 9) dX11_readNumber_4 rfl (fun c4 => ?_) (fun c4 => ?_)
  · skip
    exact absurd c4 hb
  · skip
    refine z_iconst hZ (pc := 7) (v := 0) dX11_readNumber_7 (by decide) ?_
    refine zr_i hZ (pc := 8) dX11_readNumber_8 FitR.int ?_
    exact ⟨rfl, rfl, rfl⟩
theorem c_X11_readHouse {l : Launch} {D : va_G} {cA : Nat → ClassId} {r : Nat} {a : Nat → Nat} {s0 s1 : Nat → Option Nat} {v : ZV} {g : ZG} {t : Nat → Int32} {n m i : Nat} {K N : Nat → Int32} {L : List Int32} {p : Int32} (hG : GM t n m K N) (hM : MI t n m v g i L) (hH : g 3 4 ≤ 10) : MG l D cA (WM r a cA s0 s1) yX11_readHouse cX11_readHouse 3 (some .int) 3 [(.ref r), .int p] v g (fun v2 g2 r => g2 = g ∧ ∃ x, r = some (.int x) ∧ ((thC (K i) (N i) (g 3 4) p = 0 ∧ x = N i ∧ FM v v2 ∧ MI t n m v2 g (i + 1) L) ∨ (¬ thC (K i) (N i) (g 3 4) p = 0 ∧ v2 = va_up (va_up v 32 (thC (K i) (N i) (g 3 4) p)) 33 (v 30)))) := by
  refine MG.of (by decide) rfl (Nat.le_of_ble_eq_true rfl) (by simp [Value.category]) (fun Z hZ => ?_)
  have h24 : g 24 = t := hM.1
  have hb : v 32 = 0 := hM.2.2.2.1
  have h30 : v 30 = nI (tokS t n i) := hM.2.2.2.2.1.1
  have h31 : v 31 = nI (eNd t n (tokS t n i)) := hM.2.2.2.2.1.2.2.1
  have h28 : v 28 = tcM t n (tokS t n i) := hM.2.2.2.2.1.2.2.2.1
  have h26 : v 26 = nI (eNd t n (tokS t n i)) := hM.2.2.2.2.1.2.1
  have hi : i ≤ m := hM.2.2.1
  have hn7 : n ≤ 700 := hG.2.1
  have htok : ¬ K i = 0 → tokS t n i < n := tok_in hG.1 hi
  have hse := tok_end hG.1 hi
  have he7 : eNd t n (tokS t n i) ≤ 700 := Nat.le_trans eNd_le hn7
  refine z_aload_n hZ (pc := 0) dX11_readHouse_0 rfl ?_
  refine gM_32 hZ (pc := 1) fl_X11_209 dX11_readHouse_1 ?_
  refine z_if_eq hZ (pc := 4) (tgt := 9) dX11_readHouse_4 rfl (fun c4 => ?_) (fun c4 => ?_)
  · skip
    refine z_aload_n hZ (pc := 9) dX11_readHouse_9 rfl ?_
    refine gM_28 hZ (pc := 10) fl_X11_183 dX11_readHouse_10 ?_
    refine z_iconst hZ (pc := 13) (v := 2) dX11_readHouse_13 (by decide) ?_
    refine z_icmp_eq hZ (pc := 14) (tgt := 25) dX11_readHouse_14 rfl (fun c14 => ?_) (fun c14 => ?_)
    · skip
      have hk : K i = 1 := (tc_2 hG.1 hi).mp (by rw [← h28]; exact c14)
      obtain ⟨hN1, hN2⟩ := N_long hG.1 hi hk
      refine z_aload_n hZ (pc := 25) dX11_readHouse_25 rfl ?_
      refine gM_31 hZ (pc := 26) fl_X11_206 dX11_readHouse_26 ?_
      refine z_top h31 ?_
      refine z_aload_n hZ (pc := 29) dX11_readHouse_29 rfl ?_
      refine gM_30 hZ (pc := 30) fl_X11_180 dX11_readHouse_30 ?_
      refine z_top h30 ?_
      refine z_isub hZ (pc := 33) dX11_readHouse_33 ?_
      refine z_top (y := nI (eNd t n (tokS t n i) - tokS t n i)) (pk_sub hse) ?_
      refine z_iconst hZ (pc := 34) (v := 4) dX11_readHouse_34 (by decide) ?_
      refine z_icmp_le hZ (pc := 35) (tgt := 46) dX11_readHouse_35 rfl (fun c35 => ?_) (fun c35 => ?_)
      · skip
        have h4 : ¬ 4 < eNd t n (tokS t n i) - tokS t n i := fun z => Int32.not_lt.mpr c35 (nI_lt (a := 4) z (by omega))
        have hv : v 29 = N i := by rw [hN2 h4]; exact hM.2.2.2.2.1.2.2.2.2 c14 (by omega)
        have h99 : ¬ 9999 < N i := by
          obtain ⟨X, hX, e⟩ := num_of hG.1 hi hk h4
          rw [e]
          exact Int32.not_lt.mpr (nI_le (a := X) (b := 9999) (by omega) (by decide))
        refine z_aload_n hZ (pc := 46) dX11_readHouse_46 rfl ?_
        refine gM_29 hZ (pc := 47) fl_X11_193 dX11_readHouse_47 ?_
        refine z_aload_n hZ (pc := 50) dX11_readHouse_50 rfl ?_
        refine gM_3 hZ (pc := 51) fl_X11_40 dX11_readHouse_51 ?_
        refine z_iconst hZ (pc := 54) (v := 4) dX11_readHouse_54 (by decide) ?_
        refine lMn_3 hZ (pc := 55) (q := 4) dX11_readHouse_55 (by omega) ?_
        refine z_icmp_lt hZ (pc := 56) (tgt := 67) dX11_readHouse_56 rfl (fun c56 => ?_) (fun c56 => ?_)
        · skip
          refine z_aload_n hZ (pc := 67) dX11_readHouse_67 rfl ?_
          refine gM_29 hZ (pc := 68) fl_X11_193 dX11_readHouse_68 ?_
          refine z_iload_n hZ (pc := 71) dX11_readHouse_71 rfl ?_
          refine z_icmp_ne hZ (pc := 72) (tgt := 80) dX11_readHouse_72 rfl (fun c72 => ?_) (fun c72 => ?_)
          · skip
            have hc : thC (K i) (N i) (g 3 4) p = 0 := by rw [thC, if_pos hk, ← hv, if_pos c56, if_neg c72]
            refine z_aload_n hZ (pc := 80) dX11_readHouse_80 rfl ?_
            refine gM_29 hZ (pc := 81) fl_X11_193 dX11_readHouse_81 ?_
            refine q_istore_n_3_2 hZ (pc := 84) dX11_readHouse_84 rfl ?_
            refine z_aload_n hZ (pc := 85) dX11_readHouse_85 rfl ?_
            refine gM_32 hZ (pc := 86) fl_X11_209 dX11_readHouse_86 ?_
            refine z_if_ne hZ (pc := 89) (tgt := 96) dX11_readHouse_89 rfl (fun c89 => ?_) (fun c89 => ?_)
            · skip
              exact absurd hb c89
            · skip
              skip
              refine z_aload_n hZ (pc := 92) dX11_readHouse_92 rfl ?_
              refine cV hZ (pc := 93) dX11_readHouse_93 lk_X11_233 mn_X11_stepOn mv_X11_stepOn (c_X11_stepOn (p := eNd t n (tokS t n i)) h26 hM.2.1 eNd_le hn7 (by rw [h24]; exact hG.2.2)) rc_M rfl rfl (Nat.le_of_ble_eq_true rfl) (by decide) (by decide) (Nat.zero_le _) (Nat.zero_le _) ?_
              intro v2 g2 r h
              obtain ⟨rfl, rfl, f1, h⟩ := h
              skip
              refine z_iload_n hZ (pc := 96) dX11_readHouse_96 rfl ?_
              refine zr_i hZ (pc := 97) dX11_readHouse_97 FitR.int ?_
              exact ⟨rfl, _, rfl, Or.inl ⟨hc, hv, f1.fm, hM.next hG.1 (TK_lt hG.1 hi (by rw [hk]; decide)) f1 h⟩⟩
          · skip
            have hc : thC (K i) (N i) (g 3 4) p = 4 := by rw [thC, if_pos hk, ← hv, if_pos c56, if_pos c72]
            refine z_aload_n hZ (pc := 75) dX11_readHouse_75 rfl ?_
            refine z_iconst hZ (pc := 76) (v := 4) dX11_readHouse_76 (by decide) ?_
            refine cV_v hZ (pc := 77) dX11_readHouse_77 lk_X11_230 mn_X11_wrong mv_X11_wrong (c_X11_wrong hb) rc_M rfl rfl (Nat.le_of_ble_eq_true rfl) (by decide) (by decide) (Nat.zero_le _) (Nat.zero_le _) ?_
            skip
            refine z_aload_n hZ (pc := 80) dX11_readHouse_80 rfl ?_
            refine gM_29 hZ (pc := 81) fl_X11_193 dX11_readHouse_81 ?_
            refine q_istore_n_3_2 hZ (pc := 84) dX11_readHouse_84 rfl ?_
            refine z_aload_n hZ (pc := 85) dX11_readHouse_85 rfl ?_
            refine gM_32 hZ (pc := 86) fl_X11_209 dX11_readHouse_86 ?_
            refine z_if_ne hZ (pc := 89) (tgt := 96) dX11_readHouse_89 rfl (fun c89 => ?_) (fun c89 => ?_)
            · skip
              skip
              refine z_iload_n hZ (pc := 96) dX11_readHouse_96 rfl ?_
              refine zr_i hZ (pc := 97) dX11_readHouse_97 FitR.int ?_
              exact ⟨rfl, _, rfl, Or.inr ⟨by rw [hc]; decide, by rw [hc]⟩⟩
            · skip
              exact absurd c89 (by show ¬ (va_up (va_up v 32 4) 33 (v 30)) 32 = 0; rw [up_off (by decide), up_at]; decide)
        · skip
          have hc : thC (K i) (N i) (g 3 4) p = 3 := by rw [thC, if_pos hk, ← hv, if_neg c56, if_neg (by rw [hv]; exact h99)]
          refine z_aload_n hZ (pc := 59) dX11_readHouse_59 rfl ?_
          refine z_iconst hZ (pc := 60) (v := 3) dX11_readHouse_60 (by decide) ?_
          refine cV_v hZ (pc := 61) dX11_readHouse_61 lk_X11_230 mn_X11_wrong mv_X11_wrong (c_X11_wrong hb) rc_M rfl rfl (Nat.le_of_ble_eq_true rfl) (by decide) (by decide) (Nat.zero_le _) (Nat.zero_le _) ?_
          refine z_goto hZ (pc := 64) (tgt := 80) dX11_readHouse_64 rfl ?_
          skip
          refine z_aload_n hZ (pc := 80) dX11_readHouse_80 rfl ?_
          refine gM_29 hZ (pc := 81) fl_X11_193 dX11_readHouse_81 ?_
          refine q_istore_n_3_2 hZ (pc := 84) dX11_readHouse_84 rfl ?_
          refine z_aload_n hZ (pc := 85) dX11_readHouse_85 rfl ?_
          refine gM_32 hZ (pc := 86) fl_X11_209 dX11_readHouse_86 ?_
          refine z_if_ne hZ (pc := 89) (tgt := 96) dX11_readHouse_89 rfl (fun c89 => ?_) (fun c89 => ?_)
          · skip
            skip
            refine z_iload_n hZ (pc := 96) dX11_readHouse_96 rfl ?_
            refine zr_i hZ (pc := 97) dX11_readHouse_97 FitR.int ?_
            exact ⟨rfl, _, rfl, Or.inr ⟨by rw [hc]; decide, by rw [hc]⟩⟩
          · skip
            exact absurd c89 (by show ¬ (va_up (va_up v 32 3) 33 (v 30)) 32 = 0; rw [up_off (by decide), up_at]; decide)
      · skip
        have hc : thC (K i) (N i) (g 3 4) p = 2 := by
          have h4 : 4 < eNd t n (tokS t n i) - tokS t n i := by
            rcases Nat.lt_or_ge 4 (eNd t n (tokS t n i) - tokS t n i) with z | z
            · exact z
            · exact absurd (nI_le (b := 4) z (by decide)) c35
          rw [thC, if_pos hk, hN1 h4, if_neg (fun z => absurd (Int32.lt_of_lt_of_le z hH) (by decide))]
          rfl
        refine z_aload_n hZ (pc := 38) dX11_readHouse_38 rfl ?_
        refine z_iconst hZ (pc := 39) (v := 2) dX11_readHouse_39 (by decide) ?_
        refine cV_v hZ (pc := 40) dX11_readHouse_40 lk_X11_230 mn_X11_wrong mv_X11_wrong (c_X11_wrong hb) rc_M rfl rfl (Nat.le_of_ble_eq_true rfl) (by decide) (by decide) (Nat.zero_le _) (Nat.zero_le _) ?_
        refine z_goto hZ (pc := 43) (tgt := 80) dX11_readHouse_43 rfl ?_
        skip
        refine z_aload_n hZ (pc := 80) dX11_readHouse_80 rfl ?_
        refine gM_29 hZ (pc := 81) fl_X11_193 dX11_readHouse_81 ?_
        refine q_istore_n_3_2 hZ (pc := 84) dX11_readHouse_84 rfl ?_
        refine z_aload_n hZ (pc := 85) dX11_readHouse_85 rfl ?_
        refine gM_32 hZ (pc := 86) fl_X11_209 dX11_readHouse_86 ?_
        refine z_if_ne hZ (pc := 89) (tgt := 96) dX11_readHouse_89 rfl (fun c89 => ?_) (fun c89 => ?_)
        · skip
          skip
          refine z_iload_n hZ (pc := 96) dX11_readHouse_96 rfl ?_
          refine zr_i hZ (pc := 97) dX11_readHouse_97 FitR.int ?_
          exact ⟨rfl, _, rfl, Or.inr ⟨by rw [hc]; decide, by rw [hc]⟩⟩
        · skip
          exact absurd c89 (by show ¬ (va_up (va_up v 32 2) 33 (v 30)) 32 = 0; rw [up_off (by decide), up_at]; decide)
    · skip
      have hk : ¬ K i = 1 := fun z => c14 (by rw [h28]; exact (tc_2 hG.1 hi).mpr z)
      have hc : thC (K i) (N i) (g 3 4) p = 1 := by rw [thC, if_neg hk]
      refine z_aload_n hZ (pc := 17) dX11_readHouse_17 rfl ?_
      refine z_iconst hZ (pc := 18) (v := 1) dX11_readHouse_18 (by decide) ?_
      refine cV_v hZ (pc := 19) dX11_readHouse_19 lk_X11_230 mn_X11_wrong mv_X11_wrong (c_X11_wrong hb) rc_M rfl rfl (Nat.le_of_ble_eq_true rfl) (by decide) (by decide) (Nat.zero_le _) (Nat.zero_le _) ?_
      refine z_goto hZ (pc := 22) (tgt := 80) dX11_readHouse_22 rfl ?_
      skip
      refine z_aload_n hZ (pc := 80) dX11_readHouse_80 rfl ?_
      refine gM_29 hZ (pc := 81) fl_X11_193 dX11_readHouse_81 ?_
      refine q_istore_n_3_2 hZ (pc := 84) dX11_readHouse_84 rfl ?_
      refine z_aload_n hZ (pc := 85) dX11_readHouse_85 rfl ?_
      refine gM_32 hZ (pc := 86) fl_X11_209 dX11_readHouse_86 ?_
      refine z_if_ne hZ (pc := 89) (tgt := 96) dX11_readHouse_89 rfl (fun c89 => ?_) (fun c89 => ?_)
      · skip
        skip
        refine z_iload_n hZ (pc := 96) dX11_readHouse_96 rfl ?_
        refine zr_i hZ (pc := 97) dX11_readHouse_97 FitR.int ?_
        exact ⟨rfl, _, rfl, Or.inr ⟨by rw [hc]; decide, by rw [hc]⟩⟩
      · skip
        exact absurd c89 (by show ¬ (va_up (va_up v 32 1) 33 (v 30)) 32 = 0; rw [up_off (by decide), up_at]; decide)
  · skip
    exact absurd hb c4
theorem c_X11_readHouse_b {l : Launch} {D : va_G} {cA : Nat → ClassId} {r : Nat} {a : Nat → Nat} {s0 s1 : Nat → Option Nat} {v : ZV} {g : ZG} {p : Int32} (hb : ¬ v 32 = 0) : MG l D cA (WM r a cA s0 s1) yX11_readHouse cX11_readHouse 3 (some .int) 3 [(.ref r), .int p] v g (PF v g (some (.int 0))) := by
  refine MG.of (by decide) rfl (Nat.le_of_ble_eq_true rfl) (by simp [Value.category]) (fun Z hZ => ?_)
  refine z_aload_n hZ (pc := 0) dX11_readHouse_0 rfl ?_
  refine gM_32 hZ (pc := 1) fl_X11_209 dX11_readHouse_1 ?_
  refine z_if_eq hZ (pc := 4) (tgt := 9) dX11_readHouse_4 rfl (fun c4 => ?_) (fun c4 => ?_)
  · skip
    exact absurd c4 hb
  · skip
    refine z_iconst hZ (pc := 7) (v := 0) dX11_readHouse_7 (by decide) ?_
    refine zr_i hZ (pc := 8) dX11_readHouse_8 FitR.int ?_
    exact ⟨rfl, rfl, rfl⟩
