theorem cpyf_s (i : Nat) (f h : Nat → Int32) : upd (cpyf i f h) i (f i) = cpyf (i + 1) f h := by
  funext k
  unfold upd cpyf
  by_cases e : k = i
  · subst e; simp
  · by_cases q : k < i
    · simp [e, q, Nat.lt_succ_of_lt q]
    · have : ¬ k < i + 1 := by omega
      simp [e, q, this]
theorem cpyf_0 (f h : Nat → Int32) : cpyf 0 f h = h := by funext k; simp [cpyf]
theorem c_X11_be_53_4 {l : Launch} {D : va_G} {cA : Nat → ClassId} {r : Nat} {a : Nat → Nat} {s0 s1 : Nat → Option Nat} {v : ZV} {g : ZG}   : MG l D cA (WM r a cA s0 s1) yX11_be cX11_be 3 none 0 [(.ref (a 53)), (.ref (a 4))] v g (PF v (va_up g 53 (cpyf 32 (g 4) (g 53))) (none)) := by
  refine MG.of (by decide) rfl (Nat.le_of_ble_eq_true rfl) (by simp [Value.category]) (fun Z hZ => ?_)
  refine z_iconst hZ (pc := 0) (v := 0) dX11_be_0 (by decide) ?_
  refine q_istore_n_3_2 hZ (pc := 1) dX11_be_1 rfl ?_
  have lp2 : ∀ (f i : Nat), i ≤ 32 → 32 - i < f → Z 0 0 (WM r a cA s0 s1 v (va_up g 53 (cpyf i (g 4) (g 53)))) [some (.ref (a 53)), some (.ref (a 4)), some (.int (nI i))] [] 2 := by
    intro f
    induction f with
    | zero => intro i _ hf; exact absurd hf (Nat.not_lt_zero _)
    | succ f ih2 =>
      intro i hi hf
      refine z_iload_n hZ (pc := 2) dX11_be_2 rfl ?_
      refine z_aload_n hZ (pc := 3) dX11_be_3 rfl ?_
      refine nM_53 hZ (pc := 4) dX11_be_4 ?_
      refine z_icmp_ge hZ (pc := 5) (tgt := 20) dX11_be_5 rfl (fun c5 => ?_) (fun c5 => ?_)
      · skip
        have ei : i = 32 := lp_ge rfl (by decide) hi c5
        subst ei
        refine zr_v hZ (pc := 20) dX11_be_20 ?_
        exact ⟨rfl, rfl, rfl⟩
      · skip
        have hl : i < 32 := lp_lt rfl (by decide) hi c5
        refine z_aload_n hZ (pc := 8) dX11_be_8 rfl ?_
        refine z_iload_n hZ (pc := 9) dX11_be_9 rfl ?_
        refine z_aload_n hZ (pc := 10) dX11_be_10 rfl ?_
        refine z_iload_n hZ (pc := 11) dX11_be_11 rfl ?_
        refine lMn_4 hZ (pc := 12) dX11_be_12 (show i < 32 by omega) ?_
        refine z_top (y := g 4 i) rfl ?_
        refine sMn_53 hZ (pc := 13) dX11_be_13 (show i < 32 by omega) ?_
        refine q_iinc_3_2 hZ (pc := 14) dX11_be_14 rfl ?_
        refine z_goto hZ (pc := 17) (tgt := 2) dX11_be_17 rfl ?_
        exact z_back hZ (ih2 (i + 1) (by omega) (by omega)) (WM_eq rfl (by rw [up_twice, up_at, cpyf_s])) ⟨rfl, rfl, zi (nI_inc i), trivial⟩
  exact z_back hZ (lp2 33 0 (by omega) (by omega)) (WM_eq rfl (by rw [cpyf_0, up_self])) ⟨rfl, rfl, rfl, trivial⟩
theorem c_X11_be_55_21 {l : Launch} {D : va_G} {cA : Nat → ClassId} {r : Nat} {a : Nat → Nat} {s0 s1 : Nat → Option Nat} {v : ZV} {g : ZG}   : MG l D cA (WM r a cA s0 s1) yX11_be cX11_be 3 none 0 [(.ref (a 55)), (.ref (a 21))] v g (PF v (va_up g 55 (cpyf 40 (g 21) (g 55))) (none)) := by
  refine MG.of (by decide) rfl (Nat.le_of_ble_eq_true rfl) (by simp [Value.category]) (fun Z hZ => ?_)
  refine z_iconst hZ (pc := 0) (v := 0) dX11_be_0 (by decide) ?_
  refine q_istore_n_3_2 hZ (pc := 1) dX11_be_1 rfl ?_
  have lp2 : ∀ (f i : Nat), i ≤ 40 → 40 - i < f → Z 0 0 (WM r a cA s0 s1 v (va_up g 55 (cpyf i (g 21) (g 55)))) [some (.ref (a 55)), some (.ref (a 21)), some (.int (nI i))] [] 2 := by
    intro f
    induction f with
    | zero => intro i _ hf; exact absurd hf (Nat.not_lt_zero _)
    | succ f ih2 =>
      intro i hi hf
      refine z_iload_n hZ (pc := 2) dX11_be_2 rfl ?_
      refine z_aload_n hZ (pc := 3) dX11_be_3 rfl ?_
      refine nM_55 hZ (pc := 4) dX11_be_4 ?_
      refine z_icmp_ge hZ (pc := 5) (tgt := 20) dX11_be_5 rfl (fun c5 => ?_) (fun c5 => ?_)
      · skip
        have ei : i = 40 := lp_ge rfl (by decide) hi c5
        subst ei
        refine zr_v hZ (pc := 20) dX11_be_20 ?_
        exact ⟨rfl, rfl, rfl⟩
      · skip
        have hl : i < 40 := lp_lt rfl (by decide) hi c5
        refine z_aload_n hZ (pc := 8) dX11_be_8 rfl ?_
        refine z_iload_n hZ (pc := 9) dX11_be_9 rfl ?_
        refine z_aload_n hZ (pc := 10) dX11_be_10 rfl ?_
        refine z_iload_n hZ (pc := 11) dX11_be_11 rfl ?_
        refine lMn_21 hZ (pc := 12) dX11_be_12 (show i < 40 by omega) ?_
        refine z_top (y := g 21 i) rfl ?_
        refine sMn_55 hZ (pc := 13) dX11_be_13 (show i < 40 by omega) ?_
        refine q_iinc_3_2 hZ (pc := 14) dX11_be_14 rfl ?_
        refine z_goto hZ (pc := 17) (tgt := 2) dX11_be_17 rfl ?_
        exact z_back hZ (ih2 (i + 1) (by omega) (by omega)) (WM_eq rfl (by rw [up_twice, up_at, cpyf_s])) ⟨rfl, rfl, zi (nI_inc i), trivial⟩
  exact z_back hZ (lp2 41 0 (by omega) (by omega)) (WM_eq rfl (by rw [cpyf_0, up_self])) ⟨rfl, rfl, rfl, trivial⟩
theorem c_X11_be_56_22 {l : Launch} {D : va_G} {cA : Nat → ClassId} {r : Nat} {a : Nat → Nat} {s0 s1 : Nat → Option Nat} {v : ZV} {g : ZG}   : MG l D cA (WM r a cA s0 s1) yX11_be cX11_be 3 none 0 [(.ref (a 56)), (.ref (a 22))] v g (PF v (va_up g 56 (cpyf 40 (g 22) (g 56))) (none)) := by
  refine MG.of (by decide) rfl (Nat.le_of_ble_eq_true rfl) (by simp [Value.category]) (fun Z hZ => ?_)
  refine z_iconst hZ (pc := 0) (v := 0) dX11_be_0 (by decide) ?_
  refine q_istore_n_3_2 hZ (pc := 1) dX11_be_1 rfl ?_
  have lp2 : ∀ (f i : Nat), i ≤ 40 → 40 - i < f → Z 0 0 (WM r a cA s0 s1 v (va_up g 56 (cpyf i (g 22) (g 56)))) [some (.ref (a 56)), some (.ref (a 22)), some (.int (nI i))] [] 2 := by
    intro f
    induction f with
    | zero => intro i _ hf; exact absurd hf (Nat.not_lt_zero _)
    | succ f ih2 =>
      intro i hi hf
      refine z_iload_n hZ (pc := 2) dX11_be_2 rfl ?_
      refine z_aload_n hZ (pc := 3) dX11_be_3 rfl ?_
      refine nM_56 hZ (pc := 4) dX11_be_4 ?_
      refine z_icmp_ge hZ (pc := 5) (tgt := 20) dX11_be_5 rfl (fun c5 => ?_) (fun c5 => ?_)
      · skip
        have ei : i = 40 := lp_ge rfl (by decide) hi c5
        subst ei
        refine zr_v hZ (pc := 20) dX11_be_20 ?_
        exact ⟨rfl, rfl, rfl⟩
      · skip
        have hl : i < 40 := lp_lt rfl (by decide) hi c5
        refine z_aload_n hZ (pc := 8) dX11_be_8 rfl ?_
        refine z_iload_n hZ (pc := 9) dX11_be_9 rfl ?_
        refine z_aload_n hZ (pc := 10) dX11_be_10 rfl ?_
        refine z_iload_n hZ (pc := 11) dX11_be_11 rfl ?_
        refine lMn_22 hZ (pc := 12) dX11_be_12 (show i < 40 by omega) ?_
        refine z_top (y := g 22 i) rfl ?_
        refine sMn_56 hZ (pc := 13) dX11_be_13 (show i < 40 by omega) ?_
        refine q_iinc_3_2 hZ (pc := 14) dX11_be_14 rfl ?_
        refine z_goto hZ (pc := 17) (tgt := 2) dX11_be_17 rfl ?_
        exact z_back hZ (ih2 (i + 1) (by omega) (by omega)) (WM_eq rfl (by rw [up_twice, up_at, cpyf_s])) ⟨rfl, rfl, zi (nI_inc i), trivial⟩
  exact z_back hZ (lp2 41 0 (by omega) (by omega)) (WM_eq rfl (by rw [cpyf_0, up_self])) ⟨rfl, rfl, rfl, trivial⟩
theorem c_X11_be_57_23 {l : Launch} {D : va_G} {cA : Nat → ClassId} {r : Nat} {a : Nat → Nat} {s0 s1 : Nat → Option Nat} {v : ZV} {g : ZG}   : MG l D cA (WM r a cA s0 s1) yX11_be cX11_be 3 none 0 [(.ref (a 57)), (.ref (a 23))] v g (PF v (va_up g 57 (cpyf 40 (g 23) (g 57))) (none)) := by
  refine MG.of (by decide) rfl (Nat.le_of_ble_eq_true rfl) (by simp [Value.category]) (fun Z hZ => ?_)
  refine z_iconst hZ (pc := 0) (v := 0) dX11_be_0 (by decide) ?_
  refine q_istore_n_3_2 hZ (pc := 1) dX11_be_1 rfl ?_
  have lp2 : ∀ (f i : Nat), i ≤ 40 → 40 - i < f → Z 0 0 (WM r a cA s0 s1 v (va_up g 57 (cpyf i (g 23) (g 57)))) [some (.ref (a 57)), some (.ref (a 23)), some (.int (nI i))] [] 2 := by
    intro f
    induction f with
    | zero => intro i _ hf; exact absurd hf (Nat.not_lt_zero _)
    | succ f ih2 =>
      intro i hi hf
      refine z_iload_n hZ (pc := 2) dX11_be_2 rfl ?_
      refine z_aload_n hZ (pc := 3) dX11_be_3 rfl ?_
      refine nM_57 hZ (pc := 4) dX11_be_4 ?_
      refine z_icmp_ge hZ (pc := 5) (tgt := 20) dX11_be_5 rfl (fun c5 => ?_) (fun c5 => ?_)
      · skip
        have ei : i = 40 := lp_ge rfl (by decide) hi c5
        subst ei
        refine zr_v hZ (pc := 20) dX11_be_20 ?_
        exact ⟨rfl, rfl, rfl⟩
      · skip
        have hl : i < 40 := lp_lt rfl (by decide) hi c5
        refine z_aload_n hZ (pc := 8) dX11_be_8 rfl ?_
        refine z_iload_n hZ (pc := 9) dX11_be_9 rfl ?_
        refine z_aload_n hZ (pc := 10) dX11_be_10 rfl ?_
        refine z_iload_n hZ (pc := 11) dX11_be_11 rfl ?_
        refine lMn_23 hZ (pc := 12) dX11_be_12 (show i < 40 by omega) ?_
        refine z_top (y := g 23 i) rfl ?_
        refine sMn_57 hZ (pc := 13) dX11_be_13 (show i < 40 by omega) ?_
        refine q_iinc_3_2 hZ (pc := 14) dX11_be_14 rfl ?_
        refine z_goto hZ (pc := 17) (tgt := 2) dX11_be_17 rfl ?_
        exact z_back hZ (ih2 (i + 1) (by omega) (by omega)) (WM_eq rfl (by rw [up_twice, up_at, cpyf_s])) ⟨rfl, rfl, zi (nI_inc i), trivial⟩
  exact z_back hZ (lp2 41 0 (by omega) (by omega)) (WM_eq rfl (by rw [cpyf_0, up_self])) ⟨rfl, rfl, rfl, trivial⟩
theorem c_X11_be_58_11 {l : Launch} {D : va_G} {cA : Nat → ClassId} {r : Nat} {a : Nat → Nat} {s0 s1 : Nat → Option Nat} {v : ZV} {g : ZG}   : MG l D cA (WM r a cA s0 s1) yX11_be cX11_be 3 none 0 [(.ref (a 58)), (.ref (a 11))] v g (PF v (va_up g 58 (cpyf 4 (g 11) (g 58))) (none)) := by
  refine MG.of (by decide) rfl (Nat.le_of_ble_eq_true rfl) (by simp [Value.category]) (fun Z hZ => ?_)
  refine z_iconst hZ (pc := 0) (v := 0) dX11_be_0 (by decide) ?_
  refine q_istore_n_3_2 hZ (pc := 1) dX11_be_1 rfl ?_
  have lp2 : ∀ (f i : Nat), i ≤ 4 → 4 - i < f → Z 0 0 (WM r a cA s0 s1 v (va_up g 58 (cpyf i (g 11) (g 58)))) [some (.ref (a 58)), some (.ref (a 11)), some (.int (nI i))] [] 2 := by
    intro f
    induction f with
    | zero => intro i _ hf; exact absurd hf (Nat.not_lt_zero _)
    | succ f ih2 =>
      intro i hi hf
      refine z_iload_n hZ (pc := 2) dX11_be_2 rfl ?_
      refine z_aload_n hZ (pc := 3) dX11_be_3 rfl ?_
      refine nM_58 hZ (pc := 4) dX11_be_4 ?_
      refine z_icmp_ge hZ (pc := 5) (tgt := 20) dX11_be_5 rfl (fun c5 => ?_) (fun c5 => ?_)
      · skip
        have ei : i = 4 := lp_ge rfl (by decide) hi c5
        subst ei
        refine zr_v hZ (pc := 20) dX11_be_20 ?_
        exact ⟨rfl, rfl, rfl⟩
      · skip
        have hl : i < 4 := lp_lt rfl (by decide) hi c5
        refine z_aload_n hZ (pc := 8) dX11_be_8 rfl ?_
        refine z_iload_n hZ (pc := 9) dX11_be_9 rfl ?_
        refine z_aload_n hZ (pc := 10) dX11_be_10 rfl ?_
        refine z_iload_n hZ (pc := 11) dX11_be_11 rfl ?_
        refine lMn_11 hZ (pc := 12) dX11_be_12 (show i < 4 by omega) ?_
        refine z_top (y := g 11 i) rfl ?_
        refine sMn_58 hZ (pc := 13) dX11_be_13 (show i < 4 by omega) ?_
        refine q_iinc_3_2 hZ (pc := 14) dX11_be_14 rfl ?_
        refine z_goto hZ (pc := 17) (tgt := 2) dX11_be_17 rfl ?_
        exact z_back hZ (ih2 (i + 1) (by omega) (by omega)) (WM_eq rfl (by rw [up_twice, up_at, cpyf_s])) ⟨rfl, rfl, zi (nI_inc i), trivial⟩
  exact z_back hZ (lp2 5 0 (by omega) (by omega)) (WM_eq rfl (by rw [cpyf_0, up_self])) ⟨rfl, rfl, rfl, trivial⟩
theorem c_X11_be_4_53 {l : Launch} {D : va_G} {cA : Nat → ClassId} {r : Nat} {a : Nat → Nat} {s0 s1 : Nat → Option Nat} {v : ZV} {g : ZG}   : MG l D cA (WM r a cA s0 s1) yX11_be cX11_be 3 none 0 [(.ref (a 4)), (.ref (a 53))] v g (PF v (va_up g 4 (cpyf 32 (g 53) (g 4))) (none)) := by
  refine MG.of (by decide) rfl (Nat.le_of_ble_eq_true rfl) (by simp [Value.category]) (fun Z hZ => ?_)
  refine z_iconst hZ (pc := 0) (v := 0) dX11_be_0 (by decide) ?_
  refine q_istore_n_3_2 hZ (pc := 1) dX11_be_1 rfl ?_
  have lp2 : ∀ (f i : Nat), i ≤ 32 → 32 - i < f → Z 0 0 (WM r a cA s0 s1 v (va_up g 4 (cpyf i (g 53) (g 4)))) [some (.ref (a 4)), some (.ref (a 53)), some (.int (nI i))] [] 2 := by
    intro f
    induction f with
    | zero => intro i _ hf; exact absurd hf (Nat.not_lt_zero _)
    | succ f ih2 =>
      intro i hi hf
      refine z_iload_n hZ (pc := 2) dX11_be_2 rfl ?_
      refine z_aload_n hZ (pc := 3) dX11_be_3 rfl ?_
      refine nM_4 hZ (pc := 4) dX11_be_4 ?_
      refine z_icmp_ge hZ (pc := 5) (tgt := 20) dX11_be_5 rfl (fun c5 => ?_) (fun c5 => ?_)
      · skip
        have ei : i = 32 := lp_ge rfl (by decide) hi c5
        subst ei
        refine zr_v hZ (pc := 20) dX11_be_20 ?_
        exact ⟨rfl, rfl, rfl⟩
      · skip
        have hl : i < 32 := lp_lt rfl (by decide) hi c5
        refine z_aload_n hZ (pc := 8) dX11_be_8 rfl ?_
        refine z_iload_n hZ (pc := 9) dX11_be_9 rfl ?_
        refine z_aload_n hZ (pc := 10) dX11_be_10 rfl ?_
        refine z_iload_n hZ (pc := 11) dX11_be_11 rfl ?_
        refine lMn_53 hZ (pc := 12) dX11_be_12 (show i < 32 by omega) ?_
        refine z_top (y := g 53 i) rfl ?_
        refine sMn_4 hZ (pc := 13) dX11_be_13 (show i < 32 by omega) ?_
        refine q_iinc_3_2 hZ (pc := 14) dX11_be_14 rfl ?_
        refine z_goto hZ (pc := 17) (tgt := 2) dX11_be_17 rfl ?_
        exact z_back hZ (ih2 (i + 1) (by omega) (by omega)) (WM_eq rfl (by rw [up_twice, up_at, cpyf_s])) ⟨rfl, rfl, zi (nI_inc i), trivial⟩
  exact z_back hZ (lp2 33 0 (by omega) (by omega)) (WM_eq rfl (by rw [cpyf_0, up_self])) ⟨rfl, rfl, rfl, trivial⟩
theorem c_X11_be_21_55 {l : Launch} {D : va_G} {cA : Nat → ClassId} {r : Nat} {a : Nat → Nat} {s0 s1 : Nat → Option Nat} {v : ZV} {g : ZG}   : MG l D cA (WM r a cA s0 s1) yX11_be cX11_be 3 none 0 [(.ref (a 21)), (.ref (a 55))] v g (PF v (va_up g 21 (cpyf 40 (g 55) (g 21))) (none)) := by
  refine MG.of (by decide) rfl (Nat.le_of_ble_eq_true rfl) (by simp [Value.category]) (fun Z hZ => ?_)
  refine z_iconst hZ (pc := 0) (v := 0) dX11_be_0 (by decide) ?_
  refine q_istore_n_3_2 hZ (pc := 1) dX11_be_1 rfl ?_
  have lp2 : ∀ (f i : Nat), i ≤ 40 → 40 - i < f → Z 0 0 (WM r a cA s0 s1 v (va_up g 21 (cpyf i (g 55) (g 21)))) [some (.ref (a 21)), some (.ref (a 55)), some (.int (nI i))] [] 2 := by
    intro f
    induction f with
    | zero => intro i _ hf; exact absurd hf (Nat.not_lt_zero _)
    | succ f ih2 =>
      intro i hi hf
      refine z_iload_n hZ (pc := 2) dX11_be_2 rfl ?_
      refine z_aload_n hZ (pc := 3) dX11_be_3 rfl ?_
      refine nM_21 hZ (pc := 4) dX11_be_4 ?_
      refine z_icmp_ge hZ (pc := 5) (tgt := 20) dX11_be_5 rfl (fun c5 => ?_) (fun c5 => ?_)
      · skip
        have ei : i = 40 := lp_ge rfl (by decide) hi c5
        subst ei
        refine zr_v hZ (pc := 20) dX11_be_20 ?_
        exact ⟨rfl, rfl, rfl⟩
      · skip
        have hl : i < 40 := lp_lt rfl (by decide) hi c5
        refine z_aload_n hZ (pc := 8) dX11_be_8 rfl ?_
        refine z_iload_n hZ (pc := 9) dX11_be_9 rfl ?_
        refine z_aload_n hZ (pc := 10) dX11_be_10 rfl ?_
        refine z_iload_n hZ (pc := 11) dX11_be_11 rfl ?_
        refine lMn_55 hZ (pc := 12) dX11_be_12 (show i < 40 by omega) ?_
        refine z_top (y := g 55 i) rfl ?_
        refine sMn_21 hZ (pc := 13) dX11_be_13 (show i < 40 by omega) ?_
        refine q_iinc_3_2 hZ (pc := 14) dX11_be_14 rfl ?_
        refine z_goto hZ (pc := 17) (tgt := 2) dX11_be_17 rfl ?_
        exact z_back hZ (ih2 (i + 1) (by omega) (by omega)) (WM_eq rfl (by rw [up_twice, up_at, cpyf_s])) ⟨rfl, rfl, zi (nI_inc i), trivial⟩
  exact z_back hZ (lp2 41 0 (by omega) (by omega)) (WM_eq rfl (by rw [cpyf_0, up_self])) ⟨rfl, rfl, rfl, trivial⟩
theorem c_X11_be_22_56 {l : Launch} {D : va_G} {cA : Nat → ClassId} {r : Nat} {a : Nat → Nat} {s0 s1 : Nat → Option Nat} {v : ZV} {g : ZG}   : MG l D cA (WM r a cA s0 s1) yX11_be cX11_be 3 none 0 [(.ref (a 22)), (.ref (a 56))] v g (PF v (va_up g 22 (cpyf 40 (g 56) (g 22))) (none)) := by
  refine MG.of (by decide) rfl (Nat.le_of_ble_eq_true rfl) (by simp [Value.category]) (fun Z hZ => ?_)
  refine z_iconst hZ (pc := 0) (v := 0) dX11_be_0 (by decide) ?_
  refine q_istore_n_3_2 hZ (pc := 1) dX11_be_1 rfl ?_
  have lp2 : ∀ (f i : Nat), i ≤ 40 → 40 - i < f → Z 0 0 (WM r a cA s0 s1 v (va_up g 22 (cpyf i (g 56) (g 22)))) [some (.ref (a 22)), some (.ref (a 56)), some (.int (nI i))] [] 2 := by
    intro f
    induction f with
    | zero => intro i _ hf; exact absurd hf (Nat.not_lt_zero _)
    | succ f ih2 =>
      intro i hi hf
      refine z_iload_n hZ (pc := 2) dX11_be_2 rfl ?_
      refine z_aload_n hZ (pc := 3) dX11_be_3 rfl ?_
      refine nM_22 hZ (pc := 4) dX11_be_4 ?_
      refine z_icmp_ge hZ (pc := 5) (tgt := 20) dX11_be_5 rfl (fun c5 => ?_) (fun c5 => ?_)
      · skip
        have ei : i = 40 := lp_ge rfl (by decide) hi c5
        subst ei
        refine zr_v hZ (pc := 20) dX11_be_20 ?_
        exact ⟨rfl, rfl, rfl⟩
      · skip
        have hl : i < 40 := lp_lt rfl (by decide) hi c5
        refine z_aload_n hZ (pc := 8) dX11_be_8 rfl ?_
        refine z_iload_n hZ (pc := 9) dX11_be_9 rfl ?_
        refine z_aload_n hZ (pc := 10) dX11_be_10 rfl ?_
        refine z_iload_n hZ (pc := 11) dX11_be_11 rfl ?_
        refine lMn_56 hZ (pc := 12) dX11_be_12 (show i < 40 by omega) ?_
        refine z_top (y := g 56 i) rfl ?_
        refine sMn_22 hZ (pc := 13) dX11_be_13 (show i < 40 by omega) ?_
        refine q_iinc_3_2 hZ (pc := 14) dX11_be_14 rfl ?_
        refine z_goto hZ (pc := 17) (tgt := 2) dX11_be_17 rfl ?_
        exact z_back hZ (ih2 (i + 1) (by omega) (by omega)) (WM_eq rfl (by rw [up_twice, up_at, cpyf_s])) ⟨rfl, rfl, zi (nI_inc i), trivial⟩
  exact z_back hZ (lp2 41 0 (by omega) (by omega)) (WM_eq rfl (by rw [cpyf_0, up_self])) ⟨rfl, rfl, rfl, trivial⟩
theorem c_X11_be_23_57 {l : Launch} {D : va_G} {cA : Nat → ClassId} {r : Nat} {a : Nat → Nat} {s0 s1 : Nat → Option Nat} {v : ZV} {g : ZG}   : MG l D cA (WM r a cA s0 s1) yX11_be cX11_be 3 none 0 [(.ref (a 23)), (.ref (a 57))] v g (PF v (va_up g 23 (cpyf 40 (g 57) (g 23))) (none)) := by
  refine MG.of (by decide) rfl (Nat.le_of_ble_eq_true rfl) (by simp [Value.category]) (fun Z hZ => ?_)
  refine z_iconst hZ (pc := 0) (v := 0) dX11_be_0 (by decide) ?_
  refine q_istore_n_3_2 hZ (pc := 1) dX11_be_1 rfl ?_
  have lp2 : ∀ (f i : Nat), i ≤ 40 → 40 - i < f → Z 0 0 (WM r a cA s0 s1 v (va_up g 23 (cpyf i (g 57) (g 23)))) [some (.ref (a 23)), some (.ref (a 57)), some (.int (nI i))] [] 2 := by
    intro f
    induction f with
    | zero => intro i _ hf; exact absurd hf (Nat.not_lt_zero _)
    | succ f ih2 =>
      intro i hi hf
      refine z_iload_n hZ (pc := 2) dX11_be_2 rfl ?_
      refine z_aload_n hZ (pc := 3) dX11_be_3 rfl ?_
      refine nM_23 hZ (pc := 4) dX11_be_4 ?_
      refine z_icmp_ge hZ (pc := 5) (tgt := 20) dX11_be_5 rfl (fun c5 => ?_) (fun c5 => ?_)
      · skip
        have ei : i = 40 := lp_ge rfl (by decide) hi c5
        subst ei
        refine zr_v hZ (pc := 20) dX11_be_20 ?_
        exact ⟨rfl, rfl, rfl⟩
      · skip
        have hl : i < 40 := lp_lt rfl (by decide) hi c5
        refine z_aload_n hZ (pc := 8) dX11_be_8 rfl ?_
        refine z_iload_n hZ (pc := 9) dX11_be_9 rfl ?_
        refine z_aload_n hZ (pc := 10) dX11_be_10 rfl ?_
        refine z_iload_n hZ (pc := 11) dX11_be_11 rfl ?_
        refine lMn_57 hZ (pc := 12) dX11_be_12 (show i < 40 by omega) ?_
        refine z_top (y := g 57 i) rfl ?_
        refine sMn_23 hZ (pc := 13) dX11_be_13 (show i < 40 by omega) ?_
        refine q_iinc_3_2 hZ (pc := 14) dX11_be_14 rfl ?_
        refine z_goto hZ (pc := 17) (tgt := 2) dX11_be_17 rfl ?_
        exact z_back hZ (ih2 (i + 1) (by omega) (by omega)) (WM_eq rfl (by rw [up_twice, up_at, cpyf_s])) ⟨rfl, rfl, zi (nI_inc i), trivial⟩
  exact z_back hZ (lp2 41 0 (by omega) (by omega)) (WM_eq rfl (by rw [cpyf_0, up_self])) ⟨rfl, rfl, rfl, trivial⟩
theorem c_X11_be_11_58 {l : Launch} {D : va_G} {cA : Nat → ClassId} {r : Nat} {a : Nat → Nat} {s0 s1 : Nat → Option Nat} {v : ZV} {g : ZG}   : MG l D cA (WM r a cA s0 s1) yX11_be cX11_be 3 none 0 [(.ref (a 11)), (.ref (a 58))] v g (PF v (va_up g 11 (cpyf 4 (g 58) (g 11))) (none)) := by
  refine MG.of (by decide) rfl (Nat.le_of_ble_eq_true rfl) (by simp [Value.category]) (fun Z hZ => ?_)
  refine z_iconst hZ (pc := 0) (v := 0) dX11_be_0 (by decide) ?_
  refine q_istore_n_3_2 hZ (pc := 1) dX11_be_1 rfl ?_
  have lp2 : ∀ (f i : Nat), i ≤ 4 → 4 - i < f → Z 0 0 (WM r a cA s0 s1 v (va_up g 11 (cpyf i (g 58) (g 11)))) [some (.ref (a 11)), some (.ref (a 58)), some (.int (nI i))] [] 2 := by
    intro f
    induction f with
    | zero => intro i _ hf; exact absurd hf (Nat.not_lt_zero _)
    | succ f ih2 =>
      intro i hi hf
      refine z_iload_n hZ (pc := 2) dX11_be_2 rfl ?_
      refine z_aload_n hZ (pc := 3) dX11_be_3 rfl ?_
      refine nM_11 hZ (pc := 4) dX11_be_4 ?_
      refine z_icmp_ge hZ (pc := 5) (tgt := 20) dX11_be_5 rfl (fun c5 => ?_) (fun c5 => ?_)
      · skip
        have ei : i = 4 := lp_ge rfl (by decide) hi c5
        subst ei
        refine zr_v hZ (pc := 20) dX11_be_20 ?_
        exact ⟨rfl, rfl, rfl⟩
      · skip
        have hl : i < 4 := lp_lt rfl (by decide) hi c5
        refine z_aload_n hZ (pc := 8) dX11_be_8 rfl ?_
        refine z_iload_n hZ (pc := 9) dX11_be_9 rfl ?_
        refine z_aload_n hZ (pc := 10) dX11_be_10 rfl ?_
        refine z_iload_n hZ (pc := 11) dX11_be_11 rfl ?_
        refine lMn_58 hZ (pc := 12) dX11_be_12 (show i < 4 by omega) ?_
        refine z_top (y := g 58 i) rfl ?_
        refine sMn_11 hZ (pc := 13) dX11_be_13 (show i < 4 by omega) ?_
        refine q_iinc_3_2 hZ (pc := 14) dX11_be_14 rfl ?_
        refine z_goto hZ (pc := 17) (tgt := 2) dX11_be_17 rfl ?_
        exact z_back hZ (ih2 (i + 1) (by omega) (by omega)) (WM_eq rfl (by rw [up_twice, up_at, cpyf_s])) ⟨rfl, rfl, zi (nI_inc i), trivial⟩
  exact z_back hZ (lp2 5 0 (by omega) (by omega)) (WM_eq rfl (by rw [cpyf_0, up_self])) ⟨rfl, rfl, rfl, trivial⟩
