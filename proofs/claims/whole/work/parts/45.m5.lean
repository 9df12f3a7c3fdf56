/-! the register beside the true row, the reference's table -/
def cT (reg tr : Nat → Int32) : Nat → Nat → Nat
  | 0 => fun i => 1000 * i
  | j + 1 => stpR reg (tr j) (cT reg tr j)
theorem cT_le (reg tr : Nat → Int32) : ∀ j i, cT reg tr j i ≤ 1000 * i + 999 * j
  | 0, i => by show 1000 * i ≤ _; omega
  | j + 1, i => by
    have h1 := cT_le reg tr j i
    have h2 := stpR_le reg (tr j) (cT reg tr j) i
    have h3 : cT reg tr j i + 999 ≤ 1000 * i + 999 * (j + 1) := by omega
    exact Nat.le_trans h2 h3
theorem cT_cong {reg tr tr' : Nat → Int32} : ∀ {j : Nat}, (∀ k, k < j → tr k = tr' k) → cT reg tr j = cT reg tr' j
  | 0, _ => rfl
  | j + 1, h => by
    show stpR reg (tr j) (cT reg tr j) = stpR reg (tr' j) (cT reg tr' j)
    rw [h j (by omega), cT_cong (fun k hk => h k (by omega))]
def rwT (wo wh : Nat → Int32) (d : Int32) (f0 : Nat → Int32) : Nat → Nat → Int32
  | 0 => f0
  | t + 1 => if wh t / 24 = d then upd (rwT wo wh d f0 t) (fb_ct (dayB wh d) t) (wo t) else rwT wo wh d f0 t
theorem cRw_cT (reg wo wh : Nat → Int32) (d : Int32) (f0 : Nat → Int32) : ∀ t, cRw reg wo wh d t = cT reg (rwT wo wh d f0 t) (fb_ct (dayB wh d) t)
  | 0 => rfl
  | t + 1 => by
    have ih := cRw_cT reg wo wh d f0 t
    rw [cRw, rwT, fb_ct_succ]
    by_cases h : wh t / 24 = d
    · have e : dayB wh d t = true := decide_eq_true h
      rw [if_pos h, if_pos h, if_pos e, ih]
      show _ = stpR reg (upd (rwT wo wh d f0 t) (fb_ct (dayB wh d) t) (wo t) (fb_ct (dayB wh d) t)) (cT reg (upd (rwT wo wh d f0 t) (fb_ct (dayB wh d) t) (wo t)) (fb_ct (dayB wh d) t))
      rw [upd_at, cT_cong (tr := upd (rwT wo wh d f0 t) (fb_ct (dayB wh d) t) (wo t)) (tr' := rwT wo wh d f0 t) (fun k hk => upd_off (by omega))]
    · have e : dayB wh d t = false := decide_eq_false h
      rw [if_neg h, if_neg h, if_neg (by rw [e]; decide), ih, Nat.add_zero]
def cel (g : ZG) (k : Nat) : Option Nat → Prop
  | none => g 48 k = -1
  | some y => g 48 k = nI (chN y) ∧ g 49 k = nI (gpN y) ∧ y ≤ 1000000
def omin : Option Nat → Nat → Nat
  | none, x => x
  | some y, x => min y x
theorem cel_some {g : ZG} {k : Nat} : ∀ {o : Option Nat}, cel g k o → ¬ g 48 k = -1 → ∃ y, o = some y ∧ g 48 k = nI (chN y) ∧ g 49 k = nI (gpN y) ∧ y ≤ 1000000
  | none, h, h2 => absurd h h2
  | some y, h, _ => ⟨y, rfl, h⟩
theorem chN_le {x : Nat} (h : x ≤ 1001000) : chN x ≤ 1002 := by unfold chN; omega
theorem gpN_le (x : Nat) : gpN x ≤ 999 := by unfold gpN; omega
theorem cost_gt {x y : Nat} (h : chN y < chN x) : y ≤ x := by unfold chN at h; omega
theorem cost_lt {x y : Nat} (h : chN x < chN y) : x ≤ y := by unfold chN at h; omega
theorem cost_eq {x y : Nat} (h : chN x = chN y) (h2 : gpN x ≤ gpN y) : y ≤ x := by unfold chN at h; unfold gpN at h2; omega
theorem cost_eq2 {x y : Nat} (h : chN x = chN y) (h2 : gpN y < gpN x) : x ≤ y := by unfold chN at h; unfold gpN at h2; omega
theorem chN_add (x : Nat) : chN (x + 1000) = chN x + 1 := by unfold chN; omega
theorem gpN_add (x : Nat) : gpN (x + 1000) = gpN x := by unfold gpN; omega
theorem chN_ins {x : Nat} (h : gpN x ≤ 998) : chN (x + 999) = chN x + 1 := by unfold gpN at h; unfold chN; omega
theorem gpN_ins {x : Nat} (h : gpN x ≤ 998) : gpN (x + 999) = gpN x + 1 := by unfold gpN at *; omega
theorem c_X11_offer {l : Launch} {D : va_G} {cA : Nat → ClassId} {r : Nat} {a : Nat → Nat} {s0 s1 : Nat → Option Nat} {v : ZV} {g : ZG} {k x : Nat} {ov : Option Nat} (hk : k < 8241) (hx : x ≤ 1000000) (hO : cel g k ov) : MG l D cA (WM r a cA s0 s1) yX11_offer cX11_offer 4 none 0 [(.ref r), .int (nI k), .int (nI (chN x)), .int (nI (gpN x))] v g (fun v2 g2 r => v2 = v ∧ (∀ j, j ≠ 48 → j ≠ 49 → g2 j = g j) ∧ (∀ q, q ≠ k → g2 48 q = g 48 q ∧ g2 49 q = g 49 q) ∧ cel g2 k (some (omin ov x)) ∧ r = none) := by
  refine MG.of (by decide) rfl (Nat.le_of_ble_eq_true rfl) (by simp [Value.category]) (fun Z hZ => ?_)
  have hcx := chN_le (x := x) (by omega)
  have hgx := gpN_le x
  refine z_aload_n hZ (pc := 0) dX11_offer_0 rfl ?_
  refine gM_48 hZ (pc := 1) fl_X11_126 dX11_offer_1 ?_
  refine z_iload_n hZ (pc := 4) dX11_offer_4 rfl ?_
  refine lMn_48 hZ (pc := 5) dX11_offer_5 hk ?_
  refine z_iconst hZ (pc := 6) (v := (-1)) dX11_offer_6 (by decide) ?_
  refine z_icmp_eq hZ (pc := 7) (tgt := 41) dX11_offer_7 rfl (fun c7 => ?_) (fun c7 => ?_)
  · skip
    refine z_aload_n hZ (pc := 41) dX11_offer_41 rfl ?_
    refine gM_48 hZ (pc := 42) fl_X11_126 dX11_offer_42 ?_
    refine z_iload_n hZ (pc := 45) dX11_offer_45 rfl ?_
    refine z_iload_n hZ (pc := 46) dX11_offer_46 rfl ?_
    refine sMn_48 hZ (pc := 47) dX11_offer_47 hk ?_
    refine z_aload_n hZ (pc := 48) dX11_offer_48 rfl ?_
    refine gM_49 hZ (pc := 49) fl_X11_129 dX11_offer_49 ?_
    refine z_iload_n hZ (pc := 52) dX11_offer_52 rfl ?_
    refine z_iload_n hZ (pc := 53) dX11_offer_53 rfl ?_
    refine sMn_49 hZ (pc := 54) dX11_offer_54 hk ?_
    refine zr_v hZ (pc := 55) dX11_offer_55 ?_
    have EM : x = omin ov x := by
      cases ov with
      | none => rfl
      | some y =>
        obtain ⟨e1, -, hy⟩ := hO
        rw [e1] at c7
        exact absurd (show nI (chN y) < 0 by rw [c7]; decide) (nI_pos (by have := chN_le (x := y) (by omega); omega))
    exact ⟨rfl, fun j h1 h2 => (up_off h2).trans (up_off h1), fun q hq => ⟨(congrFun (up_off (by decide)) q).trans ((congrFun up_at q).trans (upd_off hq)), (congrFun up_at q).trans (upd_off hq)⟩, ⟨(((congrFun (up_off (by decide)) k).trans ((congrFun up_at k).trans upd_at))).trans (congrArg (fun z => nI (chN z)) EM), (congrFun up_at k).trans (upd_at.trans (congrArg (fun z => nI (gpN z)) EM)), by rw [← EM]; exact hx⟩, rfl⟩
  · skip
    obtain ⟨y, rfl, e1, e2, hy⟩ := cel_some hO c7
    have hcy := chN_le (x := y) (by omega)
    have hgy := gpN_le y
    refine z_iload_n hZ (pc := 10) dX11_offer_10 rfl ?_
    refine z_aload_n hZ (pc := 11) dX11_offer_11 rfl ?_
    refine gM_48 hZ (pc := 12) fl_X11_126 dX11_offer_12 ?_
    refine z_iload_n hZ (pc := 15) dX11_offer_15 rfl ?_
    refine lMn_48 hZ (pc := 16) dX11_offer_16 (by omega) ?_
    refine z_top e1 ?_
    refine z_icmp_gt hZ (pc := 17) (tgt := 40) dX11_offer_17 rfl (fun c17 => ?_) (fun c17 => ?_)
    · skip
      refine zr_v hZ (pc := 40) dX11_offer_40 ?_
      have EM : min y x = y := by
        have h2 := (nI_ltI (a := chN y) (b := chN x) (by omega) (by omega)).mp c17
        have h3 := cost_gt h2
        omega
      exact ⟨rfl, fun _ _ _ => rfl, fun _ _ => ⟨rfl, rfl⟩, by show cel g k (some (min y x)); rw [EM]; exact hO, rfl⟩
    · skip
      refine z_iload_n hZ (pc := 20) dX11_offer_20 rfl ?_
      refine z_aload_n hZ (pc := 21) dX11_offer_21 rfl ?_
      refine gM_48 hZ (pc := 22) fl_X11_126 dX11_offer_22 ?_
      refine z_iload_n hZ (pc := 25) dX11_offer_25 rfl ?_
      refine lMn_48 hZ (pc := 26) dX11_offer_26 (by omega) ?_
      refine z_top e1 ?_
      refine z_icmp_ne hZ (pc := 27) (tgt := 41) dX11_offer_27 rfl (fun c27 => ?_) (fun c27 => ?_)
      · skip
        refine z_aload_n hZ (pc := 41) dX11_offer_41 rfl ?_
        refine gM_48 hZ (pc := 42) fl_X11_126 dX11_offer_42 ?_
        refine z_iload_n hZ (pc := 45) dX11_offer_45 rfl ?_
        refine z_iload_n hZ (pc := 46) dX11_offer_46 rfl ?_
        refine sMn_48 hZ (pc := 47) dX11_offer_47 hk ?_
        refine z_aload_n hZ (pc := 48) dX11_offer_48 rfl ?_
        refine gM_49 hZ (pc := 49) fl_X11_129 dX11_offer_49 ?_
        refine z_iload_n hZ (pc := 52) dX11_offer_52 rfl ?_
        refine z_iload_n hZ (pc := 53) dX11_offer_53 rfl ?_
        refine sMn_49 hZ (pc := 54) dX11_offer_54 hk ?_
        refine zr_v hZ (pc := 55) dX11_offer_55 ?_
        have EM : x = omin (some y) x := by
          have h1 : ¬ chN y < chN x := fun z => c17 (nI_lt z (by omega))
          have h2 : chN x ≠ chN y := fun z => c27 (by rw [z])
          have h3 := cost_lt (x := x) (y := y) (by omega)
          show x = min y x
          omega
        exact ⟨rfl, fun j h1 h2 => (up_off h2).trans (up_off h1), fun q hq => ⟨(congrFun (up_off (by decide)) q).trans ((congrFun up_at q).trans (upd_off hq)), (congrFun up_at q).trans (upd_off hq)⟩, ⟨(((congrFun (up_off (by decide)) k).trans ((congrFun up_at k).trans upd_at))).trans (congrArg (fun z => nI (chN z)) EM), (congrFun up_at k).trans (upd_at.trans (congrArg (fun z => nI (gpN z)) EM)), by rw [← EM]; exact hx⟩, rfl⟩
      · skip
        refine z_iload_n hZ (pc := 30) dX11_offer_30 rfl ?_
        refine z_aload_n hZ (pc := 31) dX11_offer_31 rfl ?_
        refine gM_49 hZ (pc := 32) fl_X11_129 dX11_offer_32 ?_
        refine z_iload_n hZ (pc := 35) dX11_offer_35 rfl ?_
        refine lMn_49 hZ (pc := 36) dX11_offer_36 (by omega) ?_
        refine z_top e2 ?_
        refine z_icmp_gt hZ (pc := 37) (tgt := 41) dX11_offer_37 rfl (fun c37 => ?_) (fun c37 => ?_)
        · skip
          refine z_aload_n hZ (pc := 41) dX11_offer_41 rfl ?_
          refine gM_48 hZ (pc := 42) fl_X11_126 dX11_offer_42 ?_
          refine z_iload_n hZ (pc := 45) dX11_offer_45 rfl ?_
          refine z_iload_n hZ (pc := 46) dX11_offer_46 rfl ?_
          refine sMn_48 hZ (pc := 47) dX11_offer_47 hk ?_
          refine z_aload_n hZ (pc := 48) dX11_offer_48 rfl ?_
          refine gM_49 hZ (pc := 49) fl_X11_129 dX11_offer_49 ?_
          refine z_iload_n hZ (pc := 52) dX11_offer_52 rfl ?_
          refine z_iload_n hZ (pc := 53) dX11_offer_53 rfl ?_
          refine sMn_49 hZ (pc := 54) dX11_offer_54 hk ?_
          refine zr_v hZ (pc := 55) dX11_offer_55 ?_
          have EM : x = omin (some y) x := by
            have h1 : chN x = chN y := (nI_eq (by omega) (by omega)).mp c27
            have h2 := (nI_ltI (a := gpN y) (b := gpN x) (by omega) (by omega)).mp c37
            have h3 := cost_eq2 h1 h2
            show x = min y x
            omega
          exact ⟨rfl, fun j h1 h2 => (up_off h2).trans (up_off h1), fun q hq => ⟨(congrFun (up_off (by decide)) q).trans ((congrFun up_at q).trans (upd_off hq)), (congrFun up_at q).trans (upd_off hq)⟩, ⟨(((congrFun (up_off (by decide)) k).trans ((congrFun up_at k).trans upd_at))).trans (congrArg (fun z => nI (chN z)) EM), (congrFun up_at k).trans (upd_at.trans (congrArg (fun z => nI (gpN z)) EM)), by rw [← EM]; exact hx⟩, rfl⟩
        · skip
          refine zr_v hZ (pc := 40) dX11_offer_40 ?_
          have EM : min y x = y := by
            have h1 : chN x = chN y := (nI_eq (by omega) (by omega)).mp c27
            have h2 : ¬ gpN y < gpN x := fun z => c37 (nI_lt z (by omega))
            have h3 := cost_eq h1 (by omega)
            omega
          exact ⟨rfl, fun _ _ _ => rfl, fun _ _ => ⟨rfl, rfl⟩, by show cel g k (some (min y x)); rw [EM]; exact hO, rfl⟩
def kx (N i j : Nat) : Nat := (N + 1) * i + j
theorem kx_i (N i j : Nat) : kx N (i + 1) j = kx N i j + (N + 1) := by unfold kx; rw [Nat.mul_succ]; omega
theorem kx_j (N i j : Nat) : kx N i (j + 1) = kx N i j + 1 := rfl
theorem kx_w (N i : Nat) : kx N (i + 1) 0 = kx N i N + 1 := by rw [kx_i]; unfold kx; omega
theorem kx_lt {N i j : Nat} (hi : i ≤ 40) (hN : N ≤ 200) (hj : j ≤ N) : kx N i j < 8241 := by
  have h1 : (N + 1) * i ≤ 201 * 40 := Nat.mul_le_mul (by omega) hi
  unfold kx
  omega
theorem kx_inj {N i j i' j' : Nat} (hj : j ≤ N) (hj' : j' ≤ N) (h : kx N i j = kx N i' j') : i = i' ∧ j = j' := by
  unfold kx at h
  have e1 := congrArg (fun z => z / (N + 1)) h
  have e2 := congrArg (fun z => z % (N + 1)) h
  simp only [Nat.mul_add_mod, Nat.mod_eq_of_lt (show j < N + 1 by omega), Nat.mod_eq_of_lt (show j' < N + 1 by omega)] at e2
  simp only [Nat.mul_add_div (show 0 < N + 1 by omega), Nat.div_eq_of_lt (show j < N + 1 by omega), Nat.div_eq_of_lt (show j' < N + 1 by omega)] at e1
  omega
def TT (reg tr : Nat → Int32) (N : Nat) (g : ZG) (k : Nat) : Prop := ∀ i j, j ≤ N → kx N i j < k → cel g (kx N i j) (some (cT reg tr j i))
theorem cel_mv {g g2 : ZG} {q : Nat} (h : g2 48 q = g 48 q ∧ g2 49 q = g 49 q) : ∀ {o : Option Nat}, cel g q o → cel g2 q o
  | none, hc => h.1.trans hc
  | some _, hc => ⟨h.1.trans hc.1, h.2.trans hc.2.1, hc.2.2⟩
theorem TT_mv {reg tr : Nat → Int32} {N k : Nat} {g g2 : ZG} (h : TT reg tr N g k) (hm : ∀ q, q < k → g2 48 q = g 48 q ∧ g2 49 q = g 49 q) : TT reg tr N g2 k := fun i j hj hk => cel_mv (hm _ hk) (h i j hj hk)
theorem TT_s {reg tr : Nat → Int32} {N i j : Nat} {g : ZG} (hj : j ≤ N) (h : TT reg tr N g (kx N i j)) (hc : cel g (kx N i j) (some (cT reg tr j i))) : TT reg tr N g (kx N i j + 1) := fun i' j' hj' hk => by
  rcases Nat.lt_or_ge (kx N i' j') (kx N i j) with q | q
  · exact h i' j' hj' q
  · obtain ⟨rfl, rfl⟩ := kx_inj hj' hj (show kx N i' j' = kx N i j by omega)
    exact hc
def o0 (i j : Nat) : Option Nat := if i = 0 ∧ j = 0 then some 0 else none
def o1 (D : Nat → Nat → Nat) (i j : Nat) : Option Nat := if i = 0 then o0 i j else some (D j (i - 1) + 1000)
def o2 (D : Nat → Nat → Nat) (i j : Nat) : Option Nat := if j = 0 then o1 D i j else some (omin (o1 D i j) (D (j - 1) i + 999))
theorem o2_00 (D : Nat → Nat → Nat) : o2 D 0 0 = some 0 := rfl
theorem o2_i0 (D : Nat → Nat → Nat) (i : Nat) : o2 D (i + 1) 0 = some (D 0 i + 1000) := by simp [o2, o1]
theorem o2_0j (D : Nat → Nat → Nat) (j : Nat) : o2 D 0 (j + 1) = some (D j 0 + 999) := by simp [o2, o1, o0, omin]
theorem o2_ij (D : Nat → Nat → Nat) (i j : Nat) : o2 D (i + 1) (j + 1) = some (min (D (j + 1) i + 1000) (D j (i + 1) + 999)) := by simp [o2, o1, omin]
theorem o3_i (reg tr : Nat → Int32) (i : Nat) : o2 (cT reg tr) i 0 = some (cT reg tr 0 i) := by
  cases i with
  | zero => rfl
  | succ i => rw [o2_i0]; rfl
theorem o3_0 (reg tr : Nat → Int32) (j : Nat) : o2 (cT reg tr) 0 j = some (cT reg tr j 0) := by
  cases j with
  | zero => rfl
  | succ j => rw [o2_0j]; rfl
theorem o3_ij (reg tr : Nat → Int32) (i j : Nat) : omin (o2 (cT reg tr) (i + 1) (j + 1)) (cT reg tr j i + (if reg i = tr j then 0 else 1000)) = cT reg tr (j + 1) (i + 1) := by
  rw [o2_ij]
  show min (min _ _) _ = min _ (min (stpR reg (tr j) (cT reg tr j) i + 1000) _)
  rw [Nat.min_comm]
  rfl
theorem gpN_cT (reg tr : Nat → Int32) : ∀ j, j ≤ 200 → ∀ i, gpN (cT reg tr j i) ≤ j
  | 0, _, i => by show gpN (1000 * i) ≤ 0; unfold gpN; omega
  | j + 1, hj, i => by
    have ih := gpN_cT reg tr j (by omega)
    have hins : ∀ x, gpN x ≤ j → gpN (x + 999) ≤ j + 1 := fun x hx => by
      rw [gpN_ins (by omega)]
      omega
    induction i with
    | zero => exact hins _ (ih 0)
    | succ i ihi =>
      show gpN (min (cT reg tr j i + (if reg i = tr j then 0 else 1000)) (min (cT reg tr (j + 1) i + 1000) (cT reg tr j (i + 1) + 999))) ≤ j + 1
      have h1 : gpN (cT reg tr j i + (if reg i = tr j then 0 else 1000)) ≤ j + 1 := by
        have := ih i
        split
        · exact Nat.le_trans this (by omega)
        · rw [gpN_add]; omega
      have h2 : gpN (cT reg tr (j + 1) i + 1000) ≤ j + 1 := by rw [gpN_add]; exact ihi
      have h3 : gpN (cT reg tr j (i + 1) + 999) ≤ j + 1 := hins _ (ih (i + 1))
      have hm : ∀ x y, gpN x ≤ j + 1 → gpN y ≤ j + 1 → gpN (min x y) ≤ j + 1 := fun x y hx hy => by
        rcases Nat.le_total x y with q | q
        · rw [Nat.min_eq_left q]; exact hx
        · rw [Nat.min_eq_right q]; exact hy
      exact hm _ _ h1 (hm _ _ h2 h3)
theorem nI_le0 {n : Nat} (h : nI n ≤ 0) (hn : n < 2 ^ 31) : n = 0 := by
  have := (nI_leI (a := n) (b := 0) hn (by omega)).mp h
  omega
theorem nI_gt0 {n : Nat} (h : ¬ nI n ≤ 0) : n ≠ 0 := fun q => h (by rw [q]; decide)
theorem c_X11_register {l : Launch} {D : va_G} {cA : Nat → ClassId} {r : Nat} {a : Nat → Nat} {s0 s1 : Nat → Option Nat} {v : ZV} {g : ZG} {n m : Nat} {d wt : Int32} (hn : v 12 = nI n) (h2 : n ≤ 200) (hm : v 20 = nI m) (h40 : m ≤ 40) : MG l D cA (WM r a cA s0 s1) yX11_register cX11_register 8 (some .int) 1 [(.ref r), .int d, .int wt] v g (fun v2 g2 r => v2 = va_up v 2 (if (inB d 0 99 && inB wt 0 2) then 0 else 1) ∧ (∀ j, j ≠ 47 → j ≠ 48 → j ≠ 49 → g2 j = g j) ∧ r = some (.int (if (inB d 0 99 && inB wt 0 2) then (if wt = 2 then nI (fb_ct (dayB (g 15) d) n) else if wt = 0 then nI (chN (cRw (g 23) (g 13) (g 15) d n m)) else nI (gpN (cRw (g 23) (g 13) (g 15) d n m))) else 0))) := by
  refine MG.of (by decide) rfl (Nat.le_of_ble_eq_true rfl) (by simp [Value.category]) (fun Z hZ => ?_)
  have hct : ∀ t, t ≤ n → fb_ct (dayB (g 15) d) t ≤ 200 := fun t ht => Nat.le_trans (fb_ct_le _ t) (by omega)
  refine z_aload_n hZ (pc := 0) dX11_register_0 rfl ?_
  refine z_iconst hZ (pc := 1) (v := 0) dX11_register_1 (by decide) ?_
  refine pM_2 hZ (pc := 2) fl_X11_160 dX11_register_2 ?_
  refine z_iload_n hZ (pc := 5) dX11_register_5 rfl ?_
  refine z_iconst hZ (pc := 6) (v := 0) dX11_register_6 (by decide) ?_
  refine z_bipush hZ (pc := 7) (v := 99) dX11_register_7 (by decide) ?_
  refine cS_i hZ (pc := 9) dX11_register_9 lk_X11_163 mn_X11_isIn ms_X11_isIn (c_X11_isIn) rfl rfl (Nat.le_of_ble_eq_true rfl) (by decide) (by decide) (Nat.zero_le _) (Nat.zero_le _) ?_
  refine z_if_eq hZ (pc := 12) (tgt := 24) dX11_register_12 rfl (fun c12 => ?_) (fun c12 => ?_)
  · skip
    refine z_aload_n hZ (pc := 24) dX11_register_24 rfl ?_
    refine z_iconst hZ (pc := 25) (v := 1) dX11_register_25 (by decide) ?_
    refine cV_i hZ (pc := 26) dX11_register_26 lk_X11_286 mn_X11_fail mv_X11_fail (c_X11_fail) rc_M rfl rfl (Nat.le_of_ble_eq_true rfl) (by decide) (by decide) (Nat.zero_le _) (Nat.zero_le _) ?_
    refine zr_i hZ (pc := 29) dX11_register_29 FitR.int ?_
    exact ⟨by rw [show (inB d 0 99 && inB wt 0 2) = false from by rw [bI_eq.mp c12]; rfl]; exact up_twice, fun _ _ _ _ => rfl, by rw [show (inB d 0 99 && inB wt 0 2) = false from by rw [bI_eq.mp c12]; rfl]; rfl⟩
  · skip
    refine z_iload_n hZ (pc := 15) dX11_register_15 rfl ?_
    refine z_iconst hZ (pc := 16) (v := 0) dX11_register_16 (by decide) ?_
    refine z_iconst hZ (pc := 17) (v := 2) dX11_register_17 (by decide) ?_
    refine cS_i hZ (pc := 18) dX11_register_18 lk_X11_163 mn_X11_isIn ms_X11_isIn (c_X11_isIn) rfl rfl (Nat.le_of_ble_eq_true rfl) (by decide) (by decide) (Nat.zero_le _) (Nat.zero_le _) ?_
    refine z_if_ne hZ (pc := 21) (tgt := 30) dX11_register_21 rfl (fun c21 => ?_) (fun c21 => ?_)
    · skip
      refine z_iconst hZ (pc := 30) (v := 0) dX11_register_30 (by decide) ?_
      refine q_istore_n_8_3 hZ (pc := 31) dX11_register_31 rfl ?_
      refine z_iconst hZ (pc := 32) (v := 0) dX11_register_32 (by decide) ?_
      refine q_istore_8_4 hZ (pc := 33) dX11_register_33 rfl ?_
      have lp35 : ∀ (f t : Nat), t ≤ n → n - t < f → Z 0 0 (WM r a cA s0 s1 (va_up v 2 0) (va_up g 47 (rwT (g 13) (g 15) d (g 47) t))) [some (.ref r), some (.int d), some (.int wt), some (.int (nI (fb_ct (dayB (g 15) d) t))), some (.int (nI t)), none, none, none] [] 35 := by
        intro f
        induction f with
        | zero => intro t _ hf; exact absurd hf (Nat.not_lt_zero _)
        | succ f ih35 =>
          intro t ht hft
          refine z_iload hZ (pc := 35) dX11_register_35 rfl ?_
          skip
          refine z_aload_n hZ (pc := 37) dX11_register_37 rfl ?_
          refine gM_12 hZ (pc := 38) fl_X11_296 dX11_register_38 ?_
          refine z_icmp_ge hZ (pc := 41) (tgt := 83) dX11_register_41 rfl (fun c41 => ?_) (fun c41 => ?_)
          · skip
            have e : t = n := lp_ge hn (by omega) ht c41
            subst e
            refine z_iload_n hZ (pc := 83) dX11_register_83 rfl ?_
            refine z_iconst hZ (pc := 84) (v := 2) dX11_register_84 (by decide) ?_
            refine z_icmp_ne hZ (pc := 85) (tgt := 90) dX11_register_85 rfl (fun c85 => ?_) (fun c85 => ?_)
            · skip
              have hT0 := cRw_cT (g 23) (g 13) (g 15) d (g 47) t
              obtain ⟨tr, htr⟩ : ∃ tr, tr = (rwT (g 13) (g 15) d (g 47) t) := ⟨_, rfl⟩
              obtain ⟨N, hN⟩ : ∃ N, N = fb_ct (dayB (g 15) d) t := ⟨_, rfl⟩
              have hN2 : N ≤ 200 := by rw [hN]; exact hct t (Nat.le_refl _)
              rw [← htr, ← hN] at hT0
              rw [← htr, ← hN]
              refine z_iload_n hZ (pc := 90) dX11_register_90 rfl ?_
              refine z_iconst hZ (pc := 91) (v := 1) dX11_register_91 (by decide) ?_
              refine z_iadd hZ (pc := 92) dX11_register_92 ?_
              refine z_top (y := nI (N + 1)) (nI_1 N) ?_
              refine q_istore_8_4 hZ (pc := 93) dX11_register_93 rfl ?_
              refine z_iconst hZ (pc := 95) (v := 0) dX11_register_95 (by decide) ?_
              refine q_istore_8_5 hZ (pc := 96) dX11_register_96 rfl ?_
              have lp98 : ∀ (f i : Nat) (g1 : ZG), i ≤ m + 1 → m + 1 - i < f → (∀ q, q ≠ 48 → q ≠ 49 → g1 q = va_up g 47 tr q) → TT (g 23) tr N g1 (kx N i 0) → Z 0 0 (WM r a cA s0 s1 (va_up v 2 0) g1) [some (.ref r), some (.int d), some (.int wt), some (.int (nI N)), some (.int (nI (N + 1))), some (.int (nI i)), none, none] [] 98 := by
                intro f
                induction f with
                | zero => intro i _ _ hf; exact absurd hf (Nat.not_lt_zero _)
                | succ f ih98 =>
                  intro i g1 hi hf hg1 hT1
                  refine z_iload hZ (pc := 98) dX11_register_98 rfl ?_
                  refine z_aload_n hZ (pc := 100) dX11_register_100 rfl ?_
                  refine gM_20 hZ (pc := 101) fl_X11_302 dX11_register_101 ?_
                  refine z_top (y := nI m) (by rw [← hm]; rfl) ?_
                  refine z_icmp_gt hZ (pc := 104) (tgt := 301) dX11_register_104 rfl (fun c104 => ?_) (fun c104 => ?_)
                  · skip
                    have ei : i = m + 1 := by
                      have := (nI_ltI (a := m) (b := i) (by omega) (by omega)).mp c104
                      omega
                    subst ei
                    have hfin := hT1 m N (Nat.le_refl _) (by rw [kx_w]; omega)
                    refine z_iload hZ (pc := 301) dX11_register_301 rfl ?_
                    refine z_aload_n hZ (pc := 303) dX11_register_303 rfl ?_
                    refine gM_20 hZ (pc := 304) fl_X11_302 dX11_register_304 ?_
                    refine z_top (y := nI m) (by rw [← hm]; rfl) ?_
                    refine z_imul hZ (pc := 307) dX11_register_307 ?_
                    refine z_iload_n hZ (pc := 308) dX11_register_308 rfl ?_
                    refine z_iadd hZ (pc := 309) dX11_register_309 ?_
                    refine z_top (y := nI (kx N m N)) (by rw [pk_mul, nI_add]; rfl) ?_
                    refine q_istore_8_5 hZ (pc := 310) dX11_register_310 rfl ?_
                    refine z_iload_n hZ (pc := 312) dX11_register_312 rfl ?_
                    refine z_if_ne hZ (pc := 313) (tgt := 326) dX11_register_313 rfl (fun c313 => ?_) (fun c313 => ?_)
                    · skip
                      refine z_aload_n hZ (pc := 326) dX11_register_326 rfl ?_
                      refine gM_49 hZ (pc := 327) fl_X11_129 dX11_register_327 ?_
                      refine z_iload hZ (pc := 330) dX11_register_330 rfl ?_
                      refine lMn_49 hZ (pc := 332) dX11_register_332 (kx_lt (by omega) (by omega) (by omega)) ?_
                      refine z_top hfin.2.1 ?_
                      refine zr_i hZ (pc := 333) dX11_register_333 FitR.int ?_
                      have hok : (inB d 0 99 && inB wt 0 2) = true := by rw [bI_ne c12, bI_ne c21]; rfl
                      exact ⟨by rw [hok]; rfl, fun j h1 h2 h3 => (hg1 j h2 h3).trans (up_off h1), by rw [hok, if_pos rfl, if_neg (show ¬ wt = 2 from c85), if_neg c313, hT0]⟩
                    · skip
                      refine z_aload_n hZ (pc := 316) dX11_register_316 rfl ?_
                      refine gM_48 hZ (pc := 317) fl_X11_126 dX11_register_317 ?_
                      refine z_iload hZ (pc := 320) dX11_register_320 rfl ?_
                      refine lMn_48 hZ (pc := 322) dX11_register_322 (kx_lt (by omega) (by omega) (by omega)) ?_
                      refine z_top hfin.1 ?_
                      refine z_goto hZ (pc := 323) (tgt := 333) dX11_register_323 rfl ?_
                      skip
                      refine zr_i hZ (pc := 333) dX11_register_333 FitR.int ?_
                      have hok : (inB d 0 99 && inB wt 0 2) = true := by rw [bI_ne c12, bI_ne c21]; rfl
                      exact ⟨by rw [hok]; rfl, fun j h1 h2 h3 => (hg1 j h2 h3).trans (up_off h1), by rw [hok, if_pos rfl, if_neg (show ¬ wt = 2 from c85), if_pos c313, hT0]⟩
                  · skip
                    have him : i ≤ m := by
                      rcases Nat.lt_or_ge m i with z | z
                      · exact absurd (nI_lt z (by omega)) c104
                      · exact z
                    refine z_iconst hZ (pc := 107) (v := 0) dX11_register_107 (by decide) ?_
                    refine q_istore_8_6 hZ (pc := 108) dX11_register_108 rfl ?_
                    have lp110 : ∀ (f j : Nat) (g1 : ZG), j ≤ N + 1 → N + 1 - j < f → (∀ q, q ≠ 48 → q ≠ 49 → g1 q = va_up g 47 tr q) → TT (g 23) tr N g1 (kx N i j) → Z 0 0 (WM r a cA s0 s1 (va_up v 2 0) g1) [some (.ref r), some (.int d), some (.int wt), some (.int (nI N)), some (.int (nI (N + 1))), some (.int (nI i)), some (.int (nI j)), none] [] 110 := by
                      intro f
                      induction f with
                      | zero => intro j _ _ hf; exact absurd hf (Nat.not_lt_zero _)
                      | succ f ih110 =>
                        intro j g1 hj hfj hg1 hT
                        refine z_iload hZ (pc := 110) dX11_register_110 rfl ?_
                        refine z_iload_n hZ (pc := 112) dX11_register_112 rfl ?_
                        refine z_icmp_gt hZ (pc := 113) (tgt := 295) dX11_register_113 rfl (fun c113 => ?_) (fun c113 => ?_)
                        · skip
                          have ej : j = N + 1 := by
                            have := (nI_ltI (a := N) (b := j) (by omega) (by omega)).mp c113
                            omega
                          subst ej
                          refine q_iinc_8_5 hZ (pc := 295) dX11_register_295 rfl ?_
                          refine z_goto hZ (pc := 298) (tgt := 98) dX11_register_298 rfl ?_
                          exact z_back hZ (ih98 (i + 1) g1 (by omega) (by omega) hg1 (by rw [kx_w]; exact hT)) rfl ⟨rfl, rfl, rfl, rfl, rfl, zi (nI_inc i), trivial⟩
                        · skip
                          have hjN : j ≤ N := by
                            rcases Nat.lt_or_ge N j with z | z
                            · exact absurd (nI_lt z (by omega)) c113
                            · exact z
                          have hkx := kx_lt (N := N) (i := i) (j := j) (by omega) (by omega) hjN
                          refine z_iload hZ (pc := 116) dX11_register_116 rfl ?_
                          refine z_iload hZ (pc := 118) dX11_register_118 rfl ?_
                          refine z_imul hZ (pc := 120) dX11_register_120 ?_
                          refine z_iload hZ (pc := 121) dX11_register_121 rfl ?_
                          refine z_iadd hZ (pc := 123) dX11_register_123 ?_
                          refine z_top (y := nI (kx N i j)) (by rw [pk_mul, nI_add]; rfl) ?_
                          refine q_istore_8_7 hZ (pc := 124) dX11_register_124 rfl ?_
                          have join156 : ∀ g3 : ZG, (∀ q, q ≠ 48 → q ≠ 49 → g3 q = va_up g 47 tr q) → TT (g 23) tr N g3 (kx N i j) → cel g3 (kx N i j) (o0 i j) → Z 0 0 (WM r a cA s0 s1 (va_up v 2 0) g3) [some (.ref r), some (.int d), some (.int wt), some (.int (nI N)), some (.int (nI (N + 1))), some (.int (nI i)), some (.int (nI j)), some (.int (nI (kx N i j)))] [] 156 := by
                            intro g3 hg3 hTg3 hOg3
                            have join189 : ∀ g4 : ZG, (∀ q, q ≠ 48 → q ≠ 49 → g4 q = va_up g 47 tr q) → TT (g 23) tr N g4 (kx N i j) → cel g4 (kx N i j) (o1 (cT (g 23) tr) i j) → Z 0 0 (WM r a cA s0 s1 (va_up v 2 0) g4) [some (.ref r), some (.int d), some (.int wt), some (.int (nI N)), some (.int (nI (N + 1))), some (.int (nI i)), some (.int (nI j)), some (.int (nI (kx N i j)))] [] 189 := by
                              intro g4 hg4 hTg4 hOg4
                              have join222 : ∀ g5 : ZG, (∀ q, q ≠ 48 → q ≠ 49 → g5 q = va_up g 47 tr q) → TT (g 23) tr N g5 (kx N i j) → cel g5 (kx N i j) (o2 (cT (g 23) tr) i j) → Z 0 0 (WM r a cA s0 s1 (va_up v 2 0) g5) [some (.ref r), some (.int d), some (.int wt), some (.int (nI N)), some (.int (nI (N + 1))), some (.int (nI i)), some (.int (nI j)), some (.int (nI (kx N i j)))] [] 222 := by
                                intro g5 hg5 hTg5 hOg5
                                refine z_iload hZ (pc := 222) dX11_register_222 rfl ?_
                                refine z_if_le hZ (pc := 224) (tgt := 289) dX11_register_224 rfl (fun c224 => ?_) (fun c224 => ?_)
                                · skip
                                  refine q_iinc_8_6 hZ (pc := 289) dX11_register_289 rfl ?_
                                  refine z_goto hZ (pc := 292) (tgt := 110) dX11_register_292 rfl ?_
                                  exact z_back hZ (ih110 (j + 1) g5 (by omega) (by omega) hg5 (by rw [kx_j]; exact TT_s hjN hTg5 (by rw [nI_le0 c224 (by omega)] at hOg5 ⊢; rw [o3_0] at hOg5; exact hOg5))) rfl ⟨rfl, rfl, rfl, rfl, rfl, rfl, zi (nI_inc _), trivial⟩
                                · skip
                                  refine z_iload hZ (pc := 227) dX11_register_227 rfl ?_
                                  refine z_if_le hZ (pc := 229) (tgt := 289) dX11_register_229 rfl (fun c229 => ?_) (fun c229 => ?_)
                                  · skip
                                    refine q_iinc_8_6 hZ (pc := 289) dX11_register_289 rfl ?_
                                    refine z_goto hZ (pc := 292) (tgt := 110) dX11_register_292 rfl ?_
                                    exact z_back hZ (ih110 (j + 1) g5 (by omega) (by omega) hg5 (by rw [kx_j]; exact TT_s hjN hTg5 (by rw [nI_le0 c229 (by omega)] at hOg5 ⊢; rw [o3_i] at hOg5; exact hOg5))) rfl ⟨rfl, rfl, rfl, rfl, rfl, rfl, zi (nI_inc _), trivial⟩
                                  · skip
                                    obtain ⟨i0, rfl⟩ : ∃ i0, i = i0 + 1 := ⟨i - 1, by have := nI_gt0 c224; omega⟩
                                    obtain ⟨j0, rfl⟩ : ∃ j0, j = j0 + 1 := ⟨j - 1, by have := nI_gt0 c229; omega⟩
                                    have hcC := hTg5 i0 j0 (by omega) (by rw [kx_i, kx_j]; omega)
                                    refine z_aload_n hZ (pc := 232) dX11_register_232 rfl ?_
                                    refine z_iload hZ (pc := 233) dX11_register_233 rfl ?_
                                    refine z_aload_n hZ (pc := 235) dX11_register_235 rfl ?_
                                    refine gM_48 hZ (pc := 236) fl_X11_126 dX11_register_236 ?_
                                    refine z_iload hZ (pc := 239) dX11_register_239 rfl ?_
                                    refine z_iload hZ (pc := 241) dX11_register_241 rfl ?_
                                    refine z_isub hZ (pc := 243) dX11_register_243 ?_
                                    refine z_top (y := nI (kx N i0 (j0 + 1))) (by rw [kx_i, pk_sub (by omega), Nat.add_sub_cancel]) ?_
                                    refine z_iconst hZ (pc := 244) (v := 1) dX11_register_244 (by decide) ?_
                                    refine z_isub hZ (pc := 245) dX11_register_245 ?_
                                    refine z_top (y := nI (kx N i0 j0)) (by rw [kx_j, nI_sub1 (by omega), Nat.add_sub_cancel]) ?_
                                    refine lMn_48 hZ (pc := 246) dX11_register_246 (kx_lt (by omega) (by omega) (by omega)) ?_
                                    refine z_top hcC.1 ?_
                                    refine z_aload_n hZ (pc := 247) dX11_register_247 rfl ?_
                                    refine gM_23 hZ (pc := 248) fl_X11_92 dX11_register_248 ?_
                                    refine z_iload hZ (pc := 251) dX11_register_251 rfl ?_
                                    refine z_iconst hZ (pc := 253) (v := 1) dX11_register_253 (by decide) ?_
                                    refine z_isub hZ (pc := 254) dX11_register_254 ?_
                                    refine z_top (y := nI i0) (by rw [nI_sub1 (by omega), Nat.add_sub_cancel]) ?_
                                    refine lMn_23 hZ (pc := 255) dX11_register_255 (show i0 < 40 by omega) ?_
                                    refine z_top (y := g 23 i0) (by rw [hg5 23 (by decide) (by decide)]; rfl) ?_
                                    refine z_aload_n hZ (pc := 256) dX11_register_256 rfl ?_
                                    refine gM_47 hZ (pc := 257) fl_X11_123 dX11_register_257 ?_
                                    refine z_iload hZ (pc := 260) dX11_register_260 rfl ?_
                                    refine z_iconst hZ (pc := 262) (v := 1) dX11_register_262 (by decide) ?_
                                    refine z_isub hZ (pc := 263) dX11_register_263 ?_
                                    refine z_top (y := nI j0) (by rw [nI_sub1 (by omega), Nat.add_sub_cancel]) ?_
                                    refine lMn_47 hZ (pc := 264) dX11_register_264 (show j0 < 200 by omega) ?_
                                    refine z_top (y := tr j0) (by rw [hg5 47 (by decide) (by decide)]; exact congrFun up_at j0) ?_
                                    refine z_icmp_ne hZ (pc := 265) (tgt := 272) dX11_register_265 rfl (fun c265 => ?_) (fun c265 => ?_)
                                    · skip
                                      refine z_iconst hZ (pc := 272) (v := 1) dX11_register_272 (by decide) ?_
                                      refine z_iadd hZ (pc := 273) dX11_register_273 ?_
                                      refine z_top (y := nI (chN ((cT (g 23) tr) j0 i0 + 1000))) (by rw [chN_add]; exact nI_1 _) ?_
                                      refine z_aload_n hZ (pc := 274) dX11_register_274 rfl ?_
                                      refine gM_49 hZ (pc := 275) fl_X11_129 dX11_register_275 ?_
                                      refine z_iload hZ (pc := 278) dX11_register_278 rfl ?_
                                      refine z_iload hZ (pc := 280) dX11_register_280 rfl ?_
                                      refine z_isub hZ (pc := 282) dX11_register_282 ?_
                                      refine z_top (y := nI (kx N i0 (j0 + 1))) (by rw [kx_i, pk_sub (by omega), Nat.add_sub_cancel]) ?_
                                      refine z_iconst hZ (pc := 283) (v := 1) dX11_register_283 (by decide) ?_
                                      refine z_isub hZ (pc := 284) dX11_register_284 ?_
                                      refine z_top (y := nI (kx N i0 j0)) (by rw [kx_j, nI_sub1 (by omega), Nat.add_sub_cancel]) ?_
                                      refine lMn_49 hZ (pc := 285) dX11_register_285 (kx_lt (by omega) (by omega) (by omega)) ?_
                                      refine z_top (y := nI (gpN ((cT (g 23) tr) j0 i0 + 1000))) (by rw [gpN_add]; exact hcC.2.1) ?_
                                      refine cV hZ (pc := 286) dX11_register_286 lk_X11_391 mn_X11_offer mv_X11_offer (c_X11_offer (x := (cT (g 23) tr) j0 i0 + 1000) (k := kx N (i0 + 1) (j0 + 1)) (ov := o2 (cT (g 23) tr) (i0 + 1) (j0 + 1)) (kx_lt (by omega) (by omega) hjN) (by have := cT_le (g 23) tr j0 i0; omega) hOg5) rc_M rfl rfl (Nat.le_of_ble_eq_true rfl) (by decide) (by decide) (Nat.zero_le _) (Nat.zero_le _) ?_
                                      intro v2 g2 r h
                                      obtain ⟨rfl, hg2, hne, hcel, rfl⟩ := h
                                      refine q_iinc_8_6 hZ (pc := 289) dX11_register_289 rfl ?_
                                      refine z_goto hZ (pc := 292) (tgt := 110) dX11_register_292 rfl ?_
                                      exact z_back hZ (ih110 (j0 + 1 + 1) g2 (by omega) (by omega) (fun q h1 h2 => (hg2 q h1 h2).trans (hg5 q h1 h2)) (by rw [kx_j]; exact TT_s hjN (TT_mv hTg5 (fun q hq => hne q (by omega))) (by rw [← o3_ij, if_neg c265]; exact hcel))) rfl ⟨rfl, rfl, rfl, rfl, rfl, rfl, zi (nI_inc _), trivial⟩
                                    · skip
                                      refine z_iconst hZ (pc := 268) (v := 0) dX11_register_268 (by decide) ?_
                                      refine z_goto hZ (pc := 269) (tgt := 273) dX11_register_269 rfl ?_
                                      refine z_iadd hZ (pc := 273) dX11_register_273 ?_
                                      refine z_top (y := nI (chN ((cT (g 23) tr) j0 i0))) (by rw [show (0 : Int32) = nI 0 from rfl, nI_add, Nat.add_zero]) ?_
                                      refine z_aload_n hZ (pc := 274) dX11_register_274 rfl ?_
                                      refine gM_49 hZ (pc := 275) fl_X11_129 dX11_register_275 ?_
                                      refine z_iload hZ (pc := 278) dX11_register_278 rfl ?_
                                      refine z_iload hZ (pc := 280) dX11_register_280 rfl ?_
                                      refine z_isub hZ (pc := 282) dX11_register_282 ?_
                                      refine z_top (y := nI (kx N i0 (j0 + 1))) (by rw [kx_i, pk_sub (by omega), Nat.add_sub_cancel]) ?_
                                      refine z_iconst hZ (pc := 283) (v := 1) dX11_register_283 (by decide) ?_
                                      refine z_isub hZ (pc := 284) dX11_register_284 ?_
                                      refine z_top (y := nI (kx N i0 j0)) (by rw [kx_j, nI_sub1 (by omega), Nat.add_sub_cancel]) ?_
                                      refine lMn_49 hZ (pc := 285) dX11_register_285 (kx_lt (by omega) (by omega) (by omega)) ?_
                                      refine z_top hcC.2.1 ?_
                                      refine cV hZ (pc := 286) dX11_register_286 lk_X11_391 mn_X11_offer mv_X11_offer (c_X11_offer (x := (cT (g 23) tr) j0 i0) (k := kx N (i0 + 1) (j0 + 1)) (ov := o2 (cT (g 23) tr) (i0 + 1) (j0 + 1)) (kx_lt (by omega) (by omega) hjN) (by have := cT_le (g 23) tr j0 i0; omega) hOg5) rc_M rfl rfl (Nat.le_of_ble_eq_true rfl) (by decide) (by decide) (Nat.zero_le _) (Nat.zero_le _) ?_
                                      intro v2 g2 r h
                                      obtain ⟨rfl, hg2, hne, hcel, rfl⟩ := h
                                      refine q_iinc_8_6 hZ (pc := 289) dX11_register_289 rfl ?_
                                      refine z_goto hZ (pc := 292) (tgt := 110) dX11_register_292 rfl ?_
                                      exact z_back hZ (ih110 (j0 + 1 + 1) g2 (by omega) (by omega) (fun q h1 h2 => (hg2 q h1 h2).trans (hg5 q h1 h2)) (by rw [kx_j]; exact TT_s hjN (TT_mv hTg5 (fun q hq => hne q (by omega))) (by rw [← o3_ij, if_pos c265, Nat.add_zero]; exact hcel))) rfl ⟨rfl, rfl, rfl, rfl, rfl, rfl, zi (nI_inc _), trivial⟩
                              refine z_iload hZ (pc := 189) dX11_register_189 rfl ?_
                              refine z_if_le hZ (pc := 191) (tgt := 222) dX11_register_191 rfl (fun c191 => ?_) (fun c191 => ?_)
                              · skip
                                exact z_back hZ (join222 g4 hg4 hTg4 (by rw [o2, if_pos (nI_le0 c191 (by omega))]; exact hOg4)) rfl ⟨rfl, rfl, rfl, rfl, rfl, rfl, rfl, rfl, trivial⟩
                              · skip
                                obtain ⟨j0, rfl⟩ : ∃ j0, j = j0 + 1 := ⟨j - 1, by have := nI_gt0 c191; omega⟩
                                have hcB := hTg4 i j0 (by omega) (by rw [kx_j]; omega)
                                have hgB := gpN_cT (g 23) tr j0 (by omega) i
                                refine z_aload_n hZ (pc := 194) dX11_register_194 rfl ?_
                                refine z_iload hZ (pc := 195) dX11_register_195 rfl ?_
                                refine z_aload_n hZ (pc := 197) dX11_register_197 rfl ?_
                                refine gM_48 hZ (pc := 198) fl_X11_126 dX11_register_198 ?_
                                refine z_iload hZ (pc := 201) dX11_register_201 rfl ?_
                                refine z_iconst hZ (pc := 203) (v := 1) dX11_register_203 (by decide) ?_
                                refine z_isub hZ (pc := 204) dX11_register_204 ?_
                                refine z_top (y := nI (kx N i j0)) (by rw [kx_j, nI_sub1 (by omega), Nat.add_sub_cancel]) ?_
                                refine lMn_48 hZ (pc := 205) dX11_register_205 (kx_lt (by omega) (by omega) (by omega)) ?_
                                refine z_top hcB.1 ?_
                                refine z_iconst hZ (pc := 206) (v := 1) dX11_register_206 (by decide) ?_
                                refine z_iadd hZ (pc := 207) dX11_register_207 ?_
                                refine z_top (y := nI (chN ((cT (g 23) tr) j0 i + 999))) (by rw [chN_ins (by omega)]; exact nI_1 _) ?_
                                refine z_aload_n hZ (pc := 208) dX11_register_208 rfl ?_
                                refine gM_49 hZ (pc := 209) fl_X11_129 dX11_register_209 ?_
                                refine z_iload hZ (pc := 212) dX11_register_212 rfl ?_
                                refine z_iconst hZ (pc := 214) (v := 1) dX11_register_214 (by decide) ?_
                                refine z_isub hZ (pc := 215) dX11_register_215 ?_
                                refine z_top (y := nI (kx N i j0)) (by rw [kx_j, nI_sub1 (by omega), Nat.add_sub_cancel]) ?_
                                refine lMn_49 hZ (pc := 216) dX11_register_216 (kx_lt (by omega) (by omega) (by omega)) ?_
                                refine z_top hcB.2.1 ?_
                                refine z_iconst hZ (pc := 217) (v := 1) dX11_register_217 (by decide) ?_
                                refine z_iadd hZ (pc := 218) dX11_register_218 ?_
                                refine z_top (y := nI (gpN ((cT (g 23) tr) j0 i + 999))) (by rw [gpN_ins (by omega)]; exact nI_1 _) ?_
                                refine cV hZ (pc := 219) dX11_register_219 lk_X11_391 mn_X11_offer mv_X11_offer (c_X11_offer (x := (cT (g 23) tr) j0 i + 999) (k := kx N i (j0 + 1)) (ov := o1 (cT (g 23) tr) i (j0 + 1)) (kx_lt (by omega) (by omega) hjN) (by have := cT_le (g 23) tr j0 i; omega) hOg4) rc_M rfl rfl (Nat.le_of_ble_eq_true rfl) (by decide) (by decide) (Nat.zero_le _) (Nat.zero_le _) ?_
                                intro v2 g2 r h
                                obtain ⟨rfl, hg2, hne, hcel, rfl⟩ := h
                                exact z_back hZ (join222 g2 (fun q h1 h2 => (hg2 q h1 h2).trans (hg4 q h1 h2)) (TT_mv hTg4 (fun q hq => hne q (by omega))) (by rw [o2, if_neg (by omega)]; exact hcel)) rfl ⟨rfl, rfl, rfl, rfl, rfl, rfl, rfl, rfl, trivial⟩
                            refine z_iload hZ (pc := 156) dX11_register_156 rfl ?_
                            refine z_if_le hZ (pc := 158) (tgt := 189) dX11_register_158 rfl (fun c158 => ?_) (fun c158 => ?_)
                            · skip
                              exact z_back hZ (join189 g3 hg3 hTg3 (by rw [o1, if_pos (nI_le0 c158 (by omega))]; exact hOg3)) rfl ⟨rfl, rfl, rfl, rfl, rfl, rfl, rfl, rfl, trivial⟩
                            · skip
                              obtain ⟨i0, rfl⟩ : ∃ i0, i = i0 + 1 := ⟨i - 1, by have := nI_gt0 c158; omega⟩
                              have hcA := hTg3 i0 j hjN (by rw [kx_i]; omega)
                              refine z_aload_n hZ (pc := 161) dX11_register_161 rfl ?_
                              refine z_iload hZ (pc := 162) dX11_register_162 rfl ?_
                              refine z_aload_n hZ (pc := 164) dX11_register_164 rfl ?_
                              refine gM_48 hZ (pc := 165) fl_X11_126 dX11_register_165 ?_
                              refine z_iload hZ (pc := 168) dX11_register_168 rfl ?_
                              refine z_iload hZ (pc := 170) dX11_register_170 rfl ?_
                              refine z_isub hZ (pc := 172) dX11_register_172 ?_
                              refine z_top (y := nI (kx N i0 j)) (by rw [kx_i, pk_sub (by omega), Nat.add_sub_cancel]) ?_
                              refine lMn_48 hZ (pc := 173) dX11_register_173 (kx_lt (by omega) (by omega) (by omega)) ?_
                              refine z_top hcA.1 ?_
                              refine z_iconst hZ (pc := 174) (v := 1) dX11_register_174 (by decide) ?_
                              refine z_iadd hZ (pc := 175) dX11_register_175 ?_
                              refine z_top (y := nI (chN ((cT (g 23) tr) j i0 + 1000))) (by rw [chN_add]; exact nI_1 _) ?_
                              refine z_aload_n hZ (pc := 176) dX11_register_176 rfl ?_
                              refine gM_49 hZ (pc := 177) fl_X11_129 dX11_register_177 ?_
                              refine z_iload hZ (pc := 180) dX11_register_180 rfl ?_
                              refine z_iload hZ (pc := 182) dX11_register_182 rfl ?_
                              refine z_isub hZ (pc := 184) dX11_register_184 ?_
                              refine z_top (y := nI (kx N i0 j)) (by rw [kx_i, pk_sub (by omega), Nat.add_sub_cancel]) ?_
                              refine lMn_49 hZ (pc := 185) dX11_register_185 (kx_lt (by omega) (by omega) (by omega)) ?_
                              refine z_top (y := nI (gpN ((cT (g 23) tr) j i0 + 1000))) (by rw [gpN_add]; exact hcA.2.1) ?_
                              refine cV hZ (pc := 186) dX11_register_186 lk_X11_391 mn_X11_offer mv_X11_offer (c_X11_offer (x := (cT (g 23) tr) j i0 + 1000) (k := kx N (i0 + 1) j) (ov := o0 (i0 + 1) j) (kx_lt (by omega) (by omega) hjN) (by have := cT_le (g 23) tr j i0; omega) hOg3) rc_M rfl rfl (Nat.le_of_ble_eq_true rfl) (by decide) (by decide) (Nat.zero_le _) (Nat.zero_le _) ?_
                              intro v2 g2 r h
                              obtain ⟨rfl, hg2, hne, hcel, rfl⟩ := h
                              exact z_back hZ (join189 g2 (fun q h1 h2 => (hg2 q h1 h2).trans (hg3 q h1 h2)) (TT_mv hTg3 (fun q hq => hne q (by omega))) (by
                                have e : o0 (i0 + 1) j = none := by simp [o0]
                                rw [e] at hcel
                                rw [o1, if_neg (by omega)]
                                exact hcel)) rfl ⟨rfl, rfl, rfl, rfl, rfl, rfl, rfl, rfl, trivial⟩
                          refine z_aload_n hZ (pc := 126) dX11_register_126 rfl ?_
                          refine gM_48 hZ (pc := 127) fl_X11_126 dX11_register_127 ?_
                          refine z_iload hZ (pc := 130) dX11_register_130 rfl ?_
                          refine z_iload hZ (pc := 132) dX11_register_132 rfl ?_
                          refine z_if_ne hZ (pc := 134) (tgt := 146) dX11_register_134 rfl (fun c134 => ?_) (fun c134 => ?_)
                          · skip
                            refine z_iconst hZ (pc := 146) (v := (-1)) dX11_register_146 (by decide) ?_
                            refine sMn_48 hZ (pc := 147) dX11_register_147 (kx_lt (by omega) (by omega) (by omega)) ?_
                            refine z_aload_n hZ (pc := 148) dX11_register_148 rfl ?_
                            refine gM_49 hZ (pc := 149) fl_X11_129 dX11_register_149 ?_
                            refine z_iload hZ (pc := 152) dX11_register_152 rfl ?_
                            refine z_iconst hZ (pc := 154) (v := 0) dX11_register_154 (by decide) ?_
                            refine sMn_49 hZ (pc := 155) dX11_register_155 (kx_lt (by omega) (by omega) (by omega)) ?_
                            exact z_back hZ (join156 _ (fun q h1 h2 => (up_off h2).trans ((up_off h1).trans (hg1 q h1 h2))) (TT_mv hT (fun q hq => ⟨(congrFun (up_off (by decide)) q).trans ((congrFun up_at q).trans (upd_off (by omega))), (congrFun up_at q).trans ((upd_off (by omega)).trans (congrFun (up_off (by decide)) q))⟩)) (by rw [o0, if_neg (fun q => c134 (by rw [q.1]; rfl))]; exact (congrFun (up_off (by decide)) _).trans ((congrFun up_at _).trans upd_at))) rfl ⟨rfl, rfl, rfl, rfl, rfl, rfl, rfl, rfl, trivial⟩
                          · skip
                            refine z_iload hZ (pc := 137) dX11_register_137 rfl ?_
                            refine z_if_ne hZ (pc := 139) (tgt := 146) dX11_register_139 rfl (fun c139 => ?_) (fun c139 => ?_)
                            · skip
                              refine z_iconst hZ (pc := 146) (v := (-1)) dX11_register_146 (by decide) ?_
                              refine sMn_48 hZ (pc := 147) dX11_register_147 (kx_lt (by omega) (by omega) (by omega)) ?_
                              refine z_aload_n hZ (pc := 148) dX11_register_148 rfl ?_
                              refine gM_49 hZ (pc := 149) fl_X11_129 dX11_register_149 ?_
                              refine z_iload hZ (pc := 152) dX11_register_152 rfl ?_
                              refine z_iconst hZ (pc := 154) (v := 0) dX11_register_154 (by decide) ?_
                              refine sMn_49 hZ (pc := 155) dX11_register_155 (kx_lt (by omega) (by omega) (by omega)) ?_
                              exact z_back hZ (join156 _ (fun q h1 h2 => (up_off h2).trans ((up_off h1).trans (hg1 q h1 h2))) (TT_mv hT (fun q hq => ⟨(congrFun (up_off (by decide)) q).trans ((congrFun up_at q).trans (upd_off (by omega))), (congrFun up_at q).trans ((upd_off (by omega)).trans (congrFun (up_off (by decide)) q))⟩)) (by rw [o0, if_neg (fun q => c139 (by rw [q.2]; rfl))]; exact (congrFun (up_off (by decide)) _).trans ((congrFun up_at _).trans upd_at))) rfl ⟨rfl, rfl, rfl, rfl, rfl, rfl, rfl, rfl, trivial⟩
                            · skip
                              refine z_iconst hZ (pc := 142) (v := 0) dX11_register_142 (by decide) ?_
                              refine z_goto hZ (pc := 143) (tgt := 147) dX11_register_143 rfl ?_
                              refine sMn_48 hZ (pc := 147) dX11_register_147 (kx_lt (by omega) (by omega) (by omega)) ?_
                              refine z_aload_n hZ (pc := 148) dX11_register_148 rfl ?_
                              refine gM_49 hZ (pc := 149) fl_X11_129 dX11_register_149 ?_
                              refine z_iload hZ (pc := 152) dX11_register_152 rfl ?_
                              refine z_iconst hZ (pc := 154) (v := 0) dX11_register_154 (by decide) ?_
                              refine sMn_49 hZ (pc := 155) dX11_register_155 (kx_lt (by omega) (by omega) (by omega)) ?_
                              have hi0 : i = 0 := by
                                rcases Nat.eq_zero_or_pos i with q | q
                                · exact q
                                · exact absurd c134 (fun z => nI_ne0 q (by omega) z)
                              have hj0 : j = 0 := by
                                rcases Nat.eq_zero_or_pos j with q | q
                                · exact q
                                · exact absurd c139 (fun z => nI_ne0 q (by omega) z)
                              exact z_back hZ (join156 _ (fun q h1 h2 => (up_off h2).trans ((up_off h1).trans (hg1 q h1 h2))) (TT_mv hT (fun q hq => ⟨(congrFun (up_off (by decide)) q).trans ((congrFun up_at q).trans (upd_off (by omega))), (congrFun up_at q).trans ((upd_off (by omega)).trans (congrFun (up_off (by decide)) q))⟩)) (by rw [o0, if_pos ⟨hi0, hj0⟩]; exact ⟨(congrFun (up_off (by decide)) _).trans ((congrFun up_at _).trans upd_at), (congrFun up_at _).trans upd_at, by omega⟩)) rfl ⟨rfl, rfl, rfl, rfl, rfl, rfl, rfl, rfl, trivial⟩
                    exact z_back hZ (lp110 (N + 2) 0 g1 (Nat.zero_le _) (by omega) hg1 hT1) rfl ⟨rfl, rfl, rfl, rfl, rfl, rfl, rfl, trivial⟩
              exact z_back hZ (lp98 (m + 2) 0 (va_up g 47 tr) (Nat.zero_le _) (by omega) (fun _ _ _ => rfl) (fun i j _ h => absurd h (Nat.not_lt_zero _))) rfl ⟨rfl, rfl, rfl, rfl, rfl, rfl, trivial⟩
            · skip
              refine z_iload_n hZ (pc := 88) dX11_register_88 rfl ?_
              refine zr_i hZ (pc := 89) dX11_register_89 FitR.int ?_
              have hok : (inB d 0 99 && inB wt 0 2) = true := by rw [bI_ne c12, bI_ne c21]; rfl
              exact ⟨by rw [hok]; rfl, fun j h1 h2 h3 => up_off h1, by rw [hok, if_pos rfl, if_pos c85]⟩
          · skip
            have hl35 : t < n := lp_lt hn (by omega) ht c41
            have hcl := fb_ct_le (dayB (g 15) d) t
            refine z_aload_n hZ (pc := 44) dX11_register_44 rfl ?_
            refine gM_15 hZ (pc := 45) fl_X11_75 dX11_register_45 ?_
            refine z_iload hZ (pc := 48) dX11_register_48 rfl ?_
            refine lMn_15 hZ (pc := 50) dX11_register_50 (show t < 200 by omega) ?_
            refine z_top (y := g 15 t) rfl ?_
            refine z_bipush hZ (pc := 51) (v := 24) dX11_register_51 (by decide) ?_
            refine z_idiv hZ (pc := 53) dX11_register_53 (by decide) ?_
            refine z_iload_n hZ (pc := 54) dX11_register_54 rfl ?_
            refine z_icmp_eq hZ (pc := 55) (tgt := 61) dX11_register_55 rfl (fun c55 => ?_) (fun c55 => ?_)
            · skip
              refine z_aload_n hZ (pc := 61) dX11_register_61 rfl ?_
              refine gM_47 hZ (pc := 62) fl_X11_123 dX11_register_62 ?_
              refine z_iload_n hZ (pc := 65) dX11_register_65 rfl ?_
              refine z_aload_n hZ (pc := 66) dX11_register_66 rfl ?_
              refine gM_13 hZ (pc := 67) fl_X11_69 dX11_register_67 ?_
              refine z_iload hZ (pc := 70) dX11_register_70 rfl ?_
              refine lMn_13 hZ (pc := 72) dX11_register_72 (show t < 200 by omega) ?_
              refine z_top (y := g 13 t) rfl ?_
              refine sMn_47 hZ (pc := 73) dX11_register_73 (show fb_ct (dayB (g 15) d) t < 200 by omega) ?_
              refine q_iinc_8_3 hZ (pc := 74) dX11_register_74 rfl ?_
              refine q_iinc_8_4 hZ (pc := 77) dX11_register_77 rfl ?_
              refine z_goto hZ (pc := 80) (tgt := 35) dX11_register_80 rfl ?_
              exact z_back hZ (ih35 (t + 1) hl35 (by omega)) (WM_eq rfl (by rw [up_twice, up_at, rwT, if_pos c55])) ⟨rfl, rfl, rfl, zi (by rw [fb_ct_succ, dayB, decide_eq_true c55]; exact nI_1 _), zi (nI_inc t), trivial⟩
            · skip
              refine z_goto hZ (pc := 58) (tgt := 77) dX11_register_58 rfl ?_
              refine q_iinc_8_4 hZ (pc := 77) dX11_register_77 rfl ?_
              refine z_goto hZ (pc := 80) (tgt := 35) dX11_register_80 rfl ?_
              exact z_back hZ (ih35 (t + 1) hl35 (by omega)) (WM_eq rfl (by rw [rwT, if_neg c55])) ⟨rfl, rfl, rfl, zi (by rw [fb_ct_succ, dayB, decide_eq_false c55]; rfl), zi (nI_inc t), trivial⟩
      exact z_back hZ (lp35 (n + 1) 0 (Nat.zero_le _) (by omega)) (WM_eq rfl (by rw [rwT, up_self])) ⟨rfl, rfl, rfl, rfl, rfl, trivial⟩
    · skip
      refine z_aload_n hZ (pc := 24) dX11_register_24 rfl ?_
      refine z_iconst hZ (pc := 25) (v := 1) dX11_register_25 (by decide) ?_
      refine cV_i hZ (pc := 26) dX11_register_26 lk_X11_286 mn_X11_fail mv_X11_fail (c_X11_fail) rc_M rfl rfl (Nat.le_of_ble_eq_true rfl) (by decide) (by decide) (Nat.zero_le _) (Nat.zero_le _) ?_
      refine zr_i hZ (pc := 29) dX11_register_29 FitR.int ?_
      exact ⟨by rw [show (inB d 0 99 && inB wt 0 2) = false from by rw [bI_eq.mp c21, Bool.and_false]]; exact up_twice, fun _ _ _ _ => rfl, by rw [show (inB d 0 99 && inB wt 0 2) = false from by rw [bI_eq.mp c21, Bool.and_false]]; rfl⟩
