/-! the draft's codes -/
def Cd (L : List Int32) (v : ZV) (g : ZG) : Prop := v 24 = nI L.length ∧ ∀ k, k < L.length → g 31 k = L.getD k 0
theorem Cd_add {L : List Int32} {v : ZV} {g : ZG} {x : Int32} (h : Cd L v g) : Cd (L ++ [x]) (va_up v 24 (nI (L.length + 1))) (va_up g 31 (upd (g 31) L.length x)) := by
  refine ⟨by rw [up_at, List.length_append]; rfl, fun k hk => ?_⟩
  rw [up_at]
  rw [List.length_append] at hk
  rcases Nat.lt_or_ge k L.length with q | q
  · rw [upd_off (by omega), h.2 k q, List.getD_eq_getElem?_getD, List.getD_eq_getElem?_getD, List.getElem?_append_left q]
  · have e : k = L.length := by have : k < L.length + 1 := hk; omega
    subst e
    rw [upd_at, List.getD_eq_getElem?_getD, List.getElem?_append_right (Nat.le_refl _), Nat.sub_self]
    rfl
theorem Cd_same {L : List Int32} {v v2 : ZV} {g g2 : ZG} (h : Cd L v g) (h1 : v2 24 = v 24) (h2 : g2 31 = g 31) : Cd L v2 g2 := ⟨by rw [h1]; exact h.1, by rw [h2]; exact h.2⟩
/-! reading tokens -/
def goV (v : ZV) (g : ZG) (j : Nat) : ZV := va_up (va_up (va_up v 2 (nI j)) 3 (g 2 j)) 4 (g 4 j)
def tkV (c : Int32) (v : ZV) (g : ZG) (i : Nat) : ZV := if c = 0 then goV v g (i + 1) else va_up v 6 c
def tnV (c : Int32) (v : ZV) (g : ZG) (i : Nat) : ZV := if c = 0 then goV (va_up v 5 (v 4)) g (i + 1) else va_up v 6 c
def tkC (k due : Int32) : Int32 := if k = due then 0 else 1
def tnC (k n a b : Int32) : Int32 := if k = 1 then (if n < a then 2 else if b < n then 2 else 0) else 1
def thC (k n h other : Int32) : Int32 := if k = 1 then (if n < h then (if n = other then 4 else 0) else if 9999 < n then 2 else 3) else 1
def isWdK (k : Int32) : Bool := (decide (k ≤ -1) && decide (-10 ≤ k)) || decide (6 ≤ k)
def jnK (lv : Nat) (k : Int32) : Bool := if lv = 0 then decide (k = -9) else if lv = 1 then decide (k = -10) else if lv = 2 then decide (k = -11) || decide (k = -12) else if lv = 3 then decide (k = -13) || decide (k = -14) else decide (k = -15) || decide (k = -16)
theorem goV_o {v : ZV} {g : ZG} {j k : Nat} (h2 : k ≠ 2) (h3 : k ≠ 3) (h4 : k ≠ 4) : goV v g j k = v k := by rw [goV, up_off h4, up_off h3, up_off h2]
theorem goV_2 {v : ZV} {g : ZG} {j : Nat} : goV v g j 2 = nI j := rfl
theorem goV_3 {v : ZV} {g : ZG} {j : Nat} : goV v g j 3 = g 2 j := rfl
theorem goV_4 {v : ZV} {g : ZG} {j : Nat} : goV v g j 4 = g 4 j := rfl
theorem c_X0_empty {l : Launch} {D : va_G} {cA : Nat → ClassId} {o a : Nat → Nat} {v : ZV} {g : ZG}   : MG l D cA (WC o a cA) yX0_empty cX0_empty 1 none 1 [(.ref (o 6))] v g (PF (va_up (va_up (va_up (va_up (va_up v 20 1) 21 0) 22 0) 23 0) 24 0) (va_up g 28 (fillf 100 (g 28) 10)) (none)) := by
  refine MG.of (by decide) rfl (Nat.le_of_ble_eq_true rfl) (by simp [Value.category]) (fun Z hZ => ?_)
  refine z_aload_n hZ (pc := 0) dX0_empty_0 rfl ?_
  refine z_iconst hZ (pc := 1) (v := 1) dX0_empty_1 (by decide) ?_
  refine pC_6_0 hZ (pc := 2) fl_X0_39 dX0_empty_2 ?_
  refine z_aload_n hZ (pc := 5) dX0_empty_5 rfl ?_
  refine z_iconst hZ (pc := 6) (v := 0) dX0_empty_6 (by decide) ?_
  refine pC_6_1 hZ (pc := 7) fl_X0_43 dX0_empty_7 ?_
  refine z_aload_n hZ (pc := 10) dX0_empty_10 rfl ?_
  refine z_iconst hZ (pc := 11) (v := 0) dX0_empty_11 (by decide) ?_
  refine pC_6_2 hZ (pc := 12) fl_X0_46 dX0_empty_12 ?_
  refine z_aload_n hZ (pc := 15) dX0_empty_15 rfl ?_
  refine z_iconst hZ (pc := 16) (v := 0) dX0_empty_16 (by decide) ?_
  refine pC_6_3 hZ (pc := 17) fl_X0_49 dX0_empty_17 ?_
  refine z_aload_n hZ (pc := 20) dX0_empty_20 rfl ?_
  refine z_iconst hZ (pc := 21) (v := 0) dX0_empty_21 (by decide) ?_
  refine pC_6_4 hZ (pc := 22) fl_X0_52 dX0_empty_22 ?_
  refine z_aload_n hZ (pc := 25) dX0_empty_25 rfl ?_
  refine gC_6_8 hZ (pc := 26) fl_X0_21 dX0_empty_26 ?_
  refine z_bipush hZ (pc := 29) (v := 10) dX0_empty_29 (by decide) ?_
  refine cS_v hZ (pc := 31) dX0_empty_31 lk_X0_55 mn_J7_fill_53178 ms_J7_fill_53178 (c_J7_fill_53178 (j := 28) (by decide)) rfl rfl (Nat.le_of_ble_eq_true rfl) (by decide) (by decide) (Nat.zero_le _) (Nat.zero_le _) ?_
  refine zr_v hZ (pc := 34) dX0_empty_34 ?_
  exact ⟨rfl, rfl, rfl⟩
theorem nI_ten (x y : Nat) : nI x * 10 + nI y = nI (10 * x + y) := by
  rw [show (10 : Int32) = nI 10 from rfl, show nI x * nI 10 = nI (x * 10) from (Int32.ofNat_mul x 10).symm, nI_add, Nat.mul_comm]
theorem c_X0_setWalk {l : Launch} {D : va_G} {cA : Nat → ClassId} {o a : Nat → Nat} {v : ZV} {g : ZG} {x y : Nat} {z : Int32} (hx : x < 10) (hy : y < 10) : MG l D cA (WC o a cA) yX0_setWalk cX0_setWalk 4 none 1 [(.ref (o 6)), .int (nI x), .int (nI y), .int z] v g (PF v (va_up g 28 (upd (upd (g 28) (10 * x + y) z) (10 * y + x) z)) (none)) := by
  refine MG.of (by decide) rfl (Nat.le_of_ble_eq_true rfl) (by simp [Value.category]) (fun Z hZ => ?_)
  refine z_aload_n hZ (pc := 0) dX0_setWalk_0 rfl ?_
  refine gC_6_8 hZ (pc := 1) fl_X0_21 dX0_setWalk_1 ?_
  refine z_iload_n hZ (pc := 4) dX0_setWalk_4 rfl ?_
  refine z_bipush hZ (pc := 5) (v := 10) dX0_setWalk_5 (by decide) ?_
  refine z_imul hZ (pc := 7) dX0_setWalk_7 ?_
  refine z_iload_n hZ (pc := 8) dX0_setWalk_8 rfl ?_
  refine z_iadd hZ (pc := 9) dX0_setWalk_9 ?_
  refine z_top (nI_ten x y) ?_
  refine z_iload_n hZ (pc := 10) dX0_setWalk_10 rfl ?_
  refine cS_v hZ (pc := 11) dX0_setWalk_11 lk_X0_65 mn_X10_put ms_X10_put (c_X10_putn (j := 28) (n := 10 * x + y) (by decide) (by show 10 * x + y < 100; omega)) rfl rfl (Nat.le_of_ble_eq_true rfl) (by decide) (by decide) (Nat.zero_le _) (Nat.zero_le _) ?_
  refine z_aload_n hZ (pc := 14) dX0_setWalk_14 rfl ?_
  refine gC_6_8 hZ (pc := 15) fl_X0_21 dX0_setWalk_15 ?_
  refine z_iload_n hZ (pc := 18) dX0_setWalk_18 rfl ?_
  refine z_bipush hZ (pc := 19) (v := 10) dX0_setWalk_19 (by decide) ?_
  refine z_imul hZ (pc := 21) dX0_setWalk_21 ?_
  refine z_iload_n hZ (pc := 22) dX0_setWalk_22 rfl ?_
  refine z_iadd hZ (pc := 23) dX0_setWalk_23 ?_
  refine z_top (nI_ten y x) ?_
  refine z_iload_n hZ (pc := 24) dX0_setWalk_24 rfl ?_
  refine cS_v hZ (pc := 25) dX0_setWalk_25 lk_X0_65 mn_X10_put ms_X10_put (c_X10_putn (j := 28) (n := 10 * y + x) (by decide) (by show 10 * y + x < 100; omega)) rfl rfl (Nat.le_of_ble_eq_true rfl) (by decide) (by decide) (Nat.zero_le _) (Nat.zero_le _) ?_
  refine zr_v hZ (pc := 28) dX0_setWalk_28 ?_
  exact ⟨rfl, by rw [up_twice, up_at], rfl⟩
theorem c_X0_addCode {l : Launch} {D : va_G} {cA : Nat → ClassId} {o a : Nat → Nat} {v : ZV} {g : ZG} {x : Int32} {c : Nat} (hc : v 24 = nI c) (h7 : c < 700) : MG l D cA (WC o a cA) yX0_addCode cX0_addCode 2 none 1 [(.ref (o 6)), .int x] v g (PF (va_up v 24 (nI (c + 1))) (va_up g 31 (upd (g 31) c x)) (none)) := by
  refine MG.of (by decide) rfl (Nat.le_of_ble_eq_true rfl) (by simp [Value.category]) (fun Z hZ => ?_)
  refine z_aload_n hZ (pc := 0) dX0_addCode_0 rfl ?_
  refine gC_6_4 hZ (pc := 1) fl_X0_52 dX0_addCode_1 ?_
  refine z_top hc ?_
  refine z_aload_n hZ (pc := 4) dX0_addCode_4 rfl ?_
  refine gC_6_11 hZ (pc := 5) fl_X0_30 dX0_addCode_5 ?_
  refine nC hZ (pc := 8) (by decide) dX0_addCode_8 ?_
  refine z_icmp_ge hZ (pc := 9) (tgt := 34) dX0_addCode_9 rfl (fun c9 => ?_) (fun c9 => ?_)
  · skip
    exact absurd c9 (Int32.not_le.mpr (nI_lt (a := c) (b := 700) h7 (by decide)))
  · skip
    refine z_aload_n hZ (pc := 12) dX0_addCode_12 rfl ?_
    refine gC_6_11 hZ (pc := 13) fl_X0_30 dX0_addCode_13 ?_
    refine z_aload_n hZ (pc := 16) dX0_addCode_16 rfl ?_
    refine gC_6_4 hZ (pc := 17) fl_X0_52 dX0_addCode_17 ?_
    refine z_top hc ?_
    refine z_iload_n hZ (pc := 20) dX0_addCode_20 rfl ?_
    refine cS_v hZ (pc := 21) dX0_addCode_21 lk_X0_65 mn_X10_put ms_X10_put (c_X10_putn (j := 31) (n := c) (by decide) (by show c < 700; omega)) rfl rfl (Nat.le_of_ble_eq_true rfl) (by decide) (by decide) (Nat.zero_le _) (Nat.zero_le _) ?_
    refine z_aload_n hZ (pc := 24) dX0_addCode_24 rfl ?_
    refine z_dup hZ (pc := 25) dX0_addCode_25 rfl ?_
    refine gC_6_4 hZ (pc := 26) fl_X0_52 dX0_addCode_26 ?_
    refine z_iconst hZ (pc := 29) (v := 1) dX0_addCode_29 (by decide) ?_
    skip
    refine z_iadd hZ (pc := 30) dX0_addCode_30 ?_
    refine z_top (y := nI (c + 1)) (by rw [hc]; exact nI_1 c) ?_
    refine pC_6_4 hZ (pc := 31) fl_X0_52 dX0_addCode_31 ?_
    skip
    refine zr_v hZ (pc := 34) dX0_addCode_34 ?_
    exact ⟨rfl, rfl, rfl⟩
theorem c_X0_addCode_any {l : Launch} {D : va_G} {cA : Nat → ClassId} {o a : Nat → Nat} {v : ZV} {g : ZG} {x : Int32}  : MG l D cA (WC o a cA) yX0_addCode cX0_addCode 2 none 1 [(.ref (o 6)), .int x] v g (fun v2 g2 r => r = none ∧ (∀ k, k ≠ 24 → v2 k = v k) ∧ ∀ k, k ≠ 31 → g2 k = g k) := by
  refine MG.of (by decide) rfl (Nat.le_of_ble_eq_true rfl) (by simp [Value.category]) (fun Z hZ => ?_)
  refine z_aload_n hZ (pc := 0) dX0_addCode_0 rfl ?_
  refine gC_6_4 hZ (pc := 1) fl_X0_52 dX0_addCode_1 ?_
  refine z_aload_n hZ (pc := 4) dX0_addCode_4 rfl ?_
  refine gC_6_11 hZ (pc := 5) fl_X0_30 dX0_addCode_5 ?_
  refine nC hZ (pc := 8) (by decide) dX0_addCode_8 ?_
  refine z_icmp_ge hZ (pc := 9) (tgt := 34) dX0_addCode_9 rfl (fun c9 => ?_) (fun c9 => ?_)
  · skip
    refine zr_v hZ (pc := 34) dX0_addCode_34 ?_
    exact ⟨rfl, fun _ _ => rfl, fun _ _ => rfl⟩
  · skip
    refine z_aload_n hZ (pc := 12) dX0_addCode_12 rfl ?_
    refine gC_6_11 hZ (pc := 13) fl_X0_30 dX0_addCode_13 ?_
    refine z_aload_n hZ (pc := 16) dX0_addCode_16 rfl ?_
    refine gC_6_4 hZ (pc := 17) fl_X0_52 dX0_addCode_17 ?_
    refine z_iload_n hZ (pc := 20) dX0_addCode_20 rfl ?_
    refine cS_v hZ (pc := 21) dX0_addCode_21 lk_X0_65 mn_X10_put ms_X10_put (c_X10_put (j := 31) (by decide)) rfl rfl (Nat.le_of_ble_eq_true rfl) (by decide) (by decide) (Nat.zero_le _) (Nat.zero_le _) ?_
    refine z_aload_n hZ (pc := 24) dX0_addCode_24 rfl ?_
    refine z_dup hZ (pc := 25) dX0_addCode_25 rfl ?_
    refine gC_6_4 hZ (pc := 26) fl_X0_52 dX0_addCode_26 ?_
    refine z_iconst hZ (pc := 29) (v := 1) dX0_addCode_29 (by decide) ?_
    refine z_iadd hZ (pc := 30) dX0_addCode_30 ?_
    refine pC_6_4 hZ (pc := 31) fl_X0_52 dX0_addCode_31 ?_
    refine zr_v hZ (pc := 34) dX0_addCode_34 ?_
    exact ⟨rfl, fun k hk => up_off hk, fun k hk => up_off hk⟩
theorem c_X5_goTo {l : Launch} {D : va_G} {cA : Nat → ClassId} {o a : Nat → Nat} {v : ZV} {g : ZG} {j : Nat} (hj : j < 701) : MG l D cA (WC o a cA) yX5_goTo cX5_goTo 2 none 1 [(.ref (o 1)), .int (nI j)] v g (PF (goV v g j) g (none)) := by
  refine MG.of (by decide) rfl (Nat.le_of_ble_eq_true rfl) (by simp [Value.category]) (fun Z hZ => ?_)
  refine z_aload_n hZ (pc := 0) dX5_goTo_0 rfl ?_
  refine z_iload_n hZ (pc := 1) dX5_goTo_1 rfl ?_
  refine pC_1_2 hZ (pc := 2) fl_X5_25 dX5_goTo_2 ?_
  refine z_aload_n hZ (pc := 5) dX5_goTo_5 rfl ?_
  refine z_aload_n hZ (pc := 6) dX5_goTo_6 rfl ?_
  refine gC_1_0 hZ (pc := 7) fl_X5_12 dX5_goTo_7 ?_
  refine gC_2_3 hZ (pc := 10) fl_X5_70 dX5_goTo_10 ?_
  refine z_iload_n hZ (pc := 13) dX5_goTo_13 rfl ?_
  refine cS_i hZ (pc := 14) dX5_goTo_14 lk_X5_66 mn_X10_at ms_X10_at (c_X10_atn (j := 2) (n := j) (by decide) (by show j < 701; omega)) rfl rfl (Nat.le_of_ble_eq_true rfl) (by decide) (by decide) (Nat.zero_le _) (Nat.zero_le _) ?_
  refine pC_1_3 hZ (pc := 17) fl_X5_29 dX5_goTo_17 ?_
  refine z_aload_n hZ (pc := 20) dX5_goTo_20 rfl ?_
  refine z_aload_n hZ (pc := 21) dX5_goTo_21 rfl ?_
  refine gC_1_0 hZ (pc := 22) fl_X5_12 dX5_goTo_22 ?_
  refine gC_2_5 hZ (pc := 25) fl_X5_73 dX5_goTo_25 ?_
  refine z_iload_n hZ (pc := 28) dX5_goTo_28 rfl ?_
  refine cS_i hZ (pc := 29) dX5_goTo_29 lk_X5_66 mn_X10_at ms_X10_at (c_X10_atn (j := 4) (n := j) (by decide) (by show j < 701; omega)) rfl rfl (Nat.le_of_ble_eq_true rfl) (by decide) (by decide) (Nat.zero_le _) (Nat.zero_le _) ?_
  refine pC_1_4 hZ (pc := 32) fl_X5_32 dX5_goTo_32 ?_
  refine zr_v hZ (pc := 35) dX5_goTo_35 ?_
  exact ⟨rfl, rfl, rfl⟩
theorem c_X5_refuse {l : Launch} {D : va_G} {cA : Nat → ClassId} {o a : Nat → Nat} {v : ZV} {g : ZG} {c : Int32}  : MG l D cA (WC o a cA) yX5_refuse cX5_refuse 2 (some .boolean) 0 [(.ref (o 1)), .int c] v g (PF (va_up v 6 c) g (some (.int 0))) := by
  refine MG.of (by decide) rfl (Nat.le_of_ble_eq_true rfl) (by simp [Value.category]) (fun Z hZ => ?_)
  refine z_aload_n hZ (pc := 0) dX5_refuse_0 rfl ?_
  refine z_iload_n hZ (pc := 1) dX5_refuse_1 rfl ?_
  refine pC_1_6 hZ (pc := 2) fl_X5_38 dX5_refuse_2 ?_
  refine z_iconst hZ (pc := 5) (v := 0) dX5_refuse_5 (by decide) ?_
  refine zr_i hZ (pc := 6) dX5_refuse_6 FitR.b0 ?_
  exact ⟨rfl, rfl, rfl⟩
theorem c_X5_place {l : Launch} {D : va_G} {cA : Nat → ClassId} {o a : Nat → Nat} {v : ZV} {g : ZG} {i : Nat} (hi : v 2 = nI i) (h7 : i < 701) : MG l D cA (WC o a cA) yX5_place cX5_place 1 (some .int) 1 [(.ref (o 1))] v g (PF v g (some (.int (g 3 i)))) := by
  refine MG.of (by decide) rfl (Nat.le_of_ble_eq_true rfl) (by simp [Value.category]) (fun Z hZ => ?_)
  refine z_aload_n hZ (pc := 0) dX5_place_0 rfl ?_
  refine gC_1_0 hZ (pc := 1) fl_X5_12 dX5_place_1 ?_
  refine gC_2_4 hZ (pc := 4) fl_X5_62 dX5_place_4 ?_
  refine z_aload_n hZ (pc := 7) dX5_place_7 rfl ?_
  refine gC_1_2 hZ (pc := 8) fl_X5_25 dX5_place_8 ?_
  refine z_top hi ?_
  refine cS_i hZ (pc := 11) dX5_place_11 lk_X5_66 mn_X10_at ms_X10_at (c_X10_atn (j := 3) (n := i) (by decide) (by show i < 701; omega)) rfl rfl (Nat.le_of_ble_eq_true rfl) (by decide) (by decide) (Nat.zero_le _) (Nat.zero_le _) ?_
  refine zr_i hZ (pc := 14) dX5_place_14 FitR.int ?_
  exact ⟨rfl, rfl, rfl⟩
theorem c_X5_take {l : Launch} {D : va_G} {cA : Nat → ClassId} {o a : Nat → Nat} {v : ZV} {g : ZG} {due : Int32} {i : Nat} (hi : v 2 = nI i) (h7 : v 3 = due → i < 700) : MG l D cA (WC o a cA) yX5_take cX5_take 2 (some .boolean) 2 [(.ref (o 1)), .int due] v g (PF (tkV (tkC (v 3) due) v g i) g (some (.int (bI (decide (tkC (v 3) due = 0)))))) := by
  refine MG.of (by decide) rfl (Nat.le_of_ble_eq_true rfl) (by simp [Value.category]) (fun Z hZ => ?_)
  refine z_aload_n hZ (pc := 0) dX5_take_0 rfl ?_
  refine gC_1_3 hZ (pc := 1) fl_X5_29 dX5_take_1 ?_
  refine z_iload_n hZ (pc := 4) dX5_take_4 rfl ?_
  refine z_icmp_eq hZ (pc := 5) (tgt := 14) dX5_take_5 rfl (fun c5 => ?_) (fun c5 => ?_)
  · skip
    refine z_aload_n hZ (pc := 14) dX5_take_14 rfl ?_
    refine z_aload_n hZ (pc := 15) dX5_take_15 rfl ?_
    refine gC_1_2 hZ (pc := 16) fl_X5_25 dX5_take_16 ?_
    refine z_iconst hZ (pc := 19) (v := 1) dX5_take_19 (by decide) ?_
    refine z_iadd hZ (pc := 20) dX5_take_20 ?_
    refine z_top (y := nI (i + 1)) (by rw [hi]; exact nI_1 i) ?_
    refine cV_v hZ (pc := 21) dX5_take_21 lk_X5_48 mn_X5_goTo mv_X5_goTo (c_X5_goTo (by have := h7 c5; omega)) rc_1 rfl rfl (Nat.le_of_ble_eq_true rfl) (by decide) (by decide) (Nat.zero_le _) (Nat.zero_le _) ?_
    refine z_iconst hZ (pc := 24) (v := 1) dX5_take_24 (by decide) ?_
    refine zr_i hZ (pc := 25) dX5_take_25 FitR.b1 ?_
    exact ⟨by rw [tkC, if_pos c5, tkV, if_pos rfl], rfl, by rw [tkC, if_pos c5]; rfl⟩
  · skip
    refine z_aload_n hZ (pc := 8) dX5_take_8 rfl ?_
    refine z_iconst hZ (pc := 9) (v := 1) dX5_take_9 (by decide) ?_
    refine cV_i hZ (pc := 10) dX5_take_10 lk_X5_80 mn_X5_refuse mv_X5_refuse (c_X5_refuse) rc_1 rfl rfl (Nat.le_of_ble_eq_true rfl) (by decide) (by decide) (Nat.zero_le _) (Nat.zero_le _) ?_
    refine zr_i hZ (pc := 13) dX5_take_13 FitR.b0 ?_
    exact ⟨by rw [tkC, if_neg c5, tkV, if_neg (by decide)], rfl, by rw [tkC, if_neg c5]; rfl⟩
theorem c_X5_takeNumber {l : Launch} {D : va_G} {cA : Nat → ClassId} {o a : Nat → Nat} {v : ZV} {g : ZG} {p q : Int32} {i : Nat} (hi : v 2 = nI i) (h7 : v 3 = 1 → i < 700) : MG l D cA (WC o a cA) yX5_takeNumber cX5_takeNumber 3 (some .boolean) 2 [(.ref (o 1)), .int p, .int q] v g (PF (tnV (tnC (v 3) (v 4) p q) v g i) g (some (.int (bI (decide (tnC (v 3) (v 4) p q = 0)))))) := by
  refine MG.of (by decide) rfl (Nat.le_of_ble_eq_true rfl) (by simp [Value.category]) (fun Z hZ => ?_)
  refine z_aload_n hZ (pc := 0) dX5_takeNumber_0 rfl ?_
  refine gC_1_3 hZ (pc := 1) fl_X5_29 dX5_takeNumber_1 ?_
  refine z_iconst hZ (pc := 4) (v := 1) dX5_takeNumber_4 (by decide) ?_
  refine z_icmp_eq hZ (pc := 5) (tgt := 14) dX5_takeNumber_5 rfl (fun c5 => ?_) (fun c5 => ?_)
  · skip
    refine z_aload_n hZ (pc := 14) dX5_takeNumber_14 rfl ?_
    refine gC_1_4 hZ (pc := 15) fl_X5_32 dX5_takeNumber_15 ?_
    refine z_iload_n hZ (pc := 18) dX5_takeNumber_18 rfl ?_
    refine z_icmp_lt hZ (pc := 19) (tgt := 30) dX5_takeNumber_19 rfl (fun c19 => ?_) (fun c19 => ?_)
    · skip
      refine z_aload_n hZ (pc := 30) dX5_takeNumber_30 rfl ?_
      refine z_iconst hZ (pc := 31) (v := 2) dX5_takeNumber_31 (by decide) ?_
      refine cV_i hZ (pc := 32) dX5_takeNumber_32 lk_X5_80 mn_X5_refuse mv_X5_refuse (c_X5_refuse) rc_1 rfl rfl (Nat.le_of_ble_eq_true rfl) (by decide) (by decide) (Nat.zero_le _) (Nat.zero_le _) ?_
      refine zr_i hZ (pc := 35) dX5_takeNumber_35 FitR.b0 ?_
      exact ⟨by rw [tnC, if_pos c5, if_pos c19, tnV, if_neg (by decide)], rfl, by rw [tnC, if_pos c5, if_pos c19]; rfl⟩
    · skip
      refine z_aload_n hZ (pc := 22) dX5_takeNumber_22 rfl ?_
      refine gC_1_4 hZ (pc := 23) fl_X5_32 dX5_takeNumber_23 ?_
      refine z_iload_n hZ (pc := 26) dX5_takeNumber_26 rfl ?_
      refine z_icmp_le hZ (pc := 27) (tgt := 36) dX5_takeNumber_27 rfl (fun c27 => ?_) (fun c27 => ?_)
      · skip
        refine z_aload_n hZ (pc := 36) dX5_takeNumber_36 rfl ?_
        refine z_aload_n hZ (pc := 37) dX5_takeNumber_37 rfl ?_
        refine gC_1_4 hZ (pc := 38) fl_X5_32 dX5_takeNumber_38 ?_
        refine pC_1_5 hZ (pc := 41) fl_X5_35 dX5_takeNumber_41 ?_
        refine z_aload_n hZ (pc := 44) dX5_takeNumber_44 rfl ?_
        refine z_aload_n hZ (pc := 45) dX5_takeNumber_45 rfl ?_
        refine gC_1_2 hZ (pc := 46) fl_X5_25 dX5_takeNumber_46 ?_
        refine z_iconst hZ (pc := 49) (v := 1) dX5_takeNumber_49 (by decide) ?_
        refine z_iadd hZ (pc := 50) dX5_takeNumber_50 ?_
        refine z_top (y := nI (i + 1)) (by show v 2 + 1 = _; rw [hi]; exact nI_1 i) ?_
        refine cV_v hZ (pc := 51) dX5_takeNumber_51 lk_X5_48 mn_X5_goTo mv_X5_goTo (c_X5_goTo (by have := h7 c5; omega)) rc_1 rfl rfl (Nat.le_of_ble_eq_true rfl) (by decide) (by decide) (Nat.zero_le _) (Nat.zero_le _) ?_
        refine z_iconst hZ (pc := 54) (v := 1) dX5_takeNumber_54 (by decide) ?_
        refine zr_i hZ (pc := 55) dX5_takeNumber_55 FitR.b1 ?_
        exact ⟨by rw [tnC, if_pos c5, if_neg c19, if_neg (Int32.not_lt.mpr c27), tnV, if_pos rfl], rfl, by rw [tnC, if_pos c5, if_neg c19, if_neg (Int32.not_lt.mpr c27)]; rfl⟩
      · skip
        refine z_aload_n hZ (pc := 30) dX5_takeNumber_30 rfl ?_
        refine z_iconst hZ (pc := 31) (v := 2) dX5_takeNumber_31 (by decide) ?_
        refine cV_i hZ (pc := 32) dX5_takeNumber_32 lk_X5_80 mn_X5_refuse mv_X5_refuse (c_X5_refuse) rc_1 rfl rfl (Nat.le_of_ble_eq_true rfl) (by decide) (by decide) (Nat.zero_le _) (Nat.zero_le _) ?_
        refine zr_i hZ (pc := 35) dX5_takeNumber_35 FitR.b0 ?_
        exact ⟨by rw [tnC, if_pos c5, if_neg c19, if_pos (Int32.not_le.mp c27), tnV, if_neg (by decide)], rfl, by rw [tnC, if_pos c5, if_neg c19, if_pos (Int32.not_le.mp c27)]; rfl⟩
  · skip
    refine z_aload_n hZ (pc := 8) dX5_takeNumber_8 rfl ?_
    refine z_iconst hZ (pc := 9) (v := 1) dX5_takeNumber_9 (by decide) ?_
    refine cV_i hZ (pc := 10) dX5_takeNumber_10 lk_X5_80 mn_X5_refuse mv_X5_refuse (c_X5_refuse) rc_1 rfl rfl (Nat.le_of_ble_eq_true rfl) (by decide) (by decide) (Nat.zero_le _) (Nat.zero_le _) ?_
    refine zr_i hZ (pc := 13) dX5_takeNumber_13 FitR.b0 ?_
    exact ⟨by rw [tnC, if_neg c5, tnV, if_neg (by decide)], rfl, by rw [tnC, if_neg c5]; rfl⟩
theorem c_X5_takeHouse {l : Launch} {D : va_G} {cA : Nat → ClassId} {o a : Nat → Nat} {v : ZV} {g : ZG} {p : Int32} {i : Nat} (hi : v 2 = nI i) (h7 : v 3 = 1 → i < 700) : MG l D cA (WC o a cA) yX5_takeHouse cX5_takeHouse 2 (some .boolean) 2 [(.ref (o 1)), .int p] v g (PF (tnV (thC (v 3) (v 4) (v 20) p) v g i) g (some (.int (bI (decide (thC (v 3) (v 4) (v 20) p = 0)))))) := by
  refine MG.of (by decide) rfl (Nat.le_of_ble_eq_true rfl) (by simp [Value.category]) (fun Z hZ => ?_)
  refine z_aload_n hZ (pc := 0) dX5_takeHouse_0 rfl ?_
  refine gC_1_3 hZ (pc := 1) fl_X5_29 dX5_takeHouse_1 ?_
  refine z_iconst hZ (pc := 4) (v := 1) dX5_takeHouse_4 (by decide) ?_
  refine z_icmp_eq hZ (pc := 5) (tgt := 14) dX5_takeHouse_5 rfl (fun c5 => ?_) (fun c5 => ?_)
  · skip
    refine z_aload_n hZ (pc := 14) dX5_takeHouse_14 rfl ?_
    refine gC_1_4 hZ (pc := 15) fl_X5_32 dX5_takeHouse_15 ?_
    refine z_aload_n hZ (pc := 18) dX5_takeHouse_18 rfl ?_
    refine gC_1_1 hZ (pc := 19) fl_X5_21 dX5_takeHouse_19 ?_
    refine gC_6_0 hZ (pc := 22) fl_X5_102 dX5_takeHouse_22 ?_
    refine z_icmp_lt hZ (pc := 25) (tgt := 48) dX5_takeHouse_25 rfl (fun c25 => ?_) (fun c25 => ?_)
    · skip
      refine z_aload_n hZ (pc := 48) dX5_takeHouse_48 rfl ?_
      refine gC_1_4 hZ (pc := 49) fl_X5_32 dX5_takeHouse_49 ?_
      refine z_iload_n hZ (pc := 52) dX5_takeHouse_52 rfl ?_
      refine z_icmp_ne hZ (pc := 53) (tgt := 62) dX5_takeHouse_53 rfl (fun c53 => ?_) (fun c53 => ?_)
      · skip
        refine z_aload_n hZ (pc := 62) dX5_takeHouse_62 rfl ?_
        refine z_aload_n hZ (pc := 63) dX5_takeHouse_63 rfl ?_
        refine gC_1_4 hZ (pc := 64) fl_X5_32 dX5_takeHouse_64 ?_
        refine pC_1_5 hZ (pc := 67) fl_X5_35 dX5_takeHouse_67 ?_
        refine z_aload_n hZ (pc := 70) dX5_takeHouse_70 rfl ?_
        refine z_aload_n hZ (pc := 71) dX5_takeHouse_71 rfl ?_
        refine gC_1_2 hZ (pc := 72) fl_X5_25 dX5_takeHouse_72 ?_
        refine z_iconst hZ (pc := 75) (v := 1) dX5_takeHouse_75 (by decide) ?_
        refine z_iadd hZ (pc := 76) dX5_takeHouse_76 ?_
        refine z_top (y := nI (i + 1)) (by show v 2 + 1 = _; rw [hi]; exact nI_1 i) ?_
        refine cV_v hZ (pc := 77) dX5_takeHouse_77 lk_X5_48 mn_X5_goTo mv_X5_goTo (c_X5_goTo (by have := h7 c5; omega)) rc_1 rfl rfl (Nat.le_of_ble_eq_true rfl) (by decide) (by decide) (Nat.zero_le _) (Nat.zero_le _) ?_
        refine z_iconst hZ (pc := 80) (v := 1) dX5_takeHouse_80 (by decide) ?_
        refine zr_i hZ (pc := 81) dX5_takeHouse_81 FitR.b1 ?_
        exact ⟨by rw [thC, if_pos c5, if_pos c25, if_neg c53, tnV, if_pos rfl], rfl, by rw [thC, if_pos c5, if_pos c25, if_neg c53]; rfl⟩
      · skip
        refine z_aload_n hZ (pc := 56) dX5_takeHouse_56 rfl ?_
        refine z_iconst hZ (pc := 57) (v := 4) dX5_takeHouse_57 (by decide) ?_
        refine cV_i hZ (pc := 58) dX5_takeHouse_58 lk_X5_80 mn_X5_refuse mv_X5_refuse (c_X5_refuse) rc_1 rfl rfl (Nat.le_of_ble_eq_true rfl) (by decide) (by decide) (Nat.zero_le _) (Nat.zero_le _) ?_
        refine zr_i hZ (pc := 61) dX5_takeHouse_61 FitR.b0 ?_
        exact ⟨by rw [thC, if_pos c5, if_pos c25, if_pos c53, tnV, if_neg (by decide)], rfl, by rw [thC, if_pos c5, if_pos c25, if_pos c53]; rfl⟩
    · skip
      refine z_aload_n hZ (pc := 28) dX5_takeHouse_28 rfl ?_
      refine z_aload_n hZ (pc := 29) dX5_takeHouse_29 rfl ?_
      refine gC_1_4 hZ (pc := 30) fl_X5_32 dX5_takeHouse_30 ?_
      refine z_sipush hZ (pc := 33) (v := 9999) dX5_takeHouse_33 (by decide) ?_
      refine z_icmp_le hZ (pc := 36) (tgt := 43) dX5_takeHouse_36 rfl (fun c36 => ?_) (fun c36 => ?_)
      · skip
        refine z_iconst hZ (pc := 43) (v := 3) dX5_takeHouse_43 (by decide) ?_
        refine cV_i hZ (pc := 44) dX5_takeHouse_44 lk_X5_80 mn_X5_refuse mv_X5_refuse (c_X5_refuse) rc_1 rfl rfl (Nat.le_of_ble_eq_true rfl) (by decide) (by decide) (Nat.zero_le _) (Nat.zero_le _) ?_
        refine zr_i hZ (pc := 47) dX5_takeHouse_47 FitR.b0 ?_
        exact ⟨by rw [thC, if_pos c5, if_neg c25, if_neg (Int32.not_lt.mpr c36), tnV, if_neg (by decide)], rfl, by rw [thC, if_pos c5, if_neg c25, if_neg (Int32.not_lt.mpr c36)]; rfl⟩
      · skip
        refine z_iconst hZ (pc := 39) (v := 2) dX5_takeHouse_39 (by decide) ?_
        refine z_goto hZ (pc := 40) (tgt := 44) dX5_takeHouse_40 rfl ?_
        refine cV_i hZ (pc := 44) dX5_takeHouse_44 lk_X5_80 mn_X5_refuse mv_X5_refuse (c_X5_refuse) rc_1 rfl rfl (Nat.le_of_ble_eq_true rfl) (by decide) (by decide) (Nat.zero_le _) (Nat.zero_le _) ?_
        refine zr_i hZ (pc := 47) dX5_takeHouse_47 FitR.b0 ?_
        exact ⟨by rw [thC, if_pos c5, if_neg c25, if_pos (Int32.not_le.mp c36), tnV, if_neg (by decide)], rfl, by rw [thC, if_pos c5, if_neg c25, if_pos (Int32.not_le.mp c36)]; rfl⟩
  · skip
    refine z_aload_n hZ (pc := 8) dX5_takeHouse_8 rfl ?_
    refine z_iconst hZ (pc := 9) (v := 1) dX5_takeHouse_9 (by decide) ?_
    refine cV_i hZ (pc := 10) dX5_takeHouse_10 lk_X5_80 mn_X5_refuse mv_X5_refuse (c_X5_refuse) rc_1 rfl rfl (Nat.le_of_ble_eq_true rfl) (by decide) (by decide) (Nat.zero_le _) (Nat.zero_le _) ?_
    refine zr_i hZ (pc := 13) dX5_takeHouse_13 FitR.b0 ?_
    exact ⟨by rw [thC, if_neg c5, tnV, if_neg (by decide)], rfl, by rw [thC, if_neg c5]; rfl⟩
theorem c_X5_isWord {l : Launch} {D : va_G} {cA : Nat → ClassId} {o a : Nat → Nat} {v : ZV} {g : ZG}   : MG l D cA (WC o a cA) yX5_isWord cX5_isWord 1 (some .boolean) 0 [(.ref (o 1))] v g (PF v g (some (.int (bI (isWdK (v 3)))))) := by
  refine MG.of (by decide) rfl (Nat.le_of_ble_eq_true rfl) (by simp [Value.category]) (fun Z hZ => ?_)
  refine z_aload_n hZ (pc := 0) dX5_isWord_0 rfl ?_
  refine gC_1_3 hZ (pc := 1) fl_X5_29 dX5_isWord_1 ?_
  refine z_iconst hZ (pc := 4) (v := (-1)) dX5_isWord_4 (by decide) ?_
  refine z_icmp_gt hZ (pc := 5) (tgt := 17) dX5_isWord_5 rfl (fun c5 => ?_) (fun c5 => ?_)
  · skip
    refine z_aload_n hZ (pc := 17) dX5_isWord_17 rfl ?_
    refine gC_1_3 hZ (pc := 18) fl_X5_29 dX5_isWord_18 ?_
    refine z_bipush hZ (pc := 21) (v := 6) dX5_isWord_21 (by decide) ?_
    refine z_icmp_lt hZ (pc := 23) (tgt := 30) dX5_isWord_23 rfl (fun c23 => ?_) (fun c23 => ?_)
    · skip
      refine z_iconst hZ (pc := 30) (v := 0) dX5_isWord_30 (by decide) ?_
      refine zr_i hZ (pc := 31) dX5_isWord_31 FitR.b0 ?_
      exact ⟨rfl, rfl, by rw [isWdK, decide_eq_false (Int32.not_le.mpr c5), decide_eq_false (Int32.not_le.mpr c23)]; rfl⟩
    · skip
      refine z_iconst hZ (pc := 26) (v := 1) dX5_isWord_26 (by decide) ?_
      refine z_goto hZ (pc := 27) (tgt := 31) dX5_isWord_27 rfl ?_
      refine zr_i hZ (pc := 31) dX5_isWord_31 FitR.b1 ?_
      exact ⟨rfl, rfl, by rw [isWdK, decide_eq_true (Int32.not_lt.mp c23), Bool.or_true]; rfl⟩
  · skip
    refine z_aload_n hZ (pc := 8) dX5_isWord_8 rfl ?_
    refine gC_1_3 hZ (pc := 9) fl_X5_29 dX5_isWord_9 ?_
    refine z_bipush hZ (pc := 12) (v := (-10)) dX5_isWord_12 (by decide) ?_
    refine z_icmp_ge hZ (pc := 14) (tgt := 26) dX5_isWord_14 rfl (fun c14 => ?_) (fun c14 => ?_)
    · skip
      refine z_iconst hZ (pc := 26) (v := 1) dX5_isWord_26 (by decide) ?_
      refine z_goto hZ (pc := 27) (tgt := 31) dX5_isWord_27 rfl ?_
      refine zr_i hZ (pc := 31) dX5_isWord_31 FitR.b1 ?_
      exact ⟨rfl, rfl, by rw [isWdK, decide_eq_true (Int32.not_lt.mp c5), decide_eq_true c14]; rfl⟩
    · skip
      refine z_aload_n hZ (pc := 17) dX5_isWord_17 rfl ?_
      refine gC_1_3 hZ (pc := 18) fl_X5_29 dX5_isWord_18 ?_
      refine z_bipush hZ (pc := 21) (v := 6) dX5_isWord_21 (by decide) ?_
      refine z_icmp_lt hZ (pc := 23) (tgt := 30) dX5_isWord_23 rfl (fun c23 => ?_) (fun c23 => ?_)
      · skip
        refine z_iconst hZ (pc := 30) (v := 0) dX5_isWord_30 (by decide) ?_
        refine zr_i hZ (pc := 31) dX5_isWord_31 FitR.b0 ?_
        exact ⟨rfl, rfl, by rw [isWdK, decide_eq_false c14, Bool.and_false, decide_eq_false (Int32.not_le.mpr c23)]; rfl⟩
      · skip
        refine z_iconst hZ (pc := 26) (v := 1) dX5_isWord_26 (by decide) ?_
        refine z_goto hZ (pc := 27) (tgt := 31) dX5_isWord_27 rfl ?_
        refine zr_i hZ (pc := 31) dX5_isWord_31 FitR.b1 ?_
        exact ⟨rfl, rfl, by rw [isWdK, decide_eq_true (Int32.not_lt.mp c23), Bool.or_true]; rfl⟩
theorem jnK0 {k : Int32} : jnK 0 k = (decide (k = -9)) := rfl
theorem jnK1 {k : Int32} : jnK 1 k = (decide (k = -10)) := rfl
theorem jnK2 {k : Int32} : jnK 2 k = (decide (k = -11) || decide (k = -12)) := rfl
theorem jnK3 {k : Int32} : jnK 3 k = (decide (k = -13) || decide (k = -14)) := rfl
theorem jnK4 {k : Int32} : jnK 4 k = (decide (k = -15) || decide (k = -16)) := rfl
theorem c_X5_joins_0 {l : Launch} {D : va_G} {cA : Nat → ClassId} {o a : Nat → Nat} {v : ZV} {g : ZG}   : MG l D cA (WC o a cA) yX5_joins cX5_joins 2 (some .boolean) 0 [(.ref (o 1)), .int 0] v g (PF v g (some (.int (bI (jnK 0 (v 3)))))) := by
  refine MG.of (by decide) rfl (Nat.le_of_ble_eq_true rfl) (by simp [Value.category]) (fun Z hZ => ?_)
  refine z_iload_n hZ (pc := 0) dX5_joins_0 rfl ?_
  refine z_swIn hZ (pc := 1) (off := 35) (tgt := 36) dX5_joins_1 (by decide) (by decide) (by decide) rfl ?_
  refine z_aload_n hZ (pc := 36) dX5_joins_36 rfl ?_
  refine gC_1_3 hZ (pc := 37) fl_X5_29 dX5_joins_37 ?_
  refine z_bipush hZ (pc := 40) (v := (-9)) dX5_joins_40 (by decide) ?_
  refine z_icmp_ne hZ (pc := 42) (tgt := 49) dX5_joins_42 rfl (fun c42 => ?_) (fun c42 => ?_)
  · skip
    refine z_iconst hZ (pc := 49) (v := 0) dX5_joins_49 (by decide) ?_
    refine zr_i hZ (pc := 50) dX5_joins_50 FitR.b0 ?_
    exact ⟨rfl, rfl, by rw [jnK0, decide_eq_false c42]; rfl⟩
  · skip
    refine z_iconst hZ (pc := 45) (v := 1) dX5_joins_45 (by decide) ?_
    refine z_goto hZ (pc := 46) (tgt := 50) dX5_joins_46 rfl ?_
    refine zr_i hZ (pc := 50) dX5_joins_50 FitR.b1 ?_
    exact ⟨rfl, rfl, by rw [jnK0, decide_eq_true c42]; rfl⟩
theorem c_X5_joins_1 {l : Launch} {D : va_G} {cA : Nat → ClassId} {o a : Nat → Nat} {v : ZV} {g : ZG}   : MG l D cA (WC o a cA) yX5_joins cX5_joins 2 (some .boolean) 0 [(.ref (o 1)), .int 1] v g (PF v g (some (.int (bI (jnK 1 (v 3)))))) := by
  refine MG.of (by decide) rfl (Nat.le_of_ble_eq_true rfl) (by simp [Value.category]) (fun Z hZ => ?_)
  refine z_iload_n hZ (pc := 0) dX5_joins_0 rfl ?_
  refine z_swIn hZ (pc := 1) (off := 50) (tgt := 51) dX5_joins_1 (by decide) (by decide) (by decide) rfl ?_
  refine z_aload_n hZ (pc := 51) dX5_joins_51 rfl ?_
  refine gC_1_3 hZ (pc := 52) fl_X5_29 dX5_joins_52 ?_
  refine z_bipush hZ (pc := 55) (v := (-10)) dX5_joins_55 (by decide) ?_
  refine z_icmp_ne hZ (pc := 57) (tgt := 64) dX5_joins_57 rfl (fun c57 => ?_) (fun c57 => ?_)
  · skip
    refine z_iconst hZ (pc := 64) (v := 0) dX5_joins_64 (by decide) ?_
    refine zr_i hZ (pc := 65) dX5_joins_65 FitR.b0 ?_
    exact ⟨rfl, rfl, by rw [jnK1, decide_eq_false c57]; rfl⟩
  · skip
    refine z_iconst hZ (pc := 60) (v := 1) dX5_joins_60 (by decide) ?_
    refine z_goto hZ (pc := 61) (tgt := 65) dX5_joins_61 rfl ?_
    refine zr_i hZ (pc := 65) dX5_joins_65 FitR.b1 ?_
    exact ⟨rfl, rfl, by rw [jnK1, decide_eq_true c57]; rfl⟩
theorem c_X5_joins_2 {l : Launch} {D : va_G} {cA : Nat → ClassId} {o a : Nat → Nat} {v : ZV} {g : ZG}   : MG l D cA (WC o a cA) yX5_joins cX5_joins 2 (some .boolean) 0 [(.ref (o 1)), .int 2] v g (PF v g (some (.int (bI (jnK 2 (v 3)))))) := by
  refine MG.of (by decide) rfl (Nat.le_of_ble_eq_true rfl) (by simp [Value.category]) (fun Z hZ => ?_)
  refine z_iload_n hZ (pc := 0) dX5_joins_0 rfl ?_
  refine z_swIn hZ (pc := 1) (off := 65) (tgt := 66) dX5_joins_1 (by decide) (by decide) (by decide) rfl ?_
  refine z_aload_n hZ (pc := 66) dX5_joins_66 rfl ?_
  refine gC_1_3 hZ (pc := 67) fl_X5_29 dX5_joins_67 ?_
  refine z_bipush hZ (pc := 70) (v := (-11)) dX5_joins_70 (by decide) ?_
  refine z_icmp_eq hZ (pc := 72) (tgt := 84) dX5_joins_72 rfl (fun c72 => ?_) (fun c72 => ?_)
  · skip
    refine z_iconst hZ (pc := 84) (v := 1) dX5_joins_84 (by decide) ?_
    refine z_goto hZ (pc := 85) (tgt := 89) dX5_joins_85 rfl ?_
    refine zr_i hZ (pc := 89) dX5_joins_89 FitR.b1 ?_
    exact ⟨rfl, rfl, by rw [jnK2, decide_eq_true c72]; rfl⟩
  · skip
    refine z_aload_n hZ (pc := 75) dX5_joins_75 rfl ?_
    refine gC_1_3 hZ (pc := 76) fl_X5_29 dX5_joins_76 ?_
    refine z_bipush hZ (pc := 79) (v := (-12)) dX5_joins_79 (by decide) ?_
    refine z_icmp_ne hZ (pc := 81) (tgt := 88) dX5_joins_81 rfl (fun c81 => ?_) (fun c81 => ?_)
    · skip
      refine z_iconst hZ (pc := 88) (v := 0) dX5_joins_88 (by decide) ?_
      refine zr_i hZ (pc := 89) dX5_joins_89 FitR.b0 ?_
      exact ⟨rfl, rfl, by rw [jnK2, decide_eq_false c72, decide_eq_false c81]; rfl⟩
    · skip
      refine z_iconst hZ (pc := 84) (v := 1) dX5_joins_84 (by decide) ?_
      refine z_goto hZ (pc := 85) (tgt := 89) dX5_joins_85 rfl ?_
      refine zr_i hZ (pc := 89) dX5_joins_89 FitR.b1 ?_
      exact ⟨rfl, rfl, by rw [jnK2, decide_eq_true c81, Bool.or_true]; rfl⟩
theorem c_X5_joins_3 {l : Launch} {D : va_G} {cA : Nat → ClassId} {o a : Nat → Nat} {v : ZV} {g : ZG}   : MG l D cA (WC o a cA) yX5_joins cX5_joins 2 (some .boolean) 0 [(.ref (o 1)), .int 3] v g (PF v g (some (.int (bI (jnK 3 (v 3)))))) := by
  refine MG.of (by decide) rfl (Nat.le_of_ble_eq_true rfl) (by simp [Value.category]) (fun Z hZ => ?_)
  refine z_iload_n hZ (pc := 0) dX5_joins_0 rfl ?_
  refine z_swIn hZ (pc := 1) (off := 89) (tgt := 90) dX5_joins_1 (by decide) (by decide) (by decide) rfl ?_
  refine z_aload_n hZ (pc := 90) dX5_joins_90 rfl ?_
  refine gC_1_3 hZ (pc := 91) fl_X5_29 dX5_joins_91 ?_
  refine z_bipush hZ (pc := 94) (v := (-13)) dX5_joins_94 (by decide) ?_
  refine z_icmp_eq hZ (pc := 96) (tgt := 108) dX5_joins_96 rfl (fun c96 => ?_) (fun c96 => ?_)
  · skip
    refine z_iconst hZ (pc := 108) (v := 1) dX5_joins_108 (by decide) ?_
    refine z_goto hZ (pc := 109) (tgt := 113) dX5_joins_109 rfl ?_
    refine zr_i hZ (pc := 113) dX5_joins_113 FitR.b1 ?_
    exact ⟨rfl, rfl, by rw [jnK3, decide_eq_true c96]; rfl⟩
  · skip
    refine z_aload_n hZ (pc := 99) dX5_joins_99 rfl ?_
    refine gC_1_3 hZ (pc := 100) fl_X5_29 dX5_joins_100 ?_
    refine z_bipush hZ (pc := 103) (v := (-14)) dX5_joins_103 (by decide) ?_
    refine z_icmp_ne hZ (pc := 105) (tgt := 112) dX5_joins_105 rfl (fun c105 => ?_) (fun c105 => ?_)
    · skip
      refine z_iconst hZ (pc := 112) (v := 0) dX5_joins_112 (by decide) ?_
      refine zr_i hZ (pc := 113) dX5_joins_113 FitR.b0 ?_
      exact ⟨rfl, rfl, by rw [jnK3, decide_eq_false c96, decide_eq_false c105]; rfl⟩
    · skip
      refine z_iconst hZ (pc := 108) (v := 1) dX5_joins_108 (by decide) ?_
      refine z_goto hZ (pc := 109) (tgt := 113) dX5_joins_109 rfl ?_
      refine zr_i hZ (pc := 113) dX5_joins_113 FitR.b1 ?_
      exact ⟨rfl, rfl, by rw [jnK3, decide_eq_true c105, Bool.or_true]; rfl⟩
theorem c_X5_joins_4 {l : Launch} {D : va_G} {cA : Nat → ClassId} {o a : Nat → Nat} {v : ZV} {g : ZG}   : MG l D cA (WC o a cA) yX5_joins cX5_joins 2 (some .boolean) 0 [(.ref (o 1)), .int 4] v g (PF v g (some (.int (bI (jnK 4 (v 3)))))) := by
  refine MG.of (by decide) rfl (Nat.le_of_ble_eq_true rfl) (by simp [Value.category]) (fun Z hZ => ?_)
  refine z_iload_n hZ (pc := 0) dX5_joins_0 rfl ?_
  refine z_swIn hZ (pc := 1) (off := 113) (tgt := 114) dX5_joins_1 (by decide) (by decide) (by decide) rfl ?_
  refine z_aload_n hZ (pc := 114) dX5_joins_114 rfl ?_
  refine gC_1_3 hZ (pc := 115) fl_X5_29 dX5_joins_115 ?_
  refine z_bipush hZ (pc := 118) (v := (-15)) dX5_joins_118 (by decide) ?_
  refine z_icmp_eq hZ (pc := 120) (tgt := 132) dX5_joins_120 rfl (fun c120 => ?_) (fun c120 => ?_)
  · skip
    refine z_iconst hZ (pc := 132) (v := 1) dX5_joins_132 (by decide) ?_
    refine z_goto hZ (pc := 133) (tgt := 137) dX5_joins_133 rfl ?_
    refine zr_i hZ (pc := 137) dX5_joins_137 FitR.b1 ?_
    exact ⟨rfl, rfl, by rw [jnK4, decide_eq_true c120]; rfl⟩
  · skip
    refine z_aload_n hZ (pc := 123) dX5_joins_123 rfl ?_
    refine gC_1_3 hZ (pc := 124) fl_X5_29 dX5_joins_124 ?_
    refine z_bipush hZ (pc := 127) (v := (-16)) dX5_joins_127 (by decide) ?_
    refine z_icmp_ne hZ (pc := 129) (tgt := 136) dX5_joins_129 rfl (fun c129 => ?_) (fun c129 => ?_)
    · skip
      refine z_iconst hZ (pc := 136) (v := 0) dX5_joins_136 (by decide) ?_
      refine zr_i hZ (pc := 137) dX5_joins_137 FitR.b0 ?_
      exact ⟨rfl, rfl, by rw [jnK4, decide_eq_false c120, decide_eq_false c129]; rfl⟩
    · skip
      refine z_iconst hZ (pc := 132) (v := 1) dX5_joins_132 (by decide) ?_
      refine z_goto hZ (pc := 133) (tgt := 137) dX5_joins_133 rfl ?_
      refine zr_i hZ (pc := 137) dX5_joins_137 FitR.b1 ?_
      exact ⟨rfl, rfl, by rw [jnK4, decide_eq_true c129, Bool.or_true]; rfl⟩
theorem c_X5_joins {l : Launch} {D : va_G} {cA : Nat → ClassId} {o a : Nat → Nat} {v : ZV} {g : ZG} {lv : Nat} (h : lv < 5) : MG l D cA (WC o a cA) yX5_joins cX5_joins 2 (some .boolean) 0 [.ref (o 1), .int (nI lv)] v g (PF v g (some (.int (bI (jnK lv (v 3)))))) := by
  have h5 : lv = 0 ∨ lv = 1 ∨ lv = 2 ∨ lv = 3 ∨ lv = 4 := by omega
  rcases h5 with rfl | rfl | rfl | rfl | rfl
  · exact c_X5_joins_0
  · exact c_X5_joins_1
  · exact c_X5_joins_2
  · exact c_X5_joins_3
  · exact c_X5_joins_4
