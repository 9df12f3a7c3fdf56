/-! the two kinds of throws of the class -/
def excN : List String := ["java/lang/RuntimeException", "java/lang/Exception"]
abbrev sNSE : String := "java/util/NoSuchElementException"
abbrev sIAE : String := "java/lang/IllegalArgumentException"
theorem nse_at : ∀ w ∈ thrA RX10 205 sNSE 13 prog_30_method_4_code excN, w ∈ lw_tbl := by decide +kernel
theorem nse_at2 : ∀ w ∈ thrA RX10 205 sNSE 13 prog_30_method_4_code excN, (goodWord w || (isNestW w || isDC w)) = true := by decide +kernel
theorem nse_ot : ∀ w ∈ Cond.classLink RX10 201 sNSE :: Cond.initialized sNSE :: thrA RX10 205 sNSE 13 prog_30_method_4_code excN, vx_ot w = true := by decide +kernel
theorem iae_at : ∀ w ∈ thrA RX10 104 sIAE 7 prog_18_method_2_code excN, w ∈ lw_tbl := by decide +kernel
theorem iae_at2 : ∀ w ∈ thrA RX10 104 sIAE 7 prog_18_method_2_code excN, (goodWord w || (isNestW w || isDC w)) = true := by decide +kernel
theorem iae_ot : ∀ w ∈ Cond.classLink RX10 100 sIAE :: Cond.initialized sIAE :: thrA RX10 104 sIAE 7 prog_18_method_2_code excN, vx_ot w = true := by decide +kernel
theorem exc_cl : Cond.classLink RX10 201 sNSE ∈ lw_tbl ∧ Cond.initialized sNSE ∈ lw_tbl ∧ Cond.classLink RX10 100 sIAE ∈ lw_tbl ∧ Cond.initialized sIAE ∈ lw_tbl := ⟨List.mem_of_getElem? (i := 807) (by decide +kernel), List.mem_of_getElem? (i := 137) (by decide +kernel), List.mem_of_getElem? (i := 517) (by decide +kernel), List.mem_of_getElem? (i := 130) (by decide +kernel)⟩
theorem excN_fit : ∀ n ∈ excN, Bundle.fit n = true := by decide +kernel
section ZThr2
variable {l : Launch} {D : va_G} {cA : Nat → ClassId} {cc : ByteArray} {nl k mc ms : Nat} {E : Nat → Nat → va_W → Option Value → Prop} {XPost : String → va_W → Prop} {Z : ZT}
variable {u w pc : Nat} {ws : va_W} {L : List (Option Value)} {st : List Value}
theorem z_nse (hX : ZX l D cA RX10 cc nl k mc ms E XPost Z) {n is : Nat} {text : String} (htx : (RX10, is, text) ∈ txts)
    (d0 : decode cc pc = .ok (.new 201, 3)) (d3 : decode cc (pc + 3) = .ok (.dup, 1)) (d4 : (n = 2 ∧ decode cc (pc + 4) = .ok (.ldc is, 2)) ∨ (n = 3 ∧ decode cc (pc + 4) = .ok (.ldc_w is, 3))) (d6 : decode cc (pc + 4 + n) = .ok (.invokespecial 205, 3)) (d9 : decode cc (pc + 4 + n + 3) = .ok (.athrow, 1))
    (hk1 : 5 < k) (h8 : (st.map fun v => v.category).sum ≤ 8) (hmc : u + 1 ≤ mc) (hms : w + 6 ≤ ms) (hXP : XPost sNSE ws) : Z u w ws L st pc :=
  z_thr hX (ix := 13) (rx := prog_30_method_4_code) (names := excN) (by decide +kernel) (by decide +kernel) (by decide +kernel) (by decide +kernel) (by decide +kernel) excN_fit exc_cl.1 exc_cl.2.1 htx nse_at nse_at2 nse_ot d0 d3 d4 d6 d9 hk1 (by simp only [excN, List.length_cons, List.length_nil]; omega) hmc hms hXP
theorem z_iae (hX : ZX l D cA RX10 cc nl k mc ms E XPost Z) {n is : Nat} {text : String} (htx : (RX10, is, text) ∈ txts)
    (d0 : decode cc pc = .ok (.new 100, 3)) (d3 : decode cc (pc + 3) = .ok (.dup, 1)) (d4 : (n = 2 ∧ decode cc (pc + 4) = .ok (.ldc is, 2)) ∨ (n = 3 ∧ decode cc (pc + 4) = .ok (.ldc_w is, 3))) (d6 : decode cc (pc + 4 + n) = .ok (.invokespecial 104, 3)) (d9 : decode cc (pc + 4 + n + 3) = .ok (.athrow, 1))
    (hk1 : 5 < k) (h8 : (st.map fun v => v.category).sum ≤ 8) (hmc : u + 1 ≤ mc) (hms : w + 6 ≤ ms) (hXP : XPost sIAE ws) : Z u w ws L st pc :=
  z_thr hX (ix := 7) (rx := prog_18_method_2_code) (names := excN) (by decide +kernel) (by decide +kernel) (by decide +kernel) (by decide +kernel) (by decide +kernel) excN_fit exc_cl.2.2.1 exc_cl.2.2.2 htx iae_at iae_at2 iae_ot d0 d3 d4 d6 d9 hk1 (by simp only [excN, List.length_cons, List.length_nil]; omega) hmc hms hXP
end ZThr2
