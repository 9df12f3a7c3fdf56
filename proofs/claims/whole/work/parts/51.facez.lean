/-! contracts of the face: they return, or they throw and leave all as it was -/
def MF (l : Launch) (D : va_G) (cA : Nat → ClassId) (o a : Nat → Nat) (y : MethodName) (b : ByteArray) (nl : Nat) (ret : Option FieldType) (k mc ms : Nat) (args : List Value) (v : ZV) (g : ZG) (P : ZV → ZG → Option Value → Prop) (XP : String → Prop) : Prop :=
  MX l D cA y b nl ret k mc ms args (WC o a cA v g) (fun ws r => ∃ v' g', ws = WC o a cA v' g' ∧ P v' g' r) (fun En ws => ws = WC o a cA v g ∧ XP En)
theorem MF.of {l : Launch} {D : va_G} {cA : Nat → ClassId} {o a : Nat → Nat} {y : MethodName} {b : ByteArray} {nl k mc ms : Nat} {ret : Option FieldType} {args : List Value} {v : ZV} {g : ZG} {P : ZV → ZG → Option Value → Prop} {XP : String → Prop} {L0 : List (Option Value)} (hy : plainName y.cls = true) (hL : args.map some ++ List.replicate (nl - args.length) none = L0) (hnl : args.length ≤ nl) (hcat : ∀ v ∈ args, v.category = 1)
    (body : ∀ Z, ZX l D cA y.cls b nl k mc ms (EG (WC o a cA) ret P mc ms) (fun En ws => ws = WC o a cA v g ∧ XP En) Z → Z 0 0 (WC o a cA v g) L0 [] 0) : MF l D cA o a y b nl ret k mc ms args v g P XP := MX.of hy hL hnl hcat body
section ZF
variable {l : Launch} {D : va_G} {cA : Nat → ClassId} {own : String} {cc : ByteArray} {nl k mc ms : Nat} {Z : ZT} {X : Nat → Nat → va_W → String → Prop}
variable {u w pc : Nat} {L : List (Option Value)} {st st0 : List Value} {Wf : ZV → ZG → va_W} {v v0 V : ZV} {g g0 G : ZG} {ret : Option FieldType} {P P0 : ZV → ZG → Option Value → Prop} {XP XP0 : String → Prop} {o a : Nat → Nat}
theorem zx_i (hZ : ZR l D cA own cc nl k mc ms (EG Wf ret P mc ms) X Z) {x : Int32} (hu : u ≤ mc) (hw : w ≤ ms) (d : decode cc pc = .ok (.ireturn, 1)) (hF : FitR ret (some (.int x))) (hP : P v g (some (.int x))) : Z u w (Wf v g) L [.int x] pc :=
  z_ireturn hZ d ⟨hu, hw, hF, ⟨fun h => (by cases h), fun h => (by obtain ⟨ty, h1, -⟩ := hF x rfl; rw [h] at h1; cases h1)⟩, v, g, rfl, hP⟩
theorem zx_v (hZ : ZR l D cA own cc nl k mc ms (EG Wf none P mc ms) X Z) (hu : u ≤ mc) (hw : w ≤ ms) (d : decode cc pc = .ok (.return_, 1)) (hP : P v g none) : Z u w (Wf v g) L [] pc :=
  z_return hZ d ⟨hu, hw, FitR.none, ⟨fun _ => rfl, fun _ => rfl⟩, v, g, rfl, hP⟩
variable {idx q nl' k' n mc' ms' : Nat} {y : MethodName} {b : ByteArray} {As : List Value} {E : Nat → Nat → va_W → Option Value → Prop} {ret' : Option FieldType}
theorem cVX (hX : ZX l D cA own cc nl k mc ms E (fun En ws => ws = WC o a cA v g ∧ XP0 En) Z) (d : decode cc pc = .ok (.invokevirtual idx, 3)) (hl : Cond.methodLink own idx y ∈ lw_tbl) (hm : MIn y b nl' ret' n) (hv : MIv y) (hM : MF l D cA o a y b nl' ret' k' mc' ms' (.ref q :: As) v g P XP) (hr : Rcv (WC o a cA v g) q y.cls) (hn : As.length = n) (hst : st0 = As.reverse ++ .ref q :: st) (h8 : (st.map fun v => v.category).sum ≤ 8) (hk : k' + 1 ≤ k) (hnl : nl' ≤ 21) (hmc : u + mc' ≤ mc) (hms : w + ms' ≤ ms)
    (kx : ∀ En, XP En → XP0 En) (kk : ∀ (v' : ZV) (g' : ZG) (r : Option Value), P v' g' r → Z (u + mc') (w + ms') (WC o a cA v' g') L (r.toList ++ st) (pc + 3)) : Z u w (WC o a cA v g) L st0 pc :=
  z_callVX hX d hl hm hv hM hr hn hst h8 hk hnl hmc hms (fun En ws' h => ⟨h.1, kx En h.2⟩) (fun r ws' h => by
    obtain ⟨v', g', rfl, hp⟩ := h
    exact kk v' g' r hp)
theorem cSX (hX : ZX l D cA own cc nl k mc ms E (fun En ws => ws = WC o a cA v g ∧ XP0 En) Z) (d : decode cc pc = .ok (.invokestatic idx, 3)) (hl : Cond.methodLink own idx y ∈ lw_tbl) (hm : MIn y b nl' ret' n) (hv : MIs y) (hM : MF l D cA o a y b nl' ret' k' mc' ms' As v g P XP) (hn : As.length = n) (hst : st0 = As.reverse ++ st) (h8 : (st.map fun v => v.category).sum ≤ 8) (hk : k' + 1 ≤ k) (hnl : nl' ≤ 21) (hmc : u + mc' ≤ mc) (hms : w + ms' ≤ ms)
    (kx : ∀ En, XP En → XP0 En) (kk : ∀ (v' : ZV) (g' : ZG) (r : Option Value), P v' g' r → Z (u + mc') (w + ms') (WC o a cA v' g') L (r.toList ++ st) (pc + 3)) : Z u w (WC o a cA v g) L st0 pc :=
  z_callSX hX d hl hm hv hM hn hst h8 hk hnl hmc hms (fun En ws' h => ⟨h.1, kx En h.2⟩) (fun r ws' h => by
    obtain ⟨v', g', rfl, hp⟩ := h
    exact kk v' g' r hp)
end ZF
theorem inI_lt {x : Int32} {n : Nat} (hn : n < 2 ^ 31) (h1 : ¬ x < 0) (h2 : x < nI n) : inI x n = true := inI_in hn h1 (Int32.not_le.mpr h2)
theorem inI_ge {x : Int32} {n : Nat} (hn : n < 2 ^ 31) (h2 : ¬ x < nI n) : inI x n = false := inI_big hn (Int32.not_lt.mp h2)
