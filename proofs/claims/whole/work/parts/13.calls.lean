/-! Contracts over a world that is a function of numbers v and rows g; calls of them. -/
def EG (Wf : ZV → ZG → va_W) (ret : Option FieldType) (P : ZV → ZG → Option Value → Prop) (mc ms : Nat) : Nat → Nat → va_W → Option Value → Prop := fun u w ws r => u ≤ mc ∧ w ≤ ms ∧ FitR ret r ∧ (r = none ↔ ret = none) ∧ ∃ v' g', ws = Wf v' g' ∧ P v' g' r
def NoX : Nat → Nat → va_W → String → Prop := fun _ _ _ _ => False
def MG (l : Launch) (D : va_G) (cA : Nat → ClassId) (Wf : ZV → ZG → va_W) (y : MethodName) (b : ByteArray) (nl : Nat) (ret : Option FieldType) (k : Nat) (args : List Value) (v : ZV) (g : ZG) (P : ZV → ZG → Option Value → Prop) : Prop :=
  MT l D cA y b nl ret k 0 0 args (Wf v g) (fun ws r => ∃ v' g', ws = Wf v' g' ∧ P v' g' r)
abbrev PF (V : ZV) (G : ZG) (R : Option Value) : ZV → ZG → Option Value → Prop := fun v' g' r => v' = V ∧ g' = G ∧ r = R
theorem MG.of {l : Launch} {D : va_G} {cA : Nat → ClassId} {Wf : ZV → ZG → va_W} {y : MethodName} {b : ByteArray} {nl k : Nat} {ret : Option FieldType} {args : List Value} {v : ZV} {g : ZG} {P : ZV → ZG → Option Value → Prop} {L0 : List (Option Value)} (hy : plainName y.cls = true) (hL : args.map some ++ List.replicate (nl - args.length) none = L0) (hnl : args.length ≤ nl) (hcat : ∀ v ∈ args, v.category = 1)
    (body : ∀ Z, ZR l D cA y.cls b nl k 0 0 (EG Wf ret P 0 0) NoX Z → Z 0 0 (Wf v g) L0 [] 0) : MG l D cA Wf y b nl ret k args v g P := MT.of hy hL hnl hcat body
theorem FitR.b0 : FitR (some .boolean) (some (.int 0)) := fun _ h => by cases h; exact ⟨.boolean, rfl, by decide⟩
theorem FitR.b1 : FitR (some .boolean) (some (.int 1)) := fun _ h => by cases h; exact ⟨.boolean, rfl, by decide⟩
theorem FitR.b01 {x : Int32} (h : x = 0 ∨ x = 1) : FitR (some .boolean) (some (.int x)) := by
  rcases h with rfl | rfl
  · exact FitR.b0
  · exact FitR.b1
/-- a whole number for a truth -/
def bI (b : Bool) : Int32 := if b then 1 else 0
theorem FitR.bI {b : Bool} : FitR (some .boolean) (some (.int (bI b))) := by
  cases b
  · exact FitR.b0
  · exact FitR.b1
theorem bI_t : bI true = 1 := rfl
theorem bI_f : bI false = 0 := rfl
theorem bI_eq {b : Bool} : bI b = 0 ↔ b = false := by cases b <;> decide
section ZCalls
variable {l : Launch} {D : va_G} {cA : Nat → ClassId} {own : String} {cc : ByteArray} {nl k mc ms : Nat} {E : Nat → Nat → va_W → Option Value → Prop} {X : Nat → Nat → va_W → String → Prop} {Z : ZT}
variable {u w pc : Nat} {L : List (Option Value)} {st st0 : List Value} {Wf : ZV → ZG → va_W} {v V : ZV} {g G : ZG} {ret : Option FieldType} {P : ZV → ZG → Option Value → Prop}
theorem zr_i (hZ : ZR l D cA own cc nl k 0 0 (EG Wf ret P 0 0) X Z) {x : Int32} (d : decode cc pc = .ok (.ireturn, 1)) (hF : FitR ret (some (.int x))) (hP : P v g (some (.int x))) : Z 0 0 (Wf v g) L [.int x] pc :=
  z_ireturn hZ d ⟨Nat.le_refl _, Nat.le_refl _, hF, ⟨fun h => (by cases h), fun h => (by obtain ⟨ty, h1, -⟩ := hF x rfl; rw [h] at h1; cases h1)⟩, v, g, rfl, hP⟩
theorem zr_v (hZ : ZR l D cA own cc nl k 0 0 (EG Wf none P 0 0) X Z) (d : decode cc pc = .ok (.return_, 1)) (hP : P v g none) : Z 0 0 (Wf v g) L [] pc :=
  z_return hZ d ⟨Nat.le_refl _, Nat.le_refl _, FitR.none, ⟨fun _ => rfl, fun _ => rfl⟩, v, g, rfl, hP⟩
variable {idx a nl' k' n : Nat} {y : MethodName} {b : ByteArray} {As : List Value}
theorem cV (hZ : ZR l D cA own cc nl k mc ms E X Z) (d : decode cc pc = .ok (.invokevirtual idx, 3)) (hl : LK own idx y) (hm : MIn y b nl' ret n) (hv : MIv y) (hM : MG l D cA Wf y b nl' ret k' (.ref a :: As) v g P) (hr : Rcv (Wf v g) a y.cls) (hn : As.length = n) (hst : st0 = As.reverse ++ .ref a :: st) (h8 : (st.map fun v => v.category).sum ≤ 8) (hk : k' + 1 ≤ k) (hnl : nl' ≤ 21) (hmc : u ≤ mc) (hms : w ≤ ms)
    (kk : ∀ (v' : ZV) (g' : ZG) (r : Option Value), P v' g' r → Z u w (Wf v' g') L (r.toList ++ st) (pc + 3)) : Z u w (Wf v g) L st0 pc := by
  have h := z_callV (w1 := []) (w2 := []) (wc := Wf v g) (u := u) (w := w) (L := L) hZ d hl hm hv hM hr hn hst h8 hk hnl hmc hms (fun r ws' h => by
    obtain ⟨v', g', rfl, hp⟩ := h
    rw [List.nil_append, List.append_nil]
    exact kk v' g' r hp)
  rwa [List.nil_append, List.append_nil] at h
theorem cS (hZ : ZR l D cA own cc nl k mc ms E X Z) (d : decode cc pc = .ok (.invokestatic idx, 3)) (hl : LK own idx y) (hm : MIn y b nl' ret n) (hv : MIs y) (hM : MG l D cA Wf y b nl' ret k' As v g P) (hn : As.length = n) (hst : st0 = As.reverse ++ st) (h8 : (st.map fun v => v.category).sum ≤ 8) (hk : k' + 1 ≤ k) (hnl : nl' ≤ 21) (hmc : u ≤ mc) (hms : w ≤ ms)
    (kk : ∀ (v' : ZV) (g' : ZG) (r : Option Value), P v' g' r → Z u w (Wf v' g') L (r.toList ++ st) (pc + 3)) : Z u w (Wf v g) L st0 pc := by
  have h := z_callS (w1 := []) (w2 := []) (wc := Wf v g) (u := u) (w := w) (L := L) hZ d hl hm hv hM hn hst h8 hk hnl hmc hms (fun r ws' h => by
    obtain ⟨v', g', rfl, hp⟩ := h
    rw [List.nil_append, List.append_nil]
    exact kk v' g' r hp)
  rwa [List.nil_append, List.append_nil] at h
theorem cV_i {x : Int32} (hZ : ZR l D cA own cc nl k mc ms E X Z) (d : decode cc pc = .ok (.invokevirtual idx, 3)) (hl : LK own idx y) (hm : MIn y b nl' ret n) (hv : MIv y) (hM : MG l D cA Wf y b nl' ret k' (.ref a :: As) v g (PF V G (some (.int x)))) (hr : Rcv (Wf v g) a y.cls) (hn : As.length = n) (hst : st0 = As.reverse ++ .ref a :: st) (h8 : (st.map fun v => v.category).sum ≤ 8) (hk : k' + 1 ≤ k) (hnl : nl' ≤ 21) (hmc : u ≤ mc) (hms : w ≤ ms)
    (kk : Z u w (Wf V G) L (.int x :: st) (pc + 3)) : Z u w (Wf v g) L st0 pc := cV hZ d hl hm hv hM hr hn hst h8 hk hnl hmc hms (fun v' g' r h => by obtain ⟨rfl, rfl, rfl⟩ := h; exact kk)
theorem cV_v (hZ : ZR l D cA own cc nl k mc ms E X Z) (d : decode cc pc = .ok (.invokevirtual idx, 3)) (hl : LK own idx y) (hm : MIn y b nl' ret n) (hv : MIv y) (hM : MG l D cA Wf y b nl' ret k' (.ref a :: As) v g (PF V G none)) (hr : Rcv (Wf v g) a y.cls) (hn : As.length = n) (hst : st0 = As.reverse ++ .ref a :: st) (h8 : (st.map fun v => v.category).sum ≤ 8) (hk : k' + 1 ≤ k) (hnl : nl' ≤ 21) (hmc : u ≤ mc) (hms : w ≤ ms)
    (kk : Z u w (Wf V G) L st (pc + 3)) : Z u w (Wf v g) L st0 pc := cV hZ d hl hm hv hM hr hn hst h8 hk hnl hmc hms (fun v' g' r h => by obtain ⟨rfl, rfl, rfl⟩ := h; exact kk)
theorem cS_i {x : Int32} (hZ : ZR l D cA own cc nl k mc ms E X Z) (d : decode cc pc = .ok (.invokestatic idx, 3)) (hl : LK own idx y) (hm : MIn y b nl' ret n) (hv : MIs y) (hM : MG l D cA Wf y b nl' ret k' As v g (PF V G (some (.int x)))) (hn : As.length = n) (hst : st0 = As.reverse ++ st) (h8 : (st.map fun v => v.category).sum ≤ 8) (hk : k' + 1 ≤ k) (hnl : nl' ≤ 21) (hmc : u ≤ mc) (hms : w ≤ ms)
    (kk : Z u w (Wf V G) L (.int x :: st) (pc + 3)) : Z u w (Wf v g) L st0 pc := cS hZ d hl hm hv hM hn hst h8 hk hnl hmc hms (fun v' g' r h => by obtain ⟨rfl, rfl, rfl⟩ := h; exact kk)
theorem cS_v (hZ : ZR l D cA own cc nl k mc ms E X Z) (d : decode cc pc = .ok (.invokestatic idx, 3)) (hl : LK own idx y) (hm : MIn y b nl' ret n) (hv : MIs y) (hM : MG l D cA Wf y b nl' ret k' As v g (PF V G none)) (hn : As.length = n) (hst : st0 = As.reverse ++ st) (h8 : (st.map fun v => v.category).sum ≤ 8) (hk : k' + 1 ≤ k) (hnl : nl' ≤ 21) (hmc : u ≤ mc) (hms : w ≤ ms)
    (kk : Z u w (Wf V G) L st (pc + 3)) : Z u w (Wf v g) L st0 pc := cS hZ d hl hm hv hM hn hst h8 hk hnl hmc hms (fun v' g' r h => by obtain ⟨rfl, rfl, rfl⟩ := h; exact kk)
end ZCalls
