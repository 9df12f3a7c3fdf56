/-! Z: fields, arrays, calls, ends. -/
/-- an object of a class lies in the world -/
def Rcv (ws : va_W) (a : Nat) (C : String) : Prop := ∃ (q0 ci N : Nat) (T : u_T) (fs : List Value), ws[q0]? = some (a, .inr (ci, fs)) ∧ vwCl[ci]? = some (C, T, N)
def FitR (ret : Option FieldType) (r : Option Value) : Prop := ∀ x : Int32, r = some (.int x) → ∃ ty, ret = some ty ∧ narrow ty (.int x) = .int x
theorem FitR.int {x : Int32} : FitR (some .int) (some (.int x)) := fun _ h => by cases h; exact ⟨.int, rfl, rfl⟩
theorem FitR.bool {b : Bool} : FitR (some .boolean) (some (.int (if b then 1 else 0))) := fun _ h => by cases h; exact ⟨.boolean, rfl, by cases b <;> decide⟩
theorem FitR.none {ret : Option FieldType} : FitR ret none := fun _ h => by cases h
/-- a contract's end -/
def QM (D : va_G) (wc : va_W) (Post : va_W → Option Value → Prop) (sz : Nat) : Array Value → State → Outcome → State → Prop := fun _ st oc t => (∃ (r : Option Value) (ws' : va_W), oc = .returned r ∧ Post ws' r ∧ va_P D vwCl ws' t.heap ∧ va_D (va_A wc sz) ws') ∧ va_F (va_A wc sz) st t
/-- a contract: from the world wc to a world and an answer -/
def MT (l : Launch) (D : va_G) (cA : Nat → ClassId) (y : MethodName) (b : ByteArray) (nl : Nat) (ret : Option FieldType) (k mc ms : Nat) (args : List Value) (wc : va_W) (Post : va_W → Option Value → Prop) : Prop :=
  ∀ sz : Nat, Met l y [.code y b nl ret] (RM k mc ms) (va_Pc args (fun U => U.heap.size = sz ∧ va_P D vwCl wc U.heap ∧ va_D (fun _ => True) wc ∧ EV U ∧ va_K D vwCl (tyK cA) U)) (QM D wc Post sz) mc ms (va_A wc sz)
theorem MT.blind {D : va_G} {cA : Nat → ClassId} {args : List Value} {wc : va_W} {sz : Nat} : FrameBlind (va_Pc args (fun U => U.heap.size = sz ∧ va_P D vwCl wc U.heap ∧ va_D (fun _ => True) wc ∧ EV U ∧ va_K D vwCl (tyK cA) U)) := fun a U g mk h => by
  obtain ⟨h0, h1, h2, h3, h4, h5⟩ := h
  exact ⟨h0, h1, h2, h3, EV.same (u := U) (U := U.calling g mk a) rfl h4, va_K.moved (u := U) (U := U.calling g mk a) (Vm.Alike.refl U.vm) h5⟩
theorem z_frame {A : Nat → Prop} {D : va_G} {w1 wc w2 wc' : va_W} {H H1 : Heap} (hP : va_P D vwCl (w1 ++ (wc ++ w2)) H) (hD : va_D A (w1 ++ (wc ++ w2))) (hA : ∀ q, H.size ≤ q → A q)
    (hz : H.size ≤ H1.size) (hk : ∀ q : Nat, q < H.size → ¬ va_A wc H.size q → H1[q]? = H[q]?) (hP1 : va_P D vwCl wc' H1) (hD1 : va_D (va_A wc H.size) wc') : va_P D vwCl (w1 ++ (wc' ++ w2)) H1 ∧ va_D A (w1 ++ (wc' ++ w2)) := by
  have hlt : ∀ (q : Nat × va_E), q ∈ w1 ++ (wc ++ w2) → q.1 < H.size := fun q hq => by
    obtain ⟨i, hi⟩ := List.getElem?_of_mem hq
    exact (hP i q hi).lt
  have hPm : ∀ (q : Nat × va_E), q ∈ w1 ++ (wc ++ w2) → va_at D vwCl q H := fun q hq => by
    obtain ⟨i, hi⟩ := List.getElem?_of_mem hq
    exact hP i q hi
  have hAm : ∀ (q : Nat × va_E), q ∈ w1 ++ (wc ++ w2) → A q.1 := fun q hq => by
    obtain ⟨i, hi⟩ := List.getElem?_of_mem hq
    exact hD.2 i q hi
  have e0 : ∀ j, (w1 ++ (wc ++ w2))[w1.length + j]? = (wc ++ w2)[j]? := fun j => by
    rw [List.getElem?_append_right (by omega)]; congr 1; omega
  -- a cell of w1 isn't in wc's reach
  have out1 : ∀ (i : Nat) (q : Nat × va_E), w1[i]? = some q → ¬ va_A wc H.size q.1 := fun i q hi hq => by
    have hi2 : (w1 ++ (wc ++ w2))[i]? = some q := by rw [List.getElem?_append_left (List.getElem?_eq_some_iff.mp hi).1]; exact hi
    rcases hq with ⟨j, e, hj⟩ | hq
    · have hj2 : (w1 ++ (wc ++ w2))[w1.length + j]? = some (q.1, e) := by
        rw [e0, List.getElem?_append_left (List.getElem?_eq_some_iff.mp hj).1]; exact hj
      have := hD.1 i (w1.length + j) q (q.1, e) hi2 hj2 rfl
      have h3 := (List.getElem?_eq_some_iff.mp hi).1
      omega
    · have := hlt q (List.mem_of_getElem? hi2)
      omega
  have out2 : ∀ (i : Nat) (q : Nat × va_E), w2[i]? = some q → ¬ va_A wc H.size q.1 := fun i q hi hq => by
    have hi2 : (w1 ++ (wc ++ w2))[w1.length + (wc.length + i)]? = some q := by
      rw [e0, List.getElem?_append_right (by omega)]; rw [show wc.length + i - wc.length = i by omega]; exact hi
    rcases hq with ⟨j, e, hj⟩ | hq
    · have hj2 : (w1 ++ (wc ++ w2))[w1.length + j]? = some (q.1, e) := by
        rw [e0, List.getElem?_append_left (List.getElem?_eq_some_iff.mp hj).1]; exact hj
      have := hD.1 _ (w1.length + j) q (q.1, e) hi2 hj2 rfl
      have h3 := (List.getElem?_eq_some_iff.mp hj).1
      omega
    · have := hlt q (List.mem_of_getElem? hi2)
      omega
  have hM1 : ∀ q ∈ w1, q ∈ w1 ++ (wc ++ w2) := fun q h => List.mem_append_left _ h
  have hM2 : ∀ q ∈ w2, q ∈ w1 ++ (wc ++ w2) := fun q h => List.mem_append_right _ (List.mem_append_right _ h)
  have hc' : ∀ q ∈ wc', va_A wc H.size q.1 := fun q hq => by
    obtain ⟨i, hi⟩ := List.getElem?_of_mem hq
    exact hD1.2 i q hi
  have hcA : ∀ q, va_A wc H.size q → A q := fun q hq => by
    rcases hq with ⟨j, e, hj⟩ | hq
    · have h9 := hAm (q, e) (List.mem_append_right _ (List.mem_append_left _ (List.mem_of_getElem? hj)))
      exact h9
    · exact hA q hq
  have key : ∀ (i : Nat) (q : Nat × va_E), (w1 ++ (wc' ++ w2))[i]? = some q → (w1[i]? = some q ∧ i < w1.length) ∨ (wc'[i - w1.length]? = some q ∧ w1.length ≤ i ∧ i < w1.length + wc'.length) ∨ (w2[i - w1.length - wc'.length]? = some q ∧ w1.length + wc'.length ≤ i) := fun i q h => by
    rcases Nat.lt_or_ge i w1.length with g | g
    · rw [List.getElem?_append_left g] at h; exact Or.inl ⟨h, g⟩
    · rw [List.getElem?_append_right g] at h
      rcases Nat.lt_or_ge (i - w1.length) wc'.length with g2 | g2
      · rw [List.getElem?_append_left g2] at h; exact Or.inr (Or.inl ⟨h, g, by omega⟩)
      · rw [List.getElem?_append_right g2] at h; exact Or.inr (Or.inr ⟨h, by omega⟩)
  refine ⟨fun i q h => ?_, fun i j x y hx hy hxy => ?_, fun i q h => ?_⟩
  · rcases key i q h with ⟨g, -⟩ | ⟨g, -⟩ | ⟨g, -⟩
    · have hm := hM1 q (List.mem_of_getElem? g)
      exact (hPm q hm).kept (hk q.1 (hlt q hm) (out1 i q g))
    · exact hP1 _ q g
    · have hm := hM2 q (List.mem_of_getElem? g)
      exact (hPm q hm).kept (hk q.1 (hlt q hm) (out2 _ q g))
  · have old : ∀ (i : Nat) (q : Nat × va_E), w2[i]? = some q → (w1 ++ (wc ++ w2))[w1.length + (wc.length + i)]? = some q := fun i q hi => by
      rw [e0, List.getElem?_append_right (by omega)]; rw [show wc.length + i - wc.length = i by omega]; exact hi
    have old1 : ∀ (i : Nat) (q : Nat × va_E), w1[i]? = some q → (w1 ++ (wc ++ w2))[i]? = some q := fun i q hi => by
      rw [List.getElem?_append_left (List.getElem?_eq_some_iff.mp hi).1]; exact hi
    rcases key i x hx with ⟨g, l1⟩ | ⟨g, l1, l2⟩ | ⟨g, l1⟩ <;> rcases key j y hy with ⟨g', l1'⟩ | ⟨g', l1', l2'⟩ | ⟨g', l1'⟩
    · exact hD.1 i j x y (old1 i x g) (old1 j y g') hxy
    · exact absurd (by rw [hxy]; exact hc' y (List.mem_of_getElem? g')) (out1 i x g)
    · have := hD.1 _ _ x y (old1 i x g) (old _ y g') hxy
      omega
    · exact absurd (by rw [← hxy]; exact hc' x (List.mem_of_getElem? g)) (out1 j y g')
    · have := hD1.1 _ _ x y g g' hxy
      omega
    · exact absurd (by rw [← hxy]; exact hc' x (List.mem_of_getElem? g)) (out2 _ y g')
    · have := hD.1 _ _ x y (old _ x g) (old1 j y g') hxy
      omega
    · exact absurd (by rw [hxy]; exact hc' y (List.mem_of_getElem? g')) (out2 _ x g)
    · have := hD.1 _ _ x y (old _ x g) (old _ y g') hxy
      omega
  · rcases key i q h with ⟨g, -⟩ | ⟨g, -⟩ | ⟨g, -⟩
    · exact hAm q (hM1 q (List.mem_of_getElem? g))
    · exact hcA _ (hc' q (List.mem_of_getElem? g))
    · exact hAm q (hM2 q (List.mem_of_getElem? g))
section ZH
variable {l : Launch} {D : va_G} {cA : Nat → ClassId} {own : String} {cc : ByteArray} {nl k mc ms : Nat} {E : Nat → Nat → va_W → Option Value → Prop} {X : Nat → Nat → va_W → String → Prop} {Z : ZT}
variable {u w pc : Nat} {ws : va_W} {L : List (Option Value)} {st : List Value}
theorem z_getf (hZ : ZR l D cA own cc nl k mc ms E X Z) {ci N idx j a q0 : Nat} {C : String} {T : u_T} {ty : Nat → FieldType} {fs : List Value} {v : Value} (hc : CF ci C T N ty) (hf : FL own idx T j) (hj : j < N) (d : decode cc pc = .ok (.getfield idx, 3)) (he : ws[q0]? = some (a, .inr (ci, fs))) (hv : fs[j]? = some v) (kk : Z u w ws L (v :: st) (pc + 3)) : Z u w ws L (.ref a :: st) pc := by
  obtain ⟨p, e, s, m, args, below, meth, c, A, Q, ⟨hx, hb, hnl, hown, hev, hK, hA⟩, h1, h2, h3, rfl⟩ := hZ
  obtain ⟨c1, c2, c3, c4, c5⟩ := hc
  intro H locs ls hP hD hS hl
  have hts : ∀ w ∈ u_ws C T N, w.before args s = true := fun w hw => hev.use (c2 w hw) (c3 w hw) args
  rcases hf with hf | ⟨host, hf⟩
  · exact va_get hx hb hts (fun _ h => h) hown hK hP q0 he c1 j hj (hev.use hf rfl args) (fun _ h => h) hv d (kk H locs ls hP hD hS hl)
  · exact va_getN hx hb hts (fun _ h => h) hown hK hP q0 he c1 j hj (hev.nestU hf rfl args) (fun _ h => h) hv d (kk H locs ls hP hD hS hl)
theorem z_putf (hZ : ZR l D cA own cc nl k mc ms E X Z) {ci N idx j a q0 : Nat} {C : String} {T : u_T} {ty : Nat → FieldType} {fs : List Value} {v : Value} {ws' : va_W} (hc : CF ci C T N ty) (hf : FL own idx T j) (hj : j < N) (hfin : (T j).2.2.2 = false) (hn : narrow (ty j) v = v) (hfit : fits (ty j) v = true) (hlen : j < fs.length) (d : decode cc pc = .ok (.putfield idx, 3)) (he : ws[q0]? = some (a, .inr (ci, fs))) (hw : ws.set q0 (a, .inr (ci, fs.set j v)) = ws') (kk : Z u w ws' L st (pc + 3)) : Z u w ws L (v :: .ref a :: st) pc := by
  obtain ⟨p, e, s, m, args, below, meth, c, A, Q, ⟨hx, hb, hnl, hown, hev, hK, hA⟩, h1, h2, h3, rfl⟩ := hZ
  obtain ⟨c1, c2, c3, c4, c5⟩ := hc
  intro H locs ls hP hD hS hl
  have hts : ∀ w ∈ u_ws C T N, w.before args s = true := fun w hw => hev.use (c2 w hw) (c3 w hw) args
  subst hw
  rcases hf with hf | ⟨host, hf⟩
  · exact va_put hx hb hts (fun _ h => h) ty c4 c5 hown hK hP hD hS q0 he c1 j hj (hev.use hf rfl args) (fun _ h => h) hfin (c4 j hj) hn hfit hlen d (fun H1 locs1 hP1 hD1 hS1 => kk H1 locs1 ls hP1 hD1 hS1 hl)
  · exact va_putN hx hb hts (fun _ h => h) ty c4 c5 hown hK hP hD hS q0 he c1 j hj (hev.nestU hf rfl args) (fun _ h => h) hfin (c4 j hj) hn hfit hlen d (fun H1 locs1 hP1 hD1 hS1 => kk H1 locs1 ls hP1 hD1 hS1 hl)
theorem z_iald (hZ : ZR l D cA own cc nl k mc ms E X Z) {a q0 n : Nat} {f : Nat → Int32} {i : Int32} (d : decode cc pc = .ok (.iaload, 1)) (he : ws[q0]? = some (a, .inl (cA 0, n, .inl f))) (hi : vp_in i n) (kk : Z u w ws L (.int (f i.toNatClampNeg) :: st) (pc + 1)) : Z u w ws L (.int i :: .ref a :: st) pc := by
  obtain ⟨p, e, s, m, args, below, meth, c, A, Q, ⟨hx, hb, hnl, hown, hev, hK, hA⟩, h1, h2, h3, rfl⟩ := hZ
  intro H locs ls hP hD hS hl
  exact va_iald hx hb hK hP q0 0 he rfl hi d (kk H locs ls hP hD hS hl)
theorem z_zald (hZ : ZR l D cA own cc nl k mc ms E X Z) {a q0 n : Nat} {f : Nat → Int32} {i : Int32} (d : decode cc pc = .ok (.baload, 1)) (he : ws[q0]? = some (a, .inl (cA 1, n, .inl f))) (hi : vp_in i n) (kk : Z u w ws L (.int (f i.toNatClampNeg) :: st) (pc + 1)) : Z u w ws L (.int i :: .ref a :: st) pc := by
  obtain ⟨p, e, s, m, args, below, meth, c, A, Q, ⟨hx, hb, hnl, hown, hev, hK, hA⟩, h1, h2, h3, rfl⟩ := hZ
  intro H locs ls hP hD hS hl
  exact va_zald hx hb hK hP q0 1 he rfl hi d (kk H locs ls hP hD hS hl)
theorem z_iast (hZ : ZR l D cA own cc nl k mc ms E X Z) {a q0 n : Nat} {f : Nat → Int32} {i x : Int32} {ws' : va_W} (d : decode cc pc = .ok (.iastore, 1)) (he : ws[q0]? = some (a, .inl (cA 0, n, .inl f))) (hi : vp_in i n) (hw : ws.set q0 (a, .inl (cA 0, n, .inl (upd f i.toNatClampNeg x))) = ws') (kk : Z u w ws' L st (pc + 1)) : Z u w ws L (.int x :: .int i :: .ref a :: st) pc := by
  obtain ⟨p, e, s, m, args, below, meth, c, A, Q, ⟨hx, hb, hnl, hown, hev, hK, hA⟩, h1, h2, h3, rfl⟩ := hZ
  intro H locs ls hP hD hS hl
  subst hw
  exact va_iast hx hb hK hP hD hS q0 0 he rfl hi d (fun H1 locs1 hP1 hD1 hS1 => kk H1 locs1 ls hP1 hD1 hS1 hl)
theorem z_zast (hZ : ZR l D cA own cc nl k mc ms E X Z) {a q0 n : Nat} {f : Nat → Int32} {i x : Int32} {ws' : va_W} (d : decode cc pc = .ok (.bastore, 1)) (he : ws[q0]? = some (a, .inl (cA 1, n, .inl f))) (hi : vp_in i n) (hw : ws.set q0 (a, .inl (cA 1, n, .inl (upd f i.toNatClampNeg (vp_nar .boolean x)))) = ws') (kk : Z u w ws' L st (pc + 1)) : Z u w ws L (.int x :: .int i :: .ref a :: st) pc := by
  obtain ⟨p, e, s, m, args, below, meth, c, A, Q, ⟨hx, hb, hnl, hown, hev, hK, hA⟩, h1, h2, h3, rfl⟩ := hZ
  intro H locs ls hP hD hS hl
  subst hw
  exact va_zast hx hb hK hP hD hS q0 1 he rfl hi d (fun H1 locs1 hP1 hD1 hS1 => kk H1 locs1 ls hP1 hD1 hS1 hl)
theorem z_alen (hZ : ZR l D cA own cc nl k mc ms E X Z) {a q0 t0 : Nat} {x : vp_A} {cc0 : ClassId} {ty : FieldType} {v : Int32} (d : decode cc pc = .ok (.arraylength, 1)) (he : ws[q0]? = some (a, .inl (cc0, x))) (ht : (tyK cA)[t0]? = some (cc0, ty)) (hv : Int32.ofNat x.1 = v) (kk : Z u w ws L (.int v :: st) (pc + 1)) : Z u w ws L (.ref a :: st) pc := by
  obtain ⟨p, e, s, m, args, below, meth, c, A, Q, ⟨hx, hb, hnl, hown, hev, hK, hA⟩, h1, h2, h3, rfl⟩ := hZ
  intro H locs ls hP hD hS hl
  exact va_alen hx hb hK hP q0 t0 he ht hv d (kk H locs ls hP hD hS hl)
theorem z_ireturn (hZ : ZR l D cA own cc nl k mc ms E X Z) {x : Int32} (d : decode cc pc = .ok (.ireturn, 1)) (hE : E u w ws (some (.int x))) : Z u w ws L [.int x] pc := by
  obtain ⟨p, e, s, m, args, below, meth, c, A, Q, ⟨hx, hb, hnl, hown, hev, hK, hA⟩, h1, h2, h3, rfl⟩ := hZ
  intro H locs ls hP hD hS hl
  exact h1 u w ws x H locs ls pc d hE hP hD hS
theorem z_return (hZ : ZR l D cA own cc nl k mc ms E X Z) (d : decode cc pc = .ok (.return_, 1)) (hE : E u w ws none) : Z u w ws L [] pc := by
  obtain ⟨p, e, s, m, args, below, meth, c, A, Q, ⟨hx, hb, hnl, hown, hev, hK, hA⟩, h1, h2, h3, rfl⟩ := hZ
  intro H locs ls hP hD hS hl
  exact h2 u w ws H locs ls pc d hE hP hD hS
/-- behind a call -/
theorem z_after {p : Program} {e : Env} {R : Room} {s : State} {m : MethodId} {args : Array Value} {below : List Frame} {meth : Method} {c : Code} {H : Heap} {locs : List Loc} {ls : Array Slot} {rest st0 : List Value} {A : Nat → Prop} {wc : va_W} {mc' ms' : Nat} {Q : State → Prop} {Post : va_W → Option Value → Prop} {a : Array Value}
    (hr : va_Run p l e R s m args below meth c H locs u w mc' ms' (F0 m pc ls st0) rest (QM D wc Post H.size a) (va_A wc H.size))
    (hS : va_S A s.heap H locs) (hf : ∀ q, va_A wc H.size q → A q)
    (kk : ∀ (r : Option Value) (ws' : va_W) (H1 : Heap) (locs1 : List Loc), Post ws' r → va_P D vwCl ws' H1 → va_D (va_A wc H.size) ws' → H.size ≤ H1.size → (∀ q : Nat, q < H.size → ¬ va_A wc H.size q → H1[q]? = H[q]?) → va_S A s.heap H1 locs1 → W p l e R s m args below meth c H1 locs1 (u + mc') (w + ms') Q (F0 m (pc + 3) ls (r.toList ++ rest))) : W p l e R s m args below meth c H locs u w Q (F0 m pc ls st0) := by
  intro T hT X0
  obtain ⟨v, st₀, t, T', L0, h0, X', hL, e1, e2, ⟨⟨r, ws', hv, hp, hb, hd⟩, hz, hk⟩, st1⟩ := hr T hT X0
  cases hv
  rw [h0] at hz hk
  obtain ⟨t2, a1, b1⟩ := kk v ws' T'.heap (locs ++ L0) hp (by rw [e1]; exact hb) hd (by rw [e1]; exact hz) (fun q h1 h2 => by rw [e1]; exact hk q h1 h2)
    ⟨Nat.le_trans hS.1 (by rw [e1]; exact hz), fun q h1 h2 => by rw [e1, hk q (Nat.lt_of_lt_of_le h1 hS.1) (fun z => h2 (hf q z))]; exact hS.2.1 q h1 h2, fun q hq => by
      rcases List.mem_append.mp hq with h | h
      · exact hS.2.2 q h
      · exact hf _ (hL q h)⟩ T' rfl X'
  exact ⟨t2, st1 t2 a1, b1⟩
theorem z_sub {A : Nat → Prop} {s : State} {H : Heap} {locs : List Loc} {w1 wc w2 : va_W} (hD : va_D A (w1 ++ (wc ++ w2))) (hS : va_S A s.heap H locs) (hA : ∀ q, s.heap.size ≤ q → A q) : ∀ q, va_A wc H.size q → A q := fun q hq => by
  rcases hq with ⟨j, e, hj⟩ | hq
  · obtain ⟨i, hi⟩ := List.getElem?_of_mem (List.mem_append_right w1 (List.mem_append_left w2 (List.mem_of_getElem? hj)))
    exact hD.2 i (q, e) hi
  · exact hA q (Nat.le_trans hS.1 hq)
theorem z_subP {H : Heap} {w1 wc w2 : va_W} (hP : va_P D vwCl (w1 ++ (wc ++ w2)) H) : va_P D vwCl wc H := fun j q hj => by
  obtain ⟨i, hi⟩ := List.getElem?_of_mem (List.mem_append_right w1 (List.mem_append_left w2 (List.mem_of_getElem? hj)))
  exact hP i q hi
theorem z_subD {A : Nat → Prop} {w1 wc w2 : va_W} (hD : va_D A (w1 ++ (wc ++ w2))) : va_D (fun _ => True) wc := ⟨fun i j x y hi hj hxy => by
  have e0 : ∀ (i : Nat) (q : Nat × va_E), wc[i]? = some q → (w1 ++ (wc ++ w2))[w1.length + i]? = some q := fun i q hi => by
    rw [List.getElem?_append_right (by omega), show w1.length + i - w1.length = i by omega, List.getElem?_append_left (List.getElem?_eq_some_iff.mp hi).1]; exact hi
  have := hD.1 _ _ x y (e0 i x hi) (e0 j y hj) hxy
  omega, fun _ _ _ => trivial⟩
theorem z_callV (hZ : ZR l D cA own cc nl k mc ms E X Z) {idx a nl' k' mc' ms' n : Nat} {y : MethodName} {b : ByteArray} {ret : Option FieldType} {As : List Value} {w1 wc w2 : va_W} {Post : va_W → Option Value → Prop} {st0 : List Value} (d : decode cc pc = .ok (.invokevirtual idx, 3)) (hl : LK own idx y) (hm : MIn y b nl' ret n) (hv : MIv y) (hM : MT l D cA y b nl' ret k' mc' ms' (.ref a :: As) wc Post) (hr : Rcv wc a y.cls) (hn : As.length = n) (hst : st0 = As.reverse ++ .ref a :: st) (h8 : (st.map fun v => v.category).sum ≤ 8) (hk : k' + 1 ≤ k) (hnl : nl' ≤ 21) (hmc : u + mc' ≤ mc) (hms : w + ms' ≤ ms)
    (kk : ∀ (r : Option Value) (ws' : va_W), Post ws' r → Z (u + mc') (w + ms') (w1 ++ (ws' ++ w2)) L (r.toList ++ st) (pc + 3)) : Z u w (w1 ++ (wc ++ w2)) L st0 pc := by
  obtain ⟨p, e, s, m, args, below, meth, c, A, Q, ⟨hx, hb, hnl0, hown, hev, hK, hA⟩, h1, h2, h3, rfl⟩ := hZ
  intro H locs ls hP hD hS hll
  obtain ⟨m1, m2, m3, m4, m5⟩ := hm
  have hts : ∀ w ∈ [Cond.code y b nl' ret], w.before args s = true := fun w hw => by rw [List.mem_singleton.mp hw]; exact hev.use m1 rfl args
  have hG : GoodIn [Cond.code y b nl' ret] [Cond.code y b nl' ret] := fun w hw => ⟨hw, by rw [List.mem_singleton.mp hw]; exact good_of_word rfl⟩
  have hR : (RM k' mc' ms').frames + 1 ≤ (RM k mc ms).frames ∧ 8 + (nl' + 11) + (RM k' mc' ms').locals ≤ (RM k mc ms).locals := ⟨hk, by simp only [RM]; omega⟩
  have hS2 : CallFix p m c cc nl s args [Cond.code y b nl' ret] own := ⟨hx, hb, hnl0, hown, hts⟩
  obtain ⟨q0, ci, N, T, fs, r1, r2⟩ := hr
  have hPc := z_subP hP
  have hpre : PreV s H y.cls a (va_Pc (.ref a :: As) (fun U => U.heap.size = H.size ∧ va_P D vwCl wc U.heap ∧ va_D (fun _ => True) wc ∧ EV U ∧ va_K D vwCl (tyK cA) U)) As := ⟨MT.blind, va_recv hK hPc r2 r1, fun U hU hW => ⟨rfl, by rw [hU], by rw [hU]; exact hPc, z_subD hD, EV.moved hW hev, va_K.moved hW.alike hK⟩⟩
  have hf : u + mc' ≤ (RM k mc ms).cells ∧ w + ms' ≤ (RM k mc ms).slots := ⟨hmc, hms⟩
  have hfr := z_sub hD hS hA
  have run : va_Run p l e (RM k mc ms) s m args below meth c H locs u w mc' ms' (F0 m pc ls st0) st (QM D wc Post H.size (Value.ref a :: As).toArray) (va_A wc H.size) := by
    rcases hl with hl | ⟨host, hl⟩
    · exact va_runV (C := y.cls) (As := As) hS2 (hM H.size) ⟨callB_of n hts hG rfl rfl rfl (hev.use m2 rfl args) (hev.use hl rfl args) ⟨m3, m4, m5⟩ hR, hev.use hv.1 rfl args, hev.use hv.2 rfl args⟩ hpre rfl hn hll.1 hst (lv_room (m := m) (pc := pc) (ls := ls) (rest := st0) h8) d hf
    · exact va_runVN (C := y.cls) (As := As) hS2 (hM H.size) ⟨va_cnB n hts hG rfl rfl rfl (hev.nest hl rfl) (hev.use m2 rfl args) ⟨m3, m4, m5⟩ hR, hev.use hv.1 rfl args, hev.use hv.2 rfl args⟩ hpre rfl hn hll.1 hst (lv_room (m := m) (pc := pc) (ls := ls) (rest := st0) h8) d hf
  refine z_after run hS hfr (fun r ws' H1 locs1 hp hP1 hD1 hz hkk hS1 => ?_)
  obtain ⟨hP2, hD2⟩ := z_frame hP hD (fun q hq => hA q (Nat.le_trans hS.1 hq)) hz hkk hP1 hD1
  exact kk r ws' hp H1 locs1 ls hP2 hD2 hS1 hll
theorem z_callS (hZ : ZR l D cA own cc nl k mc ms E X Z) {idx nl' k' mc' ms' n : Nat} {y : MethodName} {b : ByteArray} {ret : Option FieldType} {As : List Value} {w1 wc w2 : va_W} {Post : va_W → Option Value → Prop} {st0 : List Value} (d : decode cc pc = .ok (.invokestatic idx, 3)) (hl : LK own idx y) (hm : MIn y b nl' ret n) (hv : MIs y) (hM : MT l D cA y b nl' ret k' mc' ms' As wc Post) (hn : As.length = n) (hst : st0 = As.reverse ++ st) (h8 : (st.map fun v => v.category).sum ≤ 8) (hk : k' + 1 ≤ k) (hnl : nl' ≤ 21) (hmc : u + mc' ≤ mc) (hms : w + ms' ≤ ms)
    (kk : ∀ (r : Option Value) (ws' : va_W), Post ws' r → Z (u + mc') (w + ms') (w1 ++ (ws' ++ w2)) L (r.toList ++ st) (pc + 3)) : Z u w (w1 ++ (wc ++ w2)) L st0 pc := by
  obtain ⟨p, e, s, m, args, below, meth, c, A, Q, ⟨hx, hb, hnl0, hown, hev, hK, hA⟩, h1, h2, h3, rfl⟩ := hZ
  intro H locs ls hP hD hS hll
  obtain ⟨m1, m2, m3, m4, m5⟩ := hm
  have hts : ∀ w ∈ [Cond.code y b nl' ret], w.before args s = true := fun w hw => by rw [List.mem_singleton.mp hw]; exact hev.use m1 rfl args
  have hG : GoodIn [Cond.code y b nl' ret] [Cond.code y b nl' ret] := fun w hw => ⟨hw, by rw [List.mem_singleton.mp hw]; exact good_of_word rfl⟩
  have hR : (RM k' mc' ms').frames + 1 ≤ (RM k mc ms).frames ∧ 8 + (nl' + 11) + (RM k' mc' ms').locals ≤ (RM k mc ms).locals := ⟨hk, by simp only [RM]; omega⟩
  have hS2 : CallFix p m c cc nl s args [Cond.code y b nl' ret] own := ⟨hx, hb, hnl0, hown, hts⟩
  have hPc := z_subP hP
  have hpre : PreS s H (va_Pc As (fun U => U.heap.size = H.size ∧ va_P D vwCl wc U.heap ∧ va_D (fun _ => True) wc ∧ EV U ∧ va_K D vwCl (tyK cA) U)) As := ⟨MT.blind, fun U hU hW => ⟨rfl, by rw [hU], by rw [hU]; exact hPc, z_subD hD, EV.moved hW hev, va_K.moved hW.alike hK⟩⟩
  have hf : u + mc' ≤ (RM k mc ms).cells ∧ w + ms' ≤ (RM k mc ms).slots := ⟨hmc, hms⟩
  have hfr := z_sub hD hS hA
  have run : va_Run p l e (RM k mc ms) s m args below meth c H locs u w mc' ms' (F0 m pc ls st0) st (QM D wc Post H.size As.toArray) (va_A wc H.size) := by
    rcases hl with hl | ⟨host, hl⟩
    · exact va_runS (As := As) hS2 (hM H.size) ⟨callB_of n hts hG rfl rfl rfl (hev.use m2 rfl args) (hev.use hl rfl args) ⟨m3, m4, m5⟩ hR, hev.use hv rfl args⟩ hpre rfl hn hll.1 hst (lv_room (m := m) (pc := pc) (ls := ls) (rest := st0) h8) d hf
    · exact va_runSN (As := As) hS2 (hM H.size) ⟨va_cnB n hts hG rfl rfl rfl (hev.nest hl rfl) (hev.use m2 rfl args) ⟨m3, m4, m5⟩ hR, hev.use hv rfl args, trivial⟩ hpre rfl hn hll.1 hst (lv_room (m := m) (pc := pc) (ls := ls) (rest := st0) h8) d hf
  refine z_after run hS hfr (fun r ws' H1 locs1 hp hP1 hD1 hz hkk hS1 => ?_)
  obtain ⟨hP2, hD2⟩ := z_frame hP hD (fun q hq => hA q (Nat.le_trans hS.1 hq)) hz hkk hP1 hD1
  exact kk r ws' hp H1 locs1 ls hP2 hD2 hS1 hll
theorem z_callI (hZ : ZR l D cA own cc nl k mc ms E X Z) {idx a nl' k' mc' ms' n : Nat} {y : MethodName} {b : ByteArray} {As : List Value} {w1 wc w2 : va_W} {Post : va_W → Option Value → Prop} {st0 : List Value} (d : decode cc pc = .ok (.invokespecial idx, 3)) (hl : LK own idx y) (hm : MIn y b nl' none n) (hv : MIi y) (hM : MT l D cA y b nl' none k' mc' ms' (.ref a :: As) wc Post) (hn : As.length = n) (hst : st0 = As.reverse ++ .ref a :: st) (h8 : (st.map fun v => v.category).sum ≤ 8) (hk : k' + 1 ≤ k) (hnl : nl' ≤ 21) (hmc : u + mc' ≤ mc) (hms : w + ms' ≤ ms)
    (kk : ∀ (r : Option Value) (ws' : va_W), Post ws' r → Z (u + mc') (w + ms') (w1 ++ (ws' ++ w2)) L (r.toList ++ st) (pc + 3)) : Z u w (w1 ++ (wc ++ w2)) L st0 pc := by
  obtain ⟨p, e, s, m, args, below, meth, c, A, Q, ⟨hx, hb, hnl0, hown, hev, hK, hA⟩, h1, h2, h3, rfl⟩ := hZ
  intro H locs ls hP hD hS hll
  obtain ⟨m1, m2, m3, m4, m5⟩ := hm
  have hts : ∀ w ∈ [Cond.code y b nl' none], w.before args s = true := fun w hw => by rw [List.mem_singleton.mp hw]; exact hev.use m1 rfl args
  have hG : GoodIn [Cond.code y b nl' none] [Cond.code y b nl' none] := fun w hw => ⟨hw, by rw [List.mem_singleton.mp hw]; exact good_of_word rfl⟩
  have hR : (RM k' mc' ms').frames + 1 ≤ (RM k mc ms).frames ∧ 8 + (nl' + 11) + (RM k' mc' ms').locals ≤ (RM k mc ms).locals := ⟨hk, by simp only [RM]; omega⟩
  have hS2 : CallFix p m c cc nl s args [Cond.code y b nl' none] own := ⟨hx, hb, hnl0, hown, hts⟩
  have hPc := z_subP hP
  have hpre : PreS s H (va_Pc (.ref a :: As) (fun U => U.heap.size = H.size ∧ va_P D vwCl wc U.heap ∧ va_D (fun _ => True) wc ∧ EV U ∧ va_K D vwCl (tyK cA) U)) (.ref a :: As) := ⟨MT.blind, fun U hU hW => ⟨rfl, by rw [hU], by rw [hU]; exact hPc, z_subD hD, EV.moved hW hev, va_K.moved hW.alike hK⟩⟩
  have hf : u + mc' ≤ (RM k mc ms).cells ∧ w + ms' ≤ (RM k mc ms).slots := ⟨hmc, hms⟩
  have hfr := z_sub hD hS hA
  have run : va_Run p l e (RM k mc ms) s m args below meth c H locs u w mc' ms' (F0 m pc ls st0) st (QM D wc Post H.size (Value.ref a :: As).toArray) (va_A wc H.size) := by
    rcases hl with hl | ⟨host, hl⟩
    · exact va_runI (As := As) hS2 (hM H.size) ⟨callB_of n hts hG rfl rfl rfl (hev.use m2 rfl args) (hev.use hl rfl args) ⟨m3, m4, m5⟩ hR, hv.2, hev.use hv.1 rfl args⟩ hpre rfl hn hll.1 hst (lv_room (m := m) (pc := pc) (ls := ls) (rest := st0) h8) d hf
    · exact va_runIN (As := As) hS2 (hM H.size) ⟨va_cnB n hts hG rfl rfl rfl (hev.nest hl rfl) (hev.use m2 rfl args) ⟨m3, m4, m5⟩ hR, hv.2, hev.use hv.1 rfl args⟩ hpre rfl hn hll.1 hst (lv_room (m := m) (pc := pc) (ls := ls) (rest := st0) h8) d hf
  refine z_after run hS hfr (fun r ws' H1 locs1 hp hP1 hD1 hz hkk hS1 => ?_)
  obtain ⟨hP2, hD2⟩ := z_frame hP hD (fun q hq => hA q (Nat.le_trans hS.1 hq)) hz hkk hP1 hD1
  exact kk r ws' hp H1 locs1 ls hP2 hD2 hS1 hll
end ZH
/-- a contract out of a walk of its body -/
theorem MT.of {l : Launch} {D : va_G} {cA : Nat → ClassId} {y : MethodName} {b : ByteArray} {nl k mc ms : Nat} {ret : Option FieldType} {args : List Value} {wc : va_W} {Post : va_W → Option Value → Prop} {L0 : List (Option Value)} (hy : plainName y.cls = true) (hL : args.map some ++ List.replicate (nl - args.length) none = L0) (hnl : args.length ≤ nl) (hcat : ∀ v ∈ args, v.category = 1)
    (body : ∀ Z, ZR l D cA y.cls b nl k mc ms (fun u w ws r => u ≤ mc ∧ w ≤ ms ∧ FitR ret r ∧ (r = none ↔ ret = none) ∧ Post ws r) (fun _ _ _ _ => False) Z → Z 0 0 wc L0 [] 0) : MT l D cA y b nl ret k mc ms args wc Post := by
  intro sz
  refine Met.ofW (cc := b) (maxL := nl) (ret := ret) hy rfl ?_
  intro p e s m args1 below meth c s₁ B hml hv
  obtain ⟨rfl, hsz, hP, hD0, hev, hK⟩ := hv
  have hx := B.exec
  have hb := B.bytes
  have hr := B.returns
  have hown : s.vm.findClass y.cls = some m.cls := findClass_of_methodNamed B.named
  have hlocks := B.notSynchronized
  subst hsz
  have hD := hD0.self (sz := s.heap.size)
  have hA : ∀ q : Nat, s.heap.size ≤ q → va_A wc s.heap.size q := fun q h => Or.inr h
  have hS : va_S (va_A wc s.heap.size) s.heap s.heap [] := va_S.rf
  have hlen : (lg_sl args).length ≤ nl := by
    have h9 : ∀ vs : List Value, (∀ v ∈ vs, v.category = 1) → (lg_sl vs).length = vs.length := fun vs => by
      induction vs with
      | nil => intro _; rfl
      | cons v vs ih =>
        intro h
        have := h v List.mem_cons_self
        have h2 := ih (fun w hw => h w (List.mem_cons_of_mem _ hw))
        simpa [lg_sl, this] using h2
    rw [h9 args hcat]; exact hnl
  have hl := lv_entry args (n := nl) hlen
  rw [lg_entry_eq]
  generalize (lg_sl args ++ List.replicate (nl - (lg_sl args).length) Slot.unset).toArray = ls at hl ⊢
  have hl2 : lv_has ls nl (zl 0 L0) := zl_sub hl (fun q hq => by
    refine zl_args args 0 hcat q ?_
    obtain ⟨i, v⟩ := q
    rw [zl_mem0] at hq ⊢
    rw [← hL] at hq
    rcases Nat.lt_or_ge i (args.map some).length with g | g
    · rw [List.getElem?_append_left g] at hq; exact hq
    · rw [List.getElem?_append_right g, List.getElem?_replicate] at hq
      split at hq <;> cases hq)
  refine body _ ⟨p, e, s, m, args.toArray, below, meth, c, va_A wc s.heap.size, _, ⟨hx, hb, hml, hown, hev, hK, hA⟩, ?_, ?_, ?_, rfl⟩ s.heap [] ls hP hD hS hl2
  · intro u w ws x H locs ls pc d hE hP hD hS
    obtain ⟨hu, hw, hF, -, hPost⟩ := hE
    obtain ⟨ty, rfl, hn⟩ := hF x rfl
    refine W.widen hu hw ?_
    exact W.zret (v := x) hx hb hr hn (fun t ht hW => ⟨⟨_, ws, rfl, hPost, by rw [ht]; exact hP, hD⟩, hS.F ht⟩) hS.2.2 d
  · intro u w ws H locs ls pc d hE hP hD hS
    obtain ⟨hu, hw, hF, hn, hPost⟩ := hE
    refine W.widen hu hw ?_
    have hr2 : meth.sig.returnType = none := by rw [hr, hn.mp rfl]
    exact W.vret hx hb hr2 (fun t ht hW => ⟨⟨_, ws, rfl, hPost, by rw [ht]; exact hP, hD⟩, hS.F ht⟩) hS.2.2 d
  · intro u w ws En H locs ls st pc q ce hX
    exact hX.elim
