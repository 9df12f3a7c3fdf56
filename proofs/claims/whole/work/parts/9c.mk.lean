/-! cells that are made -/
/-- the machine's part of a walk -/
def ZB (l : Launch) (D : va_G) (cA : Nat → ClassId) (own : String) (cc : ByteArray) (nl k mc ms : Nat) (Z : ZT) : Prop :=
  ∃ (p : Program) (e : Env) (s : State) (m : MethodId) (args : Array Value) (below : List Frame) (meth : Method) (c : Code) (A : Nat → Prop) (Q : State → Prop),
    (p.tables.exec = Jvm.exec ∧ c.code = cc ∧ c.maxLocals = nl ∧ s.vm.findClass own = some m.cls ∧ EV s ∧ va_K D vwCl (tyK cA) s ∧ (∀ q, s.heap.size ≤ q → A q)) ∧
    Z = fun u w ws L st pc => ∀ (H : Heap) (locs : List Loc) (ls : Array Slot), va_P D vwCl ws H → va_D A ws → va_S A s.heap H locs → lv_has ls nl (zl 0 L) → W p l e (RM k mc ms) s m args below meth c H locs u w Q (F0 m pc ls st)
/-- .. of a constructor -/
def ZN (l : Launch) (D : va_G) (cA : Nat → ClassId) (own : String) (cc : ByteArray) (nl k mc ms : Nat) (Z : ZT) : Prop :=
  ∃ (p : Program) (e : Env) (s : State) (m : MethodId) (args : Array Value) (below : List Frame) (meth : Method) (c : Code) (A : Nat → Prop) (Q : State → Prop),
    (p.tables.exec = Jvm.exec ∧ c.code = cc ∧ c.maxLocals = nl ∧ s.vm.findClass own = some m.cls ∧ EV s ∧ va_K D vwCl (tyK cA) s ∧ (∀ q, s.heap.size ≤ q → A q)) ∧ meth.name = "<init>" ∧
    Z = fun u w ws L st pc => ∀ (H : Heap) (locs : List Loc) (ls : Array Slot), va_P D vwCl ws H → va_D A ws → va_S A s.heap H locs → lv_has ls nl (zl 0 L) → W p l e (RM k mc ms) s m args below meth c H locs u w Q (F0 m pc ls st)
theorem ZN.toB {l : Launch} {D : va_G} {cA : Nat → ClassId} {own : String} {cc : ByteArray} {nl k mc ms : Nat} {Z : ZT} (h : ZN l D cA own cc nl k mc ms Z) : ZB l D cA own cc nl k mc ms Z := by
  obtain ⟨p, e, s, m, args, below, meth, c, A, Q, h1, -, h2⟩ := h
  exact ⟨p, e, s, m, args, below, meth, c, A, Q, h1, h2⟩
theorem ZR.toB {l : Launch} {D : va_G} {cA : Nat → ClassId} {own : String} {cc : ByteArray} {nl k mc ms : Nat} {E : Nat → Nat → va_W → Option Value → Prop} {X : Nat → Nat → va_W → String → Prop} {Z : ZT} (h : ZR l D cA own cc nl k mc ms E X Z) : ZB l D cA own cc nl k mc ms Z := by
  obtain ⟨p, e, s, m, args, below, meth, c, A, Q, h1, -, -, -, h2⟩ := h
  exact ⟨p, e, s, m, args, below, meth, c, A, Q, h1, h2⟩
section ZMake
variable {l : Launch} {D : va_G} {cA : Nat → ClassId} {own : String} {cc : ByteArray} {nl k mc ms : Nat} {Z : ZT}
variable {u w pc : Nat} {ws : va_W} {L : List (Option Value)} {st : List Value}
theorem z_new (hB : ZB l D cA own cc nl k mc ms Z) {ci N idx : Nat} {C : String} {T : u_T} {ty : Nat → FieldType} {fs : List Value} (hc : CF ci C T N ty) (hk : Cond.classLink own idx C ∈ lw_tbl) (hi : Cond.instantiable C N ∈ lw_tbl) (hn : Cond.initialized C ∈ lw_tbl) (hfs : ∀ j, j < N → defaultValue (ty j) = vp_V fs j) (d : decode cc pc = .ok (.new idx, 3)) (hu : u + 1 ≤ mc) (hw : w + N ≤ ms)
    (kk : ∀ q : Nat, Z (u + 1) (w + N) (ws ++ [(q, .inr (ci, fs))]) L (.ref q :: st) (pc + 3)) : Z u w ws L st pc := by
  obtain ⟨p, e, s, m, args, below, meth, c, A, Q, ⟨hx, hb, hnl, hown, hev, hK, hA⟩, rfl⟩ := hB
  obtain ⟨c1, c2, c3, c4, c5⟩ := hc
  intro H locs ls hP hD hS hl
  have hts : ∀ w ∈ u_ws C T N, w.before args s = true := fun w hw => hev.use (c2 w hw) (c3 w hw) args
  exact va_new hx hb hts (fun _ h => h) ty c4 hown (hev.use hk rfl args) (hev.use hi rfl args) (hev.use hn rfl args) hK hP hD hS hA c1 hfs hu hw d (fun q H1 hP1 hD1 hS1 => kk q H1 locs ls hP1 hD1 hS1 hl)
theorem tyK_cls {s : State} {c' : ClassId} {ty : FieldType} {j : Nat} {c0 : ClassId} (hj : (tyK cA)[j]? = some (c0, ty)) (hK : va_K D vwCl (tyK cA ++ [(c', ty)]) s) : c' = c0 := by
  have hl : (tyK cA)[j]? = some (c0, ty) := hj
  have h1 := (hK.2 j (c0, ty) (by rw [List.getElem?_append_left (List.getElem?_eq_some_iff.mp hl).1]; exact hl)).2
  have h2 := (hK.2 4 (c', ty) rfl).2
  cases ty with
  | object C =>
    obtain ⟨_, _, -, -, -, g1⟩ := h1
    obtain ⟨_, _, -, -, -, g2⟩ := h2
    exact Option.some.inj (g2.symm.trans g1)
  | _ => exact Option.some.inj (h2.symm.trans h1)
theorem z_newa (hB : ZB l D cA own cc nl k mc ms Z) {n : Nat} (hn : n < 2 ^ 27) (d : decode cc pc = .ok (.newarray .int, 2)) (hu : u + 1 ≤ mc) (hw : w + n ≤ ms)
    (kk : ∀ q : Nat, Z (u + 1) (w + n) (ws ++ [(q, .inl (cA 0, n, .inl (fun _ => 0)))]) L (.ref q :: st) (pc + 2)) : Z u w ws L (.int (nI n) :: st) pc := by
  obtain ⟨p, e, s, m, args, below, meth, c, A, Q, ⟨hx, hb, hnl, hown, hev, hK, hA⟩, rfl⟩ := hB
  intro H locs ls hP hD hS hl
  refine va_newa (atype := .int) (a0 := (n, .inl (fun _ => 0))) (N' := n) hx hb (hev.use (List.mem_of_getElem? (i := 182) (by decide +kernel)) rfl args) rfl hK hP hD hS hA (fun _ => rfl) (nI_pos (by omega)) (nI_clamp (by omega)) (by show n * 4 ≤ _; omega) hu hw d (fun q c' H1 hK1 hP1 hD1 hS1 => ?_)
  have e1 : c' = cA 0 := tyK_cls (j := 0) rfl hK1
  subst e1
  exact kk q H1 locs ls hP1 hD1 hS1 hl
theorem z_newz (hB : ZB l D cA own cc nl k mc ms Z) {n : Nat} (hn : n < 2 ^ 27) (d : decode cc pc = .ok (.newarray .boolean, 2)) (hu : u + 1 ≤ mc) (hw : w + n ≤ ms)
    (kk : ∀ q : Nat, Z (u + 1) (w + n) (ws ++ [(q, .inl (cA 1, n, .inl (fun _ => 0)))]) L (.ref q :: st) (pc + 2)) : Z u w ws L (.int (nI n) :: st) pc := by
  obtain ⟨p, e, s, m, args, below, meth, c, A, Q, ⟨hx, hb, hnl, hown, hev, hK, hA⟩, rfl⟩ := hB
  intro H locs ls hP hD hS hl
  refine va_newa (atype := .boolean) (a0 := (n, .inl (fun _ => 0))) (N' := n) hx hb (hev.use (List.mem_of_getElem? (i := 1374) (by decide +kernel)) rfl args) rfl hK hP hD hS hA (fun _ => rfl) (nI_pos (by omega)) (nI_clamp (by omega)) (by show n * 1 ≤ _; omega) hu hw d (fun q c' H1 hK1 hP1 hD1 hS1 => ?_)
  have e1 : c' = cA 1 := tyK_cls (j := 1) rfl hK1
  subst e1
  exact kk q H1 locs ls hP1 hD1 hS1 hl
theorem z_objInit (hB : ZB l D cA own cc nl k mc ms Z) {idx a : Nat} (hk : Cond.methodLink own idx Lib.objectInit ∈ lw_tbl) (hst : (st.map fun v => v.category).sum ≤ 8) (hk1 : 1 ≤ k) (d : decode cc pc = .ok (.invokespecial idx, 3)) (kk : Z u w ws L st (pc + 3)) : Z u w ws L (.ref a :: st) pc := by
  obtain ⟨p, e, s, m, args, below, meth, c, A, Q, ⟨hx, hb, hnl, hown, hev, hK, hA⟩, rfl⟩ := hB
  intro H locs ls hP hD hS hl
  exact W.objInit hx hb hown (hev.use hk rfl args) (hev.use (List.mem_of_getElem? (i := 145) (by decide +kernel)) rfl args) (hev.use (List.mem_of_getElem? (i := 146) (by decide +kernel)) rfl args) rfl (by rw [hnl]; exact hl.1) rfl d hk1 (by show 2 * 0 + _ + 12 ≤ 40 * k; omega) (kk H locs ls hP hD hS hl)
theorem z_putF (hN : ZN l D cA own cc nl k mc ms Z) {ci N idx j a q0 : Nat} {C : String} {T : u_T} {ty : Nat → FieldType} {fs : List Value} {v : Value} {ws' : va_W} (hc : CF ci C T N ty) (hf : Cond.fieldLink own idx (T j).1 (T j).2.1 (T j).2.2.1 ∈ lw_tbl) (hj : j < N) (hfin : (T j).2.2.2 = true) (hdecl : (T j).1 = own) (hn : narrow (ty j) v = v) (hfit : fits (ty j) v = true) (hlen : j < fs.length) (d : decode cc pc = .ok (.putfield idx, 3)) (he : ws[q0]? = some (a, .inr (ci, fs))) (hw : ws.set q0 (a, .inr (ci, fs.set j v)) = ws') (kk : Z u w ws' L st (pc + 3)) : Z u w ws L (v :: .ref a :: st) pc := by
  obtain ⟨p, e, s, m, args, below, meth, c, A, Q, ⟨hx, hb, hnl, hown, hev, hK, hA⟩, hnm, rfl⟩ := hN
  obtain ⟨c1, c2, c3, c4, c5⟩ := hc
  intro H locs ls hP hD hS hl
  have hts : ∀ w ∈ u_ws C T N, w.before args s = true := fun w hw => hev.use (c2 w hw) (c3 w hw) args
  subst hw
  exact va_putF hx hb hts (fun _ h => h) ty c4 c5 hown hK hP hD hS q0 he c1 j hj (hev.use hf rfl args) (fun _ h => h) hfin hnm hdecl (c4 j hj) hn hfit hlen d (fun H1 locs1 hP1 hD1 hS1 => kk H1 locs1 ls hP1 hD1 hS1 hl)
end ZMake
theorem MT.ofI {l : Launch} {D : va_G} {cA : Nat → ClassId} {y : MethodName} {b : ByteArray} {nl k mc ms : Nat} {ret : Option FieldType} {args : List Value} {wc : va_W} {Post : va_W → Option Value → Prop} {L0 : List (Option Value)} (hy : plainName y.cls = true) (hL : args.map some ++ List.replicate (nl - args.length) none = L0) (hnl : args.length ≤ nl) (hcat : ∀ v ∈ args, v.category = 1)
    (hini : y.name = "<init>") (body : ∀ Z, ZN l D cA y.cls b nl k mc ms Z → ZR l D cA y.cls b nl k mc ms (fun u w ws r => u ≤ mc ∧ w ≤ ms ∧ FitR ret r ∧ (r = none ↔ ret = none) ∧ Post ws r) (fun _ _ _ _ => False) Z → Z 0 0 wc L0 [] 0) : MT l D cA y b nl ret k mc ms args wc Post := by
  intro sz
  refine Met.ofW (cc := b) (maxL := nl) (ret := ret) hy rfl ?_
  intro p e s m args1 below meth c s₁ B hml hv
  obtain ⟨rfl, hsz, hP, hD0, hev, hK⟩ := hv
  have hx := B.exec
  have hb := B.bytes
  have hr := B.returns
  have hown : s.vm.findClass y.cls = some m.cls := findClass_of_methodNamed B.named
  have hlocks := B.notSynchronized
  subst hsz
  have hD := hD0.self (sz := s.heap.size)
  have hA : ∀ q : Nat, s.heap.size ≤ q → va_A wc s.heap.size q := fun q h => Or.inr h
  have hS : va_S (va_A wc s.heap.size) s.heap s.heap [] := va_S.rf
  have hlen : (lg_sl args).length ≤ nl := by
    have h9 : ∀ vs : List Value, (∀ v ∈ vs, v.category = 1) → (lg_sl vs).length = vs.length := fun vs => by
      induction vs with
      | nil => intro _; rfl
      | cons v vs ih =>
        intro h
        have := h v List.mem_cons_self
        have h2 := ih (fun w hw => h w (List.mem_cons_of_mem _ hw))
        simpa [lg_sl, this] using h2
    rw [h9 args hcat]; exact hnl
  have hl := lv_entry args (n := nl) hlen
  rw [lg_entry_eq]
  generalize (lg_sl args ++ List.replicate (nl - (lg_sl args).length) Slot.unset).toArray = ls at hl ⊢
  have hl2 : lv_has ls nl (zl 0 L0) := zl_sub hl (fun q hq => by
    refine zl_args args 0 hcat q ?_
    obtain ⟨i, v⟩ := q
    rw [zl_mem0] at hq ⊢
    rw [← hL] at hq
    rcases Nat.lt_or_ge i (args.map some).length with g | g
    · rw [List.getElem?_append_left g] at hq; exact hq
    · rw [List.getElem?_append_right g, List.getElem?_replicate] at hq
      split at hq <;> cases hq)
  refine body _ ⟨p, e, s, m, args.toArray, below, meth, c, va_A wc s.heap.size, _, ⟨hx, hb, hml, hown, hev, hK, hA⟩, (name_of_methodNamed B.named B.method).1.trans hini, rfl⟩ ⟨p, e, s, m, args.toArray, below, meth, c, va_A wc s.heap.size, _, ⟨hx, hb, hml, hown, hev, hK, hA⟩, ?_, ?_, ?_, rfl⟩ s.heap [] ls hP hD hS hl2
  · intro u w ws x H locs ls pc d hE hP hD hS
    obtain ⟨hu, hw, hF, -, hPost⟩ := hE
    obtain ⟨ty, rfl, hn⟩ := hF x rfl
    refine W.widen hu hw ?_
    exact W.zret (v := x) hx hb hr hn (fun t ht hW => ⟨⟨_, ws, rfl, hPost, by rw [ht]; exact hP, hD⟩, hS.F ht⟩) hS.2.2 d
  · intro u w ws H locs ls pc d hE hP hD hS
    obtain ⟨hu, hw, hF, hn, hPost⟩ := hE
    refine W.widen hu hw ?_
    have hr2 : meth.sig.returnType = none := by rw [hr, hn.mp rfl]
    exact W.vret hx hb hr2 (fun t ht hW => ⟨⟨_, ws, rfl, hPost, by rw [ht]; exact hP, hD⟩, hS.F ht⟩) hS.2.2 d
  · intro u w ws En H locs ls st pc q ce hX
    exact hX.elim

theorem MY.ofI {l : Launch} {D : va_G} {cA : Nat → ClassId} {y : MethodName} {b : ByteArray} {nl k mc ms : Nat} {ret : Option FieldType} {args : List Value} {wc : va_W} {Post : va_W → Option Value → Prop} {XPost : String → va_W → Prop} {Cx : CXT} {L0 : List (Option Value)} (hy : plainName y.cls = true) (hL : args.map some ++ List.replicate (nl - args.length) none = L0) (hnl : args.length ≤ nl) (hcat : ∀ v ∈ args, v.category = 1)
    (hini : y.name = "<init>") (body : ∀ Z, ZN l D cA y.cls b nl k mc ms Z → ZY l D cA Cx y.cls b nl k mc ms (fun u w ws r => u ≤ mc ∧ w ≤ ms ∧ FitR ret r ∧ (r = none ↔ ret = none) ∧ Post ws r) XPost Z → Z 0 0 wc L0 [] 0) : MY l D cA Cx y b nl ret k mc ms args wc Post XPost := by
  intro sz
  refine vx_ofW (cc := b) (maxL := nl) (ret := ret) hy rfl ?_
  intro p e s m args1 below meth c s₁ B hml hno hv
  obtain ⟨rfl, hsz, hP, hD0, hev, hK, hxv⟩ := hv
  have hx := B.exec
  have hb := B.bytes
  have hr := B.returns
  have hown : s.vm.findClass y.cls = some m.cls := findClass_of_methodNamed B.named
  have hlocks := B.notSynchronized
  subst hsz
  have hD := hD0.self (sz := s.heap.size)
  have hA : ∀ q : Nat, s.heap.size ≤ q → va_A wc s.heap.size q := fun q h => Or.inr h
  have hS : va_S (va_A wc s.heap.size) s.heap s.heap [] := va_S.rf
  have hlen : (lg_sl args).length ≤ nl := by
    have h9 : ∀ vs : List Value, (∀ v ∈ vs, v.category = 1) → (lg_sl vs).length = vs.length := fun vs => by
      induction vs with
      | nil => intro _; rfl
      | cons v vs ih =>
        intro h
        have := h v List.mem_cons_self
        have h2 := ih (fun w hw => h w (List.mem_cons_of_mem _ hw))
        simpa [lg_sl, this] using h2
    rw [h9 args hcat]; exact hnl
  have hl := lv_entry args (n := nl) hlen
  rw [lg_entry_eq]
  generalize (lg_sl args ++ List.replicate (nl - (lg_sl args).length) Slot.unset).toArray = ls at hl ⊢
  have hl2 : lv_has ls nl (zl 0 L0) := zl_sub hl (fun q hq => by
    refine zl_args args 0 hcat q ?_
    obtain ⟨i, v⟩ := q
    rw [zl_mem0] at hq ⊢
    rw [← hL] at hq
    rcases Nat.lt_or_ge i (args.map some).length with g | g
    · rw [List.getElem?_append_left g] at hq; exact hq
    · rw [List.getElem?_append_right g, List.getElem?_replicate] at hq
      split at hq <;> cases hq)
  refine body _ ⟨p, e, s, m, args.toArray, below, meth, c, va_A wc s.heap.size, _, ⟨hx, hb, hml, hown, hev, hK, hA⟩, (name_of_methodNamed B.named B.method).1.trans hini, rfl⟩ ⟨p, e, s, m, args.toArray, below, meth, c, va_A wc s.heap.size, _, wc, _, ⟨hx, hb, hml, hown, hev, hK, hA⟩, ?_, ?_, ⟨hxv, hno, hlocks, rfl, rfl⟩, rfl⟩ s.heap [] ls hP hD hS hl2
  · intro u w ws x H locs ls pc d hE hP hD hS
    obtain ⟨hu, hw, hF, -, hPost⟩ := hE
    obtain ⟨ty, rfl, hn⟩ := hF x rfl
    refine W.widen hu hw (vx_ret ?_)
    exact W.zret (v := x) hx hb hr hn (fun t ht hW => ⟨⟨_, ws, rfl, hPost, by rw [ht]; exact hP, hD⟩, hS.F ht⟩) hS.2.2 d
  · intro u w ws H locs ls pc d hE hP hD hS
    obtain ⟨hu, hw, hF, hn, hPost⟩ := hE
    refine W.widen hu hw (vx_ret ?_)
    have hr2 : meth.sig.returnType = none := by rw [hr, hn.mp rfl]
    exact W.vret hx hb hr2 (fun t ht hW => ⟨⟨_, ws, rfl, hPost, by rw [ht]; exact hP, hD⟩, hS.F ht⟩) hS.2.2 d

