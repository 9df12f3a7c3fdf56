theorem i32_shr0 (x : Int32) : x >>> (0 : Int32) = x := by simp
/-! contracts in a context: what holds of the old cells -/
abbrev CXT : Type := (Nat → Prop) → State → Heap → Prop
def CxOk (Cx : CXT) : Prop := (∀ (A : Nat → Prop) (s U : State) (H : Heap), s.WarmedH U.vm → Cx A s H → Cx A U H) ∧ (∀ (A : Nat → Prop) (U : State) (H H1 : Heap), Cx A U H → (∀ a : Nat, a < H.size → ¬ A a → H1[a]? = H[a]?) → Cx A U H1) ∧ ∀ (A B : Nat → Prop) (U : State) (H : Heap), Cx A U H → (∀ q, B q → A q) → Cx B U H
theorem CxOk.moved {Cx : CXT} (h : CxOk Cx) {A : Nat → Prop} {s U : State} {H : Heap} (hW : s.WarmedH U.vm) (g : Cx A s H) : Cx A U H := h.1 A s U H hW g
theorem CxOk.kept {Cx : CXT} (h : CxOk Cx) {A : Nat → Prop} {U : State} {H H1 : Heap} (g : Cx A U H) (hq : ∀ a : Nat, a < H.size → ¬ A a → H1[a]? = H[a]?) : Cx A U H1 := h.2.1 A U H H1 g hq
theorem CxOk.narrow {Cx : CXT} (h : CxOk Cx) {A B : Nat → Prop} {U : State} {H : Heap} (g : Cx A U H) (hAB : ∀ q, B q → A q) : Cx B U H := h.2.2 A B U H g hAB
theorem XV.ok {l : Launch} : CxOk (XV l) := ⟨fun _ _ _ _ hW h => XV.moved hW h, fun _ _ _ _ h hq => XV.kept h hq, fun _ _ _ _ h hAB => XV.narrow h hAB⟩
theorem CxOk.same {Cx : CXT} (h : CxOk Cx) {A : Nat → Prop} {u U : State} {H : Heap} (hvm : u.vm = U.vm) (g : Cx A u H) : Cx A U H := h.moved (by rw [← hvm]; exact State.WarmedH.refl u) g
def MY (l : Launch) (D : va_G) (cA : Nat → ClassId) (Cx : CXT) (y : MethodName) (b : ByteArray) (nl : Nat) (ret : Option FieldType) (k mc ms : Nat) (args : List Value) (wc : va_W) (Post : va_W → Option Value → Prop) (XPost : String → va_W → Prop) : Prop :=
  ∀ sz : Nat, vx_Met l y [.code y b nl ret] (RM k mc ms) (va_Pc args (fun U => U.heap.size = sz ∧ va_P D vwCl wc U.heap ∧ va_D (fun _ => True) wc ∧ EV U ∧ va_K D vwCl (tyK cA) U ∧ Cx (va_A wc sz) U U.heap)) (QM D wc Post sz) (XM D wc XPost sz) mc ms (va_A wc sz)
theorem MX.toMY {l : Launch} {D : va_G} {cA : Nat → ClassId} {y : MethodName} {b : ByteArray} {nl k mc ms : Nat} {ret : Option FieldType} {args : List Value} {wc : va_W} {Post : va_W → Option Value → Prop} {XPost : String → va_W → Prop} (h : MX l D cA y b nl ret k mc ms args wc Post XPost) : MY l D cA (XV l) y b nl ret k mc ms args wc Post XPost := h
theorem MY.blind {D : va_G} {cA : Nat → ClassId} {Cx : CXT} (ok : CxOk Cx) {args : List Value} {wc : va_W} {sz : Nat} : FrameBlind (va_Pc args (fun U => U.heap.size = sz ∧ va_P D vwCl wc U.heap ∧ va_D (fun _ => True) wc ∧ EV U ∧ va_K D vwCl (tyK cA) U ∧ Cx (va_A wc sz) U U.heap)) := fun a U g mk h => by
  obtain ⟨h0, h1, h2, h3, h4, h5, h6⟩ := h
  exact ⟨h0, h1, h2, h3, EV.same (u := U) (U := U.calling g mk a) rfl h4, va_K.moved (u := U) (U := U.calling g mk a) (Vm.Alike.refl U.vm) h5, ok.same (u := U) (U := U.calling g mk a) rfl h6⟩
def ZY (l : Launch) (D : va_G) (cA : Nat → ClassId) (Cx : CXT) (own : String) (cc : ByteArray) (nl k mc ms : Nat) (E : Nat → Nat → va_W → Option Value → Prop) (XPost : String → va_W → Prop) (Z : ZT) : Prop :=
  ∃ (p : Program) (e : Env) (s : State) (m : MethodId) (args : Array Value) (below : List Frame) (meth : Method) (c : Code) (A : Nat → Prop) (Q : State → Prop) (wc : va_W) (Qc : Array Value → State → Outcome → State → Prop),
    (p.tables.exec = Jvm.exec ∧ c.code = cc ∧ c.maxLocals = nl ∧ s.vm.findClass own = some m.cls ∧ EV s ∧ va_K D vwCl (tyK cA) s ∧ (∀ q, s.heap.size ≤ q → A q)) ∧
    (∀ (u w : Nat) (ws : va_W) (x : Int32) (H : Heap) (locs : List Loc) (ls : Array Slot) (pc : Nat), decode cc pc = .ok (.ireturn, 1) → E u w ws (some (.int x)) → va_P D vwCl ws H → va_D A ws → va_S A s.heap H locs → W p l e (RM k mc ms) s m args below meth c H locs u w Q (F0 m pc ls [.int x])) ∧
    (∀ (u w : Nat) (ws : va_W) (H : Heap) (locs : List Loc) (ls : Array Slot) (pc : Nat), decode cc pc = .ok (.return_, 1) → E u w ws none → va_P D vwCl ws H → va_D A ws → va_S A s.heap H locs → W p l e (RM k mc ms) s m args below meth c H locs u w Q (F0 m pc ls [])) ∧
    (Cx A s s.heap ∧ (∀ x ∈ c.exceptionTable.toList, False) ∧ meth.locks = false ∧ A = va_A wc s.heap.size ∧ Q = vx_MQ below Qc (XM D wc XPost s.heap.size) args s mc ms (va_A wc s.heap.size)) ∧
    Z = fun u w ws L st pc => ∀ (H : Heap) (locs : List Loc) (ls : Array Slot), va_P D vwCl ws H → va_D A ws → va_S A s.heap H locs → lv_has ls nl (zl 0 L) → W p l e (RM k mc ms) s m args below meth c H locs u w Q (F0 m pc ls st)
/-- what is the receiver: a cell of the world, or an old one -/
def Rcy (Cx : CXT) (ws : va_W) (a : Nat) (C : String) : Prop := Rcv ws a C ∨ ∀ (A : Nat → Prop) (U : State) (H : Heap), Cx A U H → va_O C a A U H
section ZYs
variable {l : Launch} {D : va_G} {cA : Nat → ClassId} {Cx : CXT} {own : String} {cc : ByteArray} {nl k mc ms : Nat} {E : Nat → Nat → va_W → Option Value → Prop} {XPost : String → va_W → Prop} {Z : ZT}
variable {u w pc : Nat} {ws : va_W} {L : List (Option Value)} {st : List Value}
theorem ZY.toZR (h : ZY l D cA Cx own cc nl k mc ms E XPost Z) : ZR l D cA own cc nl k mc ms E NoX Z := by
  obtain ⟨p, e, s, m, args, below, meth, c, A, Q, wc, Qc, h1, h2, h3, h4, h5⟩ := h
  exact ⟨p, e, s, m, args, below, meth, c, A, Q, h1, h2, h3, fun _ _ _ _ _ _ _ _ _ _ _ hx => hx.elim, h5⟩
theorem ZY.toZX (hc : ∀ (A : Nat → Prop) (U : State) (H : Heap), Cx A U H → XV l A U H) (h : ZY l D cA Cx own cc nl k mc ms E XPost Z) : ZX l D cA own cc nl k mc ms E XPost Z := by
  obtain ⟨p, e, s, m, args, below, meth, c, A, Q, wc, Qc, h1, h2, h3, ⟨h4, h5⟩, h6⟩ := h
  exact ⟨p, e, s, m, args, below, meth, c, A, Q, wc, Qc, h1, h2, h3, ⟨hc _ _ _ h4, h5⟩, h6⟩
theorem z_callVY (hY : ZY l D cA Cx own cc nl k mc ms E XPost Z) {Cx' : CXT} (ok : CxOk Cx) (ok' : CxOk Cx') (hcx : ∀ (A : Nat → Prop) (U : State) (H : Heap), Cx A U H → Cx' A U H) {idx a nl' k' mc' ms' n : Nat} {y : MethodName} {b : ByteArray} {ret : Option FieldType} {As : List Value} {w1 wc w2 : va_W} {Post : va_W → Option Value → Prop} {XP : String → va_W → Prop} {st0 : List Value} (d : decode cc pc = .ok (.invokevirtual idx, 3)) (hl : LK own idx y) (hm : MIn y b nl' ret n) (hv : MIv y) (hM : MY l D cA Cx' y b nl' ret k' mc' ms' (.ref a :: As) wc Post XP) (hr : Rcy Cx wc a y.cls) (hn : As.length = n) (hst : st0 = As.reverse ++ .ref a :: st) (h8 : (st.map fun v => v.category).sum ≤ 8) (hk : k' + 1 ≤ k) (hnl : nl' ≤ 21) (hmc : u + mc' ≤ mc) (hms : w + ms' ≤ ms)
    (kx : ∀ (En : String) (ws' : va_W), XP En ws' → XPost En (w1 ++ (ws' ++ w2))) (kk : ∀ (r : Option Value) (ws' : va_W), Post ws' r → Z (u + mc') (w + ms') (w1 ++ (ws' ++ w2)) L (r.toList ++ st) (pc + 3)) : Z u w (w1 ++ (wc ++ w2)) L st0 pc := by
  obtain ⟨p, e, s, m, args, below, meth, c, A, Q, wc0, Qc, ⟨hx, hb, hnl0, hown, hev, hK, hA⟩, h2, h3, ⟨hxv, hno, hlocks, rfl, rfl⟩, rfl⟩ := hY
  intro H locs ls hP hD hS hll
  obtain ⟨m1, m2, m3, m4, m5⟩ := hm
  have hts : ∀ w ∈ [Cond.code y b nl' ret], w.before args s = true := fun w hw => by rw [List.mem_singleton.mp hw]; exact hev.use m1 rfl args
  have hG : GoodIn [Cond.code y b nl' ret] [Cond.code y b nl' ret] := fun w hw => ⟨hw, by rw [List.mem_singleton.mp hw]; exact good_of_word rfl⟩
  have hR : (RM k' mc' ms').frames + 1 ≤ (RM k mc ms).frames ∧ 8 + (nl' + 11) + (RM k' mc' ms').locals ≤ (RM k mc ms).locals := ⟨hk, by simp only [RM]; omega⟩
  have hS2 : CallFix p m c cc nl s args [Cond.code y b nl' ret] own := ⟨hx, hb, hnl0, hown, hts⟩
  have hPc := z_subP hP
  have hfr := z_sub hD hS hA
  have hxv0 : Cx (va_A wc0 s.heap.size) s H := ok.kept hxv (fun q h1 h2 => hS.2.1 q h1 h2)
  have hxv1 : Cx' (va_A wc H.size) s H := hcx _ _ _ (ok.narrow hxv0 hfr)
  have hrc : ∃ cell : Cell, H[a]? = some cell ∧ cell.vm.isStatics = false ∧ s.vm.findClass y.cls = some cell.cls := by
    rcases hr with hr | hr
    · obtain ⟨q0, ci, N, T, fs, r1, r2⟩ := hr
      exact va_recv hK hPc r2 r1
    · obtain ⟨cell, g1, g2, g3, -⟩ := hr _ _ _ hxv0
      exact ⟨cell, g1, g2, g3⟩
  have hpre : PreV s H y.cls a (va_Pc (.ref a :: As) (fun U => U.heap.size = H.size ∧ va_P D vwCl wc U.heap ∧ va_D (fun _ => True) wc ∧ EV U ∧ va_K D vwCl (tyK cA) U ∧ Cx' (va_A wc H.size) U U.heap)) As := ⟨MY.blind ok', hrc, fun U hU hW => ⟨rfl, by rw [hU], by rw [hU]; exact hPc, z_subD hD, EV.moved hW hev, va_K.moved hW.alike hK, by rw [hU]; exact ok'.moved hW hxv1⟩⟩
  have hf : u + mc' ≤ (RM k mc ms).cells ∧ w + ms' ≤ (RM k mc ms).slots := ⟨hmc, hms⟩
  have run : vx_Run p l e (RM k mc ms) s m args below meth c H locs u w mc' ms' (F0 m pc ls st0) st (QM D wc Post H.size (Value.ref a :: As).toArray) (XM D wc XP H.size) (va_A wc H.size) := by
    rcases hl with hl | ⟨host, hl⟩
    · exact vx_runV (C := y.cls) (As := As) hS2 (hM H.size) ⟨callB_of n hts hG rfl rfl rfl (hev.use m2 rfl args) (hev.use hl rfl args) ⟨m3, m4, m5⟩ hR, hev.use hv.1 rfl args, hev.use hv.2 rfl args⟩ hpre rfl hn hll.1 hst (lv_room (m := m) (pc := pc) (ls := ls) (rest := st0) h8) d hf
    · exact vx_runVN (C := y.cls) (As := As) hS2 (hM H.size) ⟨va_cnB n hts hG rfl rfl rfl (hev.nest hl rfl) (hev.use m2 rfl args) ⟨m3, m4, m5⟩ hR, hev.use hv.1 rfl args, hev.use hv.2 rfl args⟩ hpre rfl hn hll.1 hst (lv_room (m := m) (pc := pc) (ls := ls) (rest := st0) h8) d hf
  have hAz : ∀ q, H.size ≤ q → va_A wc0 s.heap.size q := fun q hq => hA q (Nat.le_trans hS.1 hq)
  refine z_afterX run hS hfr (fun En ce q9 ws' H1 locs1 hp hP1 hD1 hz hkk hS1 hce hcv hcl => ?_) (fun r ws' H1 locs1 hp hP1 hD1 hz hkk hS1 => ?_)
  · obtain ⟨hP2, hD2⟩ := z_frame hP hD hAz hz hkk hP1 hD1
    refine vx_out (fun x hx => (hno x hx).elim) hlocks hce hcv hcl (fun t ht hal => ?_) hS1.2.2 hmc hms
    exact ⟨⟨_, kx En ws' hp, by rw [ht]; exact hP2, hD2⟩, hS1.F ht⟩
  · obtain ⟨hP2, hD2⟩ := z_frame hP hD hAz hz hkk hP1 hD1
    exact kk r ws' hp H1 locs1 ls hP2 hD2 hS1 hll
theorem z_callSY (hY : ZY l D cA Cx own cc nl k mc ms E XPost Z) {Cx' : CXT} (ok : CxOk Cx) (ok' : CxOk Cx') (hcx : ∀ (A : Nat → Prop) (U : State) (H : Heap), Cx A U H → Cx' A U H) {idx nl' k' mc' ms' n : Nat} {y : MethodName} {b : ByteArray} {ret : Option FieldType} {As : List Value} {w1 wc w2 : va_W} {Post : va_W → Option Value → Prop} {XP : String → va_W → Prop} {st0 : List Value} (d : decode cc pc = .ok (.invokestatic idx, 3)) (hl : LK own idx y) (hm : MIn y b nl' ret n) (hv : MIs y) (hM : MY l D cA Cx' y b nl' ret k' mc' ms' As wc Post XP) (hn : As.length = n) (hst : st0 = As.reverse ++ st) (h8 : (st.map fun v => v.category).sum ≤ 8) (hk : k' + 1 ≤ k) (hnl : nl' ≤ 21) (hmc : u + mc' ≤ mc) (hms : w + ms' ≤ ms)
    (kx : ∀ (En : String) (ws' : va_W), XP En ws' → XPost En (w1 ++ (ws' ++ w2))) (kk : ∀ (r : Option Value) (ws' : va_W), Post ws' r → Z (u + mc') (w + ms') (w1 ++ (ws' ++ w2)) L (r.toList ++ st) (pc + 3)) : Z u w (w1 ++ (wc ++ w2)) L st0 pc := by
  obtain ⟨p, e, s, m, args, below, meth, c, A, Q, wc0, Qc, ⟨hx, hb, hnl0, hown, hev, hK, hA⟩, h2, h3, ⟨hxv, hno, hlocks, rfl, rfl⟩, rfl⟩ := hY
  intro H locs ls hP hD hS hll
  obtain ⟨m1, m2, m3, m4, m5⟩ := hm
  have hts : ∀ w ∈ [Cond.code y b nl' ret], w.before args s = true := fun w hw => by rw [List.mem_singleton.mp hw]; exact hev.use m1 rfl args
  have hG : GoodIn [Cond.code y b nl' ret] [Cond.code y b nl' ret] := fun w hw => ⟨hw, by rw [List.mem_singleton.mp hw]; exact good_of_word rfl⟩
  have hR : (RM k' mc' ms').frames + 1 ≤ (RM k mc ms).frames ∧ 8 + (nl' + 11) + (RM k' mc' ms').locals ≤ (RM k mc ms).locals := ⟨hk, by simp only [RM]; omega⟩
  have hS2 : CallFix p m c cc nl s args [Cond.code y b nl' ret] own := ⟨hx, hb, hnl0, hown, hts⟩
  have hPc := z_subP hP
  have hfr := z_sub hD hS hA
  have hxv0 : Cx (va_A wc0 s.heap.size) s H := ok.kept hxv (fun q h1 h2 => hS.2.1 q h1 h2)
  have hxv1 : Cx' (va_A wc H.size) s H := hcx _ _ _ (ok.narrow hxv0 hfr)
  have hpre : PreS s H (va_Pc As (fun U => U.heap.size = H.size ∧ va_P D vwCl wc U.heap ∧ va_D (fun _ => True) wc ∧ EV U ∧ va_K D vwCl (tyK cA) U ∧ Cx' (va_A wc H.size) U U.heap)) As := ⟨MY.blind ok', fun U hU hW => ⟨rfl, by rw [hU], by rw [hU]; exact hPc, z_subD hD, EV.moved hW hev, va_K.moved hW.alike hK, by rw [hU]; exact ok'.moved hW hxv1⟩⟩
  have hf : u + mc' ≤ (RM k mc ms).cells ∧ w + ms' ≤ (RM k mc ms).slots := ⟨hmc, hms⟩
  have run : vx_Run p l e (RM k mc ms) s m args below meth c H locs u w mc' ms' (F0 m pc ls st0) st (QM D wc Post H.size As.toArray) (XM D wc XP H.size) (va_A wc H.size) := by
    rcases hl with hl | ⟨host, hl⟩
    · exact vx_runS (As := As) hS2 (hM H.size) ⟨callB_of n hts hG rfl rfl rfl (hev.use m2 rfl args) (hev.use hl rfl args) ⟨m3, m4, m5⟩ hR, hev.use hv rfl args⟩ hpre rfl hn hll.1 hst (lv_room (m := m) (pc := pc) (ls := ls) (rest := st0) h8) d hf
    · exact vx_runSN (As := As) hS2 (hM H.size) ⟨va_cnB n hts hG rfl rfl rfl (hev.nest hl rfl) (hev.use m2 rfl args) ⟨m3, m4, m5⟩ hR, hev.use hv rfl args, trivial⟩ hpre rfl hn hll.1 hst (lv_room (m := m) (pc := pc) (ls := ls) (rest := st0) h8) d hf
  have hAz : ∀ q, H.size ≤ q → va_A wc0 s.heap.size q := fun q hq => hA q (Nat.le_trans hS.1 hq)
  refine z_afterX run hS hfr (fun En ce q9 ws' H1 locs1 hp hP1 hD1 hz hkk hS1 hce hcv hcl => ?_) (fun r ws' H1 locs1 hp hP1 hD1 hz hkk hS1 => ?_)
  · obtain ⟨hP2, hD2⟩ := z_frame hP hD hAz hz hkk hP1 hD1
    refine vx_out (fun x hx => (hno x hx).elim) hlocks hce hcv hcl (fun t ht hal => ?_) hS1.2.2 hmc hms
    exact ⟨⟨_, kx En ws' hp, by rw [ht]; exact hP2, hD2⟩, hS1.F ht⟩
  · obtain ⟨hP2, hD2⟩ := z_frame hP hD hAz hz hkk hP1 hD1
    exact kk r ws' hp H1 locs1 ls hP2 hD2 hS1 hll
theorem z_ldcS (hY : ZY l D cA Cx own cc nl k mc ms E XPost Z) {tx : String} {q idx : Nat} (hf : ∀ (A : Nat → Prop) (U : State) (H : Heap), Cx A U H → vk_R own idx tx q U) (d : decode cc pc = .ok (.ldc idx, 2)) (kk : Z u w ws L (.ref q :: st) (pc + 2)) : Z u w ws L st pc := by
  obtain ⟨p, e, s, m, args, below, meth, c, A, Q, wc0, Qc, ⟨hx, hb, hnl, hown, hev, hK, hA⟩, h2, h3, ⟨hxv, hno, hlocks, rfl, rfl⟩, rfl⟩ := hY
  intro H locs ls hP hD hS hl
  exact va_ldcS hx hb hown (hf _ _ _ hxv) d (kk H locs ls hP hD hS hl)
theorem z_ldcwS (hY : ZY l D cA Cx own cc nl k mc ms E XPost Z) {tx : String} {q idx : Nat} (hf : ∀ (A : Nat → Prop) (U : State) (H : Heap), Cx A U H → vk_R own idx tx q U) (d : decode cc pc = .ok (.ldc_w idx, 3)) (kk : Z u w ws L (.ref q :: st) (pc + 3)) : Z u w ws L st pc := by
  obtain ⟨p, e, s, m, args, below, meth, c, A, Q, wc0, Qc, ⟨hx, hb, hnl, hown, hev, hK, hA⟩, h2, h3, ⟨hxv, hno, hlocks, rfl, rfl⟩, rfl⟩ := hY
  intro H locs ls hP hD hS hl
  have hz := hf _ _ _ hxv
  intro T hT X
  obtain ⟨t, a1, b1⟩ := kk H locs ls hP hD hS hl T hT X
  exact ⟨t, X.ldcStringW hx hown (text := tx) (a := q) hz.1 hz.2 (g := F0 m pc ls st) rfl (by rw [hb]; exact d) t a1, b1⟩
theorem z_oldf (hY : ZY l D cA Cx own cc nl k mc ms E XPost Z) {o n dd : String} {v : Value} {q idx : Nat} (hf : ∀ (A : Nat → Prop) (U : State) (H : Heap), Cx A U H → va_OF o n dd v q A U H) (hlk : Cond.fieldLink own idx o n dd ∈ lw_tbl) (d : decode cc pc = .ok (.getfield idx, 3)) (kk : Z u w ws L (v :: st) (pc + 3)) : Z u w ws L (.ref q :: st) pc := by
  obtain ⟨p, e, s, m, args, below, meth, c, A, Q, wc0, Qc, ⟨hx, hb, hnl, hown, hev, hK, hA⟩, h2, h3, ⟨hxv, hno, hlocks, rfl, rfl⟩, rfl⟩ := hY
  intro H locs ls hP hD hS hl
  exact vk_getf hx hb (hf _ _ _ hxv) hS hown (hev.use hlk rfl args) (fun _ h => h) d (kk H locs ls hP hD hS hl)
theorem z_gets (hY : ZY l D cA Cx own cc nl k mc ms E XPost Z) {o n dd : String} {v : Value} {idx : Nat} (hf : ∀ (A : Nat → Prop) (U : State) (H : Heap), Cx A U H → va_Z o n dd v A U H) (hlk : Cond.fieldLink own idx o n dd ∈ lw_tbl) (d : decode cc pc = .ok (.getstatic idx, 3)) (kk : Z u w ws L (v :: st) (pc + 3)) : Z u w ws L st pc := by
  obtain ⟨p, e, s, m, args, below, meth, c, A, Q, wc0, Qc, ⟨hx, hb, hnl, hown, hev, hK, hA⟩, h2, h3, ⟨hxv, hno, hlocks, rfl, rfl⟩, rfl⟩ := hY
  intro H locs ls hP hD hS hl
  exact va_gets hx hb (hf _ _ _ hxv) hS hown (hev.use hlk rfl args) (fun _ h => h) d (kk H locs ls hP hD hS hl)
theorem z_getsQ (hY : ZY l D cA Cx own cc nl k mc ms E XPost Z) {o n dd : String} {idx : Nat} (hf : ∀ (A : Nat → Prop) (U : State) (H : Heap), Cx A U H → va_Zq o n dd A U H) (hlk : Cond.fieldLink own idx o n dd ∈ lw_tbl) (d : decode cc pc = .ok (.getstatic idx, 3)) (kk : ∀ v : Value, v.category = 1 → Z u w ws L (v :: st) (pc + 3)) : Z u w ws L st pc := by
  obtain ⟨p, e, s, m, args, below, meth, c, A, Q, wc0, Qc, ⟨hx, hb, hnl, hown, hev, hK, hA⟩, h2, h3, ⟨hxv, hno, hlocks, rfl, rfl⟩, rfl⟩ := hY
  intro H locs ls hP hD hS hl
  rcases hf _ _ _ hxv with h | ⟨t, h⟩
  · exact va_gets hx hb h hS hown (hev.use hlk rfl args) (fun _ h => h) d (kk _ rfl H locs ls hP hD hS hl)
  · exact va_gets hx hb h hS hown (hev.use hlk rfl args) (fun _ h => h) d (kk _ rfl H locs ls hP hD hS hl)
theorem z_oldb (hY : ZY l D cA Cx own cc nl k mc ms E XPost Z) {t n j : Nat} {f : Nat → Value} (hf : ∀ (A : Nat → Prop) (U : State) (H : Heap), Cx A U H → va_T .byte t n f A U H) (hj : j < n) (hn : n < 2 ^ 31) (d : decode cc pc = .ok (.baload, 1)) (kk : Z u w ws L (f j :: st) (pc + 1)) : Z u w ws L (.int (nI j) :: .ref t :: st) pc := by
  obtain ⟨p, e, s, m, args, below, meth, c, A, Q, wc0, Qc, ⟨hx, hb, hnl, hown, hev, hK, hA⟩, h2, h3, ⟨hxv, hno, hlocks, rfl, rfl⟩, rfl⟩ := hY
  intro H locs ls hP hD hS hl
  exact va_tb hx hb (hf _ _ _ hxv) hS (vp_in_nI hj hn) (by rw [nI_clamp (by omega)]) d (kk H locs ls hP hD hS hl)
theorem z_oldn (hY : ZY l D cA Cx own cc nl k mc ms E XPost Z) {t n : Nat} {ty : FieldType} {f : Nat → Value} (hf : ∀ (A : Nat → Prop) (U : State) (H : Heap), Cx A U H → va_T ty t n f A U H) (d : decode cc pc = .ok (.arraylength, 1)) (kk : Z u w ws L (.int (nI n) :: st) (pc + 1)) : Z u w ws L (.ref t :: st) pc := by
  obtain ⟨p, e, s, m, args, below, meth, c, A, Q, wc0, Qc, ⟨hx, hb, hnl, hown, hev, hK, hA⟩, h2, h3, ⟨hxv, hno, hlocks, rfl, rfl⟩, rfl⟩ := hY
  intro H locs ls hP hD hS hl
  exact va_tlen hx hb (hf _ _ _ hxv) hS rfl d (kk H locs ls hP hD hS hl)
theorem z_i2c (hZ : ZR l D cA own cc nl k mc ms E NoX Z) {x v : Int32} (d : decode cc pc = .ok (.i2c, 1)) (hv : (x.toUInt32 % 65536).toInt32 = v) (kk : Z u w ws L (.int v :: st) (pc + 1)) : Z u w ws L (.int x :: st) pc := z_next hZ (fun p e s m args below meth c H locs ls Q hx hb hl k => lv_i2c hx hb d hv (k ls hl)) kk
theorem z_ald0 (hZ : ZR l D cA own cc nl k mc ms E NoX Z) {j : Nat} {v : Value} {jf : Fin 4} (hj : (jf : Nat) = j) (d : decode cc pc = .ok (.aload_n jf, 1)) (hr : ∃ x, v = .ref x) (hL : L[j]? = some (some v)) (kk : Z u w ws L (v :: st) (pc + 1)) : Z u w ws L st pc := by
  obtain ⟨x, rfl⟩ := hr
  exact z_aload_n hZ d (by rw [hj]; exact hL) kk
end ZYs
theorem MY.of {l : Launch} {D : va_G} {cA : Nat → ClassId} {y : MethodName} {b : ByteArray} {nl k mc ms : Nat} {ret : Option FieldType} {args : List Value} {wc : va_W} {Post : va_W → Option Value → Prop} {XPost : String → va_W → Prop} {Cx : CXT} {L0 : List (Option Value)} (hy : plainName y.cls = true) (hL : args.map some ++ List.replicate (nl - args.length) none = L0) (hnl : args.length ≤ nl) (hcat : ∀ v ∈ args, v.category = 1)
    (body : ∀ Z, ZY l D cA Cx y.cls b nl k mc ms (fun u w ws r => u ≤ mc ∧ w ≤ ms ∧ FitR ret r ∧ (r = none ↔ ret = none) ∧ Post ws r) XPost Z → Z 0 0 wc L0 [] 0) : MY l D cA Cx y b nl ret k mc ms args wc Post XPost := by
  intro sz
  refine vx_ofW (cc := b) (maxL := nl) (ret := ret) hy rfl ?_
  intro p e s m args1 below meth c s₁ B hml hno hv
  obtain ⟨rfl, hsz, hP, hD0, hev, hK, hxv⟩ := hv
  have hx := B.exec
  have hb := B.bytes
  have hr := B.returns
  have hown : s.vm.findClass y.cls = some m.cls := findClass_of_methodNamed B.named
  have hlocks := B.notSynchronized
  subst hsz
  have hD := hD0.self (sz := s.heap.size)
  have hA : ∀ q : Nat, s.heap.size ≤ q → va_A wc s.heap.size q := fun q h => Or.inr h
  have hS : va_S (va_A wc s.heap.size) s.heap s.heap [] := va_S.rf
  have hlen : (lg_sl args).length ≤ nl := by
    have h9 : ∀ vs : List Value, (∀ v ∈ vs, v.category = 1) → (lg_sl vs).length = vs.length := fun vs => by
      induction vs with
      | nil => intro _; rfl
      | cons v vs ih =>
        intro h
        have := h v List.mem_cons_self
        have h2 := ih (fun w hw => h w (List.mem_cons_of_mem _ hw))
        simpa [lg_sl, this] using h2
    rw [h9 args hcat]; exact hnl
  have hl := lv_entry args (n := nl) hlen
  rw [lg_entry_eq]
  generalize (lg_sl args ++ List.replicate (nl - (lg_sl args).length) Slot.unset).toArray = ls at hl ⊢
  have hl2 : lv_has ls nl (zl 0 L0) := zl_sub hl (fun q hq => by
    refine zl_args args 0 hcat q ?_
    obtain ⟨i, v⟩ := q
    rw [zl_mem0] at hq ⊢
    rw [← hL] at hq
    rcases Nat.lt_or_ge i (args.map some).length with g | g
    · rw [List.getElem?_append_left g] at hq; exact hq
    · rw [List.getElem?_append_right g, List.getElem?_replicate] at hq
      split at hq <;> cases hq)
  refine body _ ⟨p, e, s, m, args.toArray, below, meth, c, va_A wc s.heap.size, _, wc, _, ⟨hx, hb, hml, hown, hev, hK, hA⟩, ?_, ?_, ⟨hxv, hno, hlocks, rfl, rfl⟩, rfl⟩ s.heap [] ls hP hD hS hl2
  · intro u w ws x H locs ls pc d hE hP hD hS
    obtain ⟨hu, hw, hF, -, hPost⟩ := hE
    obtain ⟨ty, rfl, hn⟩ := hF x rfl
    refine W.widen hu hw (vx_ret ?_)
    exact W.zret (v := x) hx hb hr hn (fun t ht hW => ⟨⟨_, ws, rfl, hPost, by rw [ht]; exact hP, hD⟩, hS.F ht⟩) hS.2.2 d
  · intro u w ws H locs ls pc d hE hP hD hS
    obtain ⟨hu, hw, hF, hn, hPost⟩ := hE
    refine W.widen hu hw (vx_ret ?_)
    have hr2 : meth.sig.returnType = none := by rw [hr, hn.mp rfl]
    exact W.vret hx hb hr2 (fun t ht hW => ⟨⟨_, ws, rfl, hPost, by rw [ht]; exact hP, hD⟩, hS.F ht⟩) hS.2.2 d

def wrd : List (List Int32) := [[104, 111, 117, 115, 101], [112, 101, 114, 115, 111, 110], [103, 114, 105, 101, 102], [104, 105, 114, 101, 100], [100, 97, 121], [104, 111, 117, 114], [98, 101, 102, 111, 114, 101], [110, 111, 116], [111, 114], [97, 110, 100], [104, 111, 117, 115, 101, 115], [119, 97, 108, 107], [114, 117, 108, 101], [97, 115, 107], [99, 104, 97, 110, 99, 101]]
abbrev nSt : Nat := 15
def strK : List (String × Nat × String × Nat) := [("TearsPost$Tokens", 73, "house", 0), ("TearsPost$Tokens", 79, "person", 1), ("TearsPost$Tokens", 81, "grief", 2), ("TearsPost$Tokens", 83, "hired", 3), ("TearsPost$Tokens", 85, "day", 4), ("TearsPost$Tokens", 87, "hour", 5), ("TearsPost$Tokens", 89, "before", 6), ("TearsPost$Tokens", 91, "not", 7), ("TearsPost$Tokens", 93, "or", 8), ("TearsPost$Tokens", 95, "and", 9), ("TearsPost$Tokens", 97, "houses", 10), ("TearsPost$Tokens", 99, "walk", 11), ("TearsPost$Tokens", 101, "rule", 12), ("TearsPost$Tokens", 103, "ask", 13), ("TearsPost$Tokens", 105, "chance", 14), ("TearsPostModel", 25, "house", 0), ("TearsPostModel", 11, "person", 1), ("TearsPostModel", 27, "grief", 2), ("TearsPostModel", 29, "hired", 3), ("TearsPostModel", 31, "day", 4), ("TearsPostModel", 33, "hour", 5), ("TearsPostModel", 35, "before", 6), ("TearsPostModel", 261, "not", 7), ("TearsPostModel", 274, "or", 8), ("TearsPostModel", 269, "and", 9), ("TearsPostModel", 9, "houses", 10), ("TearsPostModel", 13, "walk", 11), ("TearsPostModel", 15, "rule", 12), ("TearsPostModel", 17, "ask", 13), ("TearsPostModel", 279, "chance", 14)]
def ST (q t : Nat) (w : List Int32) (A : Nat → Prop) (U : State) (H : Heap) : Prop := va_O "java/lang/String" q A U H ∧ va_OF "java/lang/String" "coder" "B" (.int 0) q A U H ∧ va_OF "java/lang/String" "value" "[B" (.ref t) q A U H ∧ va_T .byte t w.length (fun j => .int (w.getD j 0)) A U H
def SV (aK aV : Nat → Nat) (A : Nat → Prop) (U : State) (H : Heap) : Prop :=
  (∀ i, i < nSt → ST (aK i) (aV i) (wrd.getD i []) A U H) ∧ (∀ x ∈ strK, vk_R x.1 x.2.1 x.2.2.1 (aK x.2.2.2) U) ∧ va_Z "java/lang/String" "COMPACT_STRINGS" "Z" (.int 1) A U H ∧ va_Zq "jdk/internal/util/Preconditions" "SIOOBE_FORMATTER" "Ljava/util/function/BiFunction;" A U H ∧ va_AO "java/lang/String" U
theorem SV.moved {aK aV : Nat → Nat} {A : Nat → Prop} {s U : State} {H : Heap} (hW : s.WarmedH U.vm) (h : SV aK aV A s H) : SV aK aV A U H :=
  ⟨fun i hi => by obtain ⟨a1, a2, a3, a4⟩ := h.1 i hi; exact ⟨a1.moved hW.alike, a2.moved hW.alike, a3.moved hW.alike, a4.moved hW.alike⟩, fun x hx => vk_R.warm hW (h.2.1 x hx), h.2.2.1.moved hW.alike, h.2.2.2.1.moved hW.alike, va_AO.moved hW.alike h.2.2.2.2⟩
theorem SV.kept {aK aV : Nat → Nat} {A : Nat → Prop} {U : State} {H H1 : Heap} (h : SV aK aV A U H) (hq : ∀ a : Nat, a < H.size → ¬ A a → H1[a]? = H[a]?) : SV aK aV A U H1 :=
  ⟨fun i hi => by obtain ⟨a1, a2, a3, a4⟩ := h.1 i hi; exact ⟨a1.kept hq, a2.kept hq, a3.kept hq, a4.kept hq⟩, h.2.1, h.2.2.1.kept hq, h.2.2.2.1.kept hq, h.2.2.2.2⟩
theorem SV.narrow {aK aV : Nat → Nat} {A B : Nat → Prop} {U : State} {H : Heap} (h : SV aK aV A U H) (hAB : ∀ q, B q → A q) : SV aK aV B U H :=
  ⟨fun i hi => by obtain ⟨a1, a2, a3, a4⟩ := h.1 i hi; exact ⟨a1.narrow hAB, a2.narrow hAB, a3.narrow hAB, a4.narrow hAB⟩, h.2.1, h.2.2.1.narrow hAB, h.2.2.2.1.narrow hAB, h.2.2.2.2⟩
/-- the whole context: what throws need, and the strings -/
def SC (l : Launch) (aK aV : Nat → Nat) : CXT := fun A U H => XV l A U H ∧ SV aK aV A U H
theorem SC.ok {l : Launch} {aK aV : Nat → Nat} : CxOk (SC l aK aV) := ⟨fun _ _ _ _ hW h => ⟨h.1.moved hW, h.2.moved hW⟩, fun _ _ _ _ h hq => ⟨h.1.kept hq, h.2.kept hq⟩, fun _ _ _ _ h hAB => ⟨h.1.narrow hAB, h.2.narrow hAB⟩⟩
theorem wrd_ok : ∀ i, i < nSt → (wrd.getD i []).length < 2 ^ 31 ∧ ∀ k, k < (wrd.getD i []).length → ((((wrd.getD i []).getD k 0) &&& 255).toUInt32 % 65536).toInt32 = (wrd.getD i []).getD k 0 ∧ narrow .char (.int ((wrd.getD i []).getD k 0)) = .int ((wrd.getD i []).getD k 0) := by decide +kernel
theorem mn_J0_coder_7d493 : MIn yJ0_coder_7d493 cJ0_coder_7d493 1 (some .byte) 0 := ⟨(List.mem_of_getElem? (i := 631) (by decide +kernel)), (List.mem_of_getElem? (i := 131) (by decide +kernel)), by decide +kernel, by decide +kernel, by decide +kernel⟩
theorem mv_J0_coder_7d493 : MIv yJ0_coder_7d493 := ⟨(List.mem_of_getElem? (i := 629) (by decide +kernel)), (List.mem_of_getElem? (i := 630) (by decide +kernel))⟩
theorem mn_J0_charAt_5068e : MIn yJ0_charAt_5068e cJ0_charAt_5068e 2 (some .char) 1 := ⟨(List.mem_of_getElem? (i := 637) (by decide +kernel)), (List.mem_of_getElem? (i := 131) (by decide +kernel)), by decide +kernel, by decide +kernel, by decide +kernel⟩
theorem mv_J0_charAt_5068e : MIv yJ0_charAt_5068e := ⟨(List.mem_of_getElem? (i := 635) (by decide +kernel)), (List.mem_of_getElem? (i := 636) (by decide +kernel))⟩
theorem mn_J1_charAt_3b067 : MIn yJ1_charAt_3b067 cJ1_charAt_3b067 2 (some .char) 2 := ⟨(List.mem_of_getElem? (i := 644) (by decide +kernel)), (List.mem_of_getElem? (i := 132) (by decide +kernel)), by decide +kernel, by decide +kernel, by decide +kernel⟩
theorem ms_J1_charAt_3b067 : MIs yJ1_charAt_3b067 := (List.mem_of_getElem? (i := 643) (by decide +kernel))
theorem dJ0_length_8abf5_0 : decode cJ0_length_8abf5 0 = .ok (.aload_n 0, 1) := by decide +kernel
theorem dJ0_length_8abf5_1 : decode cJ0_length_8abf5 1 = .ok (.getfield 9, 3) := by decide +kernel
theorem dJ0_length_8abf5_4 : decode cJ0_length_8abf5 4 = .ok (.arraylength, 1) := by decide +kernel
theorem dJ0_length_8abf5_5 : decode cJ0_length_8abf5 5 = .ok (.aload_n 0, 1) := by decide +kernel
theorem dJ0_length_8abf5_6 : decode cJ0_length_8abf5 6 = .ok (.invokevirtual 335, 3) := by decide +kernel
theorem dJ0_length_8abf5_9 : decode cJ0_length_8abf5 9 = .ok (.ishr, 1) := by decide +kernel
theorem dJ0_length_8abf5_10 : decode cJ0_length_8abf5 10 = .ok (.ireturn, 1) := by decide +kernel
theorem dJ0_charAt_5068e_0 : decode cJ0_charAt_5068e 0 = .ok (.aload_n 0, 1) := by decide +kernel
theorem dJ0_charAt_5068e_1 : decode cJ0_charAt_5068e 1 = .ok (.invokevirtual 492, 3) := by decide +kernel
theorem dJ0_charAt_5068e_4 : decode cJ0_charAt_5068e 4 = .ok (.ifCond .eq 12, 3) := by decide +kernel
theorem dJ0_charAt_5068e_7 : decode cJ0_charAt_5068e 7 = .ok (.aload_n 0, 1) := by decide +kernel
theorem dJ0_charAt_5068e_8 : decode cJ0_charAt_5068e 8 = .ok (.getfield 9, 3) := by decide +kernel
theorem dJ0_charAt_5068e_11 : decode cJ0_charAt_5068e 11 = .ok (.iload_n 1, 1) := by decide +kernel
theorem dJ0_charAt_5068e_12 : decode cJ0_charAt_5068e 12 = .ok (.invokestatic 495, 3) := by decide +kernel
theorem dJ0_charAt_5068e_15 : decode cJ0_charAt_5068e 15 = .ok (.ireturn, 1) := by decide +kernel
theorem dJ0_charAt_5068e_16 : decode cJ0_charAt_5068e 16 = .ok (.aload_n 0, 1) := by decide +kernel
theorem dJ0_charAt_5068e_17 : decode cJ0_charAt_5068e 17 = .ok (.getfield 9, 3) := by decide +kernel
theorem dJ0_charAt_5068e_20 : decode cJ0_charAt_5068e 20 = .ok (.iload_n 1, 1) := by decide +kernel
theorem dJ0_charAt_5068e_21 : decode cJ0_charAt_5068e 21 = .ok (.invokestatic 498, 3) := by decide +kernel
theorem dJ0_charAt_5068e_24 : decode cJ0_charAt_5068e 24 = .ok (.ireturn, 1) := by decide +kernel
theorem dJ0_coder_7d493_0 : decode cJ0_coder_7d493 0 = .ok (.getstatic 38, 3) := by decide +kernel
theorem dJ0_coder_7d493_3 : decode cJ0_coder_7d493 3 = .ok (.ifCond .eq 10, 3) := by decide +kernel
theorem dJ0_coder_7d493_6 : decode cJ0_coder_7d493 6 = .ok (.aload_n 0, 1) := by decide +kernel
theorem dJ0_coder_7d493_7 : decode cJ0_coder_7d493 7 = .ok (.getfield 15, 3) := by decide +kernel
theorem dJ0_coder_7d493_10 : decode cJ0_coder_7d493 10 = .ok (.goto 4, 3) := by decide +kernel
theorem dJ0_coder_7d493_13 : decode cJ0_coder_7d493 13 = .ok (.iconst 1, 1) := by decide +kernel
theorem dJ0_coder_7d493_14 : decode cJ0_coder_7d493 14 = .ok (.ireturn, 1) := by decide +kernel
theorem dJ0_isLatin1_aae02_0 : decode cJ0_isLatin1_aae02 0 = .ok (.getstatic 38, 3) := by decide +kernel
theorem dJ0_isLatin1_aae02_3 : decode cJ0_isLatin1_aae02 3 = .ok (.ifCond .eq 14, 3) := by decide +kernel
theorem dJ0_isLatin1_aae02_6 : decode cJ0_isLatin1_aae02 6 = .ok (.aload_n 0, 1) := by decide +kernel
theorem dJ0_isLatin1_aae02_7 : decode cJ0_isLatin1_aae02 7 = .ok (.getfield 15, 3) := by decide +kernel
theorem dJ0_isLatin1_aae02_10 : decode cJ0_isLatin1_aae02 10 = .ok (.ifCond .ne 7, 3) := by decide +kernel
theorem dJ0_isLatin1_aae02_13 : decode cJ0_isLatin1_aae02 13 = .ok (.iconst 1, 1) := by decide +kernel
theorem dJ0_isLatin1_aae02_14 : decode cJ0_isLatin1_aae02 14 = .ok (.goto 4, 3) := by decide +kernel
theorem dJ0_isLatin1_aae02_17 : decode cJ0_isLatin1_aae02 17 = .ok (.iconst 0, 1) := by decide +kernel
theorem dJ0_isLatin1_aae02_18 : decode cJ0_isLatin1_aae02 18 = .ok (.ireturn, 1) := by decide +kernel
theorem dJ0_checkIndex_df160_0 : decode cJ0_checkIndex_df160 0 = .ok (.iload_n 0, 1) := by decide +kernel
theorem dJ0_checkIndex_df160_1 : decode cJ0_checkIndex_df160 1 = .ok (.iload_n 1, 1) := by decide +kernel
theorem dJ0_checkIndex_df160_2 : decode cJ0_checkIndex_df160 2 = .ok (.getstatic 1053, 3) := by decide +kernel
theorem dJ0_checkIndex_df160_5 : decode cJ0_checkIndex_df160 5 = .ok (.invokestatic 1059, 3) := by decide +kernel
theorem dJ0_checkIndex_df160_8 : decode cJ0_checkIndex_df160 8 = .ok (.pop, 1) := by decide +kernel
theorem dJ0_checkIndex_df160_9 : decode cJ0_checkIndex_df160 9 = .ok (.return_, 1) := by decide +kernel
theorem dJ1_charAt_3b067_0 : decode cJ1_charAt_3b067 0 = .ok (.iload_n 1, 1) := by decide +kernel
theorem dJ1_charAt_3b067_1 : decode cJ1_charAt_3b067 1 = .ok (.aload_n 0, 1) := by decide +kernel
theorem dJ1_charAt_3b067_2 : decode cJ1_charAt_3b067 2 = .ok (.arraylength, 1) := by decide +kernel
theorem dJ1_charAt_3b067_3 : decode cJ1_charAt_3b067 3 = .ok (.invokestatic 9, 3) := by decide +kernel
theorem dJ1_charAt_3b067_6 : decode cJ1_charAt_3b067 6 = .ok (.aload_n 0, 1) := by decide +kernel
theorem dJ1_charAt_3b067_7 : decode cJ1_charAt_3b067 7 = .ok (.iload_n 1, 1) := by decide +kernel
theorem dJ1_charAt_3b067_8 : decode cJ1_charAt_3b067 8 = .ok (.baload, 1) := by decide +kernel
theorem dJ1_charAt_3b067_9 : decode cJ1_charAt_3b067 9 = .ok (.sipush 255, 3) := by decide +kernel
theorem dJ1_charAt_3b067_12 : decode cJ1_charAt_3b067 12 = .ok (.iand, 1) := by decide +kernel
theorem dJ1_charAt_3b067_13 : decode cJ1_charAt_3b067 13 = .ok (.i2c, 1) := by decide +kernel
theorem dJ1_charAt_3b067_14 : decode cJ1_charAt_3b067 14 = .ok (.ireturn, 1) := by decide +kernel
theorem dJ3_checkIndex_8e157_0 : decode cJ3_checkIndex_8e157 0 = .ok (.iload_n 0, 1) := by decide +kernel
theorem dJ3_checkIndex_8e157_1 : decode cJ3_checkIndex_8e157 1 = .ok (.ifCond .lt 8, 3) := by decide +kernel
theorem dJ3_checkIndex_8e157_4 : decode cJ3_checkIndex_8e157 4 = .ok (.iload_n 0, 1) := by decide +kernel
theorem dJ3_checkIndex_8e157_5 : decode cJ3_checkIndex_8e157 5 = .ok (.iload_n 1, 1) := by decide +kernel
theorem dJ3_checkIndex_8e157_6 : decode cJ3_checkIndex_8e157 6 = .ok (.if_icmp .lt 10, 3) := by decide +kernel
theorem dJ3_checkIndex_8e157_9 : decode cJ3_checkIndex_8e157 9 = .ok (.aload_n 2, 1) := by decide +kernel
theorem dJ3_checkIndex_8e157_10 : decode cJ3_checkIndex_8e157 10 = .ok (.iload_n 0, 1) := by decide +kernel
theorem dJ3_checkIndex_8e157_11 : decode cJ3_checkIndex_8e157 11 = .ok (.iload_n 1, 1) := by decide +kernel
theorem dJ3_checkIndex_8e157_12 : decode cJ3_checkIndex_8e157 12 = .ok (.invokestatic 95, 3) := by decide +kernel
theorem dJ3_checkIndex_8e157_15 : decode cJ3_checkIndex_8e157 15 = .ok (.athrow, 1) := by decide +kernel
theorem dJ3_checkIndex_8e157_16 : decode cJ3_checkIndex_8e157 16 = .ok (.iload_n 0, 1) := by decide +kernel
theorem dJ3_checkIndex_8e157_17 : decode cJ3_checkIndex_8e157 17 = .ok (.ireturn, 1) := by decide +kernel
def PJ (r : Option Value) : va_W → Option Value → Prop := fun ws r' => ws = [] ∧ r' = r
section JDK
variable {l : Launch} {D : va_G} {cA : Nat → ClassId} {aK aV : Nat → Nat}
abbrev MJ (l : Launch) (D : va_G) (cA : Nat → ClassId) (aK aV : Nat → Nat) (y : MethodName) (b : ByteArray) (nl : Nat) (ret : Option FieldType) (k : Nat) (args : List Value) (r : Option Value) : Prop := MY l D cA (SC l aK aV) y b nl ret k 0 0 args [] (PJ r) (fun _ _ => False)
theorem zy_ret {l : Launch} {D : va_G} {cA : Nat → ClassId} {own : String} {cc : ByteArray} {nl k : Nat} {ret : Option FieldType} {x : Int32} {Z : ZT} {L : List (Option Value)} {pc : Nat} (hZ : ZR l D cA own cc nl k 0 0 (fun u w ws r => u ≤ 0 ∧ w ≤ 0 ∧ FitR ret r ∧ (r = none ↔ ret = none) ∧ PJ (some (.int x)) ws r) NoX Z) (d : decode cc pc = .ok (.ireturn, 1)) (hF : FitR ret (some (.int x))) : Z 0 0 [] L [.int x] pc :=
  z_ireturn hZ d ⟨Nat.le_refl _, Nat.le_refl _, hF, ⟨fun h => (by cases h), fun h => (by obtain ⟨ty, h1, -⟩ := hF x rfl; rw [h] at h1; cases h1)⟩, rfl, rfl⟩
theorem zy_call {own : String} {cc : ByteArray} {nl k : Nat} {E : Nat → Nat → va_W → Option Value → Prop} {XPost : String → va_W → Prop} {Z : ZT} {u w pc mc ms : Nat} {W : va_W} {L : List (Option Value)} {st st0 : List Value} (hY : ZY l D cA (SC l aK aV) own cc nl k mc ms E XPost Z) {idx nl' k' n : Nat} {y : MethodName} {b : ByteArray} {ret : Option FieldType} {As : List Value} {x : Int32} (d : decode cc pc = .ok (.invokestatic idx, 3)) (hl : LK own idx y) (hm : MIn y b nl' ret n) (hv : MIs y) (hM : MJ l D cA aK aV y b nl' ret k' As (some (.int x))) (hn : As.length = n) (hst : st0 = As.reverse ++ st) (h8 : (st.map fun v => v.category).sum ≤ 8) (hk : k' + 1 ≤ k) (hnl : nl' ≤ 21) (hmc : u ≤ mc) (hms : w ≤ ms)
    (kk : Z u w W L (.int x :: st) (pc + 3)) : Z u w W L st0 pc := by
  have h := z_callSY hY SC.ok SC.ok (fun _ _ _ h => h) (w1 := W) (wc := []) (w2 := []) (u := u) (w := w) (L := L) d hl hm hv hM hn hst h8 hk hnl hmc hms (fun _ _ h => h.elim) (fun r ws' h => by
    obtain ⟨rfl, rfl⟩ := h
    rw [List.nil_append, List.append_nil]
    exact kk)
  rwa [List.nil_append, List.append_nil] at h
theorem zy_callV {own : String} {cc : ByteArray} {nl k : Nat} {E : Nat → Nat → va_W → Option Value → Prop} {XPost : String → va_W → Prop} {Z : ZT} {u w pc mc ms : Nat} {W : va_W} {L : List (Option Value)} {st st0 : List Value} (hY : ZY l D cA (SC l aK aV) own cc nl k mc ms E XPost Z) {idx nl' k' n a : Nat} {y : MethodName} {b : ByteArray} {ret : Option FieldType} {As : List Value} {x : Int32} (d : decode cc pc = .ok (.invokevirtual idx, 3)) (hl : LK own idx y) (hm : MIn y b nl' ret n) (hv : MIv y) (hM : MJ l D cA aK aV y b nl' ret k' (.ref a :: As) (some (.int x))) (hr : ∀ (A : Nat → Prop) (U : State) (H : Heap), SC l aK aV A U H → va_O y.cls a A U H) (hn : As.length = n) (hst : st0 = As.reverse ++ .ref a :: st) (h8 : (st.map fun v => v.category).sum ≤ 8) (hk : k' + 1 ≤ k) (hnl : nl' ≤ 21) (hmc : u ≤ mc) (hms : w ≤ ms)
    (kk : Z u w W L (.int x :: st) (pc + 3)) : Z u w W L st0 pc := by
  have h := z_callVY hY SC.ok SC.ok (fun _ _ _ h => h) (w1 := W) (wc := []) (w2 := []) (u := u) (w := w) (L := L) d hl hm hv hM (Or.inr hr) hn hst h8 hk hnl hmc hms (fun _ _ h => h.elim) (fun r ws' h => by
    obtain ⟨rfl, rfl⟩ := h
    rw [List.nil_append, List.append_nil]
    exact kk)
  rwa [List.nil_append, List.append_nil] at h
variable {i : Nat}
theorem sO (hi : i < nSt) : ∀ (A : Nat → Prop) (U : State) (H : Heap), SC l aK aV A U H → va_O "java/lang/String" (aK i) A U H := fun _ _ _ h => (h.2.1 i hi).1
theorem sC0 (hi : i < nSt) : ∀ (A : Nat → Prop) (U : State) (H : Heap), SC l aK aV A U H → va_OF "java/lang/String" "coder" "B" (.int 0) (aK i) A U H := fun _ _ _ h => (h.2.1 i hi).2.1
theorem sVal (hi : i < nSt) : ∀ (A : Nat → Prop) (U : State) (H : Heap), SC l aK aV A U H → va_OF "java/lang/String" "value" "[B" (.ref (aV i)) (aK i) A U H := fun _ _ _ h => (h.2.1 i hi).2.2.1
theorem sTb (hi : i < nSt) : ∀ (A : Nat → Prop) (U : State) (H : Heap), SC l aK aV A U H → va_T .byte (aV i) (wrd.getD i []).length (fun j => .int ((wrd.getD i []).getD j 0)) A U H := fun _ _ _ h => (h.2.1 i hi).2.2.2
theorem c_J0_coder (hi : i < nSt) : MJ l D cA aK aV yJ0_coder_7d493 cJ0_coder_7d493 1 (some .byte) 0 [.ref (aK i)] (some (.int 0)) := by
  refine MY.of (by decide) rfl (Nat.le_of_ble_eq_true rfl) (by simp [Value.category]) (fun Z hY => ?_)
  have hZ := hY.toZR
  refine z_gets hY (pc := 0) (fun _ _ _ h => h.2.2.2.1) (List.mem_of_getElem? (i := 632) (by decide +kernel)) dJ0_coder_7d493_0 ?_
  refine z_if_eq hZ (pc := 3) (tgt := 13) dJ0_coder_7d493_3 rfl (fun h => absurd h (by decide)) (fun _ => ?_)
  refine z_aload_n hZ (pc := 6) dJ0_coder_7d493_6 rfl ?_
  refine z_oldf hY (pc := 7) (sC0 hi) (List.mem_of_getElem? (i := 1719) (by decide +kernel)) dJ0_coder_7d493_7 ?_
  refine z_goto hZ (pc := 10) (tgt := 14) dJ0_coder_7d493_10 rfl ?_
  exact zy_ret hZ (pc := 14) dJ0_coder_7d493_14 (fun _ h => by cases h; exact ⟨.byte, rfl, by decide⟩)
theorem c_J0_isLatin1 (hi : i < nSt) : MJ l D cA aK aV yJ0_isLatin1_aae02 cJ0_isLatin1_aae02 1 (some .boolean) 0 [.ref (aK i)] (some (.int 1)) := by
  refine MY.of (by decide) rfl (Nat.le_of_ble_eq_true rfl) (by simp [Value.category]) (fun Z hY => ?_)
  have hZ := hY.toZR
  refine z_gets hY (pc := 0) (fun _ _ _ h => h.2.2.2.1) (List.mem_of_getElem? (i := 632) (by decide +kernel)) dJ0_isLatin1_aae02_0 ?_
  refine z_if_eq hZ (pc := 3) (tgt := 17) dJ0_isLatin1_aae02_3 rfl (fun h => absurd h (by decide)) (fun _ => ?_)
  refine z_aload_n hZ (pc := 6) dJ0_isLatin1_aae02_6 rfl ?_
  refine z_oldf hY (pc := 7) (sC0 hi) (List.mem_of_getElem? (i := 1719) (by decide +kernel)) dJ0_isLatin1_aae02_7 ?_
  refine z_if_ne hZ (pc := 10) (tgt := 17) dJ0_isLatin1_aae02_10 rfl (fun h => absurd rfl h) (fun _ => ?_)
  refine z_iconst hZ (pc := 13) (v := 1) dJ0_isLatin1_aae02_13 (by decide) ?_
  refine z_goto hZ (pc := 14) (tgt := 18) dJ0_isLatin1_aae02_14 rfl ?_
  exact zy_ret hZ (pc := 18) dJ0_isLatin1_aae02_18 FitR.b1
theorem c_J0_length (hi : i < nSt) : MJ l D cA aK aV yJ0_length_8abf5 cJ0_length_8abf5 1 (some .int) 1 [.ref (aK i)] (some (.int (nI (wrd.getD i []).length))) := by
  refine MY.of (by decide) rfl (Nat.le_of_ble_eq_true rfl) (by simp [Value.category]) (fun Z hY => ?_)
  have hZ := hY.toZR
  refine z_aload_n hZ (pc := 0) dJ0_length_8abf5_0 rfl ?_
  refine z_oldf hY (pc := 1) (sVal hi) (List.mem_of_getElem? (i := 1718) (by decide +kernel)) dJ0_length_8abf5_1 ?_
  refine z_oldn hY (pc := 4) (sTb hi) dJ0_length_8abf5_4 ?_
  refine z_aload_n hZ (pc := 5) dJ0_length_8abf5_5 rfl ?_
  refine zy_callV hY (pc := 6) dJ0_length_8abf5_6 (Or.inl (List.mem_of_getElem? (i := 628) (by decide +kernel))) mn_J0_coder_7d493 mv_J0_coder_7d493 (c_J0_coder hi) (sO hi) rfl rfl (Nat.le_of_ble_eq_true rfl) (by decide) (by decide) (by decide) (by decide) ?_
  refine z_ishr hZ (pc := 9) dJ0_length_8abf5_9 ?_
  refine z_top (y := nI (wrd.getD i []).length) (by rw [show ((0 : Int32) &&& 31) = 0 from by decide]; exact i32_shr0 _) ?_
  exact zy_ret hZ (pc := 10) dJ0_length_8abf5_10 FitR.int
theorem c_J3_checkIndex {x y : Int32} {t : Value} (ht : t.category = 1) (h1 : ¬ x < 0) (h2 : x < y) : MJ l D cA aK aV yJ3_checkIndex_8e157 cJ3_checkIndex_8e157 3 (some .int) 0 [.int x, .int y, t] (some (.int x)) := by
  refine MY.of (by decide) rfl (Nat.le_of_ble_eq_true rfl) (fun w hw => by
    simp only [List.mem_cons, List.not_mem_nil, or_false] at hw
    rcases hw with h | h | h
    · rw [h]; rfl
    · rw [h]; rfl
    · rw [h]; exact ht) (fun Z hY => ?_)
  have hZ := hY.toZR
  refine z_iload_n hZ (pc := 0) dJ3_checkIndex_8e157_0 rfl ?_
  refine z_if_lt hZ (pc := 1) (tgt := 9) dJ3_checkIndex_8e157_1 rfl (fun h => absurd h h1) (fun _ => ?_)
  refine z_iload_n hZ (pc := 4) dJ3_checkIndex_8e157_4 rfl ?_
  refine z_iload_n hZ (pc := 5) dJ3_checkIndex_8e157_5 rfl ?_
  refine z_icmp_lt hZ (pc := 6) (tgt := 16) dJ3_checkIndex_8e157_6 rfl (fun _ => ?_) (fun h => absurd h2 h)
  refine z_iload_n hZ (pc := 16) dJ3_checkIndex_8e157_16 rfl ?_
  exact zy_ret hZ (pc := 17) dJ3_checkIndex_8e157_17 FitR.int
theorem c_J0_checkIndex {x y : Int32} (h1 : ¬ x < 0) (h2 : x < y) : MJ l D cA aK aV yJ0_checkIndex_df160 cJ0_checkIndex_df160 2 none 1 [.int x, .int y] none := by
  refine MY.of (by decide) rfl (Nat.le_of_ble_eq_true rfl) (by simp [Value.category]) (fun Z hY => ?_)
  have hZ := hY.toZR
  refine z_iload_n hZ (pc := 0) dJ0_checkIndex_df160_0 rfl ?_
  refine z_iload_n hZ (pc := 1) dJ0_checkIndex_df160_1 rfl ?_
  refine z_getsQ hY (pc := 2) (fun _ _ _ h => h.2.2.2.2.1) (List.mem_of_getElem? (i := 648) (by decide +kernel)) dJ0_checkIndex_df160_2 (fun t ht => ?_)
  refine zy_call hY (pc := 5) (As := [.int x, .int y, t]) dJ0_checkIndex_df160_5 (Or.inl (List.mem_of_getElem? (i := 650) (by decide +kernel))) mn_J3_checkIndex_8e157 ms_J3_checkIndex_8e157 (c_J3_checkIndex ht h1 h2) rfl rfl (Nat.le_of_ble_eq_true rfl) (by decide) (by decide) (by decide) (by decide) ?_
  refine z_pop hZ (pc := 8) dJ0_checkIndex_df160_8 rfl ?_
  exact z_return hZ (pc := 9) dJ0_checkIndex_df160_9 ⟨Nat.le_refl _, Nat.le_refl _, FitR.none, ⟨fun _ => rfl, fun _ => rfl⟩, rfl, rfl⟩
theorem c_J1_charAt (hi : i < nSt) {k : Nat} (hk : k < (wrd.getD i []).length) : MJ l D cA aK aV yJ1_charAt_3b067 cJ1_charAt_3b067 2 (some .char) 2 [.ref (aV i), .int (nI k)] (some (.int ((wrd.getD i []).getD k 0))) := by
  obtain ⟨hn, hw⟩ := wrd_ok i hi
  obtain ⟨hw1, hw2⟩ := hw k hk
  refine MY.of (by decide) rfl (Nat.le_of_ble_eq_true rfl) (by simp [Value.category]) (fun Z hY => ?_)
  have hZ := hY.toZR
  refine z_iload_n hZ (pc := 0) dJ1_charAt_3b067_0 rfl ?_
  refine z_aload_n hZ (pc := 1) dJ1_charAt_3b067_1 rfl ?_
  refine z_oldn hY (pc := 2) (sTb hi) dJ1_charAt_3b067_2 ?_
  have h := z_callSY hY SC.ok SC.ok (fun _ _ _ h => h) (w1 := []) (wc := []) (w2 := []) (u := 0) (w := 0) (L := [some (.ref (aV i)), some (.int (nI k))]) (pc := 3) (st := []) (As := [.int (nI k), .int (nI (wrd.getD i []).length)]) dJ1_charAt_3b067_3 (Or.inl (List.mem_of_getElem? (i := 645) (by decide +kernel))) mn_J0_checkIndex_df160 ms_J0_checkIndex_df160 (c_J0_checkIndex (nI_pos (by omega)) (nI_lt hk hn)) rfl rfl (Nat.le_of_ble_eq_true rfl) (by decide) (by decide) (by decide) (by decide) (fun _ _ h => h.elim) (fun r ws' h => by
    obtain ⟨rfl, rfl⟩ := h
    refine z_aload_n hZ (pc := 6) dJ1_charAt_3b067_6 rfl ?_
    refine z_iload_n hZ (pc := 7) dJ1_charAt_3b067_7 rfl ?_
    refine z_oldb hY (pc := 8) (sTb hi) hk hn dJ1_charAt_3b067_8 ?_
    refine z_sipush hZ (pc := 9) (v := 255) dJ1_charAt_3b067_9 (by decide) ?_
    refine z_iand hZ (pc := 12) dJ1_charAt_3b067_12 ?_
    refine z_i2c hZ (pc := 13) dJ1_charAt_3b067_13 hw1 ?_
    exact zy_ret hZ (pc := 14) dJ1_charAt_3b067_14 (fun _ h => by cases h; exact ⟨.char, rfl, hw2⟩))
  exact h
theorem c_J0_charAt (hi : i < nSt) {k : Nat} (hk : k < (wrd.getD i []).length) : MJ l D cA aK aV yJ0_charAt_5068e cJ0_charAt_5068e 2 (some .char) 3 [.ref (aK i), .int (nI k)] (some (.int ((wrd.getD i []).getD k 0))) := by
  obtain ⟨hn, hw⟩ := wrd_ok i hi
  obtain ⟨hw1, hw2⟩ := hw k hk
  refine MY.of (by decide) rfl (Nat.le_of_ble_eq_true rfl) (by simp [Value.category]) (fun Z hY => ?_)
  have hZ := hY.toZR
  refine z_aload_n hZ (pc := 0) dJ0_charAt_5068e_0 rfl ?_
  refine zy_callV hY (pc := 1) (As := []) dJ0_charAt_5068e_1 (Or.inl (List.mem_of_getElem? (i := 638) (by decide +kernel))) mn_J0_isLatin1_aae02 mv_J0_isLatin1_aae02 (c_J0_isLatin1 hi) (sO hi) rfl rfl (Nat.le_of_ble_eq_true rfl) (by decide) (by decide) (by decide) (by decide) ?_
  refine z_if_eq hZ (pc := 4) (tgt := 16) dJ0_charAt_5068e_4 rfl (fun h => absurd h (by decide)) (fun _ => ?_)
  refine z_aload_n hZ (pc := 7) dJ0_charAt_5068e_7 rfl ?_
  refine z_oldf hY (pc := 8) (sVal hi) (List.mem_of_getElem? (i := 1718) (by decide +kernel)) dJ0_charAt_5068e_8 ?_
  refine z_iload_n hZ (pc := 11) dJ0_charAt_5068e_11 rfl ?_
  refine zy_call hY (pc := 12) (As := [.ref (aV i), .int (nI k)]) dJ0_charAt_5068e_12 (Or.inl (List.mem_of_getElem? (i := 642) (by decide +kernel))) mn_J1_charAt_3b067 ms_J1_charAt_3b067 (c_J1_charAt hi hk) rfl rfl (Nat.le_of_ble_eq_true rfl) (by decide) (by decide) (by decide) (by decide) ?_
  exact zy_ret hZ (pc := 15) dJ0_charAt_5068e_15 (fun _ h => by cases h; exact ⟨.char, rfl, hw2⟩)
end JDK
/-- contracts over the class's or the reference's world, with strings -/
def MGY (l : Launch) (D : va_G) (cA : Nat → ClassId) (aK aV : Nat → Nat) (Wf : ZV → ZG → va_W) (y : MethodName) (b : ByteArray) (nl : Nat) (ret : Option FieldType) (k : Nat) (args : List Value) (v : ZV) (g : ZG) (P : ZV → ZG → Option Value → Prop) : Prop :=
  MY l D cA (SC l aK aV) y b nl ret k 0 0 args (Wf v g) (fun ws r => ∃ v' g', ws = Wf v' g' ∧ P v' g' r) (fun _ _ => False)
theorem MGY.of {l : Launch} {D : va_G} {cA : Nat → ClassId} {aK aV : Nat → Nat} {Wf : ZV → ZG → va_W} {y : MethodName} {b : ByteArray} {nl k : Nat} {ret : Option FieldType} {args : List Value} {v : ZV} {g : ZG} {P : ZV → ZG → Option Value → Prop} {L0 : List (Option Value)} (hy : plainName y.cls = true) (hL : args.map some ++ List.replicate (nl - args.length) none = L0) (hnl : args.length ≤ nl) (hcat : ∀ v ∈ args, v.category = 1)
    (body : ∀ Z, ZY l D cA (SC l aK aV) y.cls b nl k 0 0 (EG Wf ret P 0 0) (fun _ _ => False) Z → Z 0 0 (Wf v g) L0 [] 0) : MGY l D cA aK aV Wf y b nl ret k args v g P := MY.of hy hL hnl hcat body
section ZYcalls
variable {l : Launch} {D : va_G} {cA : Nat → ClassId} {aK aV : Nat → Nat} {own : String} {cc : ByteArray} {nl k mc ms : Nat} {E : Nat → Nat → va_W → Option Value → Prop} {XPost : String → va_W → Prop} {Z : ZT}
variable {u w pc : Nat} {L : List (Option Value)} {st st0 : List Value} {Wf : ZV → ZG → va_W} {v V : ZV} {g G : ZG} {ret : Option FieldType} {P : ZV → ZG → Option Value → Prop}
variable {idx a nl' k' n : Nat} {y : MethodName} {b : ByteArray} {As : List Value}
theorem cVY (hY : ZY l D cA (SC l aK aV) own cc nl k mc ms E XPost Z) (d : decode cc pc = .ok (.invokevirtual idx, 3)) (hl : LK own idx y) (hm : MIn y b nl' ret n) (hv : MIv y) (hM : MGY l D cA aK aV Wf y b nl' ret k' (.ref a :: As) v g P) (hr : Rcv (Wf v g) a y.cls) (hn : As.length = n) (hst : st0 = As.reverse ++ .ref a :: st) (h8 : (st.map fun v => v.category).sum ≤ 8) (hk : k' + 1 ≤ k) (hnl : nl' ≤ 21) (hmc : u ≤ mc) (hms : w ≤ ms)
    (kk : ∀ (v' : ZV) (g' : ZG) (r : Option Value), P v' g' r → Z u w (Wf v' g') L (r.toList ++ st) (pc + 3)) : Z u w (Wf v g) L st0 pc := by
  have h := z_callVY hY SC.ok SC.ok (fun _ _ _ h => h) (w1 := []) (w2 := []) (wc := Wf v g) (u := u) (w := w) (L := L) d hl hm hv hM (Or.inl hr) hn hst h8 hk hnl hmc hms (fun _ _ h => h.elim) (fun r ws' h => by
    obtain ⟨v', g', rfl, hp⟩ := h
    rw [List.nil_append, List.append_nil]
    exact kk v' g' r hp)
  rwa [List.nil_append, List.append_nil] at h
end ZYcalls
