/-! the law's judgement: calls that return, in a context -/
theorem Met.ofVX {l : Launch} {y : MethodName} {ws : List Cond} {rm : Room} {Pc : Array Value → State → Prop} {Qc : Array Value → State → Outcome → State → Prop} {XC : String → State → State → Prop} {mc ms : Nat} {free : Addr → Prop} (h : vx_Met l y ws rm Pc Qc XC mc ms free) (hx : ∀ (E : String) (st t : State), ¬ XC E st t) : Met l y ws rm Pc Qc mc ms free := fun p e ha hc hk s m args below hf happ hP hK => by
  obtain ⟨n, o, h1, h2, h3, h4⟩ := h p e ha hc hk s m args below hf happ hP hK
  refine ⟨n, o, h1, h2, h3, ?_⟩
  rcases h4 with h4 | ⟨q, -, E, ce, L, h5, -⟩
  · exact h4
  · exact absurd h5 (hx E _ _)
def MB (l : Launch) (D : va_G) (cA : Nat → ClassId) (Cx : CXT) (y : MethodName) (cd : Cond) (k mc ms : Nat) (args : List Value) (wc : va_W) (Post : va_W → Option Value → Prop) : Prop :=
  ∀ sz : Nat, Met l y [cd] (RM k mc ms) (va_Pc args (fun U => U.heap.size = sz ∧ va_P D vwCl wc U.heap ∧ va_D (fun _ => True) wc ∧ EV U ∧ va_K D vwCl (tyK cA) U ∧ Cx (va_A wc sz) U U.heap)) (QM D wc Post sz) mc ms (va_A wc sz)
theorem MY.toMB {l : Launch} {D : va_G} {cA : Nat → ClassId} {Cx : CXT} {y : MethodName} {b : ByteArray} {nl k mc ms : Nat} {ret : Option FieldType} {args : List Value} {wc : va_W} {Post : va_W → Option Value → Prop} {XPost : String → va_W → Prop} (h : MY l D cA Cx y b nl ret k mc ms args wc Post XPost) (hx : ∀ En ws, ¬ XPost En ws) : MB l D cA Cx y (.code y b nl ret) k mc ms args wc Post := fun sz => Met.ofVX (h sz) (fun E st t g => by obtain ⟨⟨ws', g1, -⟩, -⟩ := g; exact hx E ws' g1)
theorem ME.toMB {l : Launch} {D : va_G} {cA : Nat → ClassId} {Cx : CXT} {y : MethodName} {b : ByteArray} {nl k mc ms : Nat} {ret : Option FieldType} {hh : List (Nat × Nat × Nat × Nat)} {args : List Value} {wc : va_W} {Post : va_W → Option Value → Prop} (h : ME l D cA Cx y b nl ret hh k mc ms args wc Post) : MB l D cA Cx y (.codeWith y b nl ret hh) k mc ms args wc Post := fun sz => Met.ofVX (h sz) (fun E st t g => by obtain ⟨⟨ws', g1, -⟩, -⟩ := g; exact g1)
def ZW (l : Launch) (D : va_G) (cA : Nat → ClassId) (Cx : CXT) (own : String) (cc : ByteArray) (nl k mc ms : Nat) (E : Nat → Nat → va_W → Option Value → Prop) (Z : ZT) : Prop :=
  ∃ (p : Program) (e : Env) (s : State) (m : MethodId) (args : Array Value) (below : List Frame) (meth : Method) (c : Code) (A : Nat → Prop) (Q : State → Prop) (wc : va_W),
    (p.tables.exec = Jvm.exec ∧ c.code = cc ∧ c.maxLocals = nl ∧ s.vm.findClass own = some m.cls ∧ EV s ∧ va_K D vwCl (tyK cA) s ∧ (∀ q, s.heap.size ≤ q → A q)) ∧
    (∀ (u w : Nat) (ws : va_W) (x : Int32) (H : Heap) (locs : List Loc) (ls : Array Slot) (pc : Nat), decode cc pc = .ok (.ireturn, 1) → E u w ws (some (.int x)) → va_P D vwCl ws H → va_D A ws → va_S A s.heap H locs → W p l e (RM k mc ms) s m args below meth c H locs u w Q (F0 m pc ls [.int x])) ∧
    (∀ (u w : Nat) (ws : va_W) (H : Heap) (locs : List Loc) (ls : Array Slot) (pc : Nat), decode cc pc = .ok (.return_, 1) → E u w ws none → va_P D vwCl ws H → va_D A ws → va_S A s.heap H locs → W p l e (RM k mc ms) s m args below meth c H locs u w Q (F0 m pc ls [])) ∧
    (Cx A s s.heap ∧ A = va_A wc s.heap.size) ∧
    Z = fun u w ws L st pc => ∀ (H : Heap) (locs : List Loc) (ls : Array Slot), va_P D vwCl ws H → va_D A ws → va_S A s.heap H locs → lv_has ls nl (zl 0 L) → W p l e (RM k mc ms) s m args below meth c H locs u w Q (F0 m pc ls st)
section ZWs
variable {l : Launch} {D : va_G} {cA : Nat → ClassId} {Cx : CXT} {own : String} {cc : ByteArray} {nl k mc ms : Nat} {E : Nat → Nat → va_W → Option Value → Prop} {Z : ZT}
variable {u w pc : Nat} {ws : va_W} {L : List (Option Value)} {st : List Value}
theorem ZW.toZR (h : ZW l D cA Cx own cc nl k mc ms E Z) : ZR l D cA own cc nl k mc ms E NoX Z := by
  obtain ⟨p, e, s, m, args, below, meth, c, A, Q, wc, h1, h2, h3, h4, h5⟩ := h
  exact ⟨p, e, s, m, args, below, meth, c, A, Q, h1, h2, h3, fun _ _ _ _ _ _ _ _ _ _ _ hx => hx.elim, h5⟩
theorem MB.blind {D : va_G} {cA : Nat → ClassId} {Cx : CXT} (ok : CxOk Cx) {args : List Value} {wc : va_W} {sz : Nat} : FrameBlind (va_Pc args (fun U => U.heap.size = sz ∧ va_P D vwCl wc U.heap ∧ va_D (fun _ => True) wc ∧ EV U ∧ va_K D vwCl (tyK cA) U ∧ Cx (va_A wc sz) U U.heap)) := MY.blind ok
/-- the script, an old array -/
theorem z_scr (hW : ZW l D cA Cx own cc nl k mc ms E Z) {b n : Nat} {f : Nat → Int32} {i : Int32} (hf : ∀ (A : Nat → Prop) (U : State) (H : Heap), Cx A U H → va_X b n f U H ∧ ¬ A b ∧ b < H.size) (d : decode cc pc = .ok (.iaload, 1)) (hi : vp_in i n) (kk : Z u w ws L (.int (f i.toNatClampNeg) :: st) (pc + 1)) : Z u w ws L (.int i :: .ref b :: st) pc := by
  obtain ⟨p, e, s, m, args, below, meth, c, A, Q, wc0, ⟨hx, hb, hnl0, hown, hev, hK, hA⟩, h2, h3, ⟨hxv, rfl⟩, rfl⟩ := hW
  intro H locs ls hP hD hS hl
  obtain ⟨g1, g2, g3⟩ := hf _ _ _ hxv
  exact va_sld hx hb g1 g3 g2 hS hi d (kk H locs ls hP hD hS hl)
theorem z_scrn (hW : ZW l D cA Cx own cc nl k mc ms E Z) {b n : Nat} {f : Nat → Int32} (hf : ∀ (A : Nat → Prop) (U : State) (H : Heap), Cx A U H → va_X b n f U H ∧ ¬ A b ∧ b < H.size) (d : decode cc pc = .ok (.arraylength, 1)) (kk : Z u w ws L (.int (nI n) :: st) (pc + 1)) : Z u w ws L (.ref b :: st) pc := by
  obtain ⟨p, e, s, m, args, below, meth, c, A, Q, wc0, ⟨hx, hb, hnl0, hown, hev, hK, hA⟩, h2, h3, ⟨hxv, rfl⟩, rfl⟩ := hW
  intro H locs ls hP hD hS hl
  obtain ⟨g1, g2, g3⟩ := hf _ _ _ hxv
  exact va_slen hx hb g1 g3 g2 hS d (kk H locs ls hP hD hS hl)
theorem z_callBV (hW : ZW l D cA Cx own cc nl k mc ms E Z) {Cx' : CXT} (ok : CxOk Cx) (ok' : CxOk Cx') (hcx : ∀ (A : Nat → Prop) (U : State) (H : Heap), Cx A U H → Cx' A U H) {idx a nl' k' mc' ms' n : Nat} {y : MethodName} {b : ByteArray} {ret : Option FieldType} {As : List Value} {w1 wc w2 : va_W} {Post : va_W → Option Value → Prop} {st0 : List Value} (d : decode cc pc = .ok (.invokevirtual idx, 3)) (hl : LK own idx y) (hm : MIn y b nl' ret n) (hv : MIv y) (hM : MB l D cA Cx' y (.code y b nl' ret) k' mc' ms' (.ref a :: As) wc Post) (hr : Rcv wc a y.cls) (hn : As.length = n) (hst : st0 = As.reverse ++ .ref a :: st) (h8 : (st.map fun v => v.category).sum ≤ 8) (hk : k' + 1 ≤ k) (hnl : nl' ≤ 21) (hmc : u + mc' ≤ mc) (hms : w + ms' ≤ ms)
    (kk : ∀ (r : Option Value) (ws' : va_W), Post ws' r → Z (u + mc') (w + ms') (w1 ++ (ws' ++ w2)) L (r.toList ++ st) (pc + 3)) : Z u w (w1 ++ (wc ++ w2)) L st0 pc := by
  obtain ⟨p, e, s, m, args, below, meth, c, A, Q, wc0, ⟨hx, hb, hnl0, hown, hev, hK, hA⟩, h2, h3, ⟨hxv, rfl⟩, rfl⟩ := hW
  intro H locs ls hP hD hS hll
  obtain ⟨m1, m2, m3, m4, m5⟩ := hm
  have hts : ∀ w ∈ [Cond.code y b nl' ret], w.before args s = true := fun w hw => by rw [List.mem_singleton.mp hw]; exact hev.use m1 rfl args
  have hG : GoodIn [Cond.code y b nl' ret] [Cond.code y b nl' ret] := fun w hw => ⟨hw, by rw [List.mem_singleton.mp hw]; exact good_of_word rfl⟩
  have hR : (RM k' mc' ms').frames + 1 ≤ (RM k mc ms).frames ∧ 8 + (nl' + 11) + (RM k' mc' ms').locals ≤ (RM k mc ms).locals := ⟨hk, by simp only [RM]; omega⟩
  have hS2 : CallFix p m c cc nl s args [Cond.code y b nl' ret] own := ⟨hx, hb, hnl0, hown, hts⟩
  have hPc := z_subP hP
  have hfr := z_sub hD hS hA
  have hxv0 : Cx (va_A wc0 s.heap.size) s H := ok.kept hxv (fun q h1 h2 => hS.2.1 q h1 h2)
  have hxv1 : Cx' (va_A wc H.size) s H := hcx _ _ _ (ok.narrow hxv0 hfr)
  have hrc : ∃ cell : Cell, H[a]? = some cell ∧ cell.vm.isStatics = false ∧ s.vm.findClass y.cls = some cell.cls := by
    obtain ⟨q0, ci, N, T, fs, r1, r2⟩ := hr
    exact va_recv hK hPc r2 r1
  have hpre : PreV s H y.cls a (va_Pc (.ref a :: As) (fun U => U.heap.size = H.size ∧ va_P D vwCl wc U.heap ∧ va_D (fun _ => True) wc ∧ EV U ∧ va_K D vwCl (tyK cA) U ∧ Cx' (va_A wc H.size) U U.heap)) As := ⟨MB.blind ok', hrc, fun U hU hW => ⟨rfl, by rw [hU], by rw [hU]; exact hPc, z_subD hD, EV.moved hW hev, va_K.moved hW.alike hK, by rw [hU]; exact ok'.moved hW hxv1⟩⟩
  have hf : u + mc' ≤ (RM k mc ms).cells ∧ w + ms' ≤ (RM k mc ms).slots := ⟨hmc, hms⟩
  have run : va_Run p l e (RM k mc ms) s m args below meth c H locs u w mc' ms' (F0 m pc ls st0) st (QM D wc Post H.size (Value.ref a :: As).toArray) (va_A wc H.size) := by
    rcases hl with hl | ⟨host, hl⟩
    · exact va_runV (C := y.cls) (As := As) hS2 (hM H.size) ⟨callB_of n hts hG rfl rfl rfl (hev.use m2 rfl args) (hev.use hl rfl args) ⟨m3, m4, m5⟩ hR, hev.use hv.1 rfl args, hev.use hv.2 rfl args⟩ hpre rfl hn hll.1 hst (lv_room (m := m) (pc := pc) (ls := ls) (rest := st0) h8) d hf
    · exact va_runVN (C := y.cls) (As := As) hS2 (hM H.size) ⟨va_cnB n hts hG rfl rfl rfl (hev.nest hl rfl) (hev.use m2 rfl args) ⟨m3, m4, m5⟩ hR, hev.use hv.1 rfl args, hev.use hv.2 rfl args⟩ hpre rfl hn hll.1 hst (lv_room (m := m) (pc := pc) (ls := ls) (rest := st0) h8) d hf
  refine z_after run hS hfr (fun r ws' H1 locs1 hp hP1 hD1 hz hkk hS1 => ?_)
  obtain ⟨hP2, hD2⟩ := z_frame hP hD (fun q hq => hA q (Nat.le_trans hS.1 hq)) hz hkk hP1 hD1
  exact kk r ws' hp H1 locs1 ls hP2 hD2 hS1 hll
theorem z_callBI (hW : ZW l D cA Cx own cc nl k mc ms E Z) {Cx' : CXT} (ok : CxOk Cx) (ok' : CxOk Cx') (hcx : ∀ (A : Nat → Prop) (U : State) (H : Heap), Cx A U H → Cx' A U H) {idx a nl' k' mc' ms' n : Nat} {y : MethodName} {b : ByteArray} {As : List Value} {w1 wc w2 : va_W} {Post : va_W → Option Value → Prop} {st0 : List Value} (d : decode cc pc = .ok (.invokespecial idx, 3)) (hl : LK own idx y) (hm : MIn y b nl' none n) (hv : MIi y) (hM : MB l D cA Cx' y (.code y b nl' none) k' mc' ms' (.ref a :: As) wc Post) (hn : As.length = n) (hst : st0 = As.reverse ++ .ref a :: st) (h8 : (st.map fun v => v.category).sum ≤ 8) (hk : k' + 1 ≤ k) (hnl : nl' ≤ 21) (hmc : u + mc' ≤ mc) (hms : w + ms' ≤ ms)
    (kk : ∀ (r : Option Value) (ws' : va_W), Post ws' r → Z (u + mc') (w + ms') (w1 ++ (ws' ++ w2)) L (r.toList ++ st) (pc + 3)) : Z u w (w1 ++ (wc ++ w2)) L st0 pc := by
  obtain ⟨p, e, s, m, args, below, meth, c, A, Q, wc0, ⟨hx, hb, hnl0, hown, hev, hK, hA⟩, h2, h3, ⟨hxv, rfl⟩, rfl⟩ := hW
  intro H locs ls hP hD hS hll
  obtain ⟨m1, m2, m3, m4, m5⟩ := hm
  have hts : ∀ w ∈ [Cond.code y b nl' none], w.before args s = true := fun w hw => by rw [List.mem_singleton.mp hw]; exact hev.use m1 rfl args
  have hG : GoodIn [Cond.code y b nl' none] [Cond.code y b nl' none] := fun w hw => ⟨hw, by rw [List.mem_singleton.mp hw]; exact good_of_word rfl⟩
  have hR : (RM k' mc' ms').frames + 1 ≤ (RM k mc ms).frames ∧ 8 + (nl' + 11) + (RM k' mc' ms').locals ≤ (RM k mc ms).locals := ⟨hk, by simp only [RM]; omega⟩
  have hS2 : CallFix p m c cc nl s args [Cond.code y b nl' none] own := ⟨hx, hb, hnl0, hown, hts⟩
  have hPc := z_subP hP
  have hfr := z_sub hD hS hA
  have hxv0 : Cx (va_A wc0 s.heap.size) s H := ok.kept hxv (fun q h1 h2 => hS.2.1 q h1 h2)
  have hxv1 : Cx' (va_A wc H.size) s H := hcx _ _ _ (ok.narrow hxv0 hfr)
  have hpre : PreS s H (va_Pc (.ref a :: As) (fun U => U.heap.size = H.size ∧ va_P D vwCl wc U.heap ∧ va_D (fun _ => True) wc ∧ EV U ∧ va_K D vwCl (tyK cA) U ∧ Cx' (va_A wc H.size) U U.heap)) (.ref a :: As) := ⟨MB.blind ok', fun U hU hW => ⟨rfl, by rw [hU], by rw [hU]; exact hPc, z_subD hD, EV.moved hW hev, va_K.moved hW.alike hK, by rw [hU]; exact ok'.moved hW hxv1⟩⟩
  have hf : u + mc' ≤ (RM k mc ms).cells ∧ w + ms' ≤ (RM k mc ms).slots := ⟨hmc, hms⟩
  have run : va_Run p l e (RM k mc ms) s m args below meth c H locs u w mc' ms' (F0 m pc ls st0) st (QM D wc Post H.size (Value.ref a :: As).toArray) (va_A wc H.size) := by
    rcases hl with hl | ⟨host, hl⟩
    · exact va_runI (As := As) hS2 (hM H.size) ⟨callB_of n hts hG rfl rfl rfl (hev.use m2 rfl args) (hev.use hl rfl args) ⟨m3, m4, m5⟩ hR, hv.2, hev.use hv.1 rfl args⟩ hpre rfl hn hll.1 hst (lv_room (m := m) (pc := pc) (ls := ls) (rest := st0) h8) d hf
    · exact va_runIN (As := As) hS2 (hM H.size) ⟨va_cnB n hts hG rfl rfl rfl (hev.nest hl rfl) (hev.use m2 rfl args) ⟨m3, m4, m5⟩ hR, hv.2, hev.use hv.1 rfl args⟩ hpre rfl hn hll.1 hst (lv_room (m := m) (pc := pc) (ls := ls) (rest := st0) h8) d hf
  refine z_after run hS hfr (fun r ws' H1 locs1 hp hP1 hD1 hz hkk hS1 => ?_)
  obtain ⟨hP2, hD2⟩ := z_frame hP hD (fun q hq => hA q (Nat.le_trans hS.1 hq)) hz hkk hP1 hD1
  exact kk r ws' hp H1 locs1 ls hP2 hD2 hS1 hll
theorem z_callBS (hW : ZW l D cA Cx own cc nl k mc ms E Z) {Cx' : CXT} (ok : CxOk Cx) (ok' : CxOk Cx') (hcx : ∀ (A : Nat → Prop) (U : State) (H : Heap), Cx A U H → Cx' A U H) {idx nl' k' mc' ms' n : Nat} {y : MethodName} {b : ByteArray} {ret : Option FieldType} {hh : List (Nat × Nat × Nat × Nat)} {As : List Value} {w1 wc w2 : va_W} {Post : va_W → Option Value → Prop} {st0 : List Value} (d : decode cc pc = .ok (.invokestatic idx, 3)) (hl : Cond.methodLink own idx y ∈ lw_tbl) (hm : Cond.codeWith y b nl' ret hh ∈ lw_tbl ∧ Cond.initialized y.cls ∈ lw_tbl ∧ y.cls ≠ "java/lang/invoke/MethodHandle" ∧ y.cls ≠ "java/lang/invoke/VarHandle" ∧ (parseMethodDescriptor y.desc).map (fun d => d.parameters.length) = some n) (hv : MIs y) (hM : MB l D cA Cx' y (.codeWith y b nl' ret hh) k' mc' ms' (As) wc Post) (hn : As.length = n) (hst : st0 = As.reverse ++ st) (h8 : (st.map fun v => v.category).sum ≤ 8) (hk : k' + 1 ≤ k) (hnl : nl' ≤ 21) (hmc : u + mc' ≤ mc) (hms : w + ms' ≤ ms)
    (kk : ∀ (r : Option Value) (ws' : va_W), Post ws' r → Z (u + mc') (w + ms') (w1 ++ (ws' ++ w2)) L (r.toList ++ st) (pc + 3)) : Z u w (w1 ++ (wc ++ w2)) L st0 pc := by
  obtain ⟨p, e, s, m, args, below, meth, c, A, Q, wc0, ⟨hx, hb, hnl0, hown, hev, hK, hA⟩, h2, h3, ⟨hxv, rfl⟩, rfl⟩ := hW
  intro H locs ls hP hD hS hll
  obtain ⟨m1, m2, m3, m4, m5⟩ := hm
  have hts : ∀ w ∈ [Cond.codeWith y b nl' ret hh], w.before args s = true := fun w hw => by rw [List.mem_singleton.mp hw]; exact hev.use m1 rfl args
  have hG : GoodIn [Cond.codeWith y b nl' ret hh] [Cond.codeWith y b nl' ret hh] := fun w hw => ⟨hw, by rw [List.mem_singleton.mp hw]; exact good_of_word rfl⟩
  have hR : (RM k' mc' ms').frames + 1 ≤ (RM k mc ms).frames ∧ 8 + (nl' + 11) + (RM k' mc' ms').locals ≤ (RM k mc ms).locals := ⟨hk, by simp only [RM]; omega⟩
  have hS2 : CallFix p m c cc nl s args [Cond.codeWith y b nl' ret hh] own := ⟨hx, hb, hnl0, hown, hts⟩
  have hPc := z_subP hP
  have hfr := z_sub hD hS hA
  have hxv0 : Cx (va_A wc0 s.heap.size) s H := ok.kept hxv (fun q h1 h2 => hS.2.1 q h1 h2)
  have hxv1 : Cx' (va_A wc H.size) s H := hcx _ _ _ (ok.narrow hxv0 hfr)
  have hpre : PreS s H (va_Pc (As) (fun U => U.heap.size = H.size ∧ va_P D vwCl wc U.heap ∧ va_D (fun _ => True) wc ∧ EV U ∧ va_K D vwCl (tyK cA) U ∧ Cx' (va_A wc H.size) U U.heap)) As := ⟨MB.blind ok', fun U hU hW => ⟨rfl, by rw [hU], by rw [hU]; exact hPc, z_subD hD, EV.moved hW hev, va_K.moved hW.alike hK, by rw [hU]; exact ok'.moved hW hxv1⟩⟩
  have hf : u + mc' ≤ (RM k mc ms).cells ∧ w + ms' ≤ (RM k mc ms).slots := ⟨hmc, hms⟩
  have run : va_Run p l e (RM k mc ms) s m args below meth c H locs u w mc' ms' (F0 m pc ls st0) st (QM D wc Post H.size As.toArray) (va_A wc H.size) := by
    exact vx_runSW (As := As) (hh := hh) hS2 (hM H.size) ⟨⟨rfl, rfl, hR.1, hR.2, pay_in hts hG, List.mem_cons_self⟩, hev.use m1 rfl args, hev.use m2 rfl args, ⟨m3, m4⟩, (fun sig h => by rw [h] at m5; exact (Option.some.inj m5).symm), hev.use hl rfl args, hev.use hv rfl args⟩ hpre rfl hn hll.1 hst (lv_room (m := m) (pc := pc) (ls := ls) (rest := st0) h8) d hf
  refine z_after run hS hfr (fun r ws' H1 locs1 hp hP1 hD1 hz hkk hS1 => ?_)
  obtain ⟨hP2, hD2⟩ := z_frame hP hD (fun q hq => hA q (Nat.le_trans hS.1 hq)) hz hkk hP1 hD1
  exact kk r ws' hp H1 locs1 ls hP2 hD2 hS1 hll
end ZWs
/-- less room asked -/
theorem W.room {p : Program} {l : Launch} {e : Env} {R R' : Room} {s : State} {m : MethodId} {args : Array Value} {below : List Frame} {meth : Method} {c : Code} {H : Heap} {locs : List Loc} {cells slots : Nat} {Q : State → Prop} {g : JFrame} (h1 : R'.frames ≤ R.frames) (h2 : R'.cells ≤ R.cells) (h3 : R'.slots ≤ R.slots) (h4 : R'.locals ≤ R.locals) (k : W p l e R' s m args below meth c H locs cells slots Q g) : W p l e R s m args below meth c H locs cells slots Q g := fun T hT X => by
  refine k T hT ⟨X.admits, X.cas, X.clock, X.frames, ?_, X.hears, X.method, X.code, X.here, X.tail, X.warmed, X.limits, X.bytes, X.same⟩
  have h := X.room
  simp only [State.hasRoom, Bool.and_eq_true, decide_eq_true_eq] at h ⊢
  obtain ⟨⟨⟨⟨a1, a2, a3, a4, a5, a6⟩, a7⟩, a8⟩, a9⟩ := h
  exact ⟨⟨⟨⟨by omega, by omega, by omega, by omega, by omega, a6⟩, by omega⟩, by omega⟩, a9⟩
