/-! methods with handlers -/
/-- where a throw of En at pc goes on -/
def Cat (Cx : CXT) (own : String) (tb : List ExceptionTableEntry) (pc : Nat) (En : String) (h : Nat) : Prop :=
  ∃ (pre : List ExceptionTableEntry) (x : ExceptionTableEntry) (suf : List ExceptionTableEntry) (name : String), tb = pre ++ x :: suf ∧ x.handlerPc = h ∧ (∀ z ∈ pre, z.catchType ≠ 0 ∧ ∃ nm : String, Cond.classLink own z.catchType nm ∈ lw_tbl ∧ ∀ (A : Nat → Prop) (U : State) (H : Heap), Cx A U H → va_Nc En nm U) ∧ covers x pc = true ∧ x.catchType ≠ 0 ∧ Cond.classLink own x.catchType name ∈ lw_tbl ∧ Cond.castable En name ∈ lw_tbl
def ME (l : Launch) (D : va_G) (cA : Nat → ClassId) (Cx : CXT) (y : MethodName) (b : ByteArray) (nl : Nat) (ret : Option FieldType) (hh : List (Nat × Nat × Nat × Nat)) (k mc ms : Nat) (args : List Value) (wc : va_W) (Post : va_W → Option Value → Prop) : Prop :=
  ∀ sz : Nat, vx_Met l y [.codeWith y b nl ret hh] (RM k mc ms) (va_Pc args (fun U => U.heap.size = sz ∧ va_P D vwCl wc U.heap ∧ va_D (fun _ => True) wc ∧ EV U ∧ va_K D vwCl (tyK cA) U ∧ Cx (va_A wc sz) U U.heap)) (QM D wc Post sz) (XM D wc (fun _ _ => False) sz) mc ms (va_A wc sz)
def ZE (l : Launch) (D : va_G) (cA : Nat → ClassId) (Cx : CXT) (own : String) (cc : ByteArray) (nl k mc ms : Nat) (hh : List (Nat × Nat × Nat × Nat)) (E : Nat → Nat → va_W → Option Value → Prop) (Z : ZT) : Prop :=
  ∃ (p : Program) (e : Env) (s : State) (m : MethodId) (args : Array Value) (below : List Frame) (meth : Method) (c : Code) (A : Nat → Prop) (Q : State → Prop) (wc : va_W),
    (p.tables.exec = Jvm.exec ∧ c.code = cc ∧ c.maxLocals = nl ∧ s.vm.findClass own = some m.cls ∧ EV s ∧ va_K D vwCl (tyK cA) s ∧ (∀ q, s.heap.size ≤ q → A q)) ∧
    (∀ (u w : Nat) (ws : va_W) (x : Int32) (H : Heap) (locs : List Loc) (ls : Array Slot) (pc : Nat), decode cc pc = .ok (.ireturn, 1) → E u w ws (some (.int x)) → va_P D vwCl ws H → va_D A ws → va_S A s.heap H locs → W p l e (RM k mc ms) s m args below meth c H locs u w Q (F0 m pc ls [.int x])) ∧
    (∀ (u w : Nat) (ws : va_W) (H : Heap) (locs : List Loc) (ls : Array Slot) (pc : Nat), decode cc pc = .ok (.return_, 1) → E u w ws none → va_P D vwCl ws H → va_D A ws → va_S A s.heap H locs → W p l e (RM k mc ms) s m args below meth c H locs u w Q (F0 m pc ls [])) ∧
    (Cx A s s.heap ∧ c.exceptionTable.toList = tableOf hh ∧ A = va_A wc s.heap.size) ∧
    Z = fun u w ws L st pc => ∀ (H : Heap) (locs : List Loc) (ls : Array Slot), va_P D vwCl ws H → va_D A ws → va_S A s.heap H locs → lv_has ls nl (zl 0 L) → W p l e (RM k mc ms) s m args below meth c H locs u w Q (F0 m pc ls st)
section ZEs
variable {l : Launch} {D : va_G} {cA : Nat → ClassId} {Cx : CXT} {own : String} {cc : ByteArray} {nl k mc ms : Nat} {hh : List (Nat × Nat × Nat × Nat)} {E : Nat → Nat → va_W → Option Value → Prop} {Z : ZT}
variable {u w pc : Nat} {ws : va_W} {L : List (Option Value)} {st : List Value}
theorem ZE.toZR (h : ZE l D cA Cx own cc nl k mc ms hh E Z) : ZR l D cA own cc nl k mc ms E NoX Z := by
  obtain ⟨p, e, s, m, args, below, meth, c, A, Q, wc, h1, h2, h3, h4, h5⟩ := h
  exact ⟨p, e, s, m, args, below, meth, c, A, Q, h1, h2, h3, fun _ _ _ _ _ _ _ _ _ _ _ hx => hx.elim, h5⟩
theorem z_lald (hZ : ZR l D cA own cc nl k mc ms E NoX Z) {a q0 n : Nat} {f : Nat → Int64} {i : Int32} (d : decode cc pc = .ok (.laload, 1)) (he : ws[q0]? = some (a, .inl (cA 2, n, .inr (.inl f)))) (hi : vp_in i n) (kk : Z u w ws L (.long (f i.toNatClampNeg) :: st) (pc + 1)) : Z u w ws L (.int i :: .ref a :: st) pc := by
  obtain ⟨p, e, s, m, args, below, meth, c, A, Q, ⟨hx, hb, hnl, hown, hev, hK, hA⟩, h1, h2, h3, rfl⟩ := hZ
  intro H locs ls hP hD hS hl
  exact va_lald hx hb hK hP q0 2 he rfl hi d (kk H locs ls hP hD hS hl)
theorem z_last (hZ : ZR l D cA own cc nl k mc ms E NoX Z) {a q0 n : Nat} {f : Nat → Int64} {i : Int32} {x : Int64} {ws' : va_W} (d : decode cc pc = .ok (.lastore, 1)) (he : ws[q0]? = some (a, .inl (cA 2, n, .inr (.inl f)))) (hi : vp_in i n) (hw : ws.set q0 (a, .inl (cA 2, n, .inr (.inl (vp_updL f i.toNatClampNeg x)))) = ws') (kk : Z u w ws' L st (pc + 1)) : Z u w ws L (.long x :: .int i :: .ref a :: st) pc := by
  obtain ⟨p, e, s, m, args, below, meth, c, A, Q, ⟨hx, hb, hnl, hown, hev, hK, hA⟩, h1, h2, h3, rfl⟩ := hZ
  intro H locs ls hP hD hS hl
  subst hw
  exact va_last hx hb hK hP hD hS q0 2 he rfl hi d (fun H1 locs1 hP1 hD1 hS1 => kk H1 locs1 ls hP1 hD1 hS1 hl)
theorem z_callVE (hE : ZE l D cA Cx own cc nl k mc ms hh E Z) {Cx' : CXT} (ok : CxOk Cx) (ok' : CxOk Cx') (hcx : ∀ (A : Nat → Prop) (U : State) (H : Heap), Cx A U H → Cx' A U H) {idx a nl' k' mc' ms' n : Nat} {y : MethodName} {b : ByteArray} {ret : Option FieldType} {As : List Value} {w1 wc w2 : va_W} {Post : va_W → Option Value → Prop} {XP : String → va_W → Prop} {st0 : List Value} (d : decode cc pc = .ok (.invokevirtual idx, 3)) (hl : LK own idx y) (hm : MIn y b nl' ret n) (hv : MIv y) (hM : MY l D cA Cx' y b nl' ret k' mc' ms' (.ref a :: As) wc Post XP) (hr : Rcv wc a y.cls) (hn : As.length = n) (hst : st0 = As.reverse ++ .ref a :: st) (h8 : (st.map fun v => v.category).sum ≤ 8) (hk : k' + 1 ≤ k) (hnl : nl' ≤ 21) (hmc : u + mc' ≤ mc) (hms : w + ms' ≤ ms)
    (kx : ∀ (En : String) (ws' : va_W), XP En ws' → ∃ h, Cat Cx own (tableOf hh) pc En h ∧ ∀ q : Nat, Z (u + mc') (w + ms') (w1 ++ (ws' ++ w2)) L [.ref q] h) (kk : ∀ (r : Option Value) (ws' : va_W), Post ws' r → Z (u + mc') (w + ms') (w1 ++ (ws' ++ w2)) L (r.toList ++ st) (pc + 3)) : Z u w (w1 ++ (wc ++ w2)) L st0 pc := by
  obtain ⟨p, e, s, m, args, below, meth, c, A, Q, wc0, ⟨hx, hb, hnl0, hown, hev, hK, hA⟩, h2, h3, ⟨hxv, hhh, rfl⟩, rfl⟩ := hE
  intro H locs ls hP hD hS hll
  obtain ⟨m1, m2, m3, m4, m5⟩ := hm
  have hts : ∀ w ∈ [Cond.code y b nl' ret], w.before args s = true := fun w hw => by rw [List.mem_singleton.mp hw]; exact hev.use m1 rfl args
  have hG : GoodIn [Cond.code y b nl' ret] [Cond.code y b nl' ret] := fun w hw => ⟨hw, by rw [List.mem_singleton.mp hw]; exact good_of_word rfl⟩
  have hR : (RM k' mc' ms').frames + 1 ≤ (RM k mc ms).frames ∧ 8 + (nl' + 11) + (RM k' mc' ms').locals ≤ (RM k mc ms).locals := ⟨hk, by simp only [RM]; omega⟩
  have hS2 : CallFix p m c cc nl s args [Cond.code y b nl' ret] own := ⟨hx, hb, hnl0, hown, hts⟩
  have hPc := z_subP hP
  have hfr := z_sub hD hS hA
  have hxv0 : Cx (va_A wc0 s.heap.size) s H := ok.kept hxv (fun q h1 h2 => hS.2.1 q h1 h2)
  have hxv1 : Cx' (va_A wc H.size) s H := hcx _ _ _ (ok.narrow hxv0 hfr)
  have hrc : ∃ cell : Cell, H[a]? = some cell ∧ cell.vm.isStatics = false ∧ s.vm.findClass y.cls = some cell.cls := by
    obtain ⟨q0, ci, N, T, fs, r1, r2⟩ := hr
    exact va_recv hK hPc r2 r1
  have hpre : PreV s H y.cls a (va_Pc (.ref a :: As) (fun U => U.heap.size = H.size ∧ va_P D vwCl wc U.heap ∧ va_D (fun _ => True) wc ∧ EV U ∧ va_K D vwCl (tyK cA) U ∧ Cx' (va_A wc H.size) U U.heap)) As := ⟨MY.blind ok', hrc, fun U hU hW => ⟨rfl, by rw [hU], by rw [hU]; exact hPc, z_subD hD, EV.moved hW hev, va_K.moved hW.alike hK, by rw [hU]; exact ok'.moved hW hxv1⟩⟩
  have hf : u + mc' ≤ (RM k mc ms).cells ∧ w + ms' ≤ (RM k mc ms).slots := ⟨hmc, hms⟩
  have run : vx_Run p l e (RM k mc ms) s m args below meth c H locs u w mc' ms' (F0 m pc ls st0) st (QM D wc Post H.size (Value.ref a :: As).toArray) (XM D wc XP H.size) (va_A wc H.size) := by
    rcases hl with hl | ⟨host, hl⟩
    · exact vx_runV (C := y.cls) (As := As) hS2 (hM H.size) ⟨callB_of n hts hG rfl rfl rfl (hev.use m2 rfl args) (hev.use hl rfl args) ⟨m3, m4, m5⟩ hR, hev.use hv.1 rfl args, hev.use hv.2 rfl args⟩ hpre rfl hn hll.1 hst (lv_room (m := m) (pc := pc) (ls := ls) (rest := st0) h8) d hf
    · exact vx_runVN (C := y.cls) (As := As) hS2 (hM H.size) ⟨va_cnB n hts hG rfl rfl rfl (hev.nest hl rfl) (hev.use m2 rfl args) ⟨m3, m4, m5⟩ hR, hev.use hv.1 rfl args, hev.use hv.2 rfl args⟩ hpre rfl hn hll.1 hst (lv_room (m := m) (pc := pc) (ls := ls) (rest := st0) h8) d hf
  have hAz : ∀ q, H.size ≤ q → va_A wc0 s.heap.size q := fun q hq => hA q (Nat.le_trans hS.1 hq)
  refine z_afterX run hS hfr (fun En ce q9 ws' H1 locs1 hp hP1 hD1 hz hkk hS1 hce hcv hcl => ?_) (fun r ws' H1 locs1 hp hP1 hD1 hz hkk hS1 => ?_)
  · obtain ⟨hP2, hD2⟩ := z_frame hP hD hAz hz hkk hP1 hD1
    obtain ⟨h, ⟨pre, x, suf, name, c1, rfl, c2, c3, c4, c5, c6⟩, kx1⟩ := kx En ws' hp
    exact vx_catch hown pre x suf (hhh.trans c1) (fun z hz => Or.inr (by
      obtain ⟨g1, nm, g2, g3⟩ := c2 z hz
      exact ⟨g1, nm, hev.use g2 rfl args, g3 _ _ _ hxv0⟩)) c3 c4 (hev.use c5 rfl args) (hev.dc c6 rfl args) hce hcv hcl (kx1 q9 H1 locs1 ls hP2 hD2 hS1 hll)
  · obtain ⟨hP2, hD2⟩ := z_frame hP hD hAz hz hkk hP1 hD1
    exact kk r ws' hp H1 locs1 ls hP2 hD2 hS1 hll
end ZEs
theorem ME.of {l : Launch} {D : va_G} {cA : Nat → ClassId} {y : MethodName} {b : ByteArray} {nl k mc ms : Nat} {ret : Option FieldType} {hh : List (Nat × Nat × Nat × Nat)} {args : List Value} {wc : va_W} {Post : va_W → Option Value → Prop} {Cx : CXT} {L0 : List (Option Value)} (hy : plainName y.cls = true) (hL : args.map some ++ List.replicate (nl - args.length) none = L0) (hnl : args.length ≤ nl) (hcat : ∀ v ∈ args, v.category = 1)
    (body : ∀ Z, ZE l D cA Cx y.cls b nl k mc ms hh (fun u w ws r => u ≤ mc ∧ w ≤ ms ∧ FitR ret r ∧ (r = none ↔ ret = none) ∧ Post ws r) Z → Z 0 0 wc L0 [] 0) : ME l D cA Cx y b nl ret hh k mc ms args wc Post := by
  intro sz
  refine vx_ofWH (cc := b) (maxL := nl) (ret := ret) (hh := hh) hy rfl ?_
  intro p e s m args1 below meth c s₁ B hml hv
  obtain ⟨rfl, hsz, hP, hD0, hev, hK, hxv⟩ := hv
  have hx := B.exec
  have hb := B.bytes
  have hr := B.returns
  have hown : s.vm.findClass y.cls = some m.cls := findClass_of_methodNamed B.named
  have hlocks := B.notSynchronized
  have htb : c.exceptionTable.toList = tableOf hh := vx_table (x := y) B (atoms_spec (ws := [Cond.codeWith y b nl ret hh]) B.pre _ List.mem_cons_self)
  subst hsz
  have hD := hD0.self (sz := s.heap.size)
  have hA : ∀ q : Nat, s.heap.size ≤ q → va_A wc s.heap.size q := fun q h => Or.inr h
  have hS : va_S (va_A wc s.heap.size) s.heap s.heap [] := va_S.rf
  have hlen : (lg_sl args).length ≤ nl := by
    have h9 : ∀ vs : List Value, (∀ v ∈ vs, v.category = 1) → (lg_sl vs).length = vs.length := fun vs => by
      induction vs with
      | nil => intro _; rfl
      | cons v vs ih =>
        intro h
        have := h v List.mem_cons_self
        have h2 := ih (fun w hw => h w (List.mem_cons_of_mem _ hw))
        simpa [lg_sl, this] using h2
    rw [h9 args hcat]; exact hnl
  have hl := lv_entry args (n := nl) hlen
  rw [lg_entry_eq]
  generalize (lg_sl args ++ List.replicate (nl - (lg_sl args).length) Slot.unset).toArray = ls at hl ⊢
  have hl2 : lv_has ls nl (zl 0 L0) := zl_sub hl (fun q hq => by
    refine zl_args args 0 hcat q ?_
    obtain ⟨i, v⟩ := q
    rw [zl_mem0] at hq ⊢
    rw [← hL] at hq
    rcases Nat.lt_or_ge i (args.map some).length with g | g
    · rw [List.getElem?_append_left g] at hq; exact hq
    · rw [List.getElem?_append_right g, List.getElem?_replicate] at hq
      split at hq <;> cases hq)
  refine body _ ⟨p, e, s, m, args.toArray, below, meth, c, va_A wc s.heap.size, _, wc, ⟨hx, hb, hml, hown, hev, hK, hA⟩, ?_, ?_, ⟨hxv, htb, rfl⟩, rfl⟩ s.heap [] ls hP hD hS hl2
  · intro u w ws x H locs ls pc d hE hP hD hS
    obtain ⟨hu, hw, hF, -, hPost⟩ := hE
    obtain ⟨ty, rfl, hn⟩ := hF x rfl
    refine W.widen hu hw (vx_ret ?_)
    exact W.zret (v := x) hx hb hr hn (fun t ht hW => ⟨⟨_, ws, rfl, hPost, by rw [ht]; exact hP, hD⟩, hS.F ht⟩) hS.2.2 d
  · intro u w ws H locs ls pc d hE hP hD hS
    obtain ⟨hu, hw, hF, hn, hPost⟩ := hE
    refine W.widen hu hw (vx_ret ?_)
    have hr2 : meth.sig.returnType = none := by rw [hr, hn.mp rfl]
    exact W.vret hx hb hr2 (fun t ht hW => ⟨⟨_, ws, rfl, hPost, by rw [ht]; exact hP, hD⟩, hS.F ht⟩) hS.2.2 d
/-- the law's context -/
def LC (l : Launch) (aK aV : Nat → Nat) : CXT := fun A U H => SC l aK aV A U H ∧ va_Nc sIAE sNSE U
theorem LC.ok {l : Launch} {aK aV : Nat → Nat} : CxOk (LC l aK aV) := ⟨fun A s U H hW h => ⟨SC.ok.moved hW h.1, va_Nc.moved hW.alike h.2⟩, fun A U H H1 h hq => ⟨SC.ok.kept h.1 hq, h.2⟩, fun A B U H h hAB => ⟨SC.ok.narrow h.1 hAB, h.2⟩⟩
theorem vin01 : vp_in 0 1 := by unfold vp_in; decide
/-- the law's array of one long -/
abbrev oC (cA : Nat → ClassId) (q : Nat) (f : Nat → Int64) : va_W := [(q, .inl (cA 2, 1, .inr (.inl f)))]
theorem oC_at {cA : Nat → ClassId} {q : Nat} {f : Nat → Int64} (ws : va_W) : (ws ++ oC cA q f)[ws.length]? = some (q, .inl (cA 2, 1, .inr (.inl f))) := by simp
theorem oC_set {cA : Nat → ClassId} {q : Nat} {f f2 : Nat → Int64} (ws : va_W) : (ws ++ oC cA q f).set ws.length (q, .inl (cA 2, 1, .inr (.inl f2))) = ws ++ oC cA q f2 := by simp
theorem wr_city {l : Launch} {D : va_G} {cA : Nat → ClassId} {aK aV : Nat → Nat} {Cx' : CXT} {o q : Nat} {f : Nat → Int64} {x : Int32} {k mc ms : Nat} {wc : va_W} {Post : va_W → Option Value → Prop} {XP : String → va_W → Prop} (ok' : CxOk Cx') (hcx : ∀ (A : Nat → Prop) (U : State) (H : Heap), LC l aK aV A U H → Cx' A U H) (hM : MY l D cA Cx' yX10_city cX10_city 4 (some .int) k mc ms [.ref o, .int x] wc Post XP) (hx : ∀ En ws', XP En ws' → En = sIAE) (hb : ∀ r ws', Post ws' r → ∃ x9 : Int32, r = some (.int x9)) (hr : Rcv wc o "TearsPost") : ME l D cA (LC l aK aV) yL_city cL_city 4 (some .int) [(0, 9, 12, 13)] (k + 1) mc ms [.ref o, .int x, .ref q] (wc ++ oC cA q f) (fun ws r => (∃ (x9 : Int32) (ws' : va_W), Post ws' (some (.int x9)) ∧ ws = ws' ++ oC cA q (vp_updL f 0 x9.toInt64) ∧ r = some (.int 0)) ∨ (∃ ws', XP sIAE ws' ∧ ws = ws' ++ oC cA q f ∧ r = some (.int 1))) := by
  refine ME.of (L0 := [some (.ref o), some (.int x), some (.ref q), none]) (by decide) rfl (by simp) (by simp [Value.category]) (fun Z hE => ?_)
  have hZ := hE.toZR
  refine z_aload_n hZ (pc := 0) dL_city_0 rfl ?_
  refine z_iconst hZ (pc := 1) (v := 0) dL_city_1 (by decide) ?_
  refine z_aload_n hZ (pc := 2) dL_city_2 rfl ?_
  refine z_iload_n hZ (pc := 3) dL_city_3 rfl ?_
  refine z_callVE (w1 := []) (w2 := oC cA q f) (wc := wc) (st := [.int 0, .ref q]) hE LC.ok ok' hcx (pc := 4) dL_city_4 lk_L_7 mn_X10_city mv_X10_city hM hr rfl rfl (by simp [Value.category]) (Nat.le_refl _) (by decide) (by omega) (by omega) (fun En ws' hp => ?_) (fun r ws' hp => ?_)
  · obtain rfl := hx En ws' hp
    refine ⟨12, ⟨[], ⟨0, 9, 12, 13⟩, [], sIAE, rfl, rfl, fun z hz => absurd hz List.not_mem_nil, (by decide), (by decide), (List.mem_of_getElem? (i := 512) (by decide +kernel)), (List.mem_of_getElem? (i := 519) (by decide +kernel))⟩, fun q9 => ?_⟩
    refine z_astore_n hZ (pc := 12) (j := 3) (L' := [some (.ref o), some (.int x), some (.ref q), some (.ref q9)]) rfl dL_city_12 (by decide) rfl (by simp) rfl ?_
    refine z_iconst hZ (pc := 13) (v := 1) dL_city_13 (by decide) ?_
    exact z_ireturn hZ dL_city_14 ⟨by omega, by omega, FitR.int, by simp, .inr ⟨ws', hp, rfl, rfl⟩⟩
  · obtain ⟨x9, rfl⟩ := hb r ws' hp
    refine z_i2l hZ (pc := 7) (x := x9) dL_city_7 ?_
    refine z_last hZ (pc := 8) (q0 := ws'.length) dL_city_8 (oC_at ws') vin01 (oC_set ws') ?_
    refine z_goto hZ (pc := 9) (tgt := 15) dL_city_9 (by decide) ?_
    refine z_iconst hZ (pc := 15) (v := 0) dL_city_15 (by decide) ?_
    exact z_ireturn hZ dL_city_16 ⟨by omega, by omega, FitR.int, by simp, .inl ⟨x9, ws', hp, rfl, rfl⟩⟩
theorem wr_count {l : Launch} {D : va_G} {cA : Nat → ClassId} {aK aV : Nat → Nat} {Cx' : CXT} {o q : Nat} {f : Nat → Int64} {x : Int32} {k mc ms : Nat} {wc : va_W} {Post : va_W → Option Value → Prop} {XP : String → va_W → Prop} (ok' : CxOk Cx') (hcx : ∀ (A : Nat → Prop) (U : State) (H : Heap), LC l aK aV A U H → Cx' A U H) (hM : MY l D cA Cx' yX10_count cX10_count 2 (some .int) k mc ms [.ref o, .int x] wc Post XP) (hx : ∀ En ws', XP En ws' → En = sNSE) (hb : ∀ r ws', Post ws' r → ∃ x9 : Int32, r = some (.int x9)) (hr : Rcv wc o "TearsPost") : ME l D cA (LC l aK aV) yL_count cL_count 4 (some .int) [(0, 9, 12, 18)] (k + 1) mc ms [.ref o, .int x, .ref q] (wc ++ oC cA q f) (fun ws r => (∃ (x9 : Int32) (ws' : va_W), Post ws' (some (.int x9)) ∧ ws = ws' ++ oC cA q (vp_updL f 0 x9.toInt64) ∧ r = some (.int 0)) ∨ (∃ ws', XP sNSE ws' ∧ ws = ws' ++ oC cA q f ∧ r = some (.int 1))) := by
  refine ME.of (L0 := [some (.ref o), some (.int x), some (.ref q), none]) (by decide) rfl (by simp) (by simp [Value.category]) (fun Z hE => ?_)
  have hZ := hE.toZR
  refine z_aload_n hZ (pc := 0) dL_count_0 rfl ?_
  refine z_iconst hZ (pc := 1) (v := 0) dL_count_1 (by decide) ?_
  refine z_aload_n hZ (pc := 2) dL_count_2 rfl ?_
  refine z_iload_n hZ (pc := 3) dL_count_3 rfl ?_
  refine z_callVE (w1 := []) (w2 := oC cA q f) (wc := wc) (st := [.int 0, .ref q]) hE LC.ok ok' hcx (pc := 4) dL_count_4 lk_L_15 mn_X10_count mv_X10_count hM hr rfl rfl (by simp [Value.category]) (Nat.le_refl _) (by decide) (by omega) (by omega) (fun En ws' hp => ?_) (fun r ws' hp => ?_)
  · obtain rfl := hx En ws' hp
    refine ⟨12, ⟨[], ⟨0, 9, 12, 18⟩, [], sNSE, rfl, rfl, fun z hz => absurd hz List.not_mem_nil, (by decide), (by decide), (List.mem_of_getElem? (i := 791) (by decide +kernel)), (List.mem_of_getElem? (i := 809) (by decide +kernel))⟩, fun q9 => ?_⟩
    refine z_astore_n hZ (pc := 12) (j := 3) (L' := [some (.ref o), some (.int x), some (.ref q), some (.ref q9)]) rfl dL_count_12 (by decide) rfl (by simp) rfl ?_
    refine z_iconst hZ (pc := 13) (v := 1) dL_count_13 (by decide) ?_
    exact z_ireturn hZ dL_count_14 ⟨by omega, by omega, FitR.int, by simp, .inr ⟨ws', hp, rfl, rfl⟩⟩
  · obtain ⟨x9, rfl⟩ := hb r ws' hp
    refine z_i2l hZ (pc := 7) (x := x9) dL_count_7 ?_
    refine z_last hZ (pc := 8) (q0 := ws'.length) dL_count_8 (oC_at ws') vin01 (oC_set ws') ?_
    refine z_goto hZ (pc := 9) (tgt := 15) dL_count_9 (by decide) ?_
    refine z_iconst hZ (pc := 15) (v := 0) dL_count_15 (by decide) ?_
    exact z_ireturn hZ dL_count_16 ⟨by omega, by omega, FitR.int, by simp, .inl ⟨x9, ws', hp, rfl, rfl⟩⟩
theorem wr_person {l : Launch} {D : va_G} {cA : Nat → ClassId} {aK aV : Nat → Nat} {Cx' : CXT} {o q : Nat} {f : Nat → Int64} {x y : Int32} {k mc ms : Nat} {wc : va_W} {Post : va_W → Option Value → Prop} {XP : String → va_W → Prop} (ok' : CxOk Cx') (hcx : ∀ (A : Nat → Prop) (U : State) (H : Heap), LC l aK aV A U H → Cx' A U H) (hM : MY l D cA Cx' yX10_person cX10_person 3 (some .int) k mc ms [.ref o, .int x, .int y] wc Post XP) (hx : ∀ En ws', XP En ws' → En = sNSE) (hb : ∀ r ws', Post ws' r → ∃ x9 : Int32, r = some (.int x9)) (hr : Rcv wc o "TearsPost") : ME l D cA (LC l aK aV) yL_person cL_person 5 (some .int) [(0, 10, 13, 18)] (k + 1) mc ms [.ref o, .int x, .int y, .ref q] (wc ++ oC cA q f) (fun ws r => (∃ (x9 : Int32) (ws' : va_W), Post ws' (some (.int x9)) ∧ ws = ws' ++ oC cA q (vp_updL f 0 x9.toInt64) ∧ r = some (.int 0)) ∨ (∃ ws', XP sNSE ws' ∧ ws = ws' ++ oC cA q f ∧ r = some (.int 1))) := by
  refine ME.of (L0 := [some (.ref o), some (.int x), some (.int y), some (.ref q), none]) (by decide) rfl (by simp) (by simp [Value.category]) (fun Z hE => ?_)
  have hZ := hE.toZR
  refine z_aload_n hZ (pc := 0) dL_person_0 rfl ?_
  refine z_iconst hZ (pc := 1) (v := 0) dL_person_1 (by decide) ?_
  refine z_aload_n hZ (pc := 2) dL_person_2 rfl ?_
  refine z_iload_n hZ (pc := 3) dL_person_3 rfl ?_
  refine z_iload_n hZ (pc := 4) dL_person_4 rfl ?_
  refine z_callVE (w1 := []) (w2 := oC cA q f) (wc := wc) (st := [.int 0, .ref q]) hE LC.ok ok' hcx (pc := 5) dL_person_5 lk_L_20 mn_X10_person mv_X10_person hM hr rfl rfl (by simp [Value.category]) (Nat.le_refl _) (by decide) (by omega) (by omega) (fun En ws' hp => ?_) (fun r ws' hp => ?_)
  · obtain rfl := hx En ws' hp
    refine ⟨13, ⟨[], ⟨0, 10, 13, 18⟩, [], sNSE, rfl, rfl, fun z hz => absurd hz List.not_mem_nil, (by decide), (by decide), (List.mem_of_getElem? (i := 791) (by decide +kernel)), (List.mem_of_getElem? (i := 809) (by decide +kernel))⟩, fun q9 => ?_⟩
    refine z_astore hZ (pc := 13) (j := 4) (L' := [some (.ref o), some (.int x), some (.int y), some (.ref q), some (.ref q9)]) dL_person_13 (by decide) rfl (by simp) rfl ?_
    refine z_iconst hZ (pc := 15) (v := 1) dL_person_15 (by decide) ?_
    exact z_ireturn hZ dL_person_16 ⟨by omega, by omega, FitR.int, by simp, .inr ⟨ws', hp, rfl, rfl⟩⟩
  · obtain ⟨x9, rfl⟩ := hb r ws' hp
    refine z_i2l hZ (pc := 8) (x := x9) dL_person_8 ?_
    refine z_last hZ (pc := 9) (q0 := ws'.length) dL_person_9 (oC_at ws') vin01 (oC_set ws') ?_
    refine z_goto hZ (pc := 10) (tgt := 17) dL_person_10 (by decide) ?_
    refine z_iconst hZ (pc := 17) (v := 0) dL_person_17 (by decide) ?_
    exact z_ireturn hZ dL_person_18 ⟨by omega, by omega, FitR.int, by simp, .inl ⟨x9, ws', hp, rfl, rfl⟩⟩
theorem wr_walk {l : Launch} {D : va_G} {cA : Nat → ClassId} {aK aV : Nat → Nat} {Cx' : CXT} {o q : Nat} {f : Nat → Int64} {x y : Int32} {k mc ms : Nat} {wc : va_W} {Post : va_W → Option Value → Prop} {XP : String → va_W → Prop} (ok' : CxOk Cx') (hcx : ∀ (A : Nat → Prop) (U : State) (H : Heap), LC l aK aV A U H → Cx' A U H) (hM : MY l D cA Cx' yX10_walk cX10_walk 3 (some .int) k mc ms [.ref o, .int x, .int y] wc Post XP) (hx : ∀ En ws', XP En ws' → En = sNSE) (hb : ∀ r ws', Post ws' r → ∃ x9 : Int32, r = some (.int x9)) (hr : Rcv wc o "TearsPost") : ME l D cA (LC l aK aV) yL_walk cL_walk 5 (some .int) [(0, 10, 13, 18)] (k + 1) mc ms [.ref o, .int x, .int y, .ref q] (wc ++ oC cA q f) (fun ws r => (∃ (x9 : Int32) (ws' : va_W), Post ws' (some (.int x9)) ∧ ws = ws' ++ oC cA q (vp_updL f 0 x9.toInt64) ∧ r = some (.int 0)) ∨ (∃ ws', XP sNSE ws' ∧ ws = ws' ++ oC cA q f ∧ r = some (.int 1))) := by
  refine ME.of (L0 := [some (.ref o), some (.int x), some (.int y), some (.ref q), none]) (by decide) rfl (by simp) (by simp [Value.category]) (fun Z hE => ?_)
  have hZ := hE.toZR
  refine z_aload_n hZ (pc := 0) dL_walk_0 rfl ?_
  refine z_iconst hZ (pc := 1) (v := 0) dL_walk_1 (by decide) ?_
  refine z_aload_n hZ (pc := 2) dL_walk_2 rfl ?_
  refine z_iload_n hZ (pc := 3) dL_walk_3 rfl ?_
  refine z_iload_n hZ (pc := 4) dL_walk_4 rfl ?_
  refine z_callVE (w1 := []) (w2 := oC cA q f) (wc := wc) (st := [.int 0, .ref q]) hE LC.ok ok' hcx (pc := 5) dL_walk_5 lk_L_24 mn_X10_walk mv_X10_walk hM hr rfl rfl (by simp [Value.category]) (Nat.le_refl _) (by decide) (by omega) (by omega) (fun En ws' hp => ?_) (fun r ws' hp => ?_)
  · obtain rfl := hx En ws' hp
    refine ⟨13, ⟨[], ⟨0, 10, 13, 18⟩, [], sNSE, rfl, rfl, fun z hz => absurd hz List.not_mem_nil, (by decide), (by decide), (List.mem_of_getElem? (i := 791) (by decide +kernel)), (List.mem_of_getElem? (i := 809) (by decide +kernel))⟩, fun q9 => ?_⟩
    refine z_astore hZ (pc := 13) (j := 4) (L' := [some (.ref o), some (.int x), some (.int y), some (.ref q), some (.ref q9)]) dL_walk_13 (by decide) rfl (by simp) rfl ?_
    refine z_iconst hZ (pc := 15) (v := 1) dL_walk_15 (by decide) ?_
    exact z_ireturn hZ dL_walk_16 ⟨by omega, by omega, FitR.int, by simp, .inr ⟨ws', hp, rfl, rfl⟩⟩
  · obtain ⟨x9, rfl⟩ := hb r ws' hp
    refine z_i2l hZ (pc := 8) (x := x9) dL_walk_8 ?_
    refine z_last hZ (pc := 9) (q0 := ws'.length) dL_walk_9 (oC_at ws') vin01 (oC_set ws') ?_
    refine z_goto hZ (pc := 10) (tgt := 17) dL_walk_10 (by decide) ?_
    refine z_iconst hZ (pc := 17) (v := 0) dL_walk_17 (by decide) ?_
    exact z_ireturn hZ dL_walk_18 ⟨by omega, by omega, FitR.int, by simp, .inl ⟨x9, ws', hp, rfl, rfl⟩⟩
theorem wr_move {l : Launch} {D : va_G} {cA : Nat → ClassId} {aK aV : Nat → Nat} {Cx' : CXT} {o q : Nat} {f : Nat → Int64} {x y : Int32} {k mc ms : Nat} {wc : va_W} {Post : va_W → Option Value → Prop} {XP : String → va_W → Prop} (ok' : CxOk Cx') (hcx : ∀ (A : Nat → Prop) (U : State) (H : Heap), LC l aK aV A U H → Cx' A U H) (hM : MY l D cA Cx' yX10_move cX10_move 3 none k mc ms [.ref o, .int x, .int y] wc Post XP) (hx : ∀ En ws', XP En ws' → En = sNSE) (hb : ∀ r ws', Post ws' r → r = none) (hr : Rcv wc o "TearsPost") : ME l D cA (LC l aK aV) yL_move cL_move 4 (some .int) [(0, 6, 9, 18)] (k + 1) mc ms [.ref o, .int x, .int y] (wc) (fun ws r => (∃ ws', Post ws' none ∧ ws = ws' ∧ r = some (.int 0)) ∨ (∃ ws', XP sNSE ws' ∧ ws = ws' ∧ r = some (.int 1))) := by
  refine ME.of (L0 := [some (.ref o), some (.int x), some (.int y), none]) (by decide) rfl (by simp) (by simp [Value.category]) (fun Z hE => ?_)
  have hZ := hE.toZR
  refine z_aload_n hZ (pc := 0) dL_move_0 rfl ?_
  refine z_iload_n hZ (pc := 1) dL_move_1 rfl ?_
  refine z_iload_n hZ (pc := 2) dL_move_2 rfl ?_
  have e0 : ∀ w : va_W, [] ++ (w ++ []) = w := fun w => by rw [List.nil_append, List.append_nil]
  rw [← e0 wc]
  refine z_callVE (w1 := []) (w2 := []) (wc := wc) (st := []) hE LC.ok ok' hcx (pc := 3) dL_move_3 lk_L_27 mn_X10_move mv_X10_move hM hr rfl rfl (by simp [Value.category]) (Nat.le_refl _) (by decide) (by omega) (by omega) (fun En ws' hp => ?_) (fun r ws' hp => ?_)
  · obtain rfl := hx En ws' hp
    refine ⟨9, ⟨[], ⟨0, 6, 9, 18⟩, [], sNSE, rfl, rfl, fun z hz => absurd hz List.not_mem_nil, (by decide), (by decide), (List.mem_of_getElem? (i := 791) (by decide +kernel)), (List.mem_of_getElem? (i := 809) (by decide +kernel))⟩, fun q9 => ?_⟩
    refine z_astore_n hZ (pc := 9) (j := 3) (L' := [some (.ref o), some (.int x), some (.int y), some (.ref q9)]) rfl dL_move_9 (by decide) rfl (by simp) rfl ?_
    refine z_iconst hZ (pc := 10) (v := 1) dL_move_10 (by decide) ?_
    exact z_ireturn hZ dL_move_11 ⟨by omega, by omega, FitR.int, by simp, .inr ⟨ws', hp, e0 _, rfl⟩⟩
  · obtain rfl := hb r ws' hp
    rw [e0]
    refine z_goto hZ (pc := 6) (tgt := 12) dL_move_6 (by decide) ?_
    refine z_iconst hZ (pc := 12) (v := 0) dL_move_12 (by decide) ?_
    exact z_ireturn hZ dL_move_13 ⟨by omega, by omega, FitR.int, by simp, .inl ⟨ws', hp, rfl, rfl⟩⟩
theorem wr_weep {l : Launch} {D : va_G} {cA : Nat → ClassId} {aK aV : Nat → Nat} {Cx' : CXT} {o q : Nat} {f : Nat → Int64} {x y z : Int32} {k mc ms : Nat} {wc : va_W} {Post : va_W → Option Value → Prop} {XP : String → va_W → Prop} (ok' : CxOk Cx') (hcx : ∀ (A : Nat → Prop) (U : State) (H : Heap), LC l aK aV A U H → Cx' A U H) (hM : MY l D cA Cx' yX10_weep cX10_weep 6 (some .int) k mc ms [.ref o, .int x, .int y, .int z] wc Post XP) (hx : ∀ En ws', XP En ws' → En = sNSE) (hb : ∀ r ws', Post ws' r → ∃ x9 : Int32, r = some (.int x9)) (hr : Rcv wc o "TearsPost") : ME l D cA (LC l aK aV) yL_weep cL_weep 6 (some .int) [(0, 12, 15, 18)] (k + 1) mc ms [.ref o, .int x, .int y, .int z, .ref q] (wc ++ oC cA q f) (fun ws r => (∃ (x9 : Int32) (ws' : va_W), Post ws' (some (.int x9)) ∧ ws = ws' ++ oC cA q (vp_updL f 0 x9.toInt64) ∧ r = some (.int 0)) ∨ (∃ ws', XP sNSE ws' ∧ ws = ws' ++ oC cA q f ∧ r = some (.int 1))) := by
  refine ME.of (L0 := [some (.ref o), some (.int x), some (.int y), some (.int z), some (.ref q), none]) (by decide) rfl (by simp) (by simp [Value.category]) (fun Z hE => ?_)
  have hZ := hE.toZR
  refine z_aload hZ (pc := 0) dL_weep_0 rfl ?_
  refine z_iconst hZ (pc := 2) (v := 0) dL_weep_2 (by decide) ?_
  refine z_aload_n hZ (pc := 3) dL_weep_3 rfl ?_
  refine z_iload_n hZ (pc := 4) dL_weep_4 rfl ?_
  refine z_iload_n hZ (pc := 5) dL_weep_5 rfl ?_
  refine z_iload_n hZ (pc := 6) dL_weep_6 rfl ?_
  refine z_callVE (w1 := []) (w2 := oC cA q f) (wc := wc) (st := [.int 0, .ref q]) hE LC.ok ok' hcx (pc := 7) dL_weep_7 lk_L_31 mn_X10_weep mv_X10_weep hM hr rfl rfl (by simp [Value.category]) (Nat.le_refl _) (by decide) (by omega) (by omega) (fun En ws' hp => ?_) (fun r ws' hp => ?_)
  · obtain rfl := hx En ws' hp
    refine ⟨15, ⟨[], ⟨0, 12, 15, 18⟩, [], sNSE, rfl, rfl, fun z hz => absurd hz List.not_mem_nil, (by decide), (by decide), (List.mem_of_getElem? (i := 791) (by decide +kernel)), (List.mem_of_getElem? (i := 809) (by decide +kernel))⟩, fun q9 => ?_⟩
    refine z_astore hZ (pc := 15) (j := 5) (L' := [some (.ref o), some (.int x), some (.int y), some (.int z), some (.ref q), some (.ref q9)]) dL_weep_15 (by decide) rfl (by simp) rfl ?_
    refine z_iconst hZ (pc := 17) (v := 1) dL_weep_17 (by decide) ?_
    exact z_ireturn hZ dL_weep_18 ⟨by omega, by omega, FitR.int, by simp, .inr ⟨ws', hp, rfl, rfl⟩⟩
  · obtain ⟨x9, rfl⟩ := hb r ws' hp
    refine z_i2l hZ (pc := 10) (x := x9) dL_weep_10 ?_
    refine z_last hZ (pc := 11) (q0 := ws'.length) dL_weep_11 (oC_at ws') vin01 (oC_set ws') ?_
    refine z_goto hZ (pc := 12) (tgt := 19) dL_weep_12 (by decide) ?_
    refine z_iconst hZ (pc := 19) (v := 0) dL_weep_19 (by decide) ?_
    exact z_ireturn hZ dL_weep_20 ⟨by omega, by omega, FitR.int, by simp, .inl ⟨x9, ws', hp, rfl, rfl⟩⟩
theorem wr_tears {l : Launch} {D : va_G} {cA : Nat → ClassId} {aK aV : Nat → Nat} {Cx' : CXT} {o q : Nat} {f : Nat → Int64} {x y : Int32} {k mc ms : Nat} {wc : va_W} {Post : va_W → Option Value → Prop} {XP : String → va_W → Prop} (ok' : CxOk Cx') (hcx : ∀ (A : Nat → Prop) (U : State) (H : Heap), LC l aK aV A U H → Cx' A U H) (hM : MY l D cA Cx' yX10_tears cX10_tears 3 (some .int) k mc ms [.ref o, .int x, .int y] wc Post XP) (hx : ∀ En ws', XP En ws' → En = sNSE) (hb : ∀ r ws', Post ws' r → ∃ x9 : Int32, r = some (.int x9)) (hr : Rcv wc o "TearsPost") : ME l D cA (LC l aK aV) yL_tears cL_tears 5 (some .int) [(0, 10, 13, 18)] (k + 1) mc ms [.ref o, .int x, .int y, .ref q] (wc ++ oC cA q f) (fun ws r => (∃ (x9 : Int32) (ws' : va_W), Post ws' (some (.int x9)) ∧ ws = ws' ++ oC cA q (vp_updL f 0 x9.toInt64) ∧ r = some (.int 0)) ∨ (∃ ws', XP sNSE ws' ∧ ws = ws' ++ oC cA q f ∧ r = some (.int 1))) := by
  refine ME.of (L0 := [some (.ref o), some (.int x), some (.int y), some (.ref q), none]) (by decide) rfl (by simp) (by simp [Value.category]) (fun Z hE => ?_)
  have hZ := hE.toZR
  refine z_aload_n hZ (pc := 0) dL_tears_0 rfl ?_
  refine z_iconst hZ (pc := 1) (v := 0) dL_tears_1 (by decide) ?_
  refine z_aload_n hZ (pc := 2) dL_tears_2 rfl ?_
  refine z_iload_n hZ (pc := 3) dL_tears_3 rfl ?_
  refine z_iload_n hZ (pc := 4) dL_tears_4 rfl ?_
  refine z_callVE (w1 := []) (w2 := oC cA q f) (wc := wc) (st := [.int 0, .ref q]) hE LC.ok ok' hcx (pc := 5) dL_tears_5 lk_L_35 mn_X10_tears mv_X10_tears hM hr rfl rfl (by simp [Value.category]) (Nat.le_refl _) (by decide) (by omega) (by omega) (fun En ws' hp => ?_) (fun r ws' hp => ?_)
  · obtain rfl := hx En ws' hp
    refine ⟨13, ⟨[], ⟨0, 10, 13, 18⟩, [], sNSE, rfl, rfl, fun z hz => absurd hz List.not_mem_nil, (by decide), (by decide), (List.mem_of_getElem? (i := 791) (by decide +kernel)), (List.mem_of_getElem? (i := 809) (by decide +kernel))⟩, fun q9 => ?_⟩
    refine z_astore hZ (pc := 13) (j := 4) (L' := [some (.ref o), some (.int x), some (.int y), some (.ref q), some (.ref q9)]) dL_tears_13 (by decide) rfl (by simp) rfl ?_
    refine z_iconst hZ (pc := 15) (v := 1) dL_tears_15 (by decide) ?_
    exact z_ireturn hZ dL_tears_16 ⟨by omega, by omega, FitR.int, by simp, .inr ⟨ws', hp, rfl, rfl⟩⟩
  · obtain ⟨x9, rfl⟩ := hb r ws' hp
    refine z_i2l hZ (pc := 8) (x := x9) dL_tears_8 ?_
    refine z_last hZ (pc := 9) (q0 := ws'.length) dL_tears_9 (oC_at ws') vin01 (oC_set ws') ?_
    refine z_goto hZ (pc := 10) (tgt := 17) dL_tears_10 (by decide) ?_
    refine z_iconst hZ (pc := 17) (v := 0) dL_tears_17 (by decide) ?_
    exact z_ireturn hZ dL_tears_18 ⟨by omega, by omega, FitR.int, by simp, .inl ⟨x9, ws', hp, rfl, rfl⟩⟩
theorem wr_name {l : Launch} {D : va_G} {cA : Nat → ClassId} {aK aV : Nat → Nat} {Cx' : CXT} {o q : Nat} {f : Nat → Int64} {x y : Int32} {k mc ms : Nat} {wc : va_W} {Post : va_W → Option Value → Prop} {XP : String → va_W → Prop} (ok' : CxOk Cx') (hcx : ∀ (A : Nat → Prop) (U : State) (H : Heap), LC l aK aV A U H → Cx' A U H) (hM : MY l D cA Cx' yX10_name cX10_name 3 (some .int) k mc ms [.ref o, .int x, .int y] wc Post XP) (hx : ∀ En ws', XP En ws' → En = sNSE) (hb : ∀ r ws', Post ws' r → ∃ x9 : Int32, r = some (.int x9)) (hr : Rcv wc o "TearsPost") : ME l D cA (LC l aK aV) yL_name cL_name 5 (some .int) [(0, 10, 13, 18)] (k + 1) mc ms [.ref o, .int x, .int y, .ref q] (wc ++ oC cA q f) (fun ws r => (∃ (x9 : Int32) (ws' : va_W), Post ws' (some (.int x9)) ∧ ws = ws' ++ oC cA q (vp_updL f 0 x9.toInt64) ∧ r = some (.int 0)) ∨ (∃ ws', XP sNSE ws' ∧ ws = ws' ++ oC cA q f ∧ r = some (.int 1))) := by
  refine ME.of (L0 := [some (.ref o), some (.int x), some (.int y), some (.ref q), none]) (by decide) rfl (by simp) (by simp [Value.category]) (fun Z hE => ?_)
  have hZ := hE.toZR
  refine z_aload_n hZ (pc := 0) dL_name_0 rfl ?_
  refine z_iconst hZ (pc := 1) (v := 0) dL_name_1 (by decide) ?_
  refine z_aload_n hZ (pc := 2) dL_name_2 rfl ?_
  refine z_iload_n hZ (pc := 3) dL_name_3 rfl ?_
  refine z_iload_n hZ (pc := 4) dL_name_4 rfl ?_
  refine z_callVE (w1 := []) (w2 := oC cA q f) (wc := wc) (st := [.int 0, .ref q]) hE LC.ok ok' hcx (pc := 5) dL_name_5 lk_L_38 mn_X10_name mv_X10_name hM hr rfl rfl (by simp [Value.category]) (Nat.le_refl _) (by decide) (by omega) (by omega) (fun En ws' hp => ?_) (fun r ws' hp => ?_)
  · obtain rfl := hx En ws' hp
    refine ⟨13, ⟨[], ⟨0, 10, 13, 18⟩, [], sNSE, rfl, rfl, fun z hz => absurd hz List.not_mem_nil, (by decide), (by decide), (List.mem_of_getElem? (i := 791) (by decide +kernel)), (List.mem_of_getElem? (i := 809) (by decide +kernel))⟩, fun q9 => ?_⟩
    refine z_astore hZ (pc := 13) (j := 4) (L' := [some (.ref o), some (.int x), some (.int y), some (.ref q), some (.ref q9)]) dL_name_13 (by decide) rfl (by simp) rfl ?_
    refine z_iconst hZ (pc := 15) (v := 1) dL_name_15 (by decide) ?_
    exact z_ireturn hZ dL_name_16 ⟨by omega, by omega, FitR.int, by simp, .inr ⟨ws', hp, rfl, rfl⟩⟩
  · obtain ⟨x9, rfl⟩ := hb r ws' hp
    refine z_i2l hZ (pc := 8) (x := x9) dL_name_8 ?_
    refine z_last hZ (pc := 9) (q0 := ws'.length) dL_name_9 (oC_at ws') vin01 (oC_set ws') ?_
    refine z_goto hZ (pc := 10) (tgt := 17) dL_name_10 (by decide) ?_
    refine z_iconst hZ (pc := 17) (v := 0) dL_name_17 (by decide) ?_
    exact z_ireturn hZ dL_name_18 ⟨by omega, by omega, FitR.int, by simp, .inl ⟨x9, ws', hp, rfl, rfl⟩⟩
theorem wr_houses {l : Launch} {D : va_G} {cA : Nat → ClassId} {aK aV : Nat → Nat} {Cx' : CXT} {o q : Nat} {f : Nat → Int64} {x y : Int32} {k mc ms : Nat} {wc : va_W} {Post : va_W → Option Value → Prop} {XP : String → va_W → Prop} (ok' : CxOk Cx') (hcx : ∀ (A : Nat → Prop) (U : State) (H : Heap), LC l aK aV A U H → Cx' A U H) (hM : MY l D cA Cx' yX10_houses cX10_houses 3 (some .int) k mc ms [.ref o, .int x, .int y] wc Post XP) (hx : ∀ En ws', XP En ws' → En = sNSE) (hb : ∀ r ws', Post ws' r → ∃ x9 : Int32, r = some (.int x9)) (hr : Rcv wc o "TearsPost") : ME l D cA (LC l aK aV) yL_houses cL_houses 5 (some .int) [(0, 10, 13, 18)] (k + 1) mc ms [.ref o, .int x, .int y, .ref q] (wc ++ oC cA q f) (fun ws r => (∃ (x9 : Int32) (ws' : va_W), Post ws' (some (.int x9)) ∧ ws = ws' ++ oC cA q (vp_updL f 0 x9.toInt64) ∧ r = some (.int 0)) ∨ (∃ ws', XP sNSE ws' ∧ ws = ws' ++ oC cA q f ∧ r = some (.int 1))) := by
  refine ME.of (L0 := [some (.ref o), some (.int x), some (.int y), some (.ref q), none]) (by decide) rfl (by simp) (by simp [Value.category]) (fun Z hE => ?_)
  have hZ := hE.toZR
  refine z_aload_n hZ (pc := 0) dL_houses_0 rfl ?_
  refine z_iconst hZ (pc := 1) (v := 0) dL_houses_1 (by decide) ?_
  refine z_aload_n hZ (pc := 2) dL_houses_2 rfl ?_
  refine z_iload_n hZ (pc := 3) dL_houses_3 rfl ?_
  refine z_iload_n hZ (pc := 4) dL_houses_4 rfl ?_
  refine z_callVE (w1 := []) (w2 := oC cA q f) (wc := wc) (st := [.int 0, .ref q]) hE LC.ok ok' hcx (pc := 5) dL_houses_5 lk_L_41 mn_X10_houses mv_X10_houses hM hr rfl rfl (by simp [Value.category]) (Nat.le_refl _) (by decide) (by omega) (by omega) (fun En ws' hp => ?_) (fun r ws' hp => ?_)
  · obtain rfl := hx En ws' hp
    refine ⟨13, ⟨[], ⟨0, 10, 13, 18⟩, [], sNSE, rfl, rfl, fun z hz => absurd hz List.not_mem_nil, (by decide), (by decide), (List.mem_of_getElem? (i := 791) (by decide +kernel)), (List.mem_of_getElem? (i := 809) (by decide +kernel))⟩, fun q9 => ?_⟩
    refine z_astore hZ (pc := 13) (j := 4) (L' := [some (.ref o), some (.int x), some (.int y), some (.ref q), some (.ref q9)]) dL_houses_13 (by decide) rfl (by simp) rfl ?_
    refine z_iconst hZ (pc := 15) (v := 1) dL_houses_15 (by decide) ?_
    exact z_ireturn hZ dL_houses_16 ⟨by omega, by omega, FitR.int, by simp, .inr ⟨ws', hp, rfl, rfl⟩⟩
  · obtain ⟨x9, rfl⟩ := hb r ws' hp
    refine z_i2l hZ (pc := 8) (x := x9) dL_houses_8 ?_
    refine z_last hZ (pc := 9) (q0 := ws'.length) dL_houses_9 (oC_at ws') vin01 (oC_set ws') ?_
    refine z_goto hZ (pc := 10) (tgt := 17) dL_houses_10 (by decide) ?_
    refine z_iconst hZ (pc := 17) (v := 0) dL_houses_17 (by decide) ?_
    exact z_ireturn hZ dL_houses_18 ⟨by omega, by omega, FitR.int, by simp, .inl ⟨x9, ws', hp, rfl, rfl⟩⟩
theorem wr_letter {l : Launch} {D : va_G} {cA : Nat → ClassId} {aK aV : Nat → Nat} {Cx' : CXT} {o q : Nat} {f : Nat → Int64} {x y : Int32} {k mc ms : Nat} {wc : va_W} {Post : va_W → Option Value → Prop} {XP : String → va_W → Prop} (ok' : CxOk Cx') (hcx : ∀ (A : Nat → Prop) (U : State) (H : Heap), LC l aK aV A U H → Cx' A U H) (hM : MY l D cA Cx' yX10_letter cX10_letter 3 (some .int) k mc ms [.ref o, .int x, .int y] wc Post XP) (hx : ∀ En ws', XP En ws' → En = sNSE) (hb : ∀ r ws', Post ws' r → ∃ x9 : Int32, r = some (.int x9)) (hr : Rcv wc o "TearsPost") : ME l D cA (LC l aK aV) yL_letter cL_letter 5 (some .int) [(0, 10, 13, 18)] (k + 1) mc ms [.ref o, .int x, .int y, .ref q] (wc ++ oC cA q f) (fun ws r => (∃ (x9 : Int32) (ws' : va_W), Post ws' (some (.int x9)) ∧ ws = ws' ++ oC cA q (vp_updL f 0 x9.toInt64) ∧ r = some (.int 0)) ∨ (∃ ws', XP sNSE ws' ∧ ws = ws' ++ oC cA q f ∧ r = some (.int 1))) := by
  refine ME.of (L0 := [some (.ref o), some (.int x), some (.int y), some (.ref q), none]) (by decide) rfl (by simp) (by simp [Value.category]) (fun Z hE => ?_)
  have hZ := hE.toZR
  refine z_aload_n hZ (pc := 0) dL_letter_0 rfl ?_
  refine z_iconst hZ (pc := 1) (v := 0) dL_letter_1 (by decide) ?_
  refine z_aload_n hZ (pc := 2) dL_letter_2 rfl ?_
  refine z_iload_n hZ (pc := 3) dL_letter_3 rfl ?_
  refine z_iload_n hZ (pc := 4) dL_letter_4 rfl ?_
  refine z_callVE (w1 := []) (w2 := oC cA q f) (wc := wc) (st := [.int 0, .ref q]) hE LC.ok ok' hcx (pc := 5) dL_letter_5 lk_L_44 mn_X10_letter mv_X10_letter hM hr rfl rfl (by simp [Value.category]) (Nat.le_refl _) (by decide) (by omega) (by omega) (fun En ws' hp => ?_) (fun r ws' hp => ?_)
  · obtain rfl := hx En ws' hp
    refine ⟨13, ⟨[], ⟨0, 10, 13, 18⟩, [], sNSE, rfl, rfl, fun z hz => absurd hz List.not_mem_nil, (by decide), (by decide), (List.mem_of_getElem? (i := 791) (by decide +kernel)), (List.mem_of_getElem? (i := 809) (by decide +kernel))⟩, fun q9 => ?_⟩
    refine z_astore hZ (pc := 13) (j := 4) (L' := [some (.ref o), some (.int x), some (.int y), some (.ref q), some (.ref q9)]) dL_letter_13 (by decide) rfl (by simp) rfl ?_
    refine z_iconst hZ (pc := 15) (v := 1) dL_letter_15 (by decide) ?_
    exact z_ireturn hZ dL_letter_16 ⟨by omega, by omega, FitR.int, by simp, .inr ⟨ws', hp, rfl, rfl⟩⟩
  · obtain ⟨x9, rfl⟩ := hb r ws' hp
    refine z_i2l hZ (pc := 8) (x := x9) dL_letter_8 ?_
    refine z_last hZ (pc := 9) (q0 := ws'.length) dL_letter_9 (oC_at ws') vin01 (oC_set ws') ?_
    refine z_goto hZ (pc := 10) (tgt := 17) dL_letter_10 (by decide) ?_
    refine z_iconst hZ (pc := 17) (v := 0) dL_letter_17 (by decide) ?_
    exact z_ireturn hZ dL_letter_18 ⟨by omega, by omega, FitR.int, by simp, .inl ⟨x9, ws', hp, rfl, rfl⟩⟩
theorem wr_post {l : Launch} {D : va_G} {cA : Nat → ClassId} {aK aV : Nat → Nat} {Cx' : CXT} {o q : Nat} {f : Nat → Int64} {x y : Int32} {k mc ms : Nat} {wc : va_W} {Post : va_W → Option Value → Prop} {XP : String → va_W → Prop} (ok' : CxOk Cx') (hcx : ∀ (A : Nat → Prop) (U : State) (H : Heap), LC l aK aV A U H → Cx' A U H) (hM : MY l D cA Cx' yX10_post cX10_post 3 (some .int) k mc ms [.ref o, .int x, .int y] wc Post XP) (hx : ∀ En ws', XP En ws' → En = sNSE) (hb : ∀ r ws', Post ws' r → ∃ x9 : Int32, r = some (.int x9)) (hr : Rcv wc o "TearsPost") : ME l D cA (LC l aK aV) yL_post cL_post 5 (some .int) [(0, 10, 13, 18)] (k + 1) mc ms [.ref o, .int x, .int y, .ref q] (wc ++ oC cA q f) (fun ws r => (∃ (x9 : Int32) (ws' : va_W), Post ws' (some (.int x9)) ∧ ws = ws' ++ oC cA q (vp_updL f 0 x9.toInt64) ∧ r = some (.int 0)) ∨ (∃ ws', XP sNSE ws' ∧ ws = ws' ++ oC cA q f ∧ r = some (.int 1))) := by
  refine ME.of (L0 := [some (.ref o), some (.int x), some (.int y), some (.ref q), none]) (by decide) rfl (by simp) (by simp [Value.category]) (fun Z hE => ?_)
  have hZ := hE.toZR
  refine z_aload_n hZ (pc := 0) dL_post_0 rfl ?_
  refine z_iconst hZ (pc := 1) (v := 0) dL_post_1 (by decide) ?_
  refine z_aload_n hZ (pc := 2) dL_post_2 rfl ?_
  refine z_iload_n hZ (pc := 3) dL_post_3 rfl ?_
  refine z_iload_n hZ (pc := 4) dL_post_4 rfl ?_
  refine z_callVE (w1 := []) (w2 := oC cA q f) (wc := wc) (st := [.int 0, .ref q]) hE LC.ok ok' hcx (pc := 5) dL_post_5 lk_L_47 mn_X10_post mv_X10_post hM hr rfl rfl (by simp [Value.category]) (Nat.le_refl _) (by decide) (by omega) (by omega) (fun En ws' hp => ?_) (fun r ws' hp => ?_)
  · obtain rfl := hx En ws' hp
    refine ⟨13, ⟨[], ⟨0, 10, 13, 18⟩, [], sNSE, rfl, rfl, fun z hz => absurd hz List.not_mem_nil, (by decide), (by decide), (List.mem_of_getElem? (i := 791) (by decide +kernel)), (List.mem_of_getElem? (i := 809) (by decide +kernel))⟩, fun q9 => ?_⟩
    refine z_astore hZ (pc := 13) (j := 4) (L' := [some (.ref o), some (.int x), some (.int y), some (.ref q), some (.ref q9)]) dL_post_13 (by decide) rfl (by simp) rfl ?_
    refine z_iconst hZ (pc := 15) (v := 1) dL_post_15 (by decide) ?_
    exact z_ireturn hZ dL_post_16 ⟨by omega, by omega, FitR.int, by simp, .inr ⟨ws', hp, rfl, rfl⟩⟩
  · obtain ⟨x9, rfl⟩ := hb r ws' hp
    refine z_i2l hZ (pc := 8) (x := x9) dL_post_8 ?_
    refine z_last hZ (pc := 9) (q0 := ws'.length) dL_post_9 (oC_at ws') vin01 (oC_set ws') ?_
    refine z_goto hZ (pc := 10) (tgt := 17) dL_post_10 (by decide) ?_
    refine z_iconst hZ (pc := 17) (v := 0) dL_post_17 (by decide) ?_
    exact z_ireturn hZ dL_post_18 ⟨by omega, by omega, FitR.int, by simp, .inl ⟨x9, ws', hp, rfl, rfl⟩⟩
theorem wr_round {l : Launch} {D : va_G} {cA : Nat → ClassId} {aK aV : Nat → Nat} {Cx' : CXT} {o q : Nat} {f : Nat → Int64} {x : Int32} {k mc ms : Nat} {wc : va_W} {Post : va_W → Option Value → Prop} {XP : String → va_W → Prop} (ok' : CxOk Cx') (hcx : ∀ (A : Nat → Prop) (U : State) (H : Heap), LC l aK aV A U H → Cx' A U H) (hM : MY l D cA Cx' yX10_round cX10_round 4 (some .int) k mc ms [.ref o, .int x] wc Post XP) (hx : ∀ En ws', XP En ws' → En = sNSE) (hb : ∀ r ws', Post ws' r → ∃ x9 : Int32, r = some (.int x9)) (hr : Rcv wc o "TearsPost") : ME l D cA (LC l aK aV) yL_round cL_round 4 (some .int) [(0, 9, 12, 18)] (k + 1) mc ms [.ref o, .int x, .ref q] (wc ++ oC cA q f) (fun ws r => (∃ (x9 : Int32) (ws' : va_W), Post ws' (some (.int x9)) ∧ ws = ws' ++ oC cA q (vp_updL f 0 x9.toInt64) ∧ r = some (.int 0)) ∨ (∃ ws', XP sNSE ws' ∧ ws = ws' ++ oC cA q f ∧ r = some (.int 1))) := by
  refine ME.of (L0 := [some (.ref o), some (.int x), some (.ref q), none]) (by decide) rfl (by simp) (by simp [Value.category]) (fun Z hE => ?_)
  have hZ := hE.toZR
  refine z_aload_n hZ (pc := 0) dL_round_0 rfl ?_
  refine z_iconst hZ (pc := 1) (v := 0) dL_round_1 (by decide) ?_
  refine z_aload_n hZ (pc := 2) dL_round_2 rfl ?_
  refine z_iload_n hZ (pc := 3) dL_round_3 rfl ?_
  refine z_callVE (w1 := []) (w2 := oC cA q f) (wc := wc) (st := [.int 0, .ref q]) hE LC.ok ok' hcx (pc := 4) dL_round_4 lk_L_50 mn_X10_round mv_X10_round hM hr rfl rfl (by simp [Value.category]) (Nat.le_refl _) (by decide) (by omega) (by omega) (fun En ws' hp => ?_) (fun r ws' hp => ?_)
  · obtain rfl := hx En ws' hp
    refine ⟨12, ⟨[], ⟨0, 9, 12, 18⟩, [], sNSE, rfl, rfl, fun z hz => absurd hz List.not_mem_nil, (by decide), (by decide), (List.mem_of_getElem? (i := 791) (by decide +kernel)), (List.mem_of_getElem? (i := 809) (by decide +kernel))⟩, fun q9 => ?_⟩
    refine z_astore_n hZ (pc := 12) (j := 3) (L' := [some (.ref o), some (.int x), some (.ref q), some (.ref q9)]) rfl dL_round_12 (by decide) rfl (by simp) rfl ?_
    refine z_iconst hZ (pc := 13) (v := 1) dL_round_13 (by decide) ?_
    exact z_ireturn hZ dL_round_14 ⟨by omega, by omega, FitR.int, by simp, .inr ⟨ws', hp, rfl, rfl⟩⟩
  · obtain ⟨x9, rfl⟩ := hb r ws' hp
    refine z_i2l hZ (pc := 7) (x := x9) dL_round_7 ?_
    refine z_last hZ (pc := 8) (q0 := ws'.length) dL_round_8 (oC_at ws') vin01 (oC_set ws') ?_
    refine z_goto hZ (pc := 9) (tgt := 15) dL_round_9 (by decide) ?_
    refine z_iconst hZ (pc := 15) (v := 0) dL_round_15 (by decide) ?_
    exact z_ireturn hZ dL_round_16 ⟨by omega, by omega, FitR.int, by simp, .inl ⟨x9, ws', hp, rfl, rfl⟩⟩
theorem wr_rounded {l : Launch} {D : va_G} {cA : Nat → ClassId} {aK aV : Nat → Nat} {Cx' : CXT} {o q : Nat} {f : Nat → Int64} {x : Int32} {k mc ms : Nat} {wc : va_W} {Post : va_W → Option Value → Prop} {XP : String → va_W → Prop} (ok' : CxOk Cx') (hcx : ∀ (A : Nat → Prop) (U : State) (H : Heap), LC l aK aV A U H → Cx' A U H) (hM : MY l D cA Cx' yX10_rounded cX10_rounded 2 (some .int) k mc ms [.ref o, .int x] wc Post XP) (hx : ∀ En ws', XP En ws' → En = sNSE) (hb : ∀ r ws', Post ws' r → ∃ x9 : Int32, r = some (.int x9)) (hr : Rcv wc o "TearsPost") : ME l D cA (LC l aK aV) yL_rounded cL_rounded 4 (some .int) [(0, 9, 12, 18)] (k + 1) mc ms [.ref o, .int x, .ref q] (wc ++ oC cA q f) (fun ws r => (∃ (x9 : Int32) (ws' : va_W), Post ws' (some (.int x9)) ∧ ws = ws' ++ oC cA q (vp_updL f 0 x9.toInt64) ∧ r = some (.int 0)) ∨ (∃ ws', XP sNSE ws' ∧ ws = ws' ++ oC cA q f ∧ r = some (.int 1))) := by
  refine ME.of (L0 := [some (.ref o), some (.int x), some (.ref q), none]) (by decide) rfl (by simp) (by simp [Value.category]) (fun Z hE => ?_)
  have hZ := hE.toZR
  refine z_aload_n hZ (pc := 0) dL_rounded_0 rfl ?_
  refine z_iconst hZ (pc := 1) (v := 0) dL_rounded_1 (by decide) ?_
  refine z_aload_n hZ (pc := 2) dL_rounded_2 rfl ?_
  refine z_iload_n hZ (pc := 3) dL_rounded_3 rfl ?_
  refine z_callVE (w1 := []) (w2 := oC cA q f) (wc := wc) (st := [.int 0, .ref q]) hE LC.ok ok' hcx (pc := 4) dL_rounded_4 lk_L_53 mn_X10_rounded mv_X10_rounded hM hr rfl rfl (by simp [Value.category]) (Nat.le_refl _) (by decide) (by omega) (by omega) (fun En ws' hp => ?_) (fun r ws' hp => ?_)
  · obtain rfl := hx En ws' hp
    refine ⟨12, ⟨[], ⟨0, 9, 12, 18⟩, [], sNSE, rfl, rfl, fun z hz => absurd hz List.not_mem_nil, (by decide), (by decide), (List.mem_of_getElem? (i := 791) (by decide +kernel)), (List.mem_of_getElem? (i := 809) (by decide +kernel))⟩, fun q9 => ?_⟩
    refine z_astore_n hZ (pc := 12) (j := 3) (L' := [some (.ref o), some (.int x), some (.ref q), some (.ref q9)]) rfl dL_rounded_12 (by decide) rfl (by simp) rfl ?_
    refine z_iconst hZ (pc := 13) (v := 1) dL_rounded_13 (by decide) ?_
    exact z_ireturn hZ dL_rounded_14 ⟨by omega, by omega, FitR.int, by simp, .inr ⟨ws', hp, rfl, rfl⟩⟩
  · obtain ⟨x9, rfl⟩ := hb r ws' hp
    refine z_i2l hZ (pc := 7) (x := x9) dL_rounded_7 ?_
    refine z_last hZ (pc := 8) (q0 := ws'.length) dL_rounded_8 (oC_at ws') vin01 (oC_set ws') ?_
    refine z_goto hZ (pc := 9) (tgt := 15) dL_rounded_9 (by decide) ?_
    refine z_iconst hZ (pc := 15) (v := 0) dL_rounded_15 (by decide) ?_
    exact z_ireturn hZ dL_rounded_16 ⟨by omega, by omega, FitR.int, by simp, .inl ⟨x9, ws', hp, rfl, rfl⟩⟩
theorem wr_holds {l : Launch} {D : va_G} {cA : Nat → ClassId} {aK aV : Nat → Nat} {Cx' : CXT} {o q : Nat} {f : Nat → Int64} {x y : Int32} {k mc ms : Nat} {wc : va_W} {Post : va_W → Option Value → Prop} {XP : String → va_W → Prop} (ok' : CxOk Cx') (hcx : ∀ (A : Nat → Prop) (U : State) (H : Heap), LC l aK aV A U H → Cx' A U H) (hM : MY l D cA Cx' yX10_holds cX10_holds 3 (some .boolean) k mc ms [.ref o, .int x, .int y] wc Post XP) (hx : ∀ En ws', XP En ws' → En = sNSE) (hb : ∀ r ws', Post ws' r → ∃ x9 : Int32, r = some (.int x9)) (hr : Rcv wc o "TearsPost") : ME l D cA (LC l aK aV) yL_holds cL_holds 5 (some .int) [(0, 17, 20, 18)] (k + 1) mc ms [.ref o, .int x, .int y, .ref q] (wc ++ oC cA q f) (fun ws r => (∃ (x9 : Int32) (ws' : va_W), Post ws' (some (.int x9)) ∧ ws = ws' ++ oC cA q (vp_updL f 0 (if x9 = 0 then 0 else 1)) ∧ r = some (.int 0)) ∨ (∃ ws', XP sNSE ws' ∧ ws = ws' ++ oC cA q f ∧ r = some (.int 1))) := by
  refine ME.of (L0 := [some (.ref o), some (.int x), some (.int y), some (.ref q), none]) (by decide) rfl (by simp) (by simp [Value.category]) (fun Z hE => ?_)
  have hZ := hE.toZR
  refine z_aload_n hZ (pc := 0) dL_holds_0 rfl ?_
  refine z_iconst hZ (pc := 1) (v := 0) dL_holds_1 (by decide) ?_
  refine z_aload_n hZ (pc := 2) dL_holds_2 rfl ?_
  refine z_iload_n hZ (pc := 3) dL_holds_3 rfl ?_
  refine z_iload_n hZ (pc := 4) dL_holds_4 rfl ?_
  refine z_callVE (w1 := []) (w2 := oC cA q f) (wc := wc) (st := [.int 0, .ref q]) hE LC.ok ok' hcx (pc := 5) dL_holds_5 lk_L_56 mn_X10_holds mv_X10_holds hM hr rfl rfl (by simp [Value.category]) (Nat.le_refl _) (by decide) (by omega) (by omega) (fun En ws' hp => ?_) (fun r ws' hp => ?_)
  · obtain rfl := hx En ws' hp
    refine ⟨20, ⟨[], ⟨0, 17, 20, 18⟩, [], sNSE, rfl, rfl, fun z hz => absurd hz List.not_mem_nil, (by decide), (by decide), (List.mem_of_getElem? (i := 791) (by decide +kernel)), (List.mem_of_getElem? (i := 809) (by decide +kernel))⟩, fun q9 => ?_⟩
    refine z_astore hZ (pc := 20) (j := 4) (L' := [some (.ref o), some (.int x), some (.int y), some (.ref q), some (.ref q9)]) dL_holds_20 (by decide) rfl (by simp) rfl ?_
    refine z_iconst hZ (pc := 22) (v := 1) dL_holds_22 (by decide) ?_
    exact z_ireturn hZ dL_holds_23 ⟨by omega, by omega, FitR.int, by simp, .inr ⟨ws', hp, rfl, rfl⟩⟩
  · obtain ⟨x9, rfl⟩ := hb r ws' hp
    show Z _ _ (ws' ++ oC cA q f) _ [.int x9, .int 0, .ref q] 8
    have hfin : ∀ x8 : Int64, x8 = (if x9 = 0 then 0 else 1) → Z (0 + mc) (0 + ms) (ws' ++ oC cA q f) [some (.ref o), some (.int x), some (.int y), some (.ref q), none] [.long x8, .int 0, .ref q] 16 := fun x8 h8 => by
      refine z_last hZ (pc := 16) (q0 := ws'.length) dL_holds_16 (oC_at ws') vin01 (oC_set ws') ?_
      refine z_goto hZ (pc := 17) (tgt := 24) dL_holds_17 (by decide) ?_
      refine z_iconst hZ (pc := 24) (v := 0) dL_holds_24 (by decide) ?_
      exact z_ireturn hZ dL_holds_25 ⟨by omega, by omega, FitR.int, by simp, .inl ⟨x9, ws', hp, by rw [h8]; rfl, rfl⟩⟩
    refine z_if_eq hZ (pc := 8) (tgt := 15) dL_holds_8 (by decide) (fun h9 => ?_) (fun h9 => ?_)
    · exact z_lconst hZ (pc := 15) (v := 0) dL_holds_15 (by decide) (hfin 0 (by rw [if_pos h9]))
    · refine z_lconst hZ (pc := 11) (v := 1) dL_holds_11 (by decide) ?_
      exact z_goto hZ (pc := 12) (tgt := 16) dL_holds_12 (by decide) (hfin 1 (by rw [if_neg h9]))
theorem wr_stranger {l : Launch} {D : va_G} {cA : Nat → ClassId} {aK aV : Nat → Nat} {Cx' : CXT} {o q : Nat} {f : Nat → Int64} {x y : Int32} {k mc ms : Nat} {wc : va_W} {Post : va_W → Option Value → Prop} {XP : String → va_W → Prop} (ok' : CxOk Cx') (hcx : ∀ (A : Nat → Prop) (U : State) (H : Heap), LC l aK aV A U H → Cx' A U H) (hM : MY l D cA Cx' yX10_stranger cX10_stranger 4 (some .int) k mc ms [.ref o, .int x, .int y] wc Post XP) (hx : ∀ En ws', XP En ws' → En = sNSE ∨ En = sIAE) (hb : ∀ r ws', Post ws' r → ∃ x9 : Int32, r = some (.int x9)) (hr : Rcv wc o "TearsPost") : ME l D cA (LC l aK aV) yL_stranger cL_stranger 5 (some .int) [(0, 10, 13, 18), (0, 10, 17, 13)] (k + 1) mc ms [.ref o, .int x, .int y, .ref q] (wc ++ oC cA q f) (fun ws r => (∃ (x9 : Int32) (ws' : va_W), Post ws' (some (.int x9)) ∧ ws = ws' ++ oC cA q (vp_updL f 0 x9.toInt64) ∧ r = some (.int 0)) ∨ (∃ ws', XP sNSE ws' ∧ ws = ws' ++ oC cA q f ∧ r = some (.int 1)) ∨ (∃ ws', XP sIAE ws' ∧ ws = ws' ++ oC cA q f ∧ r = some (.int 2))) := by
  refine ME.of (L0 := [some (.ref o), some (.int x), some (.int y), some (.ref q), none]) (by decide) rfl (by simp) (by simp [Value.category]) (fun Z hE => ?_)
  have hZ := hE.toZR
  refine z_aload_n hZ (pc := 0) dL_stranger_0 rfl ?_
  refine z_iconst hZ (pc := 1) (v := 0) dL_stranger_1 (by decide) ?_
  refine z_aload_n hZ (pc := 2) dL_stranger_2 rfl ?_
  refine z_iload_n hZ (pc := 3) dL_stranger_3 rfl ?_
  refine z_iload_n hZ (pc := 4) dL_stranger_4 rfl ?_
  refine z_callVE (w1 := []) (w2 := oC cA q f) (wc := wc) (st := [.int 0, .ref q]) hE LC.ok ok' hcx (pc := 5) dL_stranger_5 lk_L_60 mn_X10_stranger mv_X10_stranger hM hr rfl rfl (by simp [Value.category]) (Nat.le_refl _) (by decide) (by omega) (by omega) (fun En ws' hp => ?_) (fun r ws' hp => ?_)
  · rcases hx En ws' hp with rfl | rfl
    · refine ⟨13, ⟨[], ⟨0, 10, 13, 18⟩, [⟨0, 10, 17, 13⟩], sNSE, rfl, rfl, fun z hz => absurd hz List.not_mem_nil, (by decide), (by decide), (List.mem_of_getElem? (i := 791) (by decide +kernel)), (List.mem_of_getElem? (i := 809) (by decide +kernel))⟩, fun q9 => ?_⟩
      refine z_astore hZ (pc := 13) (j := 4) (L' := [some (.ref o), some (.int x), some (.int y), some (.ref q), some (.ref q9)]) dL_stranger_13 (by decide) rfl (by simp) rfl ?_
      refine z_iconst hZ (pc := 15) (v := 1) dL_stranger_15 (by decide) ?_
      exact z_ireturn hZ dL_stranger_16 ⟨by omega, by omega, FitR.int, by simp, .inr (.inl ⟨ws', hp, rfl, rfl⟩)⟩
    · refine ⟨17, ⟨[⟨0, 10, 13, 18⟩], ⟨0, 10, 17, 13⟩, [], sIAE, rfl, rfl, fun z hz => by rw [List.mem_singleton.mp hz]; exact ⟨(by decide), sNSE, (List.mem_of_getElem? (i := 791) (by decide +kernel)), fun _ _ _ h => h.2⟩, (by decide), (by decide), (List.mem_of_getElem? (i := 512) (by decide +kernel)), (List.mem_of_getElem? (i := 519) (by decide +kernel))⟩, fun q9 => ?_⟩
      refine z_astore hZ (pc := 17) (j := 4) (L' := [some (.ref o), some (.int x), some (.int y), some (.ref q), some (.ref q9)]) dL_stranger_17 (by decide) rfl (by simp) rfl ?_
      refine z_iconst hZ (pc := 19) (v := 2) dL_stranger_19 (by decide) ?_
      exact z_ireturn hZ dL_stranger_20 ⟨by omega, by omega, FitR.int, by simp, .inr (.inr ⟨ws', hp, rfl, rfl⟩)⟩
  · obtain ⟨x9, rfl⟩ := hb r ws' hp
    refine z_i2l hZ (pc := 8) (x := x9) dL_stranger_8 ?_
    refine z_last hZ (pc := 9) (q0 := ws'.length) dL_stranger_9 (oC_at ws') vin01 (oC_set ws') ?_
    refine z_goto hZ (pc := 10) (tgt := 21) dL_stranger_10 (by decide) ?_
    refine z_iconst hZ (pc := 21) (v := 0) dL_stranger_21 (by decide) ?_
    exact z_ireturn hZ dL_stranger_22 ⟨by omega, by omega, FitR.int, by simp, .inl ⟨x9, ws', hp, rfl, rfl⟩⟩
theorem wr_write {l : Launch} {D : va_G} {cA : Nat → ClassId} {aK aV : Nat → Nat} {Cx' : CXT} {o q : Nat} {f : Nat → Int64} {x : Int32} {k mc ms : Nat} {wc : va_W} {Post : va_W → Option Value → Prop} {XP : String → va_W → Prop} (ok' : CxOk Cx') (hcx : ∀ (A : Nat → Prop) (U : State) (H : Heap), LC l aK aV A U H → Cx' A U H) (hM : MY l D cA Cx' yX10_write cX10_write 2 (some .int) k mc ms [.ref o, .int x] wc Post XP) (hx : ∀ En ws', XP En ws' → En = sNSE) (hb : ∀ r ws', Post ws' r → ∃ x9 : Int32, r = some (.int x9)) (hr : Rcv wc o "TearsPost") : ME l D cA (LC l aK aV) yL_write cL_write 4 (some .int) [(0, 9, 12, 18)] (k + 1) mc ms [.ref o, .int x, .ref q] (wc ++ oC cA q f) (fun ws r => (∃ (x9 : Int32) (ws' : va_W), Post ws' (some (.int x9)) ∧ ws = ws' ++ oC cA q (vp_updL f 0 x9.toInt64) ∧ r = some (.int 0)) ∨ (∃ ws', XP sNSE ws' ∧ ws = ws' ++ oC cA q f ∧ r = some (.int 1))) := by
  refine ME.of (L0 := [some (.ref o), some (.int x), some (.ref q), none]) (by decide) rfl (by simp) (by simp [Value.category]) (fun Z hE => ?_)
  have hZ := hE.toZR
  refine z_aload_n hZ (pc := 0) dL_write_0 rfl ?_
  refine z_iconst hZ (pc := 1) (v := 0) dL_write_1 (by decide) ?_
  refine z_aload_n hZ (pc := 2) dL_write_2 rfl ?_
  refine z_iload_n hZ (pc := 3) dL_write_3 rfl ?_
  refine z_callVE (w1 := []) (w2 := oC cA q f) (wc := wc) (st := [.int 0, .ref q]) hE LC.ok ok' hcx (pc := 4) dL_write_4 lk_L_63 mn_X10_write mv_X10_write hM hr rfl rfl (by simp [Value.category]) (Nat.le_refl _) (by decide) (by omega) (by omega) (fun En ws' hp => ?_) (fun r ws' hp => ?_)
  · obtain rfl := hx En ws' hp
    refine ⟨12, ⟨[], ⟨0, 9, 12, 18⟩, [], sNSE, rfl, rfl, fun z hz => absurd hz List.not_mem_nil, (by decide), (by decide), (List.mem_of_getElem? (i := 791) (by decide +kernel)), (List.mem_of_getElem? (i := 809) (by decide +kernel))⟩, fun q9 => ?_⟩
    refine z_astore_n hZ (pc := 12) (j := 3) (L' := [some (.ref o), some (.int x), some (.ref q), some (.ref q9)]) rfl dL_write_12 (by decide) rfl (by simp) rfl ?_
    refine z_iconst hZ (pc := 13) (v := 1) dL_write_13 (by decide) ?_
    exact z_ireturn hZ dL_write_14 ⟨by omega, by omega, FitR.int, by simp, .inr ⟨ws', hp, rfl, rfl⟩⟩
  · obtain ⟨x9, rfl⟩ := hb r ws' hp
    refine z_i2l hZ (pc := 7) (x := x9) dL_write_7 ?_
    refine z_last hZ (pc := 8) (q0 := ws'.length) dL_write_8 (oC_at ws') vin01 (oC_set ws') ?_
    refine z_goto hZ (pc := 9) (tgt := 15) dL_write_9 (by decide) ?_
    refine z_iconst hZ (pc := 15) (v := 0) dL_write_15 (by decide) ?_
    exact z_ireturn hZ dL_write_16 ⟨by omega, by omega, FitR.int, by simp, .inl ⟨x9, ws', hp, rfl, rfl⟩⟩
theorem wr_register {l : Launch} {D : va_G} {cA : Nat → ClassId} {aK aV : Nat → Nat} {Cx' : CXT} {o q : Nat} {f : Nat → Int64} {x y : Int32} {k mc ms : Nat} {wc : va_W} {Post : va_W → Option Value → Prop} {XP : String → va_W → Prop} (ok' : CxOk Cx') (hcx : ∀ (A : Nat → Prop) (U : State) (H : Heap), LC l aK aV A U H → Cx' A U H) (hM : MY l D cA Cx' yX10_register cX10_register 3 (some .int) k mc ms [.ref o, .int x, .int y] wc Post XP) (hx : ∀ En ws', XP En ws' → En = sNSE) (hb : ∀ r ws', Post ws' r → ∃ x9 : Int32, r = some (.int x9)) (hr : Rcv wc o "TearsPost") : ME l D cA (LC l aK aV) yL_register cL_register 5 (some .int) [(0, 10, 13, 18)] (k + 1) mc ms [.ref o, .int x, .int y, .ref q] (wc ++ oC cA q f) (fun ws r => (∃ (x9 : Int32) (ws' : va_W), Post ws' (some (.int x9)) ∧ ws = ws' ++ oC cA q (vp_updL f 0 x9.toInt64) ∧ r = some (.int 0)) ∨ (∃ ws', XP sNSE ws' ∧ ws = ws' ++ oC cA q f ∧ r = some (.int 1))) := by
  refine ME.of (L0 := [some (.ref o), some (.int x), some (.int y), some (.ref q), none]) (by decide) rfl (by simp) (by simp [Value.category]) (fun Z hE => ?_)
  have hZ := hE.toZR
  refine z_aload_n hZ (pc := 0) dL_register_0 rfl ?_
  refine z_iconst hZ (pc := 1) (v := 0) dL_register_1 (by decide) ?_
  refine z_aload_n hZ (pc := 2) dL_register_2 rfl ?_
  refine z_iload_n hZ (pc := 3) dL_register_3 rfl ?_
  refine z_iload_n hZ (pc := 4) dL_register_4 rfl ?_
  refine z_callVE (w1 := []) (w2 := oC cA q f) (wc := wc) (st := [.int 0, .ref q]) hE LC.ok ok' hcx (pc := 5) dL_register_5 lk_L_66 mn_X10_register mv_X10_register hM hr rfl rfl (by simp [Value.category]) (Nat.le_refl _) (by decide) (by omega) (by omega) (fun En ws' hp => ?_) (fun r ws' hp => ?_)
  · obtain rfl := hx En ws' hp
    refine ⟨13, ⟨[], ⟨0, 10, 13, 18⟩, [], sNSE, rfl, rfl, fun z hz => absurd hz List.not_mem_nil, (by decide), (by decide), (List.mem_of_getElem? (i := 791) (by decide +kernel)), (List.mem_of_getElem? (i := 809) (by decide +kernel))⟩, fun q9 => ?_⟩
    refine z_astore hZ (pc := 13) (j := 4) (L' := [some (.ref o), some (.int x), some (.int y), some (.ref q), some (.ref q9)]) dL_register_13 (by decide) rfl (by simp) rfl ?_
    refine z_iconst hZ (pc := 15) (v := 1) dL_register_15 (by decide) ?_
    exact z_ireturn hZ dL_register_16 ⟨by omega, by omega, FitR.int, by simp, .inr ⟨ws', hp, rfl, rfl⟩⟩
  · obtain ⟨x9, rfl⟩ := hb r ws' hp
    refine z_i2l hZ (pc := 8) (x := x9) dL_register_8 ?_
    refine z_last hZ (pc := 9) (q0 := ws'.length) dL_register_9 (oC_at ws') vin01 (oC_set ws') ?_
    refine z_goto hZ (pc := 10) (tgt := 17) dL_register_10 (by decide) ?_
    refine z_iconst hZ (pc := 17) (v := 0) dL_register_17 (by decide) ?_
    exact z_ireturn hZ dL_register_18 ⟨by omega, by omega, FitR.int, by simp, .inl ⟨x9, ws', hp, rfl, rfl⟩⟩
theorem wr_will {l : Launch} {D : va_G} {cA : Nat → ClassId} {aK aV : Nat → Nat} {Cx' : CXT} {o q : Nat} {f : Nat → Int64} {x y z x4 x5 : Int32} {k mc ms : Nat} {wc : va_W} {Post : va_W → Option Value → Prop} {XP : String → va_W → Prop} (ok' : CxOk Cx') (hcx : ∀ (A : Nat → Prop) (U : State) (H : Heap), LC l aK aV A U H → Cx' A U H) (hM : MY l D cA Cx' yX10_will cX10_will 9 (some .int) k mc ms [.ref o, .int x, .int y, .int z, .int x4, .int x5] wc Post XP) (hx : ∀ En ws', XP En ws' → En = sNSE ∨ En = sIAE) (hb : ∀ r ws', Post ws' r → ∃ x9 : Int32, r = some (.int x9)) (hr : Rcv wc o "TearsPost") : ME l D cA (LC l aK aV) yL_will cL_will 8 (some .int) [(0, 16, 19, 18), (0, 16, 23, 13)] (k + 1) mc ms [.ref o, .int x, .int y, .int z, .int x4, .int x5, .ref q] (wc ++ oC cA q f) (fun ws r => (∃ (x9 : Int32) (ws' : va_W), Post ws' (some (.int x9)) ∧ ws = ws' ++ oC cA q (vp_updL f 0 x9.toInt64) ∧ r = some (.int 0)) ∨ (∃ ws', XP sNSE ws' ∧ ws = ws' ++ oC cA q f ∧ r = some (.int 1)) ∨ (∃ ws', XP sIAE ws' ∧ ws = ws' ++ oC cA q f ∧ r = some (.int 2))) := by
  refine ME.of (L0 := [some (.ref o), some (.int x), some (.int y), some (.int z), some (.int x4), some (.int x5), some (.ref q), none]) (by decide) rfl (by simp) (by simp [Value.category]) (fun Z hE => ?_)
  have hZ := hE.toZR
  refine z_aload hZ (pc := 0) dL_will_0 rfl ?_
  refine z_iconst hZ (pc := 2) (v := 0) dL_will_2 (by decide) ?_
  refine z_aload_n hZ (pc := 3) dL_will_3 rfl ?_
  refine z_iload_n hZ (pc := 4) dL_will_4 rfl ?_
  refine z_iload_n hZ (pc := 5) dL_will_5 rfl ?_
  refine z_iload_n hZ (pc := 6) dL_will_6 rfl ?_
  refine z_iload hZ (pc := 7) dL_will_7 rfl ?_
  refine z_iload hZ (pc := 9) dL_will_9 rfl ?_
  refine z_callVE (w1 := []) (w2 := oC cA q f) (wc := wc) (st := [.int 0, .ref q]) hE LC.ok ok' hcx (pc := 11) dL_will_11 lk_L_69 mn_X10_will mv_X10_will hM hr rfl rfl (by simp [Value.category]) (Nat.le_refl _) (by decide) (by omega) (by omega) (fun En ws' hp => ?_) (fun r ws' hp => ?_)
  · rcases hx En ws' hp with rfl | rfl
    · refine ⟨19, ⟨[], ⟨0, 16, 19, 18⟩, [⟨0, 16, 23, 13⟩], sNSE, rfl, rfl, fun z hz => absurd hz List.not_mem_nil, (by decide), (by decide), (List.mem_of_getElem? (i := 791) (by decide +kernel)), (List.mem_of_getElem? (i := 809) (by decide +kernel))⟩, fun q9 => ?_⟩
      refine z_astore hZ (pc := 19) (j := 7) (L' := [some (.ref o), some (.int x), some (.int y), some (.int z), some (.int x4), some (.int x5), some (.ref q), some (.ref q9)]) dL_will_19 (by decide) rfl (by simp) rfl ?_
      refine z_iconst hZ (pc := 21) (v := 1) dL_will_21 (by decide) ?_
      exact z_ireturn hZ dL_will_22 ⟨by omega, by omega, FitR.int, by simp, .inr (.inl ⟨ws', hp, rfl, rfl⟩)⟩
    · refine ⟨23, ⟨[⟨0, 16, 19, 18⟩], ⟨0, 16, 23, 13⟩, [], sIAE, rfl, rfl, fun z hz => by rw [List.mem_singleton.mp hz]; exact ⟨(by decide), sNSE, (List.mem_of_getElem? (i := 791) (by decide +kernel)), fun _ _ _ h => h.2⟩, (by decide), (by decide), (List.mem_of_getElem? (i := 512) (by decide +kernel)), (List.mem_of_getElem? (i := 519) (by decide +kernel))⟩, fun q9 => ?_⟩
      refine z_astore hZ (pc := 23) (j := 7) (L' := [some (.ref o), some (.int x), some (.int y), some (.int z), some (.int x4), some (.int x5), some (.ref q), some (.ref q9)]) dL_will_23 (by decide) rfl (by simp) rfl ?_
      refine z_iconst hZ (pc := 25) (v := 2) dL_will_25 (by decide) ?_
      exact z_ireturn hZ dL_will_26 ⟨by omega, by omega, FitR.int, by simp, .inr (.inr ⟨ws', hp, rfl, rfl⟩)⟩
  · obtain ⟨x9, rfl⟩ := hb r ws' hp
    refine z_i2l hZ (pc := 14) (x := x9) dL_will_14 ?_
    refine z_last hZ (pc := 15) (q0 := ws'.length) dL_will_15 (oC_at ws') vin01 (oC_set ws') ?_
    refine z_goto hZ (pc := 16) (tgt := 27) dL_will_16 (by decide) ?_
    refine z_iconst hZ (pc := 27) (v := 0) dL_will_27 (by decide) ?_
    exact z_ireturn hZ dL_will_28 ⟨by omega, by omega, FitR.int, by simp, .inl ⟨x9, ws', hp, rfl, rfl⟩⟩
theorem wr_last {l : Launch} {D : va_G} {cA : Nat → ClassId} {aK aV : Nat → Nat} {Cx' : CXT} {o q : Nat} {f : Nat → Int64} {x : Int32} {k mc ms : Nat} {wc : va_W} {Post : va_W → Option Value → Prop} {XP : String → va_W → Prop} (ok' : CxOk Cx') (hcx : ∀ (A : Nat → Prop) (U : State) (H : Heap), LC l aK aV A U H → Cx' A U H) (hM : MY l D cA Cx' yX10_last cX10_last 2 (some .int) k mc ms [.ref o, .int x] wc Post XP) (hx : ∀ En ws', XP En ws' → En = sNSE) (hb : ∀ r ws', Post ws' r → ∃ x9 : Int32, r = some (.int x9)) (hr : Rcv wc o "TearsPost") : ME l D cA (LC l aK aV) yL_last cL_last 4 (some .int) [(0, 9, 12, 18)] (k + 1) mc ms [.ref o, .int x, .ref q] (wc ++ oC cA q f) (fun ws r => (∃ (x9 : Int32) (ws' : va_W), Post ws' (some (.int x9)) ∧ ws = ws' ++ oC cA q (vp_updL f 0 x9.toInt64) ∧ r = some (.int 0)) ∨ (∃ ws', XP sNSE ws' ∧ ws = ws' ++ oC cA q f ∧ r = some (.int 1))) := by
  refine ME.of (L0 := [some (.ref o), some (.int x), some (.ref q), none]) (by decide) rfl (by simp) (by simp [Value.category]) (fun Z hE => ?_)
  have hZ := hE.toZR
  refine z_aload_n hZ (pc := 0) dL_last_0 rfl ?_
  refine z_iconst hZ (pc := 1) (v := 0) dL_last_1 (by decide) ?_
  refine z_aload_n hZ (pc := 2) dL_last_2 rfl ?_
  refine z_iload_n hZ (pc := 3) dL_last_3 rfl ?_
  refine z_callVE (w1 := []) (w2 := oC cA q f) (wc := wc) (st := [.int 0, .ref q]) hE LC.ok ok' hcx (pc := 4) dL_last_4 lk_L_73 mn_X10_last mv_X10_last hM hr rfl rfl (by simp [Value.category]) (Nat.le_refl _) (by decide) (by omega) (by omega) (fun En ws' hp => ?_) (fun r ws' hp => ?_)
  · obtain rfl := hx En ws' hp
    refine ⟨12, ⟨[], ⟨0, 9, 12, 18⟩, [], sNSE, rfl, rfl, fun z hz => absurd hz List.not_mem_nil, (by decide), (by decide), (List.mem_of_getElem? (i := 791) (by decide +kernel)), (List.mem_of_getElem? (i := 809) (by decide +kernel))⟩, fun q9 => ?_⟩
    refine z_astore_n hZ (pc := 12) (j := 3) (L' := [some (.ref o), some (.int x), some (.ref q), some (.ref q9)]) rfl dL_last_12 (by decide) rfl (by simp) rfl ?_
    refine z_iconst hZ (pc := 13) (v := 1) dL_last_13 (by decide) ?_
    exact z_ireturn hZ dL_last_14 ⟨by omega, by omega, FitR.int, by simp, .inr ⟨ws', hp, rfl, rfl⟩⟩
  · obtain ⟨x9, rfl⟩ := hb r ws' hp
    refine z_i2l hZ (pc := 7) (x := x9) dL_last_7 ?_
    refine z_last hZ (pc := 8) (q0 := ws'.length) dL_last_8 (oC_at ws') vin01 (oC_set ws') ?_
    refine z_goto hZ (pc := 9) (tgt := 15) dL_last_9 (by decide) ?_
    refine z_iconst hZ (pc := 15) (v := 0) dL_last_15 (by decide) ?_
    exact z_ireturn hZ dL_last_16 ⟨by omega, by omega, FitR.int, by simp, .inl ⟨x9, ws', hp, rfl, rfl⟩⟩
theorem wr_nobody {l : Launch} {D : va_G} {cA : Nat → ClassId} {aK aV : Nat → Nat} {Cx' : CXT} {o q : Nat} {f : Nat → Int64} {x : Int32} {k mc ms : Nat} {wc : va_W} {Post : va_W → Option Value → Prop} {XP : String → va_W → Prop} (ok' : CxOk Cx') (hcx : ∀ (A : Nat → Prop) (U : State) (H : Heap), LC l aK aV A U H → Cx' A U H) (hM : MY l D cA Cx' yX10_nobody cX10_nobody 2 (some .int) k mc ms [.ref o, .int x] wc Post XP) (hx : ∀ En ws', XP En ws' → En = sNSE) (hb : ∀ r ws', Post ws' r → ∃ x9 : Int32, r = some (.int x9)) (hr : Rcv wc o "TearsPost") : ME l D cA (LC l aK aV) yL_nobody cL_nobody 4 (some .int) [(0, 9, 12, 18)] (k + 1) mc ms [.ref o, .int x, .ref q] (wc ++ oC cA q f) (fun ws r => (∃ (x9 : Int32) (ws' : va_W), Post ws' (some (.int x9)) ∧ ws = ws' ++ oC cA q (vp_updL f 0 x9.toInt64) ∧ r = some (.int 0)) ∨ (∃ ws', XP sNSE ws' ∧ ws = ws' ++ oC cA q f ∧ r = some (.int 1))) := by
  refine ME.of (L0 := [some (.ref o), some (.int x), some (.ref q), none]) (by decide) rfl (by simp) (by simp [Value.category]) (fun Z hE => ?_)
  have hZ := hE.toZR
  refine z_aload_n hZ (pc := 0) dL_nobody_0 rfl ?_
  refine z_iconst hZ (pc := 1) (v := 0) dL_nobody_1 (by decide) ?_
  refine z_aload_n hZ (pc := 2) dL_nobody_2 rfl ?_
  refine z_iload_n hZ (pc := 3) dL_nobody_3 rfl ?_
  refine z_callVE (w1 := []) (w2 := oC cA q f) (wc := wc) (st := [.int 0, .ref q]) hE LC.ok ok' hcx (pc := 4) dL_nobody_4 lk_L_76 mn_X10_nobody mv_X10_nobody hM hr rfl rfl (by simp [Value.category]) (Nat.le_refl _) (by decide) (by omega) (by omega) (fun En ws' hp => ?_) (fun r ws' hp => ?_)
  · obtain rfl := hx En ws' hp
    refine ⟨12, ⟨[], ⟨0, 9, 12, 18⟩, [], sNSE, rfl, rfl, fun z hz => absurd hz List.not_mem_nil, (by decide), (by decide), (List.mem_of_getElem? (i := 791) (by decide +kernel)), (List.mem_of_getElem? (i := 809) (by decide +kernel))⟩, fun q9 => ?_⟩
    refine z_astore_n hZ (pc := 12) (j := 3) (L' := [some (.ref o), some (.int x), some (.ref q), some (.ref q9)]) rfl dL_nobody_12 (by decide) rfl (by simp) rfl ?_
    refine z_iconst hZ (pc := 13) (v := 1) dL_nobody_13 (by decide) ?_
    exact z_ireturn hZ dL_nobody_14 ⟨by omega, by omega, FitR.int, by simp, .inr ⟨ws', hp, rfl, rfl⟩⟩
  · obtain ⟨x9, rfl⟩ := hb r ws' hp
    refine z_i2l hZ (pc := 7) (x := x9) dL_nobody_7 ?_
    refine z_last hZ (pc := 8) (q0 := ws'.length) dL_nobody_8 (oC_at ws') vin01 (oC_set ws') ?_
    refine z_goto hZ (pc := 9) (tgt := 15) dL_nobody_9 (by decide) ?_
    refine z_iconst hZ (pc := 15) (v := 0) dL_nobody_15 (by decide) ?_
    exact z_ireturn hZ dL_nobody_16 ⟨by omega, by omega, FitR.int, by simp, .inl ⟨x9, ws', hp, rfl, rfl⟩⟩
theorem wr_behind {l : Launch} {D : va_G} {cA : Nat → ClassId} {aK aV : Nat → Nat} {Cx' : CXT} {o q : Nat} {f : Nat → Int64} {x y z : Int32} {k mc ms : Nat} {wc : va_W} {Post : va_W → Option Value → Prop} {XP : String → va_W → Prop} (ok' : CxOk Cx') (hcx : ∀ (A : Nat → Prop) (U : State) (H : Heap), LC l aK aV A U H → Cx' A U H) (hM : MY l D cA Cx' yX10_behind cX10_behind 10 (some .int) k mc ms [.ref o, .int x, .int y, .int z] wc Post XP) (hx : ∀ En ws', XP En ws' → En = sNSE ∨ En = sIAE) (hb : ∀ r ws', Post ws' r → ∃ x9 : Int32, r = some (.int x9)) (hr : Rcv wc o "TearsPost") : ME l D cA (LC l aK aV) yL_behind cL_behind 6 (some .int) [(0, 12, 15, 18), (0, 12, 19, 13)] (k + 1) mc ms [.ref o, .int x, .int y, .int z, .ref q] (wc ++ oC cA q f) (fun ws r => (∃ (x9 : Int32) (ws' : va_W), Post ws' (some (.int x9)) ∧ ws = ws' ++ oC cA q (vp_updL f 0 x9.toInt64) ∧ r = some (.int 0)) ∨ (∃ ws', XP sNSE ws' ∧ ws = ws' ++ oC cA q f ∧ r = some (.int 1)) ∨ (∃ ws', XP sIAE ws' ∧ ws = ws' ++ oC cA q f ∧ r = some (.int 2))) := by
  refine ME.of (L0 := [some (.ref o), some (.int x), some (.int y), some (.int z), some (.ref q), none]) (by decide) rfl (by simp) (by simp [Value.category]) (fun Z hE => ?_)
  have hZ := hE.toZR
  refine z_aload hZ (pc := 0) dL_behind_0 rfl ?_
  refine z_iconst hZ (pc := 2) (v := 0) dL_behind_2 (by decide) ?_
  refine z_aload_n hZ (pc := 3) dL_behind_3 rfl ?_
  refine z_iload_n hZ (pc := 4) dL_behind_4 rfl ?_
  refine z_iload_n hZ (pc := 5) dL_behind_5 rfl ?_
  refine z_iload_n hZ (pc := 6) dL_behind_6 rfl ?_
  refine z_callVE (w1 := []) (w2 := oC cA q f) (wc := wc) (st := [.int 0, .ref q]) hE LC.ok ok' hcx (pc := 7) dL_behind_7 lk_L_79 mn_X10_behind mv_X10_behind hM hr rfl rfl (by simp [Value.category]) (Nat.le_refl _) (by decide) (by omega) (by omega) (fun En ws' hp => ?_) (fun r ws' hp => ?_)
  · rcases hx En ws' hp with rfl | rfl
    · refine ⟨15, ⟨[], ⟨0, 12, 15, 18⟩, [⟨0, 12, 19, 13⟩], sNSE, rfl, rfl, fun z hz => absurd hz List.not_mem_nil, (by decide), (by decide), (List.mem_of_getElem? (i := 791) (by decide +kernel)), (List.mem_of_getElem? (i := 809) (by decide +kernel))⟩, fun q9 => ?_⟩
      refine z_astore hZ (pc := 15) (j := 5) (L' := [some (.ref o), some (.int x), some (.int y), some (.int z), some (.ref q), some (.ref q9)]) dL_behind_15 (by decide) rfl (by simp) rfl ?_
      refine z_iconst hZ (pc := 17) (v := 1) dL_behind_17 (by decide) ?_
      exact z_ireturn hZ dL_behind_18 ⟨by omega, by omega, FitR.int, by simp, .inr (.inl ⟨ws', hp, rfl, rfl⟩)⟩
    · refine ⟨19, ⟨[⟨0, 12, 15, 18⟩], ⟨0, 12, 19, 13⟩, [], sIAE, rfl, rfl, fun z hz => by rw [List.mem_singleton.mp hz]; exact ⟨(by decide), sNSE, (List.mem_of_getElem? (i := 791) (by decide +kernel)), fun _ _ _ h => h.2⟩, (by decide), (by decide), (List.mem_of_getElem? (i := 512) (by decide +kernel)), (List.mem_of_getElem? (i := 519) (by decide +kernel))⟩, fun q9 => ?_⟩
      refine z_astore hZ (pc := 19) (j := 5) (L' := [some (.ref o), some (.int x), some (.int y), some (.int z), some (.ref q), some (.ref q9)]) dL_behind_19 (by decide) rfl (by simp) rfl ?_
      refine z_iconst hZ (pc := 21) (v := 2) dL_behind_21 (by decide) ?_
      exact z_ireturn hZ dL_behind_22 ⟨by omega, by omega, FitR.int, by simp, .inr (.inr ⟨ws', hp, rfl, rfl⟩)⟩
  · obtain ⟨x9, rfl⟩ := hb r ws' hp
    refine z_i2l hZ (pc := 10) (x := x9) dL_behind_10 ?_
    refine z_last hZ (pc := 11) (q0 := ws'.length) dL_behind_11 (oC_at ws') vin01 (oC_set ws') ?_
    refine z_goto hZ (pc := 12) (tgt := 23) dL_behind_12 (by decide) ?_
    refine z_iconst hZ (pc := 23) (v := 0) dL_behind_23 (by decide) ?_
    exact z_ireturn hZ dL_behind_24 ⟨by omega, by omega, FitR.int, by simp, .inl ⟨x9, ws', hp, rfl, rfl⟩⟩
theorem wr_dry {l : Launch} {D : va_G} {cA : Nat → ClassId} {aK aV : Nat → Nat} {Cx' : CXT} {o q : Nat} {f : Nat → Int64} {x : Int32} {k mc ms : Nat} {wc : va_W} {Post : va_W → Option Value → Prop} {XP : String → va_W → Prop} (ok' : CxOk Cx') (hcx : ∀ (A : Nat → Prop) (U : State) (H : Heap), LC l aK aV A U H → Cx' A U H) (hM : MY l D cA Cx' yX10_dry cX10_dry 2 (some .int) k mc ms [.ref o, .int x] wc Post XP) (hx : ∀ En ws', XP En ws' → En = sIAE) (hb : ∀ r ws', Post ws' r → ∃ x9 : Int32, r = some (.int x9)) (hr : Rcv wc o "TearsPost") : ME l D cA (LC l aK aV) yL_dry cL_dry 4 (some .int) [(0, 9, 12, 13)] (k + 1) mc ms [.ref o, .int x, .ref q] (wc ++ oC cA q f) (fun ws r => (∃ (x9 : Int32) (ws' : va_W), Post ws' (some (.int x9)) ∧ ws = ws' ++ oC cA q (vp_updL f 0 x9.toInt64) ∧ r = some (.int 0)) ∨ (∃ ws', XP sIAE ws' ∧ ws = ws' ++ oC cA q f ∧ r = some (.int 1))) := by
  refine ME.of (L0 := [some (.ref o), some (.int x), some (.ref q), none]) (by decide) rfl (by simp) (by simp [Value.category]) (fun Z hE => ?_)
  have hZ := hE.toZR
  refine z_aload_n hZ (pc := 0) dL_dry_0 rfl ?_
  refine z_iconst hZ (pc := 1) (v := 0) dL_dry_1 (by decide) ?_
  refine z_aload_n hZ (pc := 2) dL_dry_2 rfl ?_
  refine z_iload_n hZ (pc := 3) dL_dry_3 rfl ?_
  refine z_callVE (w1 := []) (w2 := oC cA q f) (wc := wc) (st := [.int 0, .ref q]) hE LC.ok ok' hcx (pc := 4) dL_dry_4 lk_L_82 mn_X10_dry mv_X10_dry hM hr rfl rfl (by simp [Value.category]) (Nat.le_refl _) (by decide) (by omega) (by omega) (fun En ws' hp => ?_) (fun r ws' hp => ?_)
  · obtain rfl := hx En ws' hp
    refine ⟨12, ⟨[], ⟨0, 9, 12, 13⟩, [], sIAE, rfl, rfl, fun z hz => absurd hz List.not_mem_nil, (by decide), (by decide), (List.mem_of_getElem? (i := 512) (by decide +kernel)), (List.mem_of_getElem? (i := 519) (by decide +kernel))⟩, fun q9 => ?_⟩
    refine z_astore_n hZ (pc := 12) (j := 3) (L' := [some (.ref o), some (.int x), some (.ref q), some (.ref q9)]) rfl dL_dry_12 (by decide) rfl (by simp) rfl ?_
    refine z_iconst hZ (pc := 13) (v := 1) dL_dry_13 (by decide) ?_
    exact z_ireturn hZ dL_dry_14 ⟨by omega, by omega, FitR.int, by simp, .inr ⟨ws', hp, rfl, rfl⟩⟩
  · obtain ⟨x9, rfl⟩ := hb r ws' hp
    refine z_i2l hZ (pc := 7) (x := x9) dL_dry_7 ?_
    refine z_last hZ (pc := 8) (q0 := ws'.length) dL_dry_8 (oC_at ws') vin01 (oC_set ws') ?_
    refine z_goto hZ (pc := 9) (tgt := 15) dL_dry_9 (by decide) ?_
    refine z_iconst hZ (pc := 15) (v := 0) dL_dry_15 (by decide) ?_
    exact z_ireturn hZ dL_dry_16 ⟨by omega, by omega, FitR.int, by simp, .inl ⟨x9, ws', hp, rfl, rfl⟩⟩
theorem wr_mourner {l : Launch} {D : va_G} {cA : Nat → ClassId} {aK aV : Nat → Nat} {Cx' : CXT} {o q : Nat} {f : Nat → Int64} {x : Int32} {k mc ms : Nat} {wc : va_W} {Post : va_W → Option Value → Prop} {XP : String → va_W → Prop} (ok' : CxOk Cx') (hcx : ∀ (A : Nat → Prop) (U : State) (H : Heap), LC l aK aV A U H → Cx' A U H) (hM : MY l D cA Cx' yX10_mourner cX10_mourner 7 (some .int) k mc ms [.ref o, .int x] wc Post XP) (hx : ∀ En ws', XP En ws' → En = sNSE) (hb : ∀ r ws', Post ws' r → ∃ x9 : Int32, r = some (.int x9)) (hr : Rcv wc o "TearsPost") : ME l D cA (LC l aK aV) yL_mourner cL_mourner 4 (some .int) [(0, 9, 12, 18)] (k + 1) mc ms [.ref o, .int x, .ref q] (wc ++ oC cA q f) (fun ws r => (∃ (x9 : Int32) (ws' : va_W), Post ws' (some (.int x9)) ∧ ws = ws' ++ oC cA q (vp_updL f 0 x9.toInt64) ∧ r = some (.int 0)) ∨ (∃ ws', XP sNSE ws' ∧ ws = ws' ++ oC cA q f ∧ r = some (.int 1))) := by
  refine ME.of (L0 := [some (.ref o), some (.int x), some (.ref q), none]) (by decide) rfl (by simp) (by simp [Value.category]) (fun Z hE => ?_)
  have hZ := hE.toZR
  refine z_aload_n hZ (pc := 0) dL_mourner_0 rfl ?_
  refine z_iconst hZ (pc := 1) (v := 0) dL_mourner_1 (by decide) ?_
  refine z_aload_n hZ (pc := 2) dL_mourner_2 rfl ?_
  refine z_iload_n hZ (pc := 3) dL_mourner_3 rfl ?_
  refine z_callVE (w1 := []) (w2 := oC cA q f) (wc := wc) (st := [.int 0, .ref q]) hE LC.ok ok' hcx (pc := 4) dL_mourner_4 lk_L_85 mn_X10_mourner mv_X10_mourner hM hr rfl rfl (by simp [Value.category]) (Nat.le_refl _) (by decide) (by omega) (by omega) (fun En ws' hp => ?_) (fun r ws' hp => ?_)
  · obtain rfl := hx En ws' hp
    refine ⟨12, ⟨[], ⟨0, 9, 12, 18⟩, [], sNSE, rfl, rfl, fun z hz => absurd hz List.not_mem_nil, (by decide), (by decide), (List.mem_of_getElem? (i := 791) (by decide +kernel)), (List.mem_of_getElem? (i := 809) (by decide +kernel))⟩, fun q9 => ?_⟩
    refine z_astore_n hZ (pc := 12) (j := 3) (L' := [some (.ref o), some (.int x), some (.ref q), some (.ref q9)]) rfl dL_mourner_12 (by decide) rfl (by simp) rfl ?_
    refine z_iconst hZ (pc := 13) (v := 1) dL_mourner_13 (by decide) ?_
    exact z_ireturn hZ dL_mourner_14 ⟨by omega, by omega, FitR.int, by simp, .inr ⟨ws', hp, rfl, rfl⟩⟩
  · obtain ⟨x9, rfl⟩ := hb r ws' hp
    refine z_i2l hZ (pc := 7) (x := x9) dL_mourner_7 ?_
    refine z_last hZ (pc := 8) (q0 := ws'.length) dL_mourner_8 (oC_at ws') vin01 (oC_set ws') ?_
    refine z_goto hZ (pc := 9) (tgt := 15) dL_mourner_9 (by decide) ?_
    refine z_iconst hZ (pc := 15) (v := 0) dL_mourner_15 (by decide) ?_
    exact z_ireturn hZ dL_mourner_16 ⟨by omega, by omega, FitR.int, by simp, .inl ⟨x9, ws', hp, rfl, rfl⟩⟩
