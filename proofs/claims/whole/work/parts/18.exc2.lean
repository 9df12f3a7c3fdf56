/-! contracts that return or throw -/
/-- the texts of the constants -/
def txts : List (String × Nat × String) := [("TearsPost", 102, "the tape has not so many bytes"), ("TearsPost$Tokens", 73, "house"), ("TearsPost$Tokens", 79, "person"), ("TearsPost$Tokens", 81, "grief"), ("TearsPost$Tokens", 83, "hired"), ("TearsPost$Tokens", 85, "day"), ("TearsPost$Tokens", 87, "hour"), ("TearsPost$Tokens", 89, "before"), ("TearsPost$Tokens", 91, "not"), ("TearsPost$Tokens", 93, "or"), ("TearsPost$Tokens", 95, "and"), ("TearsPost$Tokens", 97, "houses"), ("TearsPost$Tokens", 99, "walk"), ("TearsPost$Tokens", 101, "rule"), ("TearsPost$Tokens", 103, "ask"), ("TearsPost$Tokens", 105, "chance"), ("TearsPost", 330, "no such what"), ("TearsPost", 324, "no such person"), ("TearsPost", 326, "no such house"), ("TearsPost", 203, "no such tears"), ("TearsPost", 328, "no such hour"), ("TearsPost", 226, "no such letter"), ("TearsPost", 247, "no such day"), ("TearsPost", 253, "the round has no such house"), ("TearsPost", 258, "no such ask"), ("TearsPost", 264, "bits of houses that there are not"), ("TearsPost", 293, "from is above to"), ("TearsPost", 306, "days are 0 to 100"), ("TearsPost", 310, "days are 1 to 99"), ("TearsPostModel", 9, "houses"), ("TearsPostModel", 11, "person"), ("TearsPostModel", 13, "walk"), ("TearsPostModel", 15, "rule"), ("TearsPostModel", 17, "ask"), ("TearsPostModel", 25, "house"), ("TearsPostModel", 27, "grief"), ("TearsPostModel", 29, "hired"), ("TearsPostModel", 31, "day"), ("TearsPostModel", 33, "hour"), ("TearsPostModel", 35, "before"), ("TearsPostModel", 279, "chance"), ("TearsPostModel", 261, "not"), ("TearsPostModel", 269, "and"), ("TearsPostModel", 274, "or")]
def XV (l : Launch) (A : Nat → Prop) (U : State) (H : Heap) : Prop := l.stackTraces = false ∧ vx_Zq Bundle.tN "UNASSIGNED_STACK" Bundle.steD A U H ∧ vx_Zq Bundle.tN "SUPPRESSED_SENTINEL" Bundle.listD A U H ∧ ∀ q ∈ txts, ∃ sa : Nat, vk_R q.1 q.2.1 q.2.2 sa U
def XM (D : va_G) (wc : va_W) (XPost : String → va_W → Prop) (sz : Nat) : String → State → State → Prop := fun En st t => (∃ ws' : va_W, XPost En ws' ∧ va_P D vwCl ws' t.heap ∧ va_D (va_A wc sz) ws') ∧ va_F (va_A wc sz) st t
def MX (l : Launch) (D : va_G) (cA : Nat → ClassId) (y : MethodName) (b : ByteArray) (nl : Nat) (ret : Option FieldType) (k mc ms : Nat) (args : List Value) (wc : va_W) (Post : va_W → Option Value → Prop) (XPost : String → va_W → Prop) : Prop :=
  ∀ sz : Nat, vx_Met l y [.code y b nl ret] (RM k mc ms) (va_Pc args (fun U => U.heap.size = sz ∧ va_P D vwCl wc U.heap ∧ va_D (fun _ => True) wc ∧ EV U ∧ va_K D vwCl (tyK cA) U ∧ XV l (va_A wc sz) U U.heap)) (QM D wc Post sz) (XM D wc XPost sz) mc ms (va_A wc sz)
theorem XV.moved {l : Launch} {A : Nat → Prop} {s U : State} {H : Heap} (hW : s.WarmedH U.vm) (h : XV l A s H) : XV l A U H := ⟨h.1, vx_Zq.moved hW.alike h.2.1, vx_Zq.moved hW.alike h.2.2.1, fun q hq => by obtain ⟨sa, h1⟩ := h.2.2.2 q hq; exact ⟨sa, vk_R.warm hW h1⟩⟩
theorem XV.same {l : Launch} {A : Nat → Prop} {u U : State} {H : Heap} (hvm : u.vm = U.vm) (h : XV l A u H) : XV l A U H := XV.moved (by rw [← hvm]; exact State.WarmedH.refl u) h
theorem XV.kept {l : Launch} {A : Nat → Prop} {U : State} {H H1 : Heap} (h : XV l A U H) (hq : ∀ a : Nat, a < H.size → ¬ A a → H1[a]? = H[a]?) : XV l A U H1 := ⟨h.1, h.2.1.kept hq, h.2.2.1.kept hq, h.2.2.2⟩
theorem XV.narrow {l : Launch} {A B : Nat → Prop} {U : State} {H : Heap} (h : XV l A U H) (hAB : ∀ q, B q → A q) : XV l B U H := ⟨h.1, h.2.1.narrow hAB, h.2.2.1.narrow hAB, h.2.2.2⟩
theorem MX.blind {l : Launch} {D : va_G} {cA : Nat → ClassId} {args : List Value} {wc : va_W} {sz : Nat} : FrameBlind (va_Pc args (fun U => U.heap.size = sz ∧ va_P D vwCl wc U.heap ∧ va_D (fun _ => True) wc ∧ EV U ∧ va_K D vwCl (tyK cA) U ∧ XV l (va_A wc sz) U U.heap)) := fun a U g mk h => by
  obtain ⟨h0, h1, h2, h3, h4, h5, h6⟩ := h
  exact ⟨h0, h1, h2, h3, EV.same (u := U) (U := U.calling g mk a) rfl h4, va_K.moved (u := U) (U := U.calling g mk a) (Vm.Alike.refl U.vm) h5, XV.same (u := U) (U := U.calling g mk a) rfl h6⟩
/-- ZR, and what a throw needs -/
def ZX (l : Launch) (D : va_G) (cA : Nat → ClassId) (own : String) (cc : ByteArray) (nl k mc ms : Nat) (E : Nat → Nat → va_W → Option Value → Prop) (XPost : String → va_W → Prop) (Z : ZT) : Prop :=
  ∃ (p : Program) (e : Env) (s : State) (m : MethodId) (args : Array Value) (below : List Frame) (meth : Method) (c : Code) (A : Nat → Prop) (Q : State → Prop) (wc : va_W) (Qc : Array Value → State → Outcome → State → Prop),
    (p.tables.exec = Jvm.exec ∧ c.code = cc ∧ c.maxLocals = nl ∧ s.vm.findClass own = some m.cls ∧ EV s ∧ va_K D vwCl (tyK cA) s ∧ (∀ q, s.heap.size ≤ q → A q)) ∧
    (∀ (u w : Nat) (ws : va_W) (x : Int32) (H : Heap) (locs : List Loc) (ls : Array Slot) (pc : Nat), decode cc pc = .ok (.ireturn, 1) → E u w ws (some (.int x)) → va_P D vwCl ws H → va_D A ws → va_S A s.heap H locs → W p l e (RM k mc ms) s m args below meth c H locs u w Q (F0 m pc ls [.int x])) ∧
    (∀ (u w : Nat) (ws : va_W) (H : Heap) (locs : List Loc) (ls : Array Slot) (pc : Nat), decode cc pc = .ok (.return_, 1) → E u w ws none → va_P D vwCl ws H → va_D A ws → va_S A s.heap H locs → W p l e (RM k mc ms) s m args below meth c H locs u w Q (F0 m pc ls [])) ∧
    (XV l A s s.heap ∧ (∀ x ∈ c.exceptionTable.toList, False) ∧ meth.locks = false ∧ A = va_A wc s.heap.size ∧ Q = vx_MQ below Qc (XM D wc XPost s.heap.size) args s mc ms (va_A wc s.heap.size)) ∧
    Z = fun u w ws L st pc => ∀ (H : Heap) (locs : List Loc) (ls : Array Slot), va_P D vwCl ws H → va_D A ws → va_S A s.heap H locs → lv_has ls nl (zl 0 L) → W p l e (RM k mc ms) s m args below meth c H locs u w Q (F0 m pc ls st)
section ZXs
variable {l : Launch} {D : va_G} {cA : Nat → ClassId} {own : String} {cc : ByteArray} {nl k mc ms : Nat} {E : Nat → Nat → va_W → Option Value → Prop} {XPost : String → va_W → Prop} {Z : ZT}
variable {u w pc : Nat} {ws : va_W} {L : List (Option Value)} {st : List Value}
theorem ZX.toZR (h : ZX l D cA own cc nl k mc ms E XPost Z) : ZR l D cA own cc nl k mc ms E NoX Z := by
  obtain ⟨p, e, s, m, args, below, meth, c, A, Q, wc, Qc, h1, h2, h3, h4, h5⟩ := h
  exact ⟨p, e, s, m, args, below, meth, c, A, Q, h1, h2, h3, fun _ _ _ _ _ _ _ _ _ _ _ hx => hx.elim, h5⟩
theorem z_throwS (hX : ZX l D cA own cc nl k mc ms E XPost Z) {ik is ic : Nat} {cls text : String} {names : List String} (hcls : Bundle.fit cls = true) (hnames : ∀ n ∈ names, Bundle.fit n = true) (hk : Cond.classLink own ik cls ∈ lw_tbl) (hini : Cond.initialized cls ∈ lw_tbl) (htx : (own, is, text) ∈ txts) (hat : ∀ w ∈ vx_atS own ic cls names, w ∈ lw_tbl) (hat2 : ∀ w ∈ vx_atS own ic cls names, (goodWord w || (isNestW w || isDC w)) = true)
    (hgood : ∀ w ∈ Cond.classLink own ik cls :: Cond.initialized cls :: vx_atS own ic cls names, vx_ot w = true)
    (d0 : decode cc pc = .ok (.new ik, 3)) (d3 : decode cc (pc + 3) = .ok (.dup, 1)) (d4 : decode cc (pc + 4) = .ok (.ldc is, 2)) (d6 : decode cc (pc + 6) = .ok (.invokespecial ic, 3)) (d9 : decode cc (pc + 9) = .ok (.athrow, 1))
    (hk1 : names.length + 3 < k) (hk2 : (st.map fun v => v.category).sum + (13 * (names.length + 1) + 43) ≤ 40 * k) (hmc : u + 1 ≤ mc) (hms : w + 6 ≤ ms) (hXP : XPost cls ws) : Z u w ws L st pc := by
  obtain ⟨p, e, s, m, args, below, meth, c, A, Q, wc, Qc, ⟨hx, hb, hnl, hown, hev, hK, hA⟩, h2, h3, ⟨hxv, hno, hlocks, rfl, rfl⟩, rfl⟩ := hX
  intro H locs ls hP hD hS hl
  obtain ⟨sa, hsa⟩ := hxv.2.2.2 _ htx
  refine vx_throwS (A := va_A wc s.heap.size) hx hb hxv.1 hown hcls hnames (hev.use hk rfl args) (hev.use hini rfl args) hsa (fun w hw => hev.any (hat w hw) (hat2 w hw) args) hgood hxv.2.1 hxv.2.2.1 hS (hl.1.trans hnl.symm) d0 d3 d4 d6 d9 (fun x hx => (hno x hx).elim) hk1 hk2 hmc hms hlocks (fun t hal hz hk => ?_) hS.2.2 hmc hms
  refine ⟨⟨ws, hXP, hP.kept (fun k q hq => hk q.1 (hP k q hq).lt), hD⟩, Nat.le_trans hS.1 hz, fun q h1 h2 => ?_⟩
  rw [hk q (Nat.lt_of_lt_of_le h1 hS.1)]
  exact hS.2.1 q h1 h2
/-- behind a call that may throw -/
theorem z_afterX {p : Program} {e : Env} {R : Room} {s : State} {m : MethodId} {args : Array Value} {below : List Frame} {meth : Method} {c : Code} {H : Heap} {locs : List Loc} {ls : Array Slot} {rest st0 : List Value} {A : Nat → Prop} {wc : va_W} {mc' ms' : Nat} {Q : State → Prop} {Post : va_W → Option Value → Prop} {a : Array Value}
    (hr : vx_Run p l e R s m args below meth c H locs u w mc' ms' (F0 m pc ls st0) rest (QM D wc Post H.size a) (XM D wc XPost H.size) (va_A wc H.size))
    (hS : va_S A s.heap H locs) (hf : ∀ q, va_A wc H.size q → A q)
    (kx : ∀ (En : String) (ce : Cell) (q9 : Addr) (ws' : va_W) (H1 : Heap) (locs1 : List Loc), XPost En ws' → va_P D vwCl ws' H1 → va_D (va_A wc H.size) ws' → H.size ≤ H1.size → (∀ q : Nat, q < H.size → ¬ va_A wc H.size q → H1[q]? = H[q]?) → va_S A s.heap H1 locs1 → H1[q9]? = some ce → ce.vm = .none → s.vm.findClass En = some ce.cls → vx_W p l e R s m args below meth c H1 locs1 (u + mc') (w + ms') Q (F0 m pc ls rest) q9)
    (kk : ∀ (r : Option Value) (ws' : va_W) (H1 : Heap) (locs1 : List Loc), Post ws' r → va_P D vwCl ws' H1 → va_D (va_A wc H.size) ws' → H.size ≤ H1.size → (∀ q : Nat, q < H.size → ¬ va_A wc H.size q → H1[q]? = H[q]?) → va_S A s.heap H1 locs1 → W p l e R s m args below meth c H1 locs1 (u + mc') (w + ms') Q (F0 m (pc + 3) ls (r.toList ++ rest))) : W p l e R s m args below meth c H locs u w Q (F0 m pc ls st0) := by
  intro T hT X0
  rcases hr T hT X0 with ⟨v, st₀, t, T', L0, h0, X', hL, e1, e2, ⟨⟨r, ws', hv, hp, hb, hd⟩, hF⟩, st1⟩ | ⟨q, st₀, t, T', L0, En, ce, h0, X', hL, e1, e2, ⟨⟨ws', hp, hb, hd⟩, hF⟩, hce, hcv, hcl, st1⟩
  · cases hv
    obtain ⟨k1, k2, k3⟩ := vx_keep h0 e1 hS (fun q _ h => hf q h) hf hL hF
    obtain ⟨t2, a1, b1⟩ := kk v ws' T'.heap (locs ++ L0) hp (by rw [e1]; exact hb) hd k1 k2 k3 T' rfl X'
    exact ⟨t2, st1 t2 a1, b1⟩
  · obtain ⟨k1, k2, k3⟩ := vx_keep h0 e1 hS (fun q _ h => hf q h) hf hL hF
    obtain ⟨t2, a1, b1⟩ := kx En ce q ws' T'.heap (locs ++ L0) hp (by rw [e1]; exact hb) hd k1 k2 k3 (by rw [e1]; exact hce) hcv hcl T' rfl X'
    exact ⟨t2, st1.trans a1, b1⟩
theorem z_callVX (hX : ZX l D cA own cc nl k mc ms E XPost Z) {idx a nl' k' mc' ms' n : Nat} {y : MethodName} {b : ByteArray} {ret : Option FieldType} {As : List Value} {wc : va_W} {Post : va_W → Option Value → Prop} {XP : String → va_W → Prop} {st0 : List Value} (d : decode cc pc = .ok (.invokevirtual idx, 3)) (hl : Cond.methodLink own idx y ∈ lw_tbl) (hm : MIn y b nl' ret n) (hv : MIv y) (hM : MX l D cA y b nl' ret k' mc' ms' (.ref a :: As) wc Post XP) (hr : Rcv wc a y.cls) (hn : As.length = n) (hst : st0 = As.reverse ++ .ref a :: st) (h8 : (st.map fun v => v.category).sum ≤ 8) (hk : k' + 1 ≤ k) (hnl : nl' ≤ 21) (hmc : u + mc' ≤ mc) (hms : w + ms' ≤ ms)
    (kx : ∀ (En : String) (ws' : va_W), XP En ws' → XPost En ws') (kk : ∀ (r : Option Value) (ws' : va_W), Post ws' r → Z (u + mc') (w + ms') ws' L (r.toList ++ st) (pc + 3)) : Z u w wc L st0 pc := by
  obtain ⟨p, e, s, m, args, below, meth, c, A, Q, wc0, Qc, ⟨hx, hb, hnl0, hown, hev, hK, hA⟩, h2, h3, ⟨hxv, hno, hlocks, rfl, rfl⟩, rfl⟩ := hX
  intro H locs ls hP hD hS hll
  obtain ⟨m1, m2, m3, m4, m5⟩ := hm
  have hts : ∀ w ∈ [Cond.code y b nl' ret], w.before args s = true := fun w hw => by rw [List.mem_singleton.mp hw]; exact hev.use m1 rfl args
  have hG : GoodIn [Cond.code y b nl' ret] [Cond.code y b nl' ret] := fun w hw => ⟨hw, by rw [List.mem_singleton.mp hw]; exact good_of_word rfl⟩
  have hR : (RM k' mc' ms').frames + 1 ≤ (RM k mc ms).frames ∧ 8 + (nl' + 11) + (RM k' mc' ms').locals ≤ (RM k mc ms).locals := ⟨hk, by simp only [RM]; omega⟩
  have hS2 : CallFix p m c cc nl s args [Cond.code y b nl' ret] own := ⟨hx, hb, hnl0, hown, hts⟩
  obtain ⟨q0, ci, N, T, fs, r1, r2⟩ := hr
  have hPw : va_P D vwCl ([] ++ (wc ++ [])) H := by rw [List.nil_append, List.append_nil]; exact hP
  have hDw : va_D (va_A wc0 s.heap.size) ([] ++ (wc ++ [])) := by rw [List.nil_append, List.append_nil]; exact hD
  have hfr := z_sub hDw hS hA
  have hxv1 : XV l (va_A wc H.size) s H := (hxv.kept (fun q h1 h2 => hS.2.1 q h1 h2)).narrow hfr
  have hpre : PreV s H y.cls a (va_Pc (.ref a :: As) (fun U => U.heap.size = H.size ∧ va_P D vwCl wc U.heap ∧ va_D (fun _ => True) wc ∧ EV U ∧ va_K D vwCl (tyK cA) U ∧ XV l (va_A wc H.size) U U.heap)) As := ⟨MX.blind, va_recv hK hP r2 r1, fun U hU hW => ⟨rfl, by rw [hU], by rw [hU]; exact hP, z_subD hDw, EV.moved hW hev, va_K.moved hW.alike hK, by rw [hU]; exact XV.moved hW hxv1⟩⟩
  have hf : u + mc' ≤ (RM k mc ms).cells ∧ w + ms' ≤ (RM k mc ms).slots := ⟨hmc, hms⟩
  have run : vx_Run p l e (RM k mc ms) s m args below meth c H locs u w mc' ms' (F0 m pc ls st0) st (QM D wc Post H.size (Value.ref a :: As).toArray) (XM D wc XP H.size) (va_A wc H.size) :=
    vx_runV (C := y.cls) (As := As) hS2 (hM H.size) ⟨callB_of n hts hG rfl rfl rfl (hev.use m2 rfl args) (hev.use hl rfl args) ⟨m3, m4, m5⟩ hR, hev.use hv.1 rfl args, hev.use hv.2 rfl args⟩ hpre rfl hn hll.1 hst (lv_room (m := m) (pc := pc) (ls := ls) (rest := st0) h8) d hf
  refine z_afterX run hS hfr (fun En ce q9 ws' H1 locs1 hp hP1 hD1 hz hkk hS1 hce hcv hcl => ?_) (fun r ws' H1 locs1 hp hP1 hD1 hz hkk hS1 => ?_)
  · refine vx_out (fun x hx => (hno x hx).elim) hlocks hce hcv hcl (fun t ht hal => ?_) hS1.2.2 hmc hms
    exact ⟨⟨ws', kx En ws' hp, by rw [ht]; exact hP1, hD1.weaken (fun _ q _ h => hfr q.1 h)⟩, hS1.F ht⟩
  · exact kk r ws' hp H1 locs1 ls hP1 (hD1.weaken (fun _ q _ h => hfr q.1 h)) hS1 hll
theorem z_callSX (hX : ZX l D cA own cc nl k mc ms E XPost Z) {idx nl' k' mc' ms' n : Nat} {y : MethodName} {b : ByteArray} {ret : Option FieldType} {As : List Value} {wc : va_W} {Post : va_W → Option Value → Prop} {XP : String → va_W → Prop} {st0 : List Value} (d : decode cc pc = .ok (.invokestatic idx, 3)) (hl : Cond.methodLink own idx y ∈ lw_tbl) (hm : MIn y b nl' ret n) (hv : MIs y) (hM : MX l D cA y b nl' ret k' mc' ms' As wc Post XP) (hn : As.length = n) (hst : st0 = As.reverse ++ st) (h8 : (st.map fun v => v.category).sum ≤ 8) (hk : k' + 1 ≤ k) (hnl : nl' ≤ 21) (hmc : u + mc' ≤ mc) (hms : w + ms' ≤ ms)
    (kx : ∀ (En : String) (ws' : va_W), XP En ws' → XPost En ws') (kk : ∀ (r : Option Value) (ws' : va_W), Post ws' r → Z (u + mc') (w + ms') ws' L (r.toList ++ st) (pc + 3)) : Z u w wc L st0 pc := by
  obtain ⟨p, e, s, m, args, below, meth, c, A, Q, wc0, Qc, ⟨hx, hb, hnl0, hown, hev, hK, hA⟩, h2, h3, ⟨hxv, hno, hlocks, rfl, rfl⟩, rfl⟩ := hX
  intro H locs ls hP hD hS hll
  obtain ⟨m1, m2, m3, m4, m5⟩ := hm
  have hts : ∀ w ∈ [Cond.code y b nl' ret], w.before args s = true := fun w hw => by rw [List.mem_singleton.mp hw]; exact hev.use m1 rfl args
  have hG : GoodIn [Cond.code y b nl' ret] [Cond.code y b nl' ret] := fun w hw => ⟨hw, by rw [List.mem_singleton.mp hw]; exact good_of_word rfl⟩
  have hR : (RM k' mc' ms').frames + 1 ≤ (RM k mc ms).frames ∧ 8 + (nl' + 11) + (RM k' mc' ms').locals ≤ (RM k mc ms).locals := ⟨hk, by simp only [RM]; omega⟩
  have hS2 : CallFix p m c cc nl s args [Cond.code y b nl' ret] own := ⟨hx, hb, hnl0, hown, hts⟩
  have hPw : va_P D vwCl ([] ++ (wc ++ [])) H := by rw [List.nil_append, List.append_nil]; exact hP
  have hDw : va_D (va_A wc0 s.heap.size) ([] ++ (wc ++ [])) := by rw [List.nil_append, List.append_nil]; exact hD
  have hfr := z_sub hDw hS hA
  have hxv1 : XV l (va_A wc H.size) s H := (hxv.kept (fun q h1 h2 => hS.2.1 q h1 h2)).narrow hfr
  have hpre : PreS s H (va_Pc As (fun U => U.heap.size = H.size ∧ va_P D vwCl wc U.heap ∧ va_D (fun _ => True) wc ∧ EV U ∧ va_K D vwCl (tyK cA) U ∧ XV l (va_A wc H.size) U U.heap)) As := ⟨MX.blind, fun U hU hW => ⟨rfl, by rw [hU], by rw [hU]; exact hP, z_subD hDw, EV.moved hW hev, va_K.moved hW.alike hK, by rw [hU]; exact XV.moved hW hxv1⟩⟩
  have hf : u + mc' ≤ (RM k mc ms).cells ∧ w + ms' ≤ (RM k mc ms).slots := ⟨hmc, hms⟩
  have run : vx_Run p l e (RM k mc ms) s m args below meth c H locs u w mc' ms' (F0 m pc ls st0) st (QM D wc Post H.size As.toArray) (XM D wc XP H.size) (va_A wc H.size) :=
    vx_runS (As := As) hS2 (hM H.size) ⟨callB_of n hts hG rfl rfl rfl (hev.use m2 rfl args) (hev.use hl rfl args) ⟨m3, m4, m5⟩ hR, hev.use hv rfl args⟩ hpre rfl hn hll.1 hst (lv_room (m := m) (pc := pc) (ls := ls) (rest := st0) h8) d hf
  refine z_afterX run hS hfr (fun En ce q9 ws' H1 locs1 hp hP1 hD1 hz hkk hS1 hce hcv hcl => ?_) (fun r ws' H1 locs1 hp hP1 hD1 hz hkk hS1 => ?_)
  · refine vx_out (fun x hx => (hno x hx).elim) hlocks hce hcv hcl (fun t ht hal => ?_) hS1.2.2 hmc hms
    exact ⟨⟨ws', kx En ws' hp, by rw [ht]; exact hP1, hD1.weaken (fun _ q _ h => hfr q.1 h)⟩, hS1.F ht⟩
  · exact kk r ws' hp H1 locs1 ls hP1 (hD1.weaken (fun _ q _ h => hfr q.1 h)) hS1 hll
end ZXs
theorem MX.of {l : Launch} {D : va_G} {cA : Nat → ClassId} {y : MethodName} {b : ByteArray} {nl k mc ms : Nat} {ret : Option FieldType} {args : List Value} {wc : va_W} {Post : va_W → Option Value → Prop} {XPost : String → va_W → Prop} {L0 : List (Option Value)} (hy : plainName y.cls = true) (hL : args.map some ++ List.replicate (nl - args.length) none = L0) (hnl : args.length ≤ nl) (hcat : ∀ v ∈ args, v.category = 1)
    (body : ∀ Z, ZX l D cA y.cls b nl k mc ms (fun u w ws r => u ≤ mc ∧ w ≤ ms ∧ FitR ret r ∧ (r = none ↔ ret = none) ∧ Post ws r) XPost Z → Z 0 0 wc L0 [] 0) : MX l D cA y b nl ret k mc ms args wc Post XPost := by
  intro sz
  refine vx_ofW (cc := b) (maxL := nl) (ret := ret) hy rfl ?_
  intro p e s m args1 below meth c s₁ B hml hno hv
  obtain ⟨rfl, hsz, hP, hD0, hev, hK, hxv⟩ := hv
  have hx := B.exec
  have hb := B.bytes
  have hr := B.returns
  have hown : s.vm.findClass y.cls = some m.cls := findClass_of_methodNamed B.named
  have hlocks := B.notSynchronized
  subst hsz
  have hD := hD0.self (sz := s.heap.size)
  have hA : ∀ q : Nat, s.heap.size ≤ q → va_A wc s.heap.size q := fun q h => Or.inr h
  have hS : va_S (va_A wc s.heap.size) s.heap s.heap [] := va_S.rf
  have hlen : (lg_sl args).length ≤ nl := by
    have h9 : ∀ vs : List Value, (∀ v ∈ vs, v.category = 1) → (lg_sl vs).length = vs.length := fun vs => by
      induction vs with
      | nil => intro _; rfl
      | cons v vs ih =>
        intro h
        have := h v List.mem_cons_self
        have h2 := ih (fun w hw => h w (List.mem_cons_of_mem _ hw))
        simpa [lg_sl, this] using h2
    rw [h9 args hcat]; exact hnl
  have hl := lv_entry args (n := nl) hlen
  rw [lg_entry_eq]
  generalize (lg_sl args ++ List.replicate (nl - (lg_sl args).length) Slot.unset).toArray = ls at hl ⊢
  have hl2 : lv_has ls nl (zl 0 L0) := zl_sub hl (fun q hq => by
    refine zl_args args 0 hcat q ?_
    obtain ⟨i, v⟩ := q
    rw [zl_mem0] at hq ⊢
    rw [← hL] at hq
    rcases Nat.lt_or_ge i (args.map some).length with g | g
    · rw [List.getElem?_append_left g] at hq; exact hq
    · rw [List.getElem?_append_right g, List.getElem?_replicate] at hq
      split at hq <;> cases hq)
  refine body _ ⟨p, e, s, m, args.toArray, below, meth, c, va_A wc s.heap.size, _, wc, _, ⟨hx, hb, hml, hown, hev, hK, hA⟩, ?_, ?_, ⟨hxv, hno, hlocks, rfl, rfl⟩, rfl⟩ s.heap [] ls hP hD hS hl2
  · intro u w ws x H locs ls pc d hE hP hD hS
    obtain ⟨hu, hw, hF, -, hPost⟩ := hE
    obtain ⟨ty, rfl, hn⟩ := hF x rfl
    refine W.widen hu hw (vx_ret ?_)
    exact W.zret (v := x) hx hb hr hn (fun t ht hW => ⟨⟨_, ws, rfl, hPost, by rw [ht]; exact hP, hD⟩, hS.F ht⟩) hS.2.2 d
  · intro u w ws H locs ls pc d hE hP hD hS
    obtain ⟨hu, hw, hF, hn, hPost⟩ := hE
    refine W.widen hu hw (vx_ret ?_)
    have hr2 : meth.sig.returnType = none := by rw [hr, hn.mp rfl]
    exact W.vret hx hb hr2 (fun t ht hW => ⟨⟨_, ws, rfl, hPost, by rw [ht]; exact hP, hD⟩, hS.F ht⟩) hS.2.2 d
