/-! Z: the machine at a place of a method's body, over a world (cells), locals by their places, a stack. -/
def isNestW : Cond → Bool
  | .methodLinkNest .. => true
  | .fieldLinkNest .. => true
  | _ => false
def isDC : Cond → Bool
  | .declares .. => true
  | .castable .. => true
  | _ => false
/-- the tables' words, in a state -/
def EV (U : State) : Prop := (∀ w ∈ lw_tbl, goodWord w = true → w.before #[] U = true) ∧ (∀ w ∈ lw_tbl, isNestW w = true → va_Nw w U) ∧ ∀ w ∈ lw_tbl, isDC w = true → va_Nw w U
theorem EV.moved {s U : State} (hW : s.WarmedH U.vm) (h : EV s) : EV U := by
  refine ⟨fun w hw hg => word_at hW (good_of_word hg) (h.1 w hw hg), fun w hw hn => ?_, fun w hw hn => ?_⟩
  · have h1 := h.2.1 w hw hn
    cases w <;> first | (simp [isNestW] at hn; done) | exact va_Nw.warmM hW h1 | exact va_Nw.warmF hW h1
  · have h1 := h.2.2 w hw hn
    cases w <;> first | (simp [isDC] at hn; done) | exact va_Nw.warmD hW h1 | exact va_Nw.warmC hW h1
theorem EV.same {u U : State} (hvm : u.vm = U.vm) (h : EV u) : EV U := EV.moved (s := u) (U := U) (by rw [← hvm]; exact State.WarmedH.refl u) h
theorem EV.use {U : State} (h : EV U) {w : Cond} (hw : w ∈ lw_tbl) (hg : goodWord w = true) (a : Array Value) : w.before a U = true := word_at (State.WarmedH.refl U) (good_of_word hg) (h.1 w hw hg)
theorem EV.nest {U : State} (h : EV U) {w : Cond} (hw : w ∈ lw_tbl) (hg : isNestW w = true) : va_Nw w U := h.2.1 w hw hg
theorem EV.nestU {U : State} (h : EV U) {w : Cond} (hw : w ∈ lw_tbl) (hg : isNestW w = true) (a : Array Value) : w.before a U = true := by
  have h1 := h.2.1 w hw hg
  cases w <;> first | (simp [isNestW] at hg; done) | exact va_Nw.use rfl h1
theorem EV.dc {U : State} (h : EV U) {w : Cond} (hw : w ∈ lw_tbl) (hg : isDC w = true) (a : Array Value) : w.before a U = true := by
  have h1 := h.2.2 w hw hg
  cases w <;> first | (simp [isDC] at hg; done) | exact va_Nw.use rfl h1
theorem EV.any {U : State} (h : EV U) {w : Cond} (hw : w ∈ lw_tbl) (hg : (goodWord w || (isNestW w || isDC w)) = true) (a : Array Value) : w.before a U = true := by
  rcases Bool.or_eq_true_iff.mp hg with g | g
  · exact h.use hw g a
  · rcases Bool.or_eq_true_iff.mp g with g | g
    · exact h.nestU hw g a
    · exact h.dc hw g a
/-- a level's room -/
def RM (k mc ms : Nat) : Room := { frames := k, cells := mc, slots := ms, locals := 40 * k }
/-- the array classes -/
abbrev tyK (cA : Nat → ClassId) : List (ClassId × FieldType) := [(cA 0, .int), (cA 1, .boolean), (cA 2, .long), (cA 3, .object "java/lang/String")]
/-- locals by their places -/
def zl : Nat → List (Option Value) → List (Nat × Value)
  | _, [] => []
  | n, none :: L => zl (n + 1) L
  | n, some v :: L => (n, v) :: zl (n + 1) L
theorem zl_mem : ∀ (L : List (Option Value)) (n i : Nat) (v : Value), (i, v) ∈ zl n L ↔ n ≤ i ∧ L[i - n]? = some (some v)
  | [], n, i, v => by simp [zl]
  | none :: L, n, i, v => by
    rw [zl, zl_mem L (n + 1) i v]
    constructor
    · rintro ⟨h1, h2⟩
      refine ⟨by omega, ?_⟩
      rw [show i - n = (i - (n + 1)) + 1 by omega]
      simpa using h2
    · rintro ⟨h1, h2⟩
      rcases Nat.eq_or_lt_of_le h1 with e | e
      · subst e; simp at h2
      · refine ⟨e, ?_⟩
        rw [show i - n = (i - (n + 1)) + 1 by omega] at h2
        simpa using h2
  | some w :: L, n, i, v => by
    rw [zl, List.mem_cons, zl_mem L (n + 1) i v]
    constructor
    · rintro (h | ⟨h1, h2⟩)
      · cases h; simp
      · refine ⟨by omega, ?_⟩
        rw [show i - n = (i - (n + 1)) + 1 by omega]
        simpa using h2
    · rintro ⟨h1, h2⟩
      rcases Nat.eq_or_lt_of_le h1 with e | e
      · subst e; simp at h2; left; rw [h2]
      · right
        refine ⟨e, ?_⟩
        rw [show i - n = (i - (n + 1)) + 1 by omega] at h2
        simpa using h2
theorem zl_mem0 {L : List (Option Value)} {i : Nat} {v : Value} : (i, v) ∈ zl 0 L ↔ L[i]? = some (some v) := by rw [zl_mem]; simp
theorem zl_get {ls : Array Slot} {nl : Nat} {L : List (Option Value)} (h : lv_has ls nl (zl 0 L)) {i : Nat} {v : Value} (hL : L[i]? = some (some v)) : ls[i]? = some (.val v) := h.2.2 (i, v) (zl_mem0.mpr hL)
theorem zl_sub {ls : Array Slot} {nl : Nat} {l l' : List (Nat × Value)} (h : lv_has ls nl l) (hs : ∀ q ∈ l', q ∈ l) : lv_has ls nl l' := ⟨h.1, h.2.1, fun q hq => h.2.2 q (hs q hq)⟩
/-- the place ahead holds no long -/
def zc1 (L : List (Option Value)) (i : Nat) : Bool := match i with
  | 0 => true
  | i + 1 => match L[i]? with
    | some (some v) => v.category == 1
    | _ => true
theorem zl_set {L : List (Option Value)} {i : Nat} {v : Value} (hc : zc1 L i = true) (hi : i < L.length) : ∀ q ∈ zl 0 (L.set i (some v)), q ∈ (i, v) :: (zl 0 L).filter (fun q => !(q.1 == i) && !(q.1 + 1 == i && q.2.category == 2)) := by
  rintro ⟨j, w⟩ hq
  rw [zl_mem0] at hq
  by_cases hj : j = i
  · subst hj
    rw [List.getElem?_set_self hi] at hq
    cases hq
    exact List.mem_cons_self
  · rw [List.getElem?_set_ne (Ne.symm hj)] at hq
    refine List.mem_cons_of_mem _ (List.mem_filter.mpr ⟨zl_mem0.mpr hq, ?_⟩)
    simp only [Bool.and_eq_true, Bool.not_eq_true', beq_eq_false_iff_ne, ne_eq, hj, not_false_eq_true, true_and]
    by_cases hk : j + 1 = i
    · subst hk
      simp only [zc1, hq] at hc
      have : ¬ w.category = 2 := by
        have := beq_iff_eq.mp hc
        omega
      simp [this]
    · simp [hk]
theorem zl_set2 {L : List (Option Value)} {i : Nat} {v : Value} (hc : zc1 L i = true) (hi : i + 1 < L.length) : ∀ q ∈ zl 0 ((L.set i (some v)).set (i + 1) none), q ∈ (i, v) :: (zl 0 L).filter (fun q => !(q.1 == i) && (!(q.1 == i + 1) && !(q.1 + 1 == i && q.2.category == 2))) := by
  rintro ⟨j, w⟩ hq
  rw [zl_mem0] at hq
  by_cases hj1 : j = i + 1
  · subst hj1
    rw [List.getElem?_set_self (by simpa using hi)] at hq
    cases hq
  rw [List.getElem?_set_ne (Ne.symm hj1)] at hq
  by_cases hj : j = i
  · subst hj
    rw [List.getElem?_set_self (by omega)] at hq
    cases hq
    exact List.mem_cons_self
  · rw [List.getElem?_set_ne (Ne.symm hj)] at hq
    refine List.mem_cons_of_mem _ (List.mem_filter.mpr ⟨zl_mem0.mpr hq, ?_⟩)
    simp only [Bool.and_eq_true, Bool.not_eq_true', beq_eq_false_iff_ne, ne_eq, hj, hj1, not_false_eq_true, true_and]
    by_cases hk : j + 1 = i
    · subst hk
      simp only [zc1, hq] at hc
      have : ¬ w.category = 2 := by
        have := beq_iff_eq.mp hc
        omega
      simp [this]
    · simp [hk]
theorem zl_args : ∀ (vs : List Value) (n : Nat), (∀ v ∈ vs, v.category = 1) → ∀ q ∈ zl n (vs.map some), q ∈ lv_args n vs
  | [], n, _, q, h => by simp [zl] at h
  | v :: vs, n, hc, q, h => by
    simp only [List.map_cons, zl, List.mem_cons] at h
    have hv := hc v List.mem_cons_self
    rcases h with h | h
    · subst h; simp [lv_args]
    · have := zl_args vs (n + 1) (fun w hw => hc w (List.mem_cons_of_mem _ hw)) q h
      simp [lv_args, hv, this]
abbrev ZT : Type := Nat → Nat → va_W → List (Option Value) → List Value → Nat → Prop
/-- what a body may end with: E (cells, slots, world, answer); X: what it may throw -/
def ZR (l : Launch) (D : va_G) (cA : Nat → ClassId) (own : String) (cc : ByteArray) (nl k mc ms : Nat) (E : Nat → Nat → va_W → Option Value → Prop) (X : Nat → Nat → va_W → String → Prop) (Z : ZT) : Prop :=
  ∃ (p : Program) (e : Env) (s : State) (m : MethodId) (args : Array Value) (below : List Frame) (meth : Method) (c : Code) (A : Nat → Prop) (Q : State → Prop),
    (p.tables.exec = Jvm.exec ∧ c.code = cc ∧ c.maxLocals = nl ∧ s.vm.findClass own = some m.cls ∧ EV s ∧ va_K D vwCl (tyK cA) s ∧ (∀ q, s.heap.size ≤ q → A q)) ∧
    (∀ (u w : Nat) (ws : va_W) (x : Int32) (H : Heap) (locs : List Loc) (ls : Array Slot) (pc : Nat), decode cc pc = .ok (.ireturn, 1) → E u w ws (some (.int x)) → va_P D vwCl ws H → va_D A ws → va_S A s.heap H locs → W p l e (RM k mc ms) s m args below meth c H locs u w Q (F0 m pc ls [.int x])) ∧
    (∀ (u w : Nat) (ws : va_W) (H : Heap) (locs : List Loc) (ls : Array Slot) (pc : Nat), decode cc pc = .ok (.return_, 1) → E u w ws none → va_P D vwCl ws H → va_D A ws → va_S A s.heap H locs → W p l e (RM k mc ms) s m args below meth c H locs u w Q (F0 m pc ls [])) ∧
    (∀ (u w : Nat) (ws : va_W) (En : String) (H : Heap) (locs : List Loc) (ls : Array Slot) (st : List Value) (pc q : Nat) (ce : Cell), X u w ws En → va_P D vwCl ws H → va_D A ws → va_S A s.heap H locs → H[q]? = some ce → ce.vm = .none → s.vm.findClass En = some ce.cls → vx_W p l e (RM k mc ms) s m args below meth c H locs u w Q (F0 m pc ls st) q) ∧
    Z = fun u w ws L st pc => ∀ (H : Heap) (locs : List Loc) (ls : Array Slot), va_P D vwCl ws H → va_D A ws → va_S A s.heap H locs → lv_has ls nl (zl 0 L) → W p l e (RM k mc ms) s m args below meth c H locs u w Q (F0 m pc ls st)
section ZRows
variable {l : Launch} {D : va_G} {cA : Nat → ClassId} {own : String} {cc : ByteArray} {nl k mc ms : Nat} {E : Nat → Nat → va_W → Option Value → Prop} {X : Nat → Nat → va_W → String → Prop} {Z : ZT}
variable {u w pc pc2 : Nat} {ws : va_W} {L : List (Option Value)} {st : List Value}
theorem z_next {L' : List (Option Value)} {st' : List Value} (hZ : ZR l D cA own cc nl k mc ms E X Z)
    (h : ∀ (p : Program) (e : Env) (s : State) (m : MethodId) (args : Array Value) (below : List Frame) (meth : Method) (c : Code) (H : Heap) (locs : List Loc) (ls : Array Slot) (Q : State → Prop), p.tables.exec = Jvm.exec → c.code = cc → lv_has ls nl (zl 0 L) → (∀ ls', lv_has ls' nl (zl 0 L') → W p l e (RM k mc ms) s m args below meth c H locs u w Q (F0 m pc2 ls' st')) → W p l e (RM k mc ms) s m args below meth c H locs u w Q (F0 m pc ls st))
    (kk : Z u w ws L' st' pc2) : Z u w ws L st pc := by
  obtain ⟨p, e, s, m, args, below, meth, c, A, Q, ⟨hx, hb, hnl, hown, hev, hK, hA⟩, h1, h2, h3, rfl⟩ := hZ
  intro H locs ls hP hD hS hl
  exact h p e s m args below meth c H locs ls Q hx hb hl (fun ls' hl' => kk H locs ls' hP hD hS hl')
theorem z_iconst (hZ : ZR l D cA own cc nl k mc ms E X Z) {n : Int} {v : Int32} (d : decode cc pc = .ok (.iconst n, 1)) (hv : Int32.ofInt n = v) (kk : Z u w ws L (.int v :: st) (pc + 1)) : Z u w ws L st pc := z_next hZ (fun p e s m args below meth c H locs ls Q hx hb hl k => lv_iconst hx hb d hv (k ls hl)) kk
theorem z_bipush (hZ : ZR l D cA own cc nl k mc ms E X Z) {n : Int} {v : Int32} (d : decode cc pc = .ok (.bipush n, 2)) (hv : (Int8.ofInt n).toInt32 = v) (kk : Z u w ws L (.int v :: st) (pc + 2)) : Z u w ws L st pc := z_next hZ (fun p e s m args below meth c H locs ls Q hx hb hl k => lv_bipush hx hb d hv (k ls hl)) kk
theorem z_sipush (hZ : ZR l D cA own cc nl k mc ms E X Z) {n : Int} {v : Int32} (d : decode cc pc = .ok (.sipush n, 3)) (hv : (Int16.ofInt n).toInt32 = v) (kk : Z u w ws L (.int v :: st) (pc + 3)) : Z u w ws L st pc := z_next hZ (fun p e s m args below meth c H locs ls Q hx hb hl k => lv_sipush hx hb d hv (k ls hl)) kk
theorem z_lconst (hZ : ZR l D cA own cc nl k mc ms E X Z) {n : Fin 2} {v : Int64} (d : decode cc pc = .ok (.lconst n, 1)) (hv : Int64.ofNat (n : Nat) = v) (kk : Z u w ws L (.long v :: st) (pc + 1)) : Z u w ws L st pc := z_next hZ (fun p e s m args below meth c H locs ls Q hx hb hl k => lv_lconst hx hb d hv (k ls hl)) kk
theorem z_iload_n (hZ : ZR l D cA own cc nl k mc ms E X Z) {j : Fin 4} {x : Int32} (d : decode cc pc = .ok (.iload_n j, 1)) (hL : L[(j : Nat)]? = some (some (.int x))) (kk : Z u w ws L (.int x :: st) (pc + 1)) : Z u w ws L st pc := z_next hZ (fun p e s m args below meth c H locs ls Q hx hb hl k => lv_iload_n hx hb d rfl (zl_get hl hL) (k ls hl)) kk
theorem z_iload (hZ : ZR l D cA own cc nl k mc ms E X Z) {j : Nat} {x : Int32} (d : decode cc pc = .ok (.iload j, 2)) (hL : L[j]? = some (some (.int x))) (kk : Z u w ws L (.int x :: st) (pc + 2)) : Z u w ws L st pc := z_next hZ (fun p e s m args below meth c H locs ls Q hx hb hl k => lv_iload hx hb d (zl_get hl hL) (k ls hl)) kk
theorem z_aload_n (hZ : ZR l D cA own cc nl k mc ms E X Z) {j : Fin 4} {x : Nat} (d : decode cc pc = .ok (.aload_n j, 1)) (hL : L[(j : Nat)]? = some (some (.ref x))) (kk : Z u w ws L (.ref x :: st) (pc + 1)) : Z u w ws L st pc := z_next hZ (fun p e s m args below meth c H locs ls Q hx hb hl k => lv_aload_n hx hb d rfl (zl_get hl hL) (k ls hl)) kk
theorem z_aload (hZ : ZR l D cA own cc nl k mc ms E X Z) {j : Nat} {x : Nat} (d : decode cc pc = .ok (.aload j, 2)) (hL : L[j]? = some (some (.ref x))) (kk : Z u w ws L (.ref x :: st) (pc + 2)) : Z u w ws L st pc := z_next hZ (fun p e s m args below meth c H locs ls Q hx hb hl k => lv_aload hx hb d (zl_get hl hL) (k ls hl)) kk
theorem z_lload_n (hZ : ZR l D cA own cc nl k mc ms E X Z) {j : Fin 4} {x : Int64} (d : decode cc pc = .ok (.lload_n j, 1)) (hL : L[(j : Nat)]? = some (some (.long x))) (kk : Z u w ws L (.long x :: st) (pc + 1)) : Z u w ws L st pc := z_next hZ (fun p e s m args below meth c H locs ls Q hx hb hl k => lv_lload_n hx hb d rfl (zl_get hl hL) (k ls hl)) kk
theorem z_lload (hZ : ZR l D cA own cc nl k mc ms E X Z) {j : Nat} {x : Int64} (d : decode cc pc = .ok (.lload j, 2)) (hL : L[j]? = some (some (.long x))) (kk : Z u w ws L (.long x :: st) (pc + 2)) : Z u w ws L st pc := z_next hZ (fun p e s m args below meth c H locs ls Q hx hb hl k => lv_lload hx hb d (zl_get hl hL) (k ls hl)) kk
theorem z_istore_n (hZ : ZR l D cA own cc nl k mc ms E X Z) {x : Int32} {j : Nat} {jf : Fin 4} (hj : (jf : Nat) = j) {L' : List (Option Value)} (d : decode cc pc = .ok (.istore_n jf, 1)) (hi : j < nl) (hc : zc1 L j = true) (hlen : j < L.length) (hL : (L.set j (some (.int x))) = L') (kk : Z u w ws L' st (pc + 1)) : Z u w ws L (.int x :: st) pc := by subst hL; exact z_next hZ (fun p e s m args below meth c H locs ls Q hx hb hl k => lv_istore_n hx hb d hj hl hi rfl (fun ls' hl' => k ls' (zl_sub hl' (zl_set hc hlen)))) kk
theorem z_istore (hZ : ZR l D cA own cc nl k mc ms E X Z) {x : Int32} {j : Nat} {L' : List (Option Value)} (d : decode cc pc = .ok (.istore j, 2)) (hi : j < nl) (hc : zc1 L j = true) (hlen : j < L.length) (hL : (L.set j (some (.int x))) = L') (kk : Z u w ws L' st (pc + 2)) : Z u w ws L (.int x :: st) pc := by subst hL; exact z_next hZ (fun p e s m args below meth c H locs ls Q hx hb hl k => lv_istore hx hb d hl hi rfl (fun ls' hl' => k ls' (zl_sub hl' (zl_set hc hlen)))) kk
theorem z_astore_n (hZ : ZR l D cA own cc nl k mc ms E X Z) {x : Nat} {j : Nat} {jf : Fin 4} (hj : (jf : Nat) = j) {L' : List (Option Value)} (d : decode cc pc = .ok (.astore_n jf, 1)) (hi : j < nl) (hc : zc1 L j = true) (hlen : j < L.length) (hL : (L.set j (some (.ref x))) = L') (kk : Z u w ws L' st (pc + 1)) : Z u w ws L (.ref x :: st) pc := by subst hL; exact z_next hZ (fun p e s m args below meth c H locs ls Q hx hb hl k => lv_astore_n hx hb d hj hl hi rfl (fun ls' hl' => k ls' (zl_sub hl' (zl_set hc hlen)))) kk
theorem z_astore (hZ : ZR l D cA own cc nl k mc ms E X Z) {x : Nat} {j : Nat} {L' : List (Option Value)} (d : decode cc pc = .ok (.astore j, 2)) (hi : j < nl) (hc : zc1 L j = true) (hlen : j < L.length) (hL : (L.set j (some (.ref x))) = L') (kk : Z u w ws L' st (pc + 2)) : Z u w ws L (.ref x :: st) pc := by subst hL; exact z_next hZ (fun p e s m args below meth c H locs ls Q hx hb hl k => lv_astore hx hb d hl hi rfl (fun ls' hl' => k ls' (zl_sub hl' (zl_set hc hlen)))) kk
theorem z_lstore_n (hZ : ZR l D cA own cc nl k mc ms E X Z) {x : Int64} {j : Nat} {jf : Fin 4} (hj : (jf : Nat) = j) {L' : List (Option Value)} (d : decode cc pc = .ok (.lstore_n jf, 1)) (hi : j + 1 < nl) (hc : zc1 L j = true) (hlen : j + 1 < L.length) (hL : ((L.set j (some (.long x))).set (j + 1) none) = L') (kk : Z u w ws L' st (pc + 1)) : Z u w ws L (.long x :: st) pc := by subst hL; exact z_next hZ (fun p e s m args below meth c H locs ls Q hx hb hl k => lv_lstore_n hx hb d hj hl hi rfl (fun ls' hl' => k ls' (zl_sub hl' (zl_set2 hc hlen)))) kk
theorem z_lstore (hZ : ZR l D cA own cc nl k mc ms E X Z) {x : Int64} {j : Nat} {L' : List (Option Value)} (d : decode cc pc = .ok (.lstore j, 2)) (hi : j + 1 < nl) (hc : zc1 L j = true) (hlen : j + 1 < L.length) (hL : ((L.set j (some (.long x))).set (j + 1) none) = L') (kk : Z u w ws L' st (pc + 2)) : Z u w ws L (.long x :: st) pc := by subst hL; exact z_next hZ (fun p e s m args below meth c H locs ls Q hx hb hl k => lv_lstore hx hb d hl hi rfl (fun ls' hl' => k ls' (zl_sub hl' (zl_set2 hc hlen)))) kk
theorem z_iinc (hZ : ZR l D cA own cc nl k mc ms E X Z) {j : Nat} {n : Int} {x v : Int32} {L' : List (Option Value)} (d : decode cc pc = .ok (.iinc j n, 3)) (hx0 : L[j]? = some (some (.int x))) (hv : x + Int32.ofInt n = v) (hi : j < nl) (hc : zc1 L j = true) (hlen : j < L.length) (hL : L.set j (some (.int v)) = L') (kk : Z u w ws L' st (pc + 3)) : Z u w ws L st pc := by
  subst hL
  refine z_next hZ (fun p e s m args below meth c H locs ls Q hx hb hl k => ?_) kk
  obtain ⟨i, hi2⟩ := List.getElem?_of_mem (zl_mem0.mpr hx0)
  exact lv_iinc hx hb d hl hi2 hv hi rfl (fun ls' hl' => k ls' (zl_sub hl' (zl_set hc hlen)))
theorem z_iadd (hZ : ZR l D cA own cc nl k mc ms E X Z) {x y : Int32} (d : decode cc pc = .ok (.iadd, 1)) (kk : Z u w ws L (.int (x + y) :: st) (pc + 1)) : Z u w ws L (.int y :: .int x :: st) pc := z_next hZ (fun p e s m args below meth c H locs ls Q hx hb hl k => lv_iadd hx hb d (k ls hl)) kk
theorem z_isub (hZ : ZR l D cA own cc nl k mc ms E X Z) {x y : Int32} (d : decode cc pc = .ok (.isub, 1)) (kk : Z u w ws L (.int (x - y) :: st) (pc + 1)) : Z u w ws L (.int y :: .int x :: st) pc := z_next hZ (fun p e s m args below meth c H locs ls Q hx hb hl k => lv_isub hx hb d (k ls hl)) kk
theorem z_imul (hZ : ZR l D cA own cc nl k mc ms E X Z) {x y : Int32} (d : decode cc pc = .ok (.imul, 1)) (kk : Z u w ws L (.int (x * y) :: st) (pc + 1)) : Z u w ws L (.int y :: .int x :: st) pc := z_next hZ (fun p e s m args below meth c H locs ls Q hx hb hl k => lv_imul hx hb d (k ls hl)) kk
theorem z_iand (hZ : ZR l D cA own cc nl k mc ms E X Z) {x y : Int32} (d : decode cc pc = .ok (.iand, 1)) (kk : Z u w ws L (.int (x &&& y) :: st) (pc + 1)) : Z u w ws L (.int y :: .int x :: st) pc := z_next hZ (fun p e s m args below meth c H locs ls Q hx hb hl k => lv_iand hx hb d (k ls hl)) kk
theorem z_ior (hZ : ZR l D cA own cc nl k mc ms E X Z) {x y : Int32} (d : decode cc pc = .ok (.ior, 1)) (kk : Z u w ws L (.int (x ||| y) :: st) (pc + 1)) : Z u w ws L (.int y :: .int x :: st) pc := z_next hZ (fun p e s m args below meth c H locs ls Q hx hb hl k => lv_ior hx hb d (k ls hl)) kk
theorem z_ixor (hZ : ZR l D cA own cc nl k mc ms E X Z) {x y : Int32} (d : decode cc pc = .ok (.ixor, 1)) (kk : Z u w ws L (.int (x ^^^ y) :: st) (pc + 1)) : Z u w ws L (.int y :: .int x :: st) pc := z_next hZ (fun p e s m args below meth c H locs ls Q hx hb hl k => lv_ixor hx hb d (k ls hl)) kk
theorem z_idiv (hZ : ZR l D cA own cc nl k mc ms E X Z) {x y : Int32} (d : decode cc pc = .ok (.idiv, 1)) (hne : ¬ y = 0) (kk : Z u w ws L (.int (x / y) :: st) (pc + 1)) : Z u w ws L (.int y :: .int x :: st) pc := z_next hZ (fun p e s m args below meth c H locs ls Q hx hb hl k => lv_idiv hx hb d hne (k ls hl)) kk
theorem z_ladd (hZ : ZR l D cA own cc nl k mc ms E X Z) {x y : Int64} (d : decode cc pc = .ok (.ladd, 1)) (kk : Z u w ws L (.long (x + y) :: st) (pc + 1)) : Z u w ws L (.long y :: .long x :: st) pc := z_next hZ (fun p e s m args below meth c H locs ls Q hx hb hl k => lv_ladd hx hb d (k ls hl)) kk
theorem z_lsub (hZ : ZR l D cA own cc nl k mc ms E X Z) {x y : Int64} (d : decode cc pc = .ok (.lsub, 1)) (kk : Z u w ws L (.long (x - y) :: st) (pc + 1)) : Z u w ws L (.long y :: .long x :: st) pc := z_next hZ (fun p e s m args below meth c H locs ls Q hx hb hl k => lv_lsub hx hb d (k ls hl)) kk
theorem z_lmul (hZ : ZR l D cA own cc nl k mc ms E X Z) {x y : Int64} (d : decode cc pc = .ok (.lmul, 1)) (kk : Z u w ws L (.long (x * y) :: st) (pc + 1)) : Z u w ws L (.long y :: .long x :: st) pc := z_next hZ (fun p e s m args below meth c H locs ls Q hx hb hl k => lv_lmul hx hb d (k ls hl)) kk
theorem z_land (hZ : ZR l D cA own cc nl k mc ms E X Z) {x y : Int64} (d : decode cc pc = .ok (.land, 1)) (kk : Z u w ws L (.long (x &&& y) :: st) (pc + 1)) : Z u w ws L (.long y :: .long x :: st) pc := z_next hZ (fun p e s m args below meth c H locs ls Q hx hb hl k => lv_land hx hb d (k ls hl)) kk
theorem z_lor (hZ : ZR l D cA own cc nl k mc ms E X Z) {x y : Int64} (d : decode cc pc = .ok (.lor, 1)) (kk : Z u w ws L (.long (x ||| y) :: st) (pc + 1)) : Z u w ws L (.long y :: .long x :: st) pc := z_next hZ (fun p e s m args below meth c H locs ls Q hx hb hl k => lv_lor hx hb d (k ls hl)) kk
theorem z_lxor (hZ : ZR l D cA own cc nl k mc ms E X Z) {x y : Int64} (d : decode cc pc = .ok (.lxor, 1)) (kk : Z u w ws L (.long (x ^^^ y) :: st) (pc + 1)) : Z u w ws L (.long y :: .long x :: st) pc := z_next hZ (fun p e s m args below meth c H locs ls Q hx hb hl k => lv_lxor hx hb d (k ls hl)) kk
theorem z_ldiv (hZ : ZR l D cA own cc nl k mc ms E X Z) {x y : Int64} (d : decode cc pc = .ok (.ldiv, 1)) (hne : ¬ y = 0) (kk : Z u w ws L (.long (x / y) :: st) (pc + 1)) : Z u w ws L (.long y :: .long x :: st) pc := z_next hZ (fun p e s m args below meth c H locs ls Q hx hb hl k => lv_ldiv hx hb d hne (k ls hl)) kk
theorem z_irem (hZ : ZR l D cA own cc nl k mc ms E X Z) {x y : Int32} (d : decode cc pc = .ok (.irem, 1)) (hne : ¬ y = 0) (kk : Z u w ws L (.int (x - x / y * y) :: st) (pc + 1)) : Z u w ws L (.int y :: .int x :: st) pc := z_next hZ (fun p e s m args below meth c H locs ls Q hx hb hl k => lv_irem hx hb d hne (k ls hl)) kk
theorem z_ineg (hZ : ZR l D cA own cc nl k mc ms E X Z) {x : Int32} (d : decode cc pc = .ok (.ineg, 1)) (kk : Z u w ws L (.int (-x) :: st) (pc + 1)) : Z u w ws L (.int x :: st) pc := z_next hZ (fun p e s m args below meth c H locs ls Q hx hb hl k => lv_ineg hx hb d (k ls hl)) kk
theorem z_ishl (hZ : ZR l D cA own cc nl k mc ms E X Z) {x y : Int32} (d : decode cc pc = .ok (.ishl, 1)) (kk : Z u w ws L (.int (x <<< (y &&& 31)) :: st) (pc + 1)) : Z u w ws L (.int y :: .int x :: st) pc := z_next hZ (fun p e s m args below meth c H locs ls Q hx hb hl k => lv_ishl hx hb d (k ls hl)) kk
theorem z_ishr (hZ : ZR l D cA own cc nl k mc ms E X Z) {x y : Int32} (d : decode cc pc = .ok (.ishr, 1)) (kk : Z u w ws L (.int (x >>> (y &&& 31)) :: st) (pc + 1)) : Z u w ws L (.int y :: .int x :: st) pc := z_next hZ (fun p e s m args below meth c H locs ls Q hx hb hl k => lv_ishr hx hb d (k ls hl)) kk
theorem z_iushr (hZ : ZR l D cA own cc nl k mc ms E X Z) {x y : Int32} (d : decode cc pc = .ok (.iushr, 1)) (kk : Z u w ws L (.int ((x.toUInt32 >>> (y.toUInt32 &&& Int32.toUInt32 31)).toInt32) :: st) (pc + 1)) : Z u w ws L (.int y :: .int x :: st) pc := z_next hZ (fun p e s m args below meth c H locs ls Q hx hb hl k => lv_iushr hx hb d rfl (k ls hl)) kk
theorem z_i2l (hZ : ZR l D cA own cc nl k mc ms E X Z) {x : Int32} (d : decode cc pc = .ok (.i2l, 1)) (kk : Z u w ws L (.long x.toInt64 :: st) (pc + 1)) : Z u w ws L (.int x :: st) pc := z_next hZ (fun p e s m args below meth c H locs ls Q hx hb hl k => lv_i2l hx hb d rfl (k ls hl)) kk
theorem z_l2i (hZ : ZR l D cA own cc nl k mc ms E X Z) {x : Int64} (d : decode cc pc = .ok (.l2i, 1)) (kk : Z u w ws L (.int x.toInt32 :: st) (pc + 1)) : Z u w ws L (.long x :: st) pc := z_next hZ (fun p e s m args below meth c H locs ls Q hx hb hl k => lv_l2i hx hb d rfl (k ls hl)) kk
theorem z_dup (hZ : ZR l D cA own cc nl k mc ms E X Z) {v : Value} (d : decode cc pc = .ok (.dup, 1)) (hv : v.category = 1) (kk : Z u w ws L (v :: v :: st) (pc + 1)) : Z u w ws L (v :: st) pc := z_next hZ (fun p e s m args below meth c H locs ls Q hx hb hl k => lv_dup hx hb d hv (k ls hl)) kk
theorem z_dup2 (hZ : ZR l D cA own cc nl k mc ms E X Z) {v v2 : Value} (d : decode cc pc = .ok (.dup2, 1)) (hv : v.category = 1) (hv2 : v2.category = 1) (kk : Z u w ws L (v :: v2 :: v :: v2 :: st) (pc + 1)) : Z u w ws L (v :: v2 :: st) pc := z_next hZ (fun p e s m args below meth c H locs ls Q hx hb hl k => lv_dup2_11 hx hb d hv hv2 (k ls hl)) kk
theorem z_pop (hZ : ZR l D cA own cc nl k mc ms E X Z) {v : Value} (d : decode cc pc = .ok (.pop, 1)) (hv : v.category = 1) (kk : Z u w ws L st (pc + 1)) : Z u w ws L (v :: st) pc := z_next hZ (fun p e s m args below meth c H locs ls Q hx hb hl k => lv_pop hx hb d hv (k ls hl)) kk
theorem z_null (hZ : ZR l D cA own cc nl k mc ms E X Z) (d : decode cc pc = .ok (.aconst_null, 1)) (kk : Z u w ws L (.null :: st) (pc + 1)) : Z u w ws L st pc := z_next hZ (fun p e s m args below meth c H locs ls Q hx hb hl k => lv_null hx hb d (k ls hl)) kk
theorem z_goto (hZ : ZR l D cA own cc nl k mc ms E X Z) {off : Int} {tgt : Nat} (d : decode cc pc = .ok (.goto off, 3)) (ht : (pc : Int) + off = (tgt : Int)) (kk : Z u w ws L st (tgt)) : Z u w ws L st pc := z_next hZ (fun p e s m args below meth c H locs ls Q hx hb hl k => lv_goto hx hb d ht (k ls hl)) kk
theorem z_lcmp (hZ : ZR l D cA own cc nl k mc ms E X Z) {x y : Int64} (d : decode cc pc = .ok (.lcmp, 1)) (kk : Z u w ws L (.int (lg_cmp x y) :: st) (pc + 1)) : Z u w ws L (.long y :: .long x :: st) pc := z_next hZ (fun p e s m args below meth c H locs ls Q hx hb hl k => W.lcmp hx hb d (k ls hl)) kk
theorem z_if_eq (hZ : ZR l D cA own cc nl k mc ms E X Z) {x : Int32} {off : Int} {tgt : Nat} (d : decode cc pc = .ok (.ifCond .eq off, 3)) (ht : (pc : Int) + off = (tgt : Int)) (k1 : x = 0 → Z u w ws L st tgt) (k2 : ¬ x = 0 → Z u w ws L st (pc + 3)) : Z u w ws L (.int x :: st) pc := by
  obtain ⟨p, e, s, m, args, below, meth, c, A, Q, ⟨hx, hb, hnl, hown, hev, hK, hA⟩, h1, h2, h3, rfl⟩ := hZ
  intro H locs ls hP hD hS hl
  exact lv_if_eq hx hb d ht (fun q => k1 q H locs ls hP hD hS hl) (fun q => k2 q H locs ls hP hD hS hl)
theorem z_icmp_eq (hZ : ZR l D cA own cc nl k mc ms E X Z) {x y : Int32} {off : Int} {tgt : Nat} (d : decode cc pc = .ok (.if_icmp .eq off, 3)) (ht : (pc : Int) + off = (tgt : Int)) (k1 : x = y → Z u w ws L st tgt) (k2 : ¬ x = y → Z u w ws L st (pc + 3)) : Z u w ws L (.int y :: .int x :: st) pc := by
  obtain ⟨p, e, s, m, args, below, meth, c, A, Q, ⟨hx, hb, hnl, hown, hev, hK, hA⟩, h1, h2, h3, rfl⟩ := hZ
  intro H locs ls hP hD hS hl
  exact lv_icmp_eq hx hb d ht (fun q => k1 q H locs ls hP hD hS hl) (fun q => k2 q H locs ls hP hD hS hl)
theorem z_if_ne (hZ : ZR l D cA own cc nl k mc ms E X Z) {x : Int32} {off : Int} {tgt : Nat} (d : decode cc pc = .ok (.ifCond .ne off, 3)) (ht : (pc : Int) + off = (tgt : Int)) (k1 : ¬ x = 0 → Z u w ws L st tgt) (k2 : x = 0 → Z u w ws L st (pc + 3)) : Z u w ws L (.int x :: st) pc := by
  obtain ⟨p, e, s, m, args, below, meth, c, A, Q, ⟨hx, hb, hnl, hown, hev, hK, hA⟩, h1, h2, h3, rfl⟩ := hZ
  intro H locs ls hP hD hS hl
  exact lv_if_ne hx hb d ht (fun q => k1 q H locs ls hP hD hS hl) (fun q => k2 q H locs ls hP hD hS hl)
theorem z_icmp_ne (hZ : ZR l D cA own cc nl k mc ms E X Z) {x y : Int32} {off : Int} {tgt : Nat} (d : decode cc pc = .ok (.if_icmp .ne off, 3)) (ht : (pc : Int) + off = (tgt : Int)) (k1 : ¬ x = y → Z u w ws L st tgt) (k2 : x = y → Z u w ws L st (pc + 3)) : Z u w ws L (.int y :: .int x :: st) pc := by
  obtain ⟨p, e, s, m, args, below, meth, c, A, Q, ⟨hx, hb, hnl, hown, hev, hK, hA⟩, h1, h2, h3, rfl⟩ := hZ
  intro H locs ls hP hD hS hl
  exact lv_icmp_ne hx hb d ht (fun q => k1 q H locs ls hP hD hS hl) (fun q => k2 q H locs ls hP hD hS hl)
theorem z_if_lt (hZ : ZR l D cA own cc nl k mc ms E X Z) {x : Int32} {off : Int} {tgt : Nat} (d : decode cc pc = .ok (.ifCond .lt off, 3)) (ht : (pc : Int) + off = (tgt : Int)) (k1 : x < 0 → Z u w ws L st tgt) (k2 : ¬ x < 0 → Z u w ws L st (pc + 3)) : Z u w ws L (.int x :: st) pc := by
  obtain ⟨p, e, s, m, args, below, meth, c, A, Q, ⟨hx, hb, hnl, hown, hev, hK, hA⟩, h1, h2, h3, rfl⟩ := hZ
  intro H locs ls hP hD hS hl
  exact lv_if_lt hx hb d ht (fun q => k1 q H locs ls hP hD hS hl) (fun q => k2 q H locs ls hP hD hS hl)
theorem z_icmp_lt (hZ : ZR l D cA own cc nl k mc ms E X Z) {x y : Int32} {off : Int} {tgt : Nat} (d : decode cc pc = .ok (.if_icmp .lt off, 3)) (ht : (pc : Int) + off = (tgt : Int)) (k1 : x < y → Z u w ws L st tgt) (k2 : ¬ x < y → Z u w ws L st (pc + 3)) : Z u w ws L (.int y :: .int x :: st) pc := by
  obtain ⟨p, e, s, m, args, below, meth, c, A, Q, ⟨hx, hb, hnl, hown, hev, hK, hA⟩, h1, h2, h3, rfl⟩ := hZ
  intro H locs ls hP hD hS hl
  exact lv_icmp_lt hx hb d ht (fun q => k1 q H locs ls hP hD hS hl) (fun q => k2 q H locs ls hP hD hS hl)
theorem z_if_ge (hZ : ZR l D cA own cc nl k mc ms E X Z) {x : Int32} {off : Int} {tgt : Nat} (d : decode cc pc = .ok (.ifCond .ge off, 3)) (ht : (pc : Int) + off = (tgt : Int)) (k1 : 0 ≤ x → Z u w ws L st tgt) (k2 : ¬ 0 ≤ x → Z u w ws L st (pc + 3)) : Z u w ws L (.int x :: st) pc := by
  obtain ⟨p, e, s, m, args, below, meth, c, A, Q, ⟨hx, hb, hnl, hown, hev, hK, hA⟩, h1, h2, h3, rfl⟩ := hZ
  intro H locs ls hP hD hS hl
  exact lv_if_ge hx hb d ht (fun q => k1 q H locs ls hP hD hS hl) (fun q => k2 q H locs ls hP hD hS hl)
theorem z_icmp_ge (hZ : ZR l D cA own cc nl k mc ms E X Z) {x y : Int32} {off : Int} {tgt : Nat} (d : decode cc pc = .ok (.if_icmp .ge off, 3)) (ht : (pc : Int) + off = (tgt : Int)) (k1 : y ≤ x → Z u w ws L st tgt) (k2 : ¬ y ≤ x → Z u w ws L st (pc + 3)) : Z u w ws L (.int y :: .int x :: st) pc := by
  obtain ⟨p, e, s, m, args, below, meth, c, A, Q, ⟨hx, hb, hnl, hown, hev, hK, hA⟩, h1, h2, h3, rfl⟩ := hZ
  intro H locs ls hP hD hS hl
  exact lv_icmp_ge hx hb d ht (fun q => k1 q H locs ls hP hD hS hl) (fun q => k2 q H locs ls hP hD hS hl)
theorem z_if_gt (hZ : ZR l D cA own cc nl k mc ms E X Z) {x : Int32} {off : Int} {tgt : Nat} (d : decode cc pc = .ok (.ifCond .gt off, 3)) (ht : (pc : Int) + off = (tgt : Int)) (k1 : 0 < x → Z u w ws L st tgt) (k2 : ¬ 0 < x → Z u w ws L st (pc + 3)) : Z u w ws L (.int x :: st) pc := by
  obtain ⟨p, e, s, m, args, below, meth, c, A, Q, ⟨hx, hb, hnl, hown, hev, hK, hA⟩, h1, h2, h3, rfl⟩ := hZ
  intro H locs ls hP hD hS hl
  exact lv_if_gt hx hb d ht (fun q => k1 q H locs ls hP hD hS hl) (fun q => k2 q H locs ls hP hD hS hl)
theorem z_icmp_gt (hZ : ZR l D cA own cc nl k mc ms E X Z) {x y : Int32} {off : Int} {tgt : Nat} (d : decode cc pc = .ok (.if_icmp .gt off, 3)) (ht : (pc : Int) + off = (tgt : Int)) (k1 : y < x → Z u w ws L st tgt) (k2 : ¬ y < x → Z u w ws L st (pc + 3)) : Z u w ws L (.int y :: .int x :: st) pc := by
  obtain ⟨p, e, s, m, args, below, meth, c, A, Q, ⟨hx, hb, hnl, hown, hev, hK, hA⟩, h1, h2, h3, rfl⟩ := hZ
  intro H locs ls hP hD hS hl
  exact lv_icmp_gt hx hb d ht (fun q => k1 q H locs ls hP hD hS hl) (fun q => k2 q H locs ls hP hD hS hl)
theorem z_if_le (hZ : ZR l D cA own cc nl k mc ms E X Z) {x : Int32} {off : Int} {tgt : Nat} (d : decode cc pc = .ok (.ifCond .le off, 3)) (ht : (pc : Int) + off = (tgt : Int)) (k1 : x ≤ 0 → Z u w ws L st tgt) (k2 : ¬ x ≤ 0 → Z u w ws L st (pc + 3)) : Z u w ws L (.int x :: st) pc := by
  obtain ⟨p, e, s, m, args, below, meth, c, A, Q, ⟨hx, hb, hnl, hown, hev, hK, hA⟩, h1, h2, h3, rfl⟩ := hZ
  intro H locs ls hP hD hS hl
  exact lv_if_le hx hb d ht (fun q => k1 q H locs ls hP hD hS hl) (fun q => k2 q H locs ls hP hD hS hl)
theorem z_icmp_le (hZ : ZR l D cA own cc nl k mc ms E X Z) {x y : Int32} {off : Int} {tgt : Nat} (d : decode cc pc = .ok (.if_icmp .le off, 3)) (ht : (pc : Int) + off = (tgt : Int)) (k1 : x ≤ y → Z u w ws L st tgt) (k2 : ¬ x ≤ y → Z u w ws L st (pc + 3)) : Z u w ws L (.int y :: .int x :: st) pc := by
  obtain ⟨p, e, s, m, args, below, meth, c, A, Q, ⟨hx, hb, hnl, hown, hev, hK, hA⟩, h1, h2, h3, rfl⟩ := hZ
  intro H locs ls hP hD hS hl
  exact lv_icmp_le hx hb d ht (fun q => k1 q H locs ls hP hD hS hl) (fun q => k2 q H locs ls hP hD hS hl)
end ZRows
