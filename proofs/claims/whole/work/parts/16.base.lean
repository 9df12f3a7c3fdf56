/-! plain words of both sides -/
def atf (n : Nat) (f : Nat → Int32) (i : Int32) : Int32 := if i < 0 then 0 else if nI n ≤ i then 0 else f i.toNatClampNeg
def putf (n : Nat) (f : Nat → Int32) (i x : Int32) : Nat → Int32 := if i < 0 then f else if nI n ≤ i then f else upd f i.toNatClampNeg x
theorem nI_nonneg {j : Nat} (h : j < 2 ^ 31) : ¬ nI j < 0 := nI_pos h
theorem atf_nI {n j : Nat} (h : j < n) (hn : n < 2 ^ 31) (f : Nat → Int32) : atf n f (nI j) = f j := by
  have h1 : ¬ nI j < 0 := nI_pos (by omega)
  have h2 : ¬ nI n ≤ nI j := nI_ge h hn
  rw [atf, if_neg h1, if_neg h2, nI_clamp (by omega)]
theorem putf_nI {n j : Nat} (h : j < n) (hn : n < 2 ^ 31) (f : Nat → Int32) (x : Int32) : putf n f (nI j) x = upd f j x := by
  have h1 : ¬ nI j < 0 := nI_pos (by omega)
  have h2 : ¬ nI n ≤ nI j := nI_ge h hn
  rw [putf, if_neg h1, if_neg h2, nI_clamp (by omega)]
theorem vp_in_cmp {n : Nat} {i : Int32} (hn : n < 2 ^ 31) (h1 : ¬ i < 0) (h2 : ¬ nI n ≤ i) : vp_in i n := by
  obtain ⟨j, hj, rfl⟩ := nI_of h1
  have : j < n := by
    rcases Nat.lt_or_ge j n with h | h
    · exact h
    · exact absurd (nI_le h hj) h2
  exact vp_in_nI this hn
theorem up_self {α : Type} {f : Nat → α} {k : Nat} : va_up f k (f k) = f := by
  funext j
  by_cases h : j = k
  · subst h; simp [va_up]
  · simp [va_up, h]
theorem up_at {α : Type} {f : Nat → α} {k : Nat} {x : α} : va_up f k x k = x := by simp [va_up]
theorem up_off {α : Type} {f : Nat → α} {k j : Nat} {x : α} (h : j ≠ k) : va_up f k x j = f j := by simp [va_up, h]
theorem up_twice {α : Type} {f : Nat → α} {k : Nat} {x y : α} : va_up (va_up f k x) k y = va_up f k y := by
  funext j
  by_cases h : j = k
  · subst h; simp [va_up]
  · simp [va_up, h]
theorem lenC_lt : ∀ j, j < 41 → lenC j < 2 ^ 31 := by
  intro j hj
  have h : lenCs.all (fun n => decide (n < 2 ^ 31)) = true := by decide +kernel
  unfold lenC
  rw [List.getD_eq_getElem?_getD]
  cases h2 : lenCs[j]? with
  | none => decide
  | some n =>
    have := List.all_eq_true.mp h n (List.mem_of_getElem? h2)
    simpa using this
/-- a counting loop's end, and its going on -/
theorem lp_ge {x : Int32} {n i : Nat} (hx : x = nI n) (hn : n < 2 ^ 31) (hi : i ≤ n) (c : x ≤ nI i) : i = n := by
  subst hx
  have := (nI_leI (a := n) (b := i) hn (by omega)).mp c
  omega
theorem lp_lt {x : Int32} {n i : Nat} (hx : x = nI n) (hn : n < 2 ^ 31) (hi : i ≤ n) (c : ¬ x ≤ nI i) : i < n := by
  subst hx
  rcases Nat.lt_or_ge i n with h | h
  · exact h
  · exact absurd (nI_le h (by omega)) c
theorem nI_inc (i : Nat) : nI i + Int32.ofInt 1 = nI (i + 1) := nI_1 i
theorem nI_one : (1 : Int32) = nI 1 := rfl
/-- what stands behind a step is what stands ahead of the next -/
def zle : List (Option Value) → List (Option Value) → Prop
  | [], _ => True
  | none :: L', _ :: L => zle L' L
  | none :: L', [] => zle L' []
  | some v :: L', x :: L => x = some v ∧ zle L' L
  | some _ :: _, [] => False
theorem zle_get : ∀ {L' L : List (Option Value)}, zle L' L → ∀ (i : Nat) (v : Value), L'[i]? = some (some v) → L[i]? = some (some v)
  | [], _, _, i, v, h => by simp at h
  | none :: L', x :: L, hz, i, v, h => by
    cases i with
    | zero => simp at h
    | succ i => simp at h ⊢; exact zle_get (L' := L') (L := L) hz i v h
  | none :: L', [], hz, i, v, h => by
    cases i with
    | zero => simp at h
    | succ i =>
      simp at h
      have := zle_get (L' := L') (L := []) hz i v h
      simp at this
  | some w :: L', x :: L, hz, i, v, h => by
    obtain ⟨h1, h2⟩ := hz
    cases i with
    | zero => simp at h ⊢; rw [h1, h]
    | succ i => simp at h ⊢; exact zle_get (L' := L') (L := L) h2 i v h
  | some w :: L', [], hz, _, _, _ => hz.elim
theorem zi {a b : Int32} (h : a = b) : (some (Value.int a) : Option Value) = some (Value.int b) := by rw [h]
theorem zlo {a b : Int64} (h : a = b) : (some (Value.long a) : Option Value) = some (Value.long b) := by rw [h]
section ZB
variable {l : Launch} {D : va_G} {cA : Nat → ClassId} {own : String} {cc : ByteArray} {nl k mc ms : Nat} {E : Nat → Nat → va_W → Option Value → Prop} {X : Nat → Nat → va_W → String → Prop} {Z : ZT}
variable {u w pc : Nat} {ws ws' : va_W} {L L' : List (Option Value)} {st st' : List Value}
theorem z_drop (hZ : ZR l D cA own cc nl k mc ms E X Z) (h : zle L' L) (kk : Z u w ws L' st pc) : Z u w ws L st pc := by
  obtain ⟨p, e, s, m, args, below, meth, c, A, Q, ⟨hx, hb, hnl, hown, hev, hK, hA⟩, h1, h2, h3, rfl⟩ := hZ
  intro H locs ls hP hD hS hl
  exact kk H locs ls hP hD hS (zl_sub hl (fun q hq => by
    obtain ⟨i, v⟩ := q
    rw [zl_mem0] at hq ⊢
    exact zle_get h i v hq))
theorem z_back (hZ : ZR l D cA own cc nl k mc ms E X Z) (kk : Z u w ws' L' st pc) (hw : ws = ws') (h : zle L' L) : Z u w ws L st pc := by
  subst hw
  exact z_drop hZ h kk
theorem z_st (kk : Z u w ws L st' pc) (h : st = st') : Z u w ws L st pc := by subst h; exact kk
theorem z_ws (kk : Z u w ws' L st pc) (h : ws = ws') : Z u w ws L st pc := by subst h; exact kk
theorem z_top {x y : Int32} (h : x = y) (kk : Z u w ws L (.int y :: st) pc) : Z u w ws L (.int x :: st) pc := by subst h; exact kk
theorem z_ldc (hZ : ZR l D cA own cc nl k mc ms E X Z) {idx : Nat} {v : Int32} (d : decode cc pc = .ok (.ldc idx, 2)) (hc : Cond.constant own idx v ∈ lw_tbl) (kk : Z u w ws L (.int v :: st) (pc + 2)) : Z u w ws L st pc := by
  obtain ⟨p, e, s, m, args, below, meth, c, A, Q, ⟨hx, hb, hnl, hown, hev, hK, hA⟩, h1, h2, h3, rfl⟩ := hZ
  intro H locs ls hP hD hS hl
  exact lv_ldc hx hb hown (hev.use hc rfl args) d (kk H locs ls hP hD hS hl)
theorem z_ldcw (hZ : ZR l D cA own cc nl k mc ms E X Z) {idx : Nat} {v : Int32} (d : decode cc pc = .ok (.ldc_w idx, 3)) (hc : Cond.constant own idx v ∈ lw_tbl) (kk : Z u w ws L (.int v :: st) (pc + 3)) : Z u w ws L st pc := by
  obtain ⟨p, e, s, m, args, below, meth, c, A, Q, ⟨hx, hb, hnl, hown, hev, hK, hA⟩, h1, h2, h3, rfl⟩ := hZ
  intro H locs ls hP hD hS hl
  exact lv_ldcw hx hb hown (hev.use hc rfl args) d (kk H locs ls hP hD hS hl)
theorem z_ldc2 (hZ : ZR l D cA own cc nl k mc ms E X Z) {idx : Nat} {v : Int64} (d : decode cc pc = .ok (.ldc2_w idx, 3)) (hc : Cond.constantLong own idx v ∈ lw_tbl) (kk : Z u w ws L (.long v :: st) (pc + 3)) : Z u w ws L st pc := by
  obtain ⟨p, e, s, m, args, below, meth, c, A, Q, ⟨hx, hb, hnl, hown, hev, hK, hA⟩, h1, h2, h3, rfl⟩ := hZ
  intro H locs ls hP hD hS hl
  exact lv_ldc2 hx hb hown (hev.use hc rfl args) d (kk H locs ls hP hD hS hl)
theorem z_max (hZ : ZR l D cA own cc nl k mc ms E X Z) {idx : Nat} {x y : Int32} (d : decode cc pc = .ok (.invokestatic idx, 3)) (hl : Cond.methodLink own idx Lib.Math.max.name ∈ lw_tbl) (h1 : Cond.static Lib.Math.max.name ∈ lw_tbl) (h2 : Cond.initialized "java/lang/Math" ∈ lw_tbl) (h3 : Cond.code Lib.Math.max.name Lib.Math.max.code 2 (some .int) ∈ lw_tbl) (h8 : (st.map fun v => v.category).sum ≤ 8) (hk : 1 ≤ k) (hu : u ≤ mc) (hw : w ≤ ms) (kk : Z u w ws L (.int (if x < y then y else x) :: st) (pc + 3)) : Z u w ws L (.int y :: .int x :: st) pc := by
  obtain ⟨p, e, s, m, args, below, meth, c, A, Q, ⟨hx, hb, hnl, hown, hev, hK, hA⟩, g1, g2, g3, rfl⟩ := hZ
  intro H locs ls hP hD hS hl0
  exact va_mmax hx hb (by rw [hnl]; exact hl0.1.symm) hown (hev.use hl rfl args) (hev.use h1 rfl args) (hev.use h2 rfl args) (hev.use h3 rfl args) hk (by simp only [RM]; omega) hu hw d (kk H locs ls hP hD hS hl0)
theorem z_min (hZ : ZR l D cA own cc nl k mc ms E X Z) {idx : Nat} {x y : Int32} (d : decode cc pc = .ok (.invokestatic idx, 3)) (hl : Cond.methodLink own idx Lib.Math.min.name ∈ lw_tbl) (h1 : Cond.static Lib.Math.min.name ∈ lw_tbl) (h2 : Cond.initialized "java/lang/Math" ∈ lw_tbl) (h3 : Cond.code Lib.Math.min.name Lib.Math.min.code 2 (some .int) ∈ lw_tbl) (h8 : (st.map fun v => v.category).sum ≤ 8) (hk : 1 ≤ k) (hu : u ≤ mc) (hw : w ≤ ms) (kk : Z u w ws L (.int (if y < x then y else x) :: st) (pc + 3)) : Z u w ws L (.int y :: .int x :: st) pc := by
  obtain ⟨p, e, s, m, args, below, meth, c, A, Q, ⟨hx, hb, hnl, hown, hev, hK, hA⟩, g1, g2, g3, rfl⟩ := hZ
  intro H locs ls hP hD hS hl0
  exact va_mmin hx hb (by rw [hnl]; exact hl0.1.symm) hown (hev.use hl rfl args) (hev.use h1 rfl args) (hev.use h2 rfl args) (hev.use h3 rfl args) hk (by simp only [RM]; omega) hu hw d (kk H locs ls hP hD hS hl0)
theorem z_swOut (hZ : ZR l D cA own cc nl k mc ms E X Z) {dflt lo hi : Int} {offs : Array Int} {len : Nat} {x : Int32} {tgt : Nat} (d : decode cc pc = .ok (.tableswitch dflt lo hi offs, len)) (h : x.toInt < lo ∨ hi < x.toInt) (ht : (pc : Int) + dflt = (tgt : Int)) (kk : Z u w ws L st tgt) : Z u w ws L (.int x :: st) pc := by
  obtain ⟨p, e, s, m, args, below, meth, c, A, Q, ⟨hx, hb, hnl, hown, hev, hK, hA⟩, h1, h2, h3, rfl⟩ := hZ
  intro H locs ls hP hD hS hl
  exact lv_tableOut hx hb d h ht (kk H locs ls hP hD hS hl)
theorem z_swIn (hZ : ZR l D cA own cc nl k mc ms E X Z) {dflt lo hi off : Int} {offs : Array Int} {len : Nat} {x : Int32} {tgt : Nat} (d : decode cc pc = .ok (.tableswitch dflt lo hi offs, len)) (h1 : ¬ x.toInt < lo) (h2 : ¬ hi < x.toInt) (ho : offs[(x.toInt - lo).toNat]? = some off) (ht : (pc : Int) + off = (tgt : Int)) (kk : Z u w ws L st tgt) : Z u w ws L (.int x :: st) pc := by
  obtain ⟨p, e, s, m, args, below, meth, c, A, Q, ⟨hx, hb, hnl, hown, hev, hK, hA⟩, g1, g2, g3, rfl⟩ := hZ
  intro H locs ls hP hD hS hl
  exact lv_tableIn hx hb d h1 h2 ho ht (kk H locs ls hP hD hS hl)
end ZB
