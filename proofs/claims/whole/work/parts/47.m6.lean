/-! the round, the reference's: all rows of houses, the first least one -/
theorem mB_more {f : Nat → Nat} {s m : Nat} : ∀ {n : Nat}, m ≤ n → (∀ k, m ≤ k → k < n → s.testBit k = false) → mB f s n = mB f s m
  | n, hmn, h => by
    induction n with
    | zero => have : m = 0 := by omega
              subst this; rfl
    | succ n ih =>
      rcases Nat.eq_or_lt_of_le hmn with e | e
      · rw [e]
      · rw [mB, h n (by omega) (by omega), ih (by omega) (fun k h1 h2 => h k h1 (by omega))]
        rfl
theorem mB_bit {f : Nat → Nat} {s h : Nat} : ∀ {n : Nat}, h < n → s.testBit h = true → mB f s n ≤ f h
  | n, hh, hb => by
    induction n with
    | zero => omega
    | succ n ih =>
      rw [mB]
      by_cases e : h = n
      · subst e
        rw [if_pos hb]
        omega
      · have := ih (by omega)
        split <;> omega
def argm (f : Nat → Nat) (s : Nat) : Nat → Nat
  | 0 => 0
  | h + 1 => if s.testBit h = true ∧ f h < mB f s h then h else argm f s h
theorem argm_more {f : Nat → Nat} {s m : Nat} : ∀ {n : Nat}, m ≤ n → (∀ k, m ≤ k → k < n → s.testBit k = false) → argm f s n = argm f s m
  | n, hmn, h => by
    induction n with
    | zero => have : m = 0 := by omega
              subst this; rfl
    | succ n ih =>
      rcases Nat.eq_or_lt_of_le hmn with e | e
      · rw [e]
      · rw [argm, if_neg (fun q => by rw [h n (by omega) (by omega)] at q; cases q.1), ih (by omega) (fun k h1 h2 => h k h1 (by omega))]
def BhF (wk : Nat → Nat → Nat) : Nat → Nat → Nat → Nat
  | 0, _, _ => 0
  | f + 1, s, x => if s = 0 then wk x 0 else mB (fun h => wk x h + BhF wk f (rmB s h) h) s 10
def Bh (wk : Nat → Nat → Nat) (s x : Nat) : Nat := BhF wk (s + 1) s x
theorem BhF_eq (wk : Nat → Nat → Nat) : ∀ f f' s x, s < f → s < f' → BhF wk f s x = BhF wk f' s x
  | 0, _, s, _, h, _ => absurd h (Nat.not_lt_zero _)
  | _ + 1, 0, s, _, _, h => absurd h (Nat.not_lt_zero _)
  | f + 1, f' + 1, s, x, h, h' => by
    rw [BhF, BhF]
    split
    · rfl
    · exact mB_cong (fun p _ hb => by have := rm_lt hb; rw [BhF_eq wk f f' (rmB s p) p (by omega) (by omega)])
def byH (wk : Nat → Nat → Nat) (s x h : Nat) : Nat := wk x h + Bh wk (rmB s h) h
theorem Bh_eq (wk : Nat → Nat → Nat) (s x : Nat) : Bh wk s x = if s = 0 then wk x 0 else mB (byH wk s x) s 10 := by
  rw [Bh, BhF]
  split
  · rfl
  · exact mB_cong (fun p _ hb => by have := rm_lt hb; rw [byH, Bh, BhF_eq wk s (rmB s p + 1) (rmB s p) p (by omega) (by omega)])
theorem popc_rm {s h : Nat} (hh : h < 10) (hb : s.testBit h = true) : popc (rmB s h) + 1 = popc s := by
  have h1 := popc_split s (2 ^ h)
  have h2 : popc (s &&& 2 ^ h) = 1 := by
    have e : s &&& 2 ^ h = 2 ^ h := by
      apply Nat.eq_of_testBit_eq
      intro k
      rw [Nat.testBit_and, Nat.testBit_two_pow]
      by_cases q : h = k
      · subst q; simp [hb]
      · simp [q]
    rw [e]
    have : ∀ h, h < 10 → popc (2 ^ h) = 1 := by decide +kernel
    exact this h hh
  unfold rmB
  omega
theorem Bh_bd {wk : Nat → Nat → Nat} (hwl : ∀ x y, wk x y ≤ 99) : ∀ s, s < 1024 → ∀ x, Bh wk s x ≤ 99 * (popc s + 1) := by
  intro s
  induction s using Nat.strongRecOn with
  | ind s ih =>
    intro hs x
    rw [Bh_eq]
    split
    · have := hwl x 0
      omega
    · rename_i h0
      obtain ⟨hl, hb⟩ := (lowb_tab s hs).resolve_left h0
      have h1 := mB_bit (f := byH wk s x) (n := 10) hl hb
      have h2 := ih (rmB s (lowb s)) (rm_lt hb) (by have := rm_lt hb; omega) (lowb s)
      have h3 := popc_rm hl hb
      have h4 := hwl x (lowb s)
      have h5 : byH wk s x (lowb s) = wk x (lowb s) + Bh wk (rmB s (lowb s)) (lowb s) := rfl
      omega
theorem byH_bd {wk : Nat → Nat → Nat} (hwl : ∀ x y, wk x y ≤ 99) {s : Nat} (hs : s < 1024) (x h : Nat) : byH wk s x h ≤ 2000 := by
  have h1 := Bh_bd hwl (rmB s h) (Nat.lt_of_le_of_lt (rm_le _ _) hs) h
  have h2 := popc_le (rmB s h)
  have h3 := hwl x h
  unfold byH
  omega
def nxH (wk : Nat → Nat → Nat) (s x : Nat) : Nat := argm (byH wk s x) s 10
def pth (wk : Nat → Nat → Nat) : Nat → Nat → Nat → Nat
  | 0, s, x => nxH wk s x
  | k + 1, s, x => pth wk k (rmB s (nxH wk s x)) (nxH wk s x)
def rowA (wk : Nat → Nat → Nat) (s h : Nat) : Nat → Nat
  | 0 => h
  | k + 1 => pth wk k (rmB s h) h
theorem pth_row (wk : Nat → Nat → Nat) (s x k : Nat) : pth wk k s x = rowA wk s (nxH wk s x) k := by cases k <;> rfl
def OKr (n : Nat) (c : Prop) (val : Int32) (row : Nat → Nat) (len : Nat) (ty : Nat → Int32) (v43 : Int32) (r40 : Nat → Int32) (w43 : Int32) (q40 : Nat → Int32) : Prop := (c ∧ w43 = val ∧ (∀ k, k < n → q40 k = ty k) ∧ (∀ k, k < len → q40 (n + k) = nI (row k))) ∨ (¬ c ∧ w43 = v43 ∧ q40 = r40)
def inC (f : Nat → Nat) (s sum : Nat) (v43 : Int32) (i : Nat) : Prop := mB f s i < 1000000 ∧ (v43 = -1 ∨ nI (sum + mB f s i) < v43)
def INV (wk : Nat → Nat → Nat) (s x sum n : Nat) (ty : Nat → Int32) (v43 : Int32) (r40 : Nat → Int32) (w43 : Int32) (q40 : Nat → Int32) (i : Nat) : Prop := OKr n (inC (byH wk s x) s sum v43 i) (nI (sum + mB (byH wk s x) s i)) (rowA wk s (argm (byH wk s x) s i)) (popc s) ty v43 r40 w43 q40
theorem INV_0 (wk : Nat → Nat → Nat) (s x sum n : Nat) (ty : Nat → Int32) (v43 : Int32) (r40 : Nat → Int32) : INV wk s x sum n ty v43 r40 v43 r40 0 := Or.inr ⟨fun q => absurd q.1 (by show ¬ 1000000 < 1000000; omega), rfl, rfl⟩
theorem INV_no {wk : Nat → Nat → Nat} {s x sum n : Nat} {ty : Nat → Int32} {v43 : Int32} {r40 : Nat → Int32} {w43 : Int32} {q40 : Nat → Int32} {i : Nat} (hb : s.testBit i = false) (h : INV wk s x sum n ty v43 r40 w43 q40 i) : INV wk s x sum n ty v43 r40 w43 q40 (i + 1) := by
  have e1 : mB (byH wk s x) s (i + 1) = mB (byH wk s x) s i := by rw [mB, hb]; rfl
  have e2 : argm (byH wk s x) s (i + 1) = argm (byH wk s x) s i := by rw [argm, if_neg (fun q => by rw [hb] at q; cases q.1)]
  unfold INV inC at *
  rw [e1, e2]
  exact h
theorem nI_m1 {a : Nat} (h : a < 2 ^ 31) : ¬ nI a = -1 := fun q => nI_pos h (by rw [q]; decide)
theorem INV_s {wk : Nat → Nat → Nat} {s x sum n : Nat} {ty ty1 : Nat → Int32} {v43 : Int32} {r40 : Nat → Int32} {w43 w2 : Int32} {q40 q2 : Nat → Int32} {i : Nat} (hwl : ∀ x y, wk x y ≤ 99) (hs : s < 1024) (hi : i < 10) (hsum : sum ≤ 100000) (hb : s.testBit i = true) (h : INV wk s x sum n ty v43 r40 w43 q40 i) (hty : ∀ k, k < n → ty1 k = ty k)
    (hp : OKr (n + 1) (w43 = -1 ∨ nI (sum + wk x i + Bh wk (rmB s i) i) < w43) (nI (sum + wk x i + Bh wk (rmB s i) i)) (fun k => pth wk k (rmB s i) i) (popc (rmB s i)) (upd ty1 n (nI i)) w43 q40 w2 q2) : INV wk s x sum n ty v43 r40 w2 q2 (i + 1) := by
  have hy := byH_bd hwl hs x i
  have hpc := popc_rm hi hb
  obtain ⟨y, hye⟩ : ∃ y, y = byH wk s x i := ⟨_, rfl⟩
  obtain ⟨m, hm⟩ : ∃ m, m = mB (byH wk s x) s i := ⟨_, rfl⟩
  have hml := mB_le (byH wk s x) s i
  have ey : sum + wk x i + Bh wk (rmB s i) i = sum + y := by rw [hye, byH]; omega
  have em : mB (byH wk s x) s (i + 1) = min m y := by rw [mB, if_pos hb, ← hm, ← hye]
  have ea : argm (byH wk s x) s (i + 1) = if y < m then i else argm (byH wk s x) s i := by
    rw [argm, ← hm, ← hye]
    by_cases q : y < m
    · rw [if_pos ⟨hb, q⟩, if_pos q]
    · rw [if_neg (fun z => q z.2), if_neg q]
  rw [ey] at hp
  rw [← hye] at hy
  rw [← hm] at hml
  have hnew : y < m → (v43 = -1 ∨ nI (sum + y) < v43) → (∀ k, k < n + 1 → q2 k = upd ty1 n (nI i) k) → (∀ k, k < popc (rmB s i) → q2 (n + 1 + k) = nI (pth wk k (rmB s i) i)) → w2 = nI (sum + y) → INV wk s x sum n ty v43 r40 w2 q2 (i + 1) := by
    intro hlt hc h1 h2 h3
    refine Or.inl ⟨⟨by rw [em]; omega, by rw [em, Nat.min_eq_right (by omega)]; exact hc⟩, by rw [em, Nat.min_eq_right (by omega)]; exact h3, fun k hk => ?_, fun k hk => ?_⟩
    · rw [h1 k (by omega), upd_off (by omega), hty k hk]
    · rw [ea, if_pos hlt]
      cases k with
      | zero => rw [Nat.add_zero, h1 n (by omega), upd_at]; rfl
      | succ k =>
        have := h2 k (by omega)
        rw [show n + (k + 1) = n + 1 + k by omega, this]
        rfl
  rcases h with ⟨⟨c1, c2⟩, e1, e2, e3⟩ | ⟨c, e1, e2⟩
  · rw [← hm] at c1 c2 e1
    rcases hp with ⟨d, f1, f2, f3⟩ | ⟨d, f1, f2⟩
    · have hlt : y < m := by
        rcases d with d | d
        · rw [e1] at d
          exact absurd d (nI_m1 (by omega))
        · rw [e1] at d
          have := (nI_ltI (a := sum + y) (b := sum + m) (by omega) (by omega)).mp d
          omega
      exact hnew hlt (c2.imp_right (fun z => Int32.lt_trans (nI_lt (by omega) (by omega)) z)) f2 f3 f1
    · have hlt : ¬ y < m := fun q => d (Or.inr (by rw [e1]; exact nI_lt (by omega) (by omega)))
      refine Or.inl ⟨⟨by rw [em]; omega, by rw [em, Nat.min_eq_left (by omega)]; exact c2⟩, by rw [em, Nat.min_eq_left (by omega), f1]; exact e1, fun k hk => ?_, fun k hk => ?_⟩
      · rw [f2]; exact e2 k hk
      · rw [f2, ea, if_neg hlt]; exact e3 k hk
  · unfold inC at c
    rw [← hm] at c
    rcases hp with ⟨d, f1, f2, f3⟩ | ⟨d, f1, f2⟩
    · have hd : v43 = -1 ∨ nI (sum + y) < v43 := by rw [← e1]; exact d
      have hlt : y < m := by
        rcases Nat.lt_or_ge y m with q | q
        · exact q
        · exfalso
          refine c ⟨by omega, hd.imp_right (fun z => Int32.lt_of_le_of_lt (nI_le (by omega) (by omega)) z)⟩
      exact hnew hlt hd f2 f3 f1
    · refine Or.inr ⟨?_, f1.trans e1, f2.trans e2⟩
      rintro ⟨g1, g2⟩
      rw [em] at g1 g2
      rw [e1] at d
      rcases Nat.le_total m y with q | q
      · rw [Nat.min_eq_left q] at g1 g2
        exact c ⟨g1, g2⟩
      · rw [Nat.min_eq_right q] at g1 g2
        exact d g2
