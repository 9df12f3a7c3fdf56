/-! the round, the reference's: all rows of houses, the first least one -/
theorem mB_more {f : Nat → Nat} {s m : Nat} : ∀ {n : Nat}, m ≤ n → (∀ k, m ≤ k → k < n → s.testBit k = false) → mB f s n = mB f s m
  | n, hmn, h => by
    induction n with
    | zero => have : m = 0 := by omega
              subst this; rfl
    | succ n ih =>
      rcases Nat.eq_or_lt_of_le hmn with e | e
      · rw [e]
      · rw [mB, h n (by omega) (by omega), ih (by omega) (fun k h1 h2 => h k h1 (by omega))]
        rfl
theorem mB_bit {f : Nat → Nat} {s h : Nat} : ∀ {n : Nat}, h < n → s.testBit h = true → mB f s n ≤ f h
  | n, hh, hb => by
    induction n with
    | zero => omega
    | succ n ih =>
      rw [mB]
      by_cases e : h = n
      · subst e
        rw [if_pos hb]
        omega
      · have := ih (by omega)
        split <;> omega
def argm (f : Nat → Nat) (s : Nat) : Nat → Nat
  | 0 => 0
  | h + 1 => if s.testBit h = true ∧ f h < mB f s h then h else argm f s h
theorem argm_more {f : Nat → Nat} {s m : Nat} : ∀ {n : Nat}, m ≤ n → (∀ k, m ≤ k → k < n → s.testBit k = false) → argm f s n = argm f s m
  | n, hmn, h => by
    induction n with
    | zero => have : m = 0 := by omega
              subst this; rfl
    | succ n ih =>
      rcases Nat.eq_or_lt_of_le hmn with e | e
      · rw [e]
      · rw [argm, if_neg (fun q => by rw [h n (by omega) (by omega)] at q; cases q.1), ih (by omega) (fun k h1 h2 => h k h1 (by omega))]
def BhF (wk : Nat → Nat → Nat) : Nat → Nat → Nat → Nat
  | 0, _, _ => 0
  | f + 1, s, x => if s = 0 then wk x 0 else mB (fun h => wk x h + BhF wk f (rmB s h) h) s 10
def Bh (wk : Nat → Nat → Nat) (s x : Nat) : Nat := BhF wk (s + 1) s x
theorem BhF_eq (wk : Nat → Nat → Nat) : ∀ f f' s x, s < f → s < f' → BhF wk f s x = BhF wk f' s x
  | 0, _, s, _, h, _ => absurd h (Nat.not_lt_zero _)
  | _ + 1, 0, s, _, _, h => absurd h (Nat.not_lt_zero _)
  | f + 1, f' + 1, s, x, h, h' => by
    rw [BhF, BhF]
    split
    · rfl
    · exact mB_cong (fun p _ hb => by have := rm_lt hb; rw [BhF_eq wk f f' (rmB s p) p (by omega) (by omega)])
def byH (wk : Nat → Nat → Nat) (s x h : Nat) : Nat := wk x h + Bh wk (rmB s h) h
theorem Bh_eq (wk : Nat → Nat → Nat) (s x : Nat) : Bh wk s x = if s = 0 then wk x 0 else mB (byH wk s x) s 10 := by
  rw [Bh, BhF]
  split
  · rfl
  · exact mB_cong (fun p _ hb => by have := rm_lt hb; rw [byH, Bh, BhF_eq wk s (rmB s p + 1) (rmB s p) p (by omega) (by omega)])
theorem popc_rm {s h : Nat} (hh : h < 10) (hb : s.testBit h = true) : popc (rmB s h) + 1 = popc s := by
  have h1 := popc_split s (2 ^ h)
  have h2 : popc (s &&& 2 ^ h) = 1 := by
    have e : s &&& 2 ^ h = 2 ^ h := by
      apply Nat.eq_of_testBit_eq
      intro k
      rw [Nat.testBit_and, Nat.testBit_two_pow]
      by_cases q : h = k
      · subst q; simp [hb]
      · simp [q]
    rw [e]
    have : ∀ h, h < 10 → popc (2 ^ h) = 1 := by decide +kernel
    exact this h hh
  unfold rmB
  omega
theorem Bh_bd {wk : Nat → Nat → Nat} (hwl : ∀ x y, wk x y ≤ 99) : ∀ s, s < 1024 → ∀ x, Bh wk s x ≤ 99 * (popc s + 1) := by
  intro s
  induction s using Nat.strongRecOn with
  | ind s ih =>
    intro hs x
    rw [Bh_eq]
    split
    · have := hwl x 0
      omega
    · rename_i h0
      obtain ⟨hl, hb⟩ := (lowb_tab s hs).resolve_left h0
      have h1 := mB_bit (f := byH wk s x) (n := 10) hl hb
      have h2 := ih (rmB s (lowb s)) (rm_lt hb) (by have := rm_lt hb; omega) (lowb s)
      have h3 := popc_rm hl hb
      have h4 := hwl x (lowb s)
      have h5 : byH wk s x (lowb s) = wk x (lowb s) + Bh wk (rmB s (lowb s)) (lowb s) := rfl
      omega
theorem byH_bd {wk : Nat → Nat → Nat} (hwl : ∀ x y, wk x y ≤ 99) {s : Nat} (hs : s < 1024) (x h : Nat) : byH wk s x h ≤ 2000 := by
  have h1 := Bh_bd hwl (rmB s h) (Nat.lt_of_le_of_lt (rm_le _ _) hs) h
  have h2 := popc_le (rmB s h)
  have h3 := hwl x h
  unfold byH
  omega
def nxH (wk : Nat → Nat → Nat) (s x : Nat) : Nat := argm (byH wk s x) s 10
def pth (wk : Nat → Nat → Nat) : Nat → Nat → Nat → Nat
  | 0, s, x => nxH wk s x
  | k + 1, s, x => pth wk k (rmB s (nxH wk s x)) (nxH wk s x)
def rowA (wk : Nat → Nat → Nat) (s h : Nat) : Nat → Nat
  | 0 => h
  | k + 1 => pth wk k (rmB s h) h
theorem pth_row (wk : Nat → Nat → Nat) (s x k : Nat) : pth wk k s x = rowA wk s (nxH wk s x) k := by cases k <;> rfl
def OKr (n : Nat) (c : Prop) (val : Int32) (row : Nat → Nat) (len : Nat) (ty : Nat → Int32) (v43 : Int32) (r40 : Nat → Int32) (w43 : Int32) (q40 : Nat → Int32) : Prop := (c ∧ w43 = val ∧ (∀ k, k < n → q40 k = ty k) ∧ (∀ k, k < len → q40 (n + k) = nI (row k))) ∨ (¬ c ∧ w43 = v43 ∧ q40 = r40)
def inC (f : Nat → Nat) (s sum : Nat) (v43 : Int32) (i : Nat) : Prop := mB f s i < 1000000 ∧ (v43 = -1 ∨ nI (sum + mB f s i) < v43)
def INV (wk : Nat → Nat → Nat) (s x sum n : Nat) (ty : Nat → Int32) (v43 : Int32) (r40 : Nat → Int32) (w43 : Int32) (q40 : Nat → Int32) (i : Nat) : Prop := OKr n (inC (byH wk s x) s sum v43 i) (nI (sum + mB (byH wk s x) s i)) (rowA wk s (argm (byH wk s x) s i)) (popc s) ty v43 r40 w43 q40
theorem INV_0 (wk : Nat → Nat → Nat) (s x sum n : Nat) (ty : Nat → Int32) (v43 : Int32) (r40 : Nat → Int32) : INV wk s x sum n ty v43 r40 v43 r40 0 := Or.inr ⟨fun q => absurd q.1 (by show ¬ 1000000 < 1000000; omega), rfl, rfl⟩
theorem INV_no {wk : Nat → Nat → Nat} {s x sum n : Nat} {ty : Nat → Int32} {v43 : Int32} {r40 : Nat → Int32} {w43 : Int32} {q40 : Nat → Int32} {i : Nat} (hb : s.testBit i = false) (h : INV wk s x sum n ty v43 r40 w43 q40 i) : INV wk s x sum n ty v43 r40 w43 q40 (i + 1) := by
  have e1 : mB (byH wk s x) s (i + 1) = mB (byH wk s x) s i := by rw [mB, hb]; rfl
  have e2 : argm (byH wk s x) s (i + 1) = argm (byH wk s x) s i := by rw [argm, if_neg (fun q => by rw [hb] at q; cases q.1)]
  unfold INV inC at *
  rw [e1, e2]
  exact h
theorem nI_m1 {a : Nat} (h : a < 2 ^ 31) : ¬ nI a = -1 := fun q => nI_pos h (by rw [q]; decide)
theorem INV_s {wk : Nat → Nat → Nat} {s x sum n : Nat} {ty ty1 : Nat → Int32} {v43 : Int32} {r40 : Nat → Int32} {w43 w2 : Int32} {q40 q2 : Nat → Int32} {i : Nat} (hwl : ∀ x y, wk x y ≤ 99) (hs : s < 1024) (hi : i < 10) (hsum : sum ≤ 100000) (hb : s.testBit i = true) (h : INV wk s x sum n ty v43 r40 w43 q40 i) (hty : ∀ k, k < n → ty1 k = ty k)
    (hp : OKr (n + 1) (w43 = -1 ∨ nI (sum + wk x i + Bh wk (rmB s i) i) < w43) (nI (sum + wk x i + Bh wk (rmB s i) i)) (fun k => pth wk k (rmB s i) i) (popc (rmB s i)) (upd ty1 n (nI i)) w43 q40 w2 q2) : INV wk s x sum n ty v43 r40 w2 q2 (i + 1) := by
  have hy := byH_bd hwl hs x i
  have hpc := popc_rm hi hb
  obtain ⟨y, hye⟩ : ∃ y, y = byH wk s x i := ⟨_, rfl⟩
  obtain ⟨m, hm⟩ : ∃ m, m = mB (byH wk s x) s i := ⟨_, rfl⟩
  have hml := mB_le (byH wk s x) s i
  have ey : sum + wk x i + Bh wk (rmB s i) i = sum + y := by rw [hye, byH]; omega
  have em : mB (byH wk s x) s (i + 1) = min m y := by rw [mB, if_pos hb, ← hm, ← hye]
  have ea : argm (byH wk s x) s (i + 1) = if y < m then i else argm (byH wk s x) s i := by
    rw [argm, ← hm, ← hye]
    by_cases q : y < m
    · rw [if_pos ⟨hb, q⟩, if_pos q]
    · rw [if_neg (fun z => q z.2), if_neg q]
  rw [ey] at hp
  rw [← hye] at hy
  rw [← hm] at hml
  have hnew : y < m → (v43 = -1 ∨ nI (sum + y) < v43) → (∀ k, k < n + 1 → q2 k = upd ty1 n (nI i) k) → (∀ k, k < popc (rmB s i) → q2 (n + 1 + k) = nI (pth wk k (rmB s i) i)) → w2 = nI (sum + y) → INV wk s x sum n ty v43 r40 w2 q2 (i + 1) := by
    intro hlt hc h1 h2 h3
    refine Or.inl ⟨⟨by rw [em]; omega, by rw [em, Nat.min_eq_right (by omega)]; exact hc⟩, by rw [em, Nat.min_eq_right (by omega)]; exact h3, fun k hk => ?_, fun k hk => ?_⟩
    · rw [h1 k (by omega), upd_off (by omega), hty k hk]
    · rw [ea, if_pos hlt]
      cases k with
      | zero => rw [Nat.add_zero, h1 n (by omega), upd_at]; rfl
      | succ k =>
        have := h2 k (by omega)
        rw [show n + (k + 1) = n + 1 + k by omega, this]
        rfl
  rcases h with ⟨⟨c1, c2⟩, e1, e2, e3⟩ | ⟨c, e1, e2⟩
  · rw [← hm] at c1 c2 e1
    rcases hp with ⟨d, f1, f2, f3⟩ | ⟨d, f1, f2⟩
    · have hlt : y < m := by
        rcases d with d | d
        · rw [e1] at d
          exact absurd d (nI_m1 (by omega))
        · rw [e1] at d
          have := (nI_ltI (a := sum + y) (b := sum + m) (by omega) (by omega)).mp d
          omega
      exact hnew hlt (c2.imp_right (fun z => Int32.lt_trans (nI_lt (by omega) (by omega)) z)) f2 f3 f1
    · have hlt : ¬ y < m := fun q => d (Or.inr (by rw [e1]; exact nI_lt (by omega) (by omega)))
      refine Or.inl ⟨⟨by rw [em]; omega, by rw [em, Nat.min_eq_left (by omega)]; exact c2⟩, by rw [em, Nat.min_eq_left (by omega), f1]; exact e1, fun k hk => ?_, fun k hk => ?_⟩
      · rw [f2]; exact e2 k hk
      · rw [f2, ea, if_neg hlt]; exact e3 k hk
  · unfold inC at c
    rw [← hm] at c
    rcases hp with ⟨d, f1, f2, f3⟩ | ⟨d, f1, f2⟩
    · have hd : v43 = -1 ∨ nI (sum + y) < v43 := by rw [← e1]; exact d
      have hlt : y < m := by
        rcases Nat.lt_or_ge y m with q | q
        · exact q
        · exfalso
          refine c ⟨by omega, hd.imp_right (fun z => Int32.lt_of_le_of_lt (nI_le (by omega) (by omega)) z)⟩
      exact hnew hlt hd f2 f3 f1
    · refine Or.inr ⟨?_, f1.trans e1, f2.trans e2⟩
      rintro ⟨g1, g2⟩
      rw [em] at g1 g2
      rw [e1] at d
      rcases Nat.le_total m y with q | q
      · rw [Nat.min_eq_left q] at g1 g2
        exact c ⟨g1, g2⟩
      · rw [Nat.min_eq_right q] at g1 g2
        exact d g2
/-- what a walk through what is left answers -/
def WOnH (v : ZV) (g : ZG) (n x s sum H : Nat) (wk : Nat → Nat → Nat) : Prop := g 3 0 = nI H ∧ H ≤ 10 ∧ s < 2 ^ H ∧ x < 10 ∧ (∀ x y, x < 10 → y < 10 → g 6 (10 * x + y) = nI (wk x y)) ∧ (∀ x y, wk x y ≤ 99) ∧ n + popc s ≤ 10 ∧ sum ≤ 99 * n
def WOnP (v : ZV) (g : ZG) (n x s sum : Nat) (wk : Nat → Nat → Nat) (v2 : ZV) (g2 : ZG) : Prop := (∀ j, j ≠ 43 → v2 j = v j) ∧ (∀ j, j ≠ 40 → j ≠ 41 → g2 j = g j) ∧ (∀ k, k < n → g2 41 k = g 41 k) ∧ OKr n (v 43 = -1 ∨ nI (sum + Bh wk s x) < v 43) (nI (sum + Bh wk s x)) (fun k => pth wk k s x) (popc s) (g 41) (v 43) (g 40) (v2 43) (g2 40)
def WOn (l : Launch) (D : va_G) (cA : Nat → ClassId) (r : Nat) (a : Nat → Nat) (s0 s1 : Nat → Option Nat) (K : Nat) : Prop := ∀ (v : ZV) (g : ZG) (n x s sum H : Nat) (wk : Nat → Nat → Nat), popc s < K → WOnH v g n x s sum H wk → MG l D cA (WM r a cA s0 s1) yX11_walkOn cX11_walkOn 7 none K [.ref r, .int (nI n), .int (nI x), .int (nI s), .int (nI sum)] v g (fun v2 g2 z => WOnP v g n x s sum wk v2 g2 ∧ z = none)
theorem OKr_mv {n : Nat} {c c' : Prop} {val val' : Int32} {row row' : Nat → Nat} {len : Nat} {ty : Nat → Int32} {v43 : Int32} {r40 : Nat → Int32} {w43 : Int32} {q40 : Nat → Int32} (h : OKr n c val row len ty v43 r40 w43 q40) (h1 : c ↔ c') (h2 : val = val') (h3 : ∀ k, row k = row' k) : OKr n c' val' row' len ty v43 r40 w43 q40 := by
  rcases h with ⟨a1, a2, a3, a4⟩ | ⟨a1, a2, a3⟩
  · exact Or.inl ⟨h1.mp a1, a2.trans h2, a3, fun k hk => by rw [← h3 k]; exact a4 k hk⟩
  · exact Or.inr ⟨fun q => a1 (h1.mpr q), a2, a3⟩
theorem Bh_0 (wk : Nat → Nat → Nat) (x : Nat) : Bh wk 0 x = wk x 0 := by rw [Bh_eq, if_pos rfl]
theorem c_X11_walkOn {l : Launch} {D : va_G} {cA : Nat → ClassId} {r : Nat} {a : Nat → Nat} {s0 s1 : Nat → Option Nat} {v : ZV} {g : ZG} {K n x s sum H : Nat} {wk : Nat → Nat → Nat} (IH : WOn l D cA r a s0 s1 K) (hp : popc s < K + 1) (hH0 : WOnH v g n x s sum H wk) : MG l D cA (WM r a cA s0 s1) yX11_walkOn cX11_walkOn 7 none (K + 1) [(.ref r), .int (nI n), .int (nI x), .int (nI s), .int (nI sum)] v g (fun v2 g2 z => WOnP v g n x s sum wk v2 g2 ∧ z = none) := by
  refine MG.of (by decide) rfl (Nat.le_of_ble_eq_true rfl) (by simp [Value.category]) (fun Z hZ => ?_)
  obtain ⟨hH, h10, hsH, hx, hw, hwl, hn, hsum⟩ := id hH0
  have h1024 : 2 ^ H ≤ 1024 := Nat.pow_le_pow_right (n := 2) (by omega) h10
  have hs : s < 1024 := by omega
  have hwx0 := hwl x 0
  refine z_iload_n hZ (pc := 0) dX11_walkOn_0 rfl ?_
  refine z_if_ne hZ (pc := 1) (tgt := 72) dX11_walkOn_1 rfl (fun c1 => ?_) (fun c1 => ?_)
  · skip
    have hs0 : s ≠ 0 := fun q => c1 (by rw [q]; rfl)
    have hpp := popc_ne hs hs0
    obtain ⟨f, hf⟩ : ∃ f, f = byH wk s x := ⟨_, rfl⟩
    refine z_iconst hZ (pc := 72) (v := 0) dX11_walkOn_72 (by decide) ?_
    refine q_istore_7_5 hZ (pc := 73) dX11_walkOn_73 rfl ?_
    have lp75 : ∀ (f h : Nat) (v1 : ZV) (g1 : ZG), h ≤ H → H - h < f → (∀ j, j ≠ 43 → v1 j = v j) → (∀ j, j ≠ 40 → j ≠ 41 → g1 j = g j) → (∀ k, k < n → g1 41 k = g 41 k) → INV wk s x sum n (g 41) (v 43) (g 40) (v1 43) (g1 40) h → Z 0 0 (WM r a cA s0 s1 v1 g1) [some (.ref r), some (.int (nI n)), some (.int (nI x)), some (.int (nI s)), some (.int (nI sum)), some (.int (nI h)), none] [] 75 := by
      intro f
      induction f with
      | zero => intro h _ _ _ hf; exact absurd hf (Nat.not_lt_zero _)
      | succ f ih75 =>
        intro h v1 g1 hh hf hv1 hg1 hty hI
        refine z_iload hZ (pc := 75) dX11_walkOn_75 rfl ?_
        refine z_aload_n hZ (pc := 77) dX11_walkOn_77 rfl ?_
        refine gM_3 hZ (pc := 78) fl_X11_40 dX11_walkOn_78 ?_
        refine z_iconst hZ (pc := 81) (v := 0) dX11_walkOn_81 (by decide) ?_
        refine lMn_3 hZ (pc := 82) (q := 0) dX11_walkOn_82 (by decide) ?_
        refine z_top (y := nI H) (by rw [hg1 3 (by decide) (by decide)]; exact hH) ?_
        refine z_icmp_ge hZ (pc := 83) (tgt := 144) dX11_walkOn_83 rfl (fun c83 => ?_) (fun c83 => ?_)
        · skip
          have eh : h = H := lp_ge rfl (by omega) hh c83
          subst eh
          have hno : ∀ k, h ≤ k → k < 10 → s.testBit k = false := fun k h1 h2 => by
            cases q : s.testBit k
            · rfl
            · exact absurd (bitp_lt hsH q) (by omega)
          have eB : mB (byH wk s x) s h = Bh wk s x := by rw [Bh_eq, if_neg hs0]; exact (mB_more h10 hno).symm
          have eA : argm (byH wk s x) s h = nxH wk s x := (argm_more h10 hno).symm
          have hBb := Bh_bd hwl s hs x
          have hpl := popc_le s
          refine zr_v hZ (pc := 144) dX11_walkOn_144 ?_
          exact ⟨⟨hv1, hg1, hty, OKr_mv hI ⟨fun q => by have := q.2; rw [eB] at this; exact this, fun q => ⟨by rw [eB]; omega, by rw [eB]; exact q⟩⟩ (by rw [eB]) (fun k => by rw [eA, pth_row])⟩, rfl⟩
        · skip
          have hlh : h < H := lp_lt rfl (by omega) hh c83
          refine z_iload_n hZ (pc := 86) dX11_walkOn_86 rfl ?_
          refine z_iload hZ (pc := 87) dX11_walkOn_87 rfl ?_
          refine z_ishr hZ (pc := 89) dX11_walkOn_89 ?_
          refine z_iconst hZ (pc := 90) (v := 1) dX11_walkOn_90 (by decide) ?_
          refine z_iand hZ (pc := 91) dX11_walkOn_91 ?_
          refine z_if_ne hZ (pc := 92) (tgt := 98) dX11_walkOn_92 rfl (fun c92 => ?_) (fun c92 => ?_)
          · skip
            have hbit : s.testBit h = true := by
              cases q : s.testBit h
              · exact absurd ((bit_zero (by omega) (by omega)).mpr q) c92
              · rfl
            have hprm := popc_rm (by omega) hbit
            have hwxh := hwl x h
            refine z_aload_n hZ (pc := 98) dX11_walkOn_98 rfl ?_
            refine gM_41 hZ (pc := 99) fl_X11_111 dX11_walkOn_99 ?_
            refine z_iload_n hZ (pc := 102) dX11_walkOn_102 rfl ?_
            refine z_iload hZ (pc := 103) dX11_walkOn_103 rfl ?_
            refine sMn_41 hZ (pc := 105) dX11_walkOn_105 (show n < 10 by omega) ?_
            refine z_aload_n hZ (pc := 106) dX11_walkOn_106 rfl ?_
            refine z_iload_n hZ (pc := 107) dX11_walkOn_107 rfl ?_
            refine z_iconst hZ (pc := 108) (v := 1) dX11_walkOn_108 (by decide) ?_
            skip
            refine z_iadd hZ (pc := 109) dX11_walkOn_109 ?_
            refine z_top (y := nI (n + 1)) (nI_1 n) ?_
            refine z_iload hZ (pc := 110) dX11_walkOn_110 rfl ?_
            refine z_iload_n hZ (pc := 112) dX11_walkOn_112 rfl ?_
            refine z_iconst hZ (pc := 113) (v := 1) dX11_walkOn_113 (by decide) ?_
            refine z_iload hZ (pc := 114) dX11_walkOn_114 rfl ?_
            refine z_ishl hZ (pc := 116) dX11_walkOn_116 ?_
            refine z_iconst hZ (pc := 117) (v := (-1)) dX11_walkOn_117 (by decide) ?_
            refine z_ixor hZ (pc := 118) dX11_walkOn_118 ?_
            refine z_iand hZ (pc := 119) dX11_walkOn_119 ?_
            refine z_top (y := nI (rmB s h)) (rm_nI (by omega)) ?_
            refine z_iload hZ (pc := 120) dX11_walkOn_120 rfl ?_
            refine z_aload_n hZ (pc := 122) dX11_walkOn_122 rfl ?_
            refine gM_6 hZ (pc := 123) fl_X11_50 dX11_walkOn_123 ?_
            refine z_bipush hZ (pc := 126) (v := 10) dX11_walkOn_126 (by decide) ?_
            refine z_iload_n hZ (pc := 128) dX11_walkOn_128 rfl ?_
            refine z_imul hZ (pc := 129) dX11_walkOn_129 ?_
            refine z_iload hZ (pc := 130) dX11_walkOn_130 rfl ?_
            refine z_iadd hZ (pc := 132) dX11_walkOn_132 ?_
            refine z_top (y := nI (10 * x + h)) (by rw [show (10 : Int32) = nI 10 from rfl, pk_mul, nI_add]) ?_
            refine lMn_6 hZ (pc := 133) dX11_walkOn_133 (show 10 * x + h < 200 by omega) ?_
            refine z_top (y := nI (wk x h)) (by rw [up_off (by decide), hg1 6 (by decide) (by decide)]; exact hw x h hx (by omega)) ?_
            refine z_iadd hZ (pc := 134) dX11_walkOn_134 ?_
            refine z_top (y := nI (sum + wk x h)) (nI_add _ _) ?_
            refine cV hZ (pc := 135) dX11_walkOn_135 lk_X11_368 mn_X11_walkOn mv_X11_walkOn (IH v1 (va_up g1 41 (upd (g1 41) n (nI h))) (n + 1) h (rmB s h) (sum + wk x h) H wk (by omega) ⟨by rw [up_off (by decide), hg1 3 (by decide) (by decide)]; exact hH, h10, Nat.lt_of_le_of_lt (rm_le _ _) hsH, by omega, by rw [up_off (by decide), hg1 6 (by decide) (by decide)]; exact hw, hwl, by omega, by omega⟩) rc_M rfl rfl (Nat.le_of_ble_eq_true rfl) (Nat.le_refl _) (by decide) (Nat.zero_le _) (Nat.zero_le _) ?_
            intro v2 g2 z hz
            obtain ⟨⟨hv2, hg2, ht2, hok⟩, rfl⟩ := hz
            refine q_iinc_7_5 hZ (pc := 138) dX11_walkOn_138 rfl ?_
            refine z_goto hZ (pc := 141) (tgt := 75) dX11_walkOn_141 rfl ?_
            exact z_back hZ (ih75 (h + 1) v2 g2 (by omega) (by omega) (fun j hj => (hv2 j hj).trans (hv1 j hj)) (fun j h1 h2 => (hg2 j h1 h2).trans ((up_off h2).trans (hg1 j h1 h2))) (fun k hk => (ht2 k (by omega)).trans ((congrFun up_at k).trans ((upd_off (by omega)).trans (hty k hk)))) (INV_s hwl hs (by omega) (by omega) hbit hI hty hok)) rfl ⟨rfl, rfl, rfl, rfl, rfl, zi (nI_inc h), trivial⟩
          · skip
            refine z_goto hZ (pc := 95) (tgt := 138) dX11_walkOn_95 rfl ?_
            refine q_iinc_7_5 hZ (pc := 138) dX11_walkOn_138 rfl ?_
            refine z_goto hZ (pc := 141) (tgt := 75) dX11_walkOn_141 rfl ?_
            exact z_back hZ (ih75 (h + 1) v1 g1 (by omega) (by omega) hv1 hg1 hty (INV_no ((bit_zero (by omega) (by omega)).mp (by simpa using c92)) hI)) rfl ⟨rfl, rfl, rfl, rfl, rfl, zi (nI_inc h), trivial⟩
    exact z_back hZ (lp75 (H + 1) 0 v g (Nat.zero_le _) (by omega) (fun _ _ => rfl) (fun _ _ _ => rfl) (fun _ _ => rfl) (INV_0 _ _ _ _ _ _ _ _)) rfl ⟨rfl, rfl, rfl, rfl, rfl, rfl, trivial⟩
  · skip
    have hs0 : s = 0 := by
      rcases Nat.eq_zero_or_pos s with q | q
      · exact q
      · exact absurd c1 (fun z => nI_ne0 q (by omega) z)
    subst hs0
    refine z_iload hZ (pc := 4) dX11_walkOn_4 rfl ?_
    refine z_aload_n hZ (pc := 6) dX11_walkOn_6 rfl ?_
    refine gM_6 hZ (pc := 7) fl_X11_50 dX11_walkOn_7 ?_
    refine z_bipush hZ (pc := 10) (v := 10) dX11_walkOn_10 (by decide) ?_
    refine z_iload_n hZ (pc := 12) dX11_walkOn_12 rfl ?_
    refine z_imul hZ (pc := 13) dX11_walkOn_13 ?_
    refine z_top (y := nI (10 * x + 0)) (by rw [show (10 : Int32) = nI 10 from rfl, pk_mul]; rfl) ?_
    refine lMn_6 hZ (pc := 14) dX11_walkOn_14 (show 10 * x + 0 < 200 by omega) ?_
    refine z_top (hw x 0 hx (by decide)) ?_
    refine z_iadd hZ (pc := 15) dX11_walkOn_15 ?_
    refine z_top (y := nI (sum + wk x 0)) (nI_add _ _) ?_
    refine q_istore_7_5 hZ (pc := 16) dX11_walkOn_16 rfl ?_
    refine z_aload_n hZ (pc := 18) dX11_walkOn_18 rfl ?_
    refine gM_43 hZ (pc := 19) fl_X11_365 dX11_walkOn_19 ?_
    refine z_iconst hZ (pc := 22) (v := (-1)) dX11_walkOn_22 (by decide) ?_
    refine z_icmp_eq hZ (pc := 23) (tgt := 36) dX11_walkOn_23 rfl (fun c23 => ?_) (fun c23 => ?_)
    · skip
      have hcc : v 43 = -1 ∨ nI (sum + Bh wk 0 x) < v 43 := Or.inl c23
      refine z_aload_n hZ (pc := 36) dX11_walkOn_36 rfl ?_
      refine z_iload hZ (pc := 37) dX11_walkOn_37 rfl ?_
      refine pM_43 hZ (pc := 39) fl_X11_365 dX11_walkOn_39 ?_
      refine z_iconst hZ (pc := 42) (v := 0) dX11_walkOn_42 (by decide) ?_
      refine q_istore_7_6 hZ (pc := 43) dX11_walkOn_43 rfl ?_
      have lp45 : ∀ (f i : Nat) (T : Nat → Int32), i ≤ n → n - i < f → (∀ k, k < i → T k = g 41 k) → Z 0 0 (WM r a cA s0 s1 (va_up v 43 (nI (sum + wk x 0))) (va_up g 40 T)) [some (.ref r), some (.int (nI n)), some (.int (nI x)), some (.int (nI 0)), some (.int (nI sum)), some (.int (nI (sum + wk x 0))), some (.int (nI i))] [] 45 := by
        intro f
        induction f with
        | zero => intro i _ _ hf; exact absurd hf (Nat.not_lt_zero _)
        | succ f ih45 =>
          intro i T hi hf hT
          refine z_iload hZ (pc := 45) dX11_walkOn_45 rfl ?_
          refine z_iload_n hZ (pc := 47) dX11_walkOn_47 rfl ?_
          refine z_icmp_ge hZ (pc := 48) (tgt := 71) dX11_walkOn_48 rfl (fun c48 => ?_) (fun c48 => ?_)
          · skip
            have ei : i = n := lp_ge rfl (by omega) hi c48
            subst ei
            refine zr_v hZ (pc := 71) dX11_walkOn_71 ?_
            exact ⟨⟨fun j hj => up_off hj, fun j h1 h2 => up_off h1, fun _ _ => rfl, Or.inl ⟨hcc, by rw [up_at, Bh_0], fun k hk => by rw [up_at]; exact hT k hk, fun k hk => absurd hk (by rw [popc_0]; omega)⟩⟩, rfl⟩
          · skip
            have hli : i < n := lp_lt rfl (by omega) hi c48
            refine z_aload_n hZ (pc := 51) dX11_walkOn_51 rfl ?_
            refine gM_40 hZ (pc := 52) fl_X11_108 dX11_walkOn_52 ?_
            refine z_iload hZ (pc := 55) dX11_walkOn_55 rfl ?_
            refine z_aload_n hZ (pc := 57) dX11_walkOn_57 rfl ?_
            refine gM_41 hZ (pc := 58) fl_X11_111 dX11_walkOn_58 ?_
            refine z_iload hZ (pc := 61) dX11_walkOn_61 rfl ?_
            refine lMn_41 hZ (pc := 63) dX11_walkOn_63 (show i < 10 by omega) ?_
            refine z_top (y := g 41 i) rfl ?_
            refine sMn_40 hZ (pc := 64) dX11_walkOn_64 (show i < 10 by omega) ?_
            refine q_iinc_7_6 hZ (pc := 65) dX11_walkOn_65 rfl ?_
            refine z_goto hZ (pc := 68) (tgt := 45) dX11_walkOn_68 rfl ?_
            exact z_back hZ (ih45 (i + 1) (upd T i (g 41 i)) (by omega) (by omega) (lt_s (fun k hk => by rw [upd_off (by omega)]; exact hT k hk) upd_at)) (WM_eq rfl (by rw [up_twice, up_at])) ⟨rfl, rfl, rfl, rfl, rfl, rfl, zi (nI_inc i), trivial⟩
      exact z_back hZ (lp45 (n + 1) 0 (g 40) (Nat.zero_le _) (by omega) (fun k hk => absurd hk (Nat.not_lt_zero _))) (WM_eq rfl up_self.symm) ⟨rfl, rfl, rfl, rfl, rfl, rfl, rfl, trivial⟩
    · skip
      refine z_iload hZ (pc := 26) dX11_walkOn_26 rfl ?_
      refine z_aload_n hZ (pc := 28) dX11_walkOn_28 rfl ?_
      refine gM_43 hZ (pc := 29) fl_X11_365 dX11_walkOn_29 ?_
      refine z_icmp_lt hZ (pc := 32) (tgt := 36) dX11_walkOn_32 rfl (fun c32 => ?_) (fun c32 => ?_)
      · skip
        have hcc : v 43 = -1 ∨ nI (sum + Bh wk 0 x) < v 43 := Or.inr (by rw [Bh_0]; exact c32)
        refine z_aload_n hZ (pc := 36) dX11_walkOn_36 rfl ?_
        refine z_iload hZ (pc := 37) dX11_walkOn_37 rfl ?_
        refine pM_43 hZ (pc := 39) fl_X11_365 dX11_walkOn_39 ?_
        refine z_iconst hZ (pc := 42) (v := 0) dX11_walkOn_42 (by decide) ?_
        refine q_istore_7_6 hZ (pc := 43) dX11_walkOn_43 rfl ?_
        have lp45 : ∀ (f i : Nat) (T : Nat → Int32), i ≤ n → n - i < f → (∀ k, k < i → T k = g 41 k) → Z 0 0 (WM r a cA s0 s1 (va_up v 43 (nI (sum + wk x 0))) (va_up g 40 T)) [some (.ref r), some (.int (nI n)), some (.int (nI x)), some (.int (nI 0)), some (.int (nI sum)), some (.int (nI (sum + wk x 0))), some (.int (nI i))] [] 45 := by
          intro f
          induction f with
          | zero => intro i _ _ hf; exact absurd hf (Nat.not_lt_zero _)
          | succ f ih45 =>
            intro i T hi hf hT
            refine z_iload hZ (pc := 45) dX11_walkOn_45 rfl ?_
            refine z_iload_n hZ (pc := 47) dX11_walkOn_47 rfl ?_
            refine z_icmp_ge hZ (pc := 48) (tgt := 71) dX11_walkOn_48 rfl (fun c48 => ?_) (fun c48 => ?_)
            · skip
              have ei : i = n := lp_ge rfl (by omega) hi c48
              subst ei
              refine zr_v hZ (pc := 71) dX11_walkOn_71 ?_
              exact ⟨⟨fun j hj => up_off hj, fun j h1 h2 => up_off h1, fun _ _ => rfl, Or.inl ⟨hcc, by rw [up_at, Bh_0], fun k hk => by rw [up_at]; exact hT k hk, fun k hk => absurd hk (by rw [popc_0]; omega)⟩⟩, rfl⟩
            · skip
              have hli : i < n := lp_lt rfl (by omega) hi c48
              refine z_aload_n hZ (pc := 51) dX11_walkOn_51 rfl ?_
              refine gM_40 hZ (pc := 52) fl_X11_108 dX11_walkOn_52 ?_
              refine z_iload hZ (pc := 55) dX11_walkOn_55 rfl ?_
              refine z_aload_n hZ (pc := 57) dX11_walkOn_57 rfl ?_
              refine gM_41 hZ (pc := 58) fl_X11_111 dX11_walkOn_58 ?_
              refine z_iload hZ (pc := 61) dX11_walkOn_61 rfl ?_
              refine lMn_41 hZ (pc := 63) dX11_walkOn_63 (show i < 10 by omega) ?_
              refine z_top (y := g 41 i) rfl ?_
              refine sMn_40 hZ (pc := 64) dX11_walkOn_64 (show i < 10 by omega) ?_
              refine q_iinc_7_6 hZ (pc := 65) dX11_walkOn_65 rfl ?_
              refine z_goto hZ (pc := 68) (tgt := 45) dX11_walkOn_68 rfl ?_
              exact z_back hZ (ih45 (i + 1) (upd T i (g 41 i)) (by omega) (by omega) (lt_s (fun k hk => by rw [upd_off (by omega)]; exact hT k hk) upd_at)) (WM_eq rfl (by rw [up_twice, up_at])) ⟨rfl, rfl, rfl, rfl, rfl, rfl, zi (nI_inc i), trivial⟩
        exact z_back hZ (lp45 (n + 1) 0 (g 40) (Nat.zero_le _) (by omega) (fun k hk => absurd hk (Nat.not_lt_zero _))) (WM_eq rfl up_self.symm) ⟨rfl, rfl, rfl, rfl, rfl, rfl, rfl, trivial⟩
      · skip
        refine zr_v hZ (pc := 35) dX11_walkOn_35 ?_
        exact ⟨⟨fun _ _ => rfl, fun _ _ _ => rfl, fun _ _ => rfl, Or.inr ⟨fun q => q.elim c23 (fun q => c32 (by rw [Bh_0] at q; exact q)), rfl, rfl⟩⟩, rfl⟩
theorem WOn_all {l : Launch} {D : va_G} {cA : Nat → ClassId} {r : Nat} {a : Nat → Nat} {s0 s1 : Nat → Option Nat} : ∀ K, WOn l D cA r a s0 s1 K
  | 0 => fun _ _ _ _ _ _ _ _ h => absurd h (Nat.not_lt_zero _)
  | K + 1 => fun _ _ _ _ _ _ _ _ hp hH => c_X11_walkOn (WOn_all K) hp hH
