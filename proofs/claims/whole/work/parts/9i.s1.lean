/-! the two worlds agree -/
theorem nI_ij {a b : Nat} (ha : a < 2 ^ 31) (hb : b < 2 ^ 31) (h : nI a = nI b) : a = b := by rw [← nI_clamp ha, h, nI_clamp hb]
theorem nm_cong {wo co fr wh wo' co' fr' wh' : Nat → Int32} {h hr : Int32} {n : Nat} (hn : n < 2 ^ 31) (h0 : ∀ t, t < n → wo t = wo' t) (h1 : ∀ t, t < n → co t = co' t) (h2 : ∀ t, t < n → fr t = fr' t) (h3 : ∀ t, t < n → wh t = wh' t) : nm2 wo (cbS co fr wh h hr n) = nm2 wo' (cbS co' fr' wh' h hr n) := by
  rw [← cbS_cong h1 h2 h3]
  rcases cbS_or co fr wh h hr n with e | ⟨t, ht, e⟩
  · rw [e]; simp [nm2]
  · rw [e]; simp only [nm2]; rw [nI_clamp (show t < 2 ^ 31 by omega), h0 t ht]
theorem hsT_cong {wo co fr wh wo' co' fr' wh' : Nat → Int32} {p hr : Int32} {n H : Nat} (hn : n < 2 ^ 31) (h0 : ∀ t, t < n → wo t = wo' t) (h1 : ∀ t, t < n → co t = co' t) (h2 : ∀ t, t < n → fr t = fr' t) (h3 : ∀ t, t < n → wh t = wh' t) : hsT wo co fr wh n p hr H = hsT wo' co' fr' wh' n p hr H :=
  bitN_cong (fun k _ => by rw [nm_cong hn h0 h1 h2 h3])
theorem cbS_none {co fr wh : Nat → Int32} {h hr : Int32} : ∀ {n : Nat}, (∀ t, t < n → fr t ≠ h) → cbS co fr wh h hr n = -1
  | 0, _ => rfl
  | n + 1, hf => by rw [cbS, if_neg (fun q => hf n (by omega) q.2.1), cbS_none (fun t ht => hf t (by omega))]
theorem hsT_10 {wo co fr wh : Nat → Int32} {p hr : Int32} {n H : Nat} (hp : p ≠ -1) (hH : H ≤ 10) (hfr : ∀ t, t < n → ∃ k, k < H ∧ fr t = nI k) : hsT wo co fr wh n p hr 10 = hsT wo co fr wh n p hr H :=
  bitN_more hH (fun k h1 h2 => by
    have e : cbS co fr wh (nI k) hr n = -1 := cbS_none (fun t ht q => by
      obtain ⟨j, hj, e⟩ := hfr t ht
      have := nI_ij (show j < 2 ^ 31 by omega) (show k < 2 ^ 31 by omega) (e.symm.trans q)
      omega)
    rw [e]
    simp only [nm2, if_true]
    exact decide_eq_false (fun q => hp q.symm))
theorem dry_eq {co fr wh : Nat → Int32} {hr : Int32} {b : Nat} : ∀ {n : Nat}, (∀ t, t < n → co t = 0 ∨ co t = 1) → b ^^^ (b &&& weptB co fr wh hr n) = wbS co fr wh b hr n
  | 0, _ => by simp [weptB, wbS]
  | n + 1, hc => by
    rw [weptB, wbS]
    have ih := dry_eq (co := co) (fr := fr) (wh := wh) (hr := hr) (b := b) (n := n) (fun t ht => hc t (by omega))
    have h01 := hc n (by omega)
    by_cases h1 : hr < wh n ∧ co n = 1
    · rw [if_pos h1, if_pos ⟨by rw [h1.2]; decide, h1.1⟩, ← ih]
      apply Nat.eq_of_testBit_eq
      intro i
      rw [rm_test]
      simp only [Nat.testBit_xor, Nat.testBit_and, Nat.testBit_or, Nat.testBit_two_pow]
      by_cases hi : (fr n).toNatClampNeg = i
      · subst hi; cases b.testBit (fr n).toNatClampNeg <;> simp
      · have hi2 : ¬ i = (fr n).toNatClampNeg := fun q => hi q.symm
        cases b.testBit i <;> simp [hi, hi2]
    · rw [if_neg h1, if_neg (fun q => h1 ⟨q.2, by rcases h01 with z | z; exact absurd z q.1; exact z⟩), Nat.or_zero, ih]
theorem tap_eq {f : Nat → Int32} {T : Nat} {A B C D1 E : Int32} : tapF (tapF (tapF (tapF (tapF f T A 4) (T + 4) B 4) (T + 8) C 4) (T + 12) D1 4) (T + 16) E 4 = tapM f T (inp5 A B C D1 E) 20 := by
  simp [tapF, tapM, inp5, Nat.add_assoc]
theorem and255_nn (y : Int32) : 0 ≤ y &&& 255 := by
  rw [Int32.le_iff_toInt_le]
  show (0 : Int32).toInt ≤ (y &&& 255).toBitVec.toInt
  rw [Int32.toBitVec_and, BitVec.toInt_eq_msb_cond, BitVec.msb_and, show (255 : Int32).toBitVec.msb = false from rfl, Bool.and_false, if_neg (by decide)]
  exact Int.natCast_nonneg _
theorem tap_nn {f : Nat → Int32} {T : Nat} {X : Nat → Int32} (h : ∀ q, 0 ≤ f q) : ∀ k q, 0 ≤ tapM f T X k q
  | 0, q => h q
  | k + 1, q => by
    rw [tapM]
    by_cases e : q = T + k
    · rw [e, upd_at]; exact and255_nn _
    · rw [upd_off e]; exact tap_nn h k q
/-- a book of tears -/
def TrS (H P n : Nat) (f : Nat → Nat → Int32) : Prop := (∀ t, t < n → (∃ p, p < P ∧ f 0 t = nI p) ∧ (∃ k, k < H ∧ f 1 t = nI k) ∧ (∃ q, q < 2400 ∧ f 2 t = nI q) ∧ (f 5 t = 0 ∨ f 5 t = 1)) ∧ SortT (f 2) n
theorem TrS.cong {H P n : Nat} {f f2 : Nat → Nat → Int32} (h : TrS H P n f) (e : ∀ t j, t < n → j < 6 → f2 j t = f j t) : TrS H P n f2 := by
  refine ⟨fun t ht => ?_, fun s t h1 h2 => ?_⟩
  · rw [e t 0 ht (by omega), e t 1 ht (by omega), e t 2 ht (by omega), e t 5 ht (by omega)]; exact h.1 t ht
  · rw [e s 2 (by omega) (by omega), e t 2 h2 (by omega)]; exact h.2 s t h1 h2
/-- letters -/
def LeS (P L : Nat) (f h : Nat → Int32) : Prop := ∀ k, k < L → (∃ p, p < P ∧ f k = nI p) ∧ ∃ q, q < 2400 ∧ h k = nI q
def SimB (H P R A n L m T : Nat) : Prop := 1 ≤ H ∧ H ≤ 10 ∧ P ≤ 16 ∧ R ≤ 4 ∧ A ≤ 6 ∧ n ≤ 200 ∧ L ≤ 40 ∧ m ≤ 40 ∧ T ≤ 700
def SimN (H P R A n L m T : Nat) (v mv : ZV) (mg : ZG) : Prop := (v 15 = nI H ∧ v 16 = nI P ∧ v 17 = nI R ∧ v 18 = nI A ∧ v 9 = nI n ∧ v 10 = nI L ∧ v 11 = nI m ∧ v 7 = nI T) ∧ (mg 3 0 = nI H ∧ mg 3 1 = nI P ∧ mg 3 2 = nI R ∧ mg 3 3 = nI A ∧ mv 12 = nI n ∧ mv 19 = nI L ∧ mv 20 = nI m ∧ mv 25 = nI T) ∧ v 0 = mv 34 ∧ v 1 = mv 51 ∧ (v 1 = 0 ∨ v 1 = 1)
def SimT (H P n : Nat) (g mg : ZG) : Prop := (∀ t j, t < n → j < 6 → T5 g j t = mg (13 + j) t) ∧ TrS H P n (T5 g)
def SimL (P L m : Nat) (g mg : ZG) : Prop := (∀ k, k < L → g 6 k = mg 21 k ∧ g 7 k = mg 22 k) ∧ LeS P L (g 6) (g 7) ∧ (∀ k, k < m → g 8 k = mg 23 k) ∧ (∀ k, k < 4 → g 10 k = mg 11 k) ∧ g 1 = mg 24 ∧ ∀ q, 0 ≤ mg 24 q
def SimP (H P : Nat) (g mg : ZG) : Prop := (∀ p, p < P → g 9 p = mg 4 p ∧ (∃ k, k < H ∧ g 9 p = nI k) ∧ g 18 p = mg 5 p ∧ g 19 p = mg 7 p) ∧ (∀ q, mg 7 q = 0 ∨ mg 7 q = 1) ∧ ∀ x y, x < 10 → y < 10 → (if x = y then 0 else g 20 (10 * x + y)) = mg 6 (10 * x + y) ∧ ∃ w, w ≤ 99 ∧ mg 6 (10 * x + y) = nI w
def SimQ (v mv : ZV) (g mg : ZG) : Prop := (∃ K, K ≤ 9 ∧ v 29 = nI K ∧ (mv 42 = nI K ∨ (mv 42 = -1 ∧ K = 0)) ∧ ∀ i, i < K → g 34 i = mg 40 i) ∧ g 35 0 = 0
def SimK (H P : Nat) (v mv : ZV) (g mg : ZG) : Prop := (∃ n, n ≤ 200 ∧ mg 52 0 = nI n ∧ ∀ t, t < n → mg 54 (6 * t + 5) = 0 ∨ mg 54 (6 * t + 5) = 1) ∧ (v 1 ≠ 0 → ∃ n L m, n ≤ 200 ∧ L ≤ 40 ∧ m ≤ 40 ∧ (v 12 = nI n ∧ v 13 = nI L ∧ v 14 = nI m) ∧ (mg 52 0 = nI n ∧ mg 52 1 = nI L ∧ mg 52 2 = nI m) ∧ (∀ t j, t < n → j < 6 → g 11 (6 * t + j) = mg 54 (6 * t + j)) ∧ TrS H P n (fun j t => g 11 (6 * t + j)) ∧ (∀ k, k < L → g 12 k = mg 55 k ∧ g 13 k = mg 56 k) ∧ LeS P L (g 12) (g 13) ∧ (∀ k, k < m → g 14 k = mg 57 k) ∧ (∀ p, p < P → g 15 p = mg 53 p ∧ ∃ k, k < H ∧ g 15 p = nI k) ∧ ∀ k, k < 4 → g 16 k = mg 58 k)
def Sim (H P R A n L m T : Nat) (ops : Nat → Nat → Int32) (me : Nat → Nat) (v : ZV) (g : ZG) (mv : ZV) (mg : ZG) : Prop := SimB H P R A n L m T ∧ SimN H P R A n L m T v mv mg ∧ SimT H P n g mg ∧ SimL P L m g mg ∧ SimP H P g mg ∧ SimQ v mv g mg ∧ SimK H P v mv g mg ∧ ExC v g R A ops me ∧ ExM mg R A ops me
/-- which numbers and arrays Sim speaks of -/
def sV (j : Nat) : Bool := [0, 1, 7, 9, 10, 11, 12, 13, 14, 15, 16, 17, 18, 19, 29].contains j
def sG (j : Nat) : Bool := [1, 5, 6, 7, 8, 9, 10, 11, 12, 13, 14, 15, 16, 18, 19, 20, 21, 22, 23, 34, 35].contains j
def sMV (j : Nat) : Bool := [12, 19, 20, 25, 34, 42, 51].contains j
def sMG (j : Nat) : Bool := [3, 4, 5, 6, 7, 8, 9, 10, 11, 13, 14, 15, 16, 17, 18, 21, 22, 23, 24, 40, 52, 53, 54, 55, 56, 57, 58].contains j
theorem Sim.fr {H P R A n L m T : Nat} {ops : Nat → Nat → Int32} {me : Nat → Nat} {v v2 mv mv2 : ZV} {g g2 mg mg2 : ZG} (h : Sim H P R A n L m T ops me v g mv mg) (hv : ∀ j, sV j = true → v2 j = v j) (hg : ∀ j, sG j = true → g2 j = g j) (hmv : ∀ j, sMV j = true → mv2 j = mv j) (hmg : ∀ j, sMG j = true → mg2 j = mg j) : Sim H P R A n L m T ops me v2 g2 mv2 mg2 := by
  have v0 := hv 0 rfl; have v1 := hv 1 rfl; have v7 := hv 7 rfl; have v9 := hv 9 rfl; have v10 := hv 10 rfl; have v11 := hv 11 rfl; have v12 := hv 12 rfl; have v13 := hv 13 rfl; have v14 := hv 14 rfl; have v15 := hv 15 rfl; have v16 := hv 16 rfl; have v17 := hv 17 rfl; have v18 := hv 18 rfl; have v19 := hv 19 rfl; have v29 := hv 29 rfl
  have g1 := hg 1 rfl; have g5 := hg 5 rfl; have g6 := hg 6 rfl; have g7 := hg 7 rfl; have g8 := hg 8 rfl; have g9 := hg 9 rfl; have g10 := hg 10 rfl; have g11 := hg 11 rfl; have g12 := hg 12 rfl; have g13 := hg 13 rfl; have g14 := hg 14 rfl; have g15 := hg 15 rfl; have g16 := hg 16 rfl; have g18 := hg 18 rfl; have g19 := hg 19 rfl; have g20 := hg 20 rfl; have g21 := hg 21 rfl; have g22 := hg 22 rfl; have g23 := hg 23 rfl; have g34 := hg 34 rfl; have g35 := hg 35 rfl
  have w12 := hmv 12 rfl; have w19 := hmv 19 rfl; have w20 := hmv 20 rfl; have w25 := hmv 25 rfl; have w34 := hmv 34 rfl; have w42 := hmv 42 rfl; have w51 := hmv 51 rfl
  have h3 := hmg 3 rfl; have h4 := hmg 4 rfl; have h5 := hmg 5 rfl; have h6 := hmg 6 rfl; have h7 := hmg 7 rfl; have h8 := hmg 8 rfl; have h9 := hmg 9 rfl; have h10 := hmg 10 rfl; have h11 := hmg 11 rfl; have h13 := hmg 13 rfl; have h14 := hmg 14 rfl; have h15 := hmg 15 rfl; have h16 := hmg 16 rfl; have h17 := hmg 17 rfl; have h18 := hmg 18 rfl; have h21 := hmg 21 rfl; have h22 := hmg 22 rfl; have h23 := hmg 23 rfl; have h24 := hmg 24 rfl; have h40 := hmg 40 rfl; have h52 := hmg 52 rfl; have h53 := hmg 53 rfl; have h54 := hmg 54 rfl; have h55 := hmg 55 rfl; have h56 := hmg 56 rfl; have h57 := hmg 57 rfl; have h58 := hmg 58 rfl
  have eT : ∀ j, T5 g2 j = T5 g j := fun j => by unfold T5; rw [g5]
  have eTf : T5 g2 = T5 g := funext eT
  obtain ⟨a1, a2, a3, a4, a5, a6, a7, a8, a9⟩ := h
  refine ⟨a1, ?_, ?_, ?_, ?_, ?_, ?_, ?_, ?_⟩
  · unfold SimN; rw [v0, v1, v7, v9, v10, v11, v15, v16, v17, v18, w12, w19, w20, w25, w34, w51, h3]; exact a2
  · refine ⟨fun t j ht hj => ?_, by rw [eTf]; exact a3.2⟩
    rw [eT, a3.1 t j ht hj, hmg (13 + j) (by
      have e6 : j = 0 ∨ j = 1 ∨ j = 2 ∨ j = 3 ∨ j = 4 ∨ j = 5 := by omega
      rcases e6 with rfl | rfl | rfl | rfl | rfl | rfl <;> rfl)]
  · unfold SimL; rw [g6, g7, g8, g10, g1, h21, h22, h23, h11, h24]; exact a4
  · unfold SimP; rw [g9, g18, g19, g20, h4, h5, h6, h7]; exact a5
  · unfold SimQ; rw [v29, w42, g34, g35, h40]; exact a6
  · unfold SimK; rw [v1, v12, v13, v14, g11, g12, g13, g14, g15, g16, h52, h53, h54, h55, h56, h57, h58]; exact a7
  · unfold ExC at a8 ⊢; rw [v17, v18, v19, g21, g22, g23]; exact a8
  · unfold ExM at a9 ⊢; rw [h3, h8, h9, h10]; exact a9
