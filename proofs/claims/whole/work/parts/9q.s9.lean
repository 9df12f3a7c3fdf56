theorem Seg.code {LL l : List Int32} {b : Nat} {code : Nat → Int32} (h : Seg LL b l) (hc : ∀ k, k < LL.length → code k = LL.getD k 0) (hw : WfL 36 l) (hL : LL.length ≤ 700) : CodeC code LL.length (fun k => l.getD k 0) l.length b := by
  obtain ⟨L1, L2, rfl, rfl⟩ := h
  have hlen : (L1 ++ (l ++ -17 :: L2)).length = L1.length + (l.length + (L2.length + 1)) := by simp
  refine ⟨by rw [hlen]; omega, hL, fun i hi => ?_, ?_, hw.wf (by omega)⟩
  · rw [hc _ (by rw [hlen]; omega), getD_r, getD_l hi]
  · rw [hc _ (by rw [hlen]; omega), getD_r]
    have := getD_r (l1 := l) (l2 := -17 :: L2) (k := 0)
    rw [Nat.add_zero] at this
    rw [this]; rfl
theorem SegM.code {LL l : List Int32} {b : Nat} {signs : Nat → Int32} (h : SegM LL b l) (hc : ∀ k, k < LL.length → signs k = LL.getD k 0) (hw : WfL 36 l) (hL : LL.length ≤ 700) : CodeM signs (fun k => l.getD k 0) l.length b := by
  obtain ⟨L1, L2, rfl, rfl⟩ := h
  have hlen : (L1 ++ (l.map trE ++ L2)).length = L1.length + (l.length + L2.length) := by simp
  refine ⟨by rw [hlen] at hL; omega, fun i hi => ?_, hw.wf (by omega)⟩
  rw [hc _ (by rw [hlen]; omega), getD_r, getD_l (by simpa using hi)]
  simp [List.getD_eq_getElem?_getD, List.getElem?_map, List.getElem?_eq_getElem hi]
def opsD (d : Dr) (e k : Nat) : Int32 := if e < 4 then (d.rs e).getD k 0 else (d.as (e - 4)).getD k 0
def meD (d : Dr) (e : Nat) : Nat := if e < 4 then (d.rs e).length else (d.as (e - 4)).length
theorem Seg.lt {LL l : List Int32} {b : Nat} (h : Seg LL b l) : b < LL.length := by
  obtain ⟨L1, L2, rfl, rfl⟩ := h
  simp only [List.length_append, List.length_cons]; omega
theorem SegM.le {LL l : List Int32} {b : Nat} (h : SegM LL b l) : b ≤ LL.length := by
  obtain ⟨L1, L2, rfl, rfl⟩ := h
  simp only [List.length_append]; omega
theorem DrC.ex {d : Dr} {LL : List Int32} {v : ZV} {g : ZG} (h : DrC d LL v g) (hL : LL.length ≤ 700) (hK : DrK d) (hB : DrB d) : ExC v g d.R d.A (opsD d) (meD d) := by
  obtain ⟨-, -, h17, h18, h19, -, -, hr, ha, hc⟩ := h
  obtain ⟨-, -, -, hR, hA⟩ := hK
  refine ⟨LL.length, fun e => if e < 4 then (g 21 e).toNatClampNeg else (g 22 (e - 4)).toNatClampNeg, h19, h17, h18, hR, hA, fun e he => ?_, fun e he => ?_⟩
  · obtain ⟨b, e1, e2⟩ := hr e he
    have hb := e2.lt
    have e3 : (g 21 e).toNatClampNeg = b := by rw [e1, nI_clamp (by omega)]
    have h4 : e < 4 := by omega
    simp only [h4, if_true, e3]
    refine ⟨e1, ?_⟩
    rw [show opsD d e = fun k => (d.rs e).getD k 0 from funext (fun k => by unfold opsD; rw [if_pos h4]), show meD d e = (d.rs e).length from by unfold meD; rw [if_pos h4]]
    exact e2.code hc (hB.2.2.1 e he) hL
  · obtain ⟨b, e1, e2⟩ := ha e he
    have hb := e2.lt
    have e3 : (g 22 e).toNatClampNeg = b := by rw [e1, nI_clamp (by omega)]
    have h4 : ¬ 4 + e < 4 := by omega
    simp only [h4, if_false, show 4 + e - 4 = e by omega, e3]
    refine ⟨e1, ?_⟩
    rw [show opsD d (4 + e) = fun k => (d.as e).getD k 0 from funext (fun k => by unfold opsD; rw [if_neg h4, show 4 + e - 4 = e by omega]), show meD d (4 + e) = (d.as e).length from by unfold meD; rw [if_neg h4, show 4 + e - 4 = e by omega]]
    exact e2.code hc (hB.2.2.2 e he) hL
theorem DrT.ex {d : Dr} {mg : ZG} (h : DrT d mg) (hK : DrK d) (hB : DrB d) : ExM mg d.R d.A (opsD d) (meD d) := by
  obtain ⟨-, -, h2, h3, -, -, LL, hL, hc, hr, ha⟩ := h
  obtain ⟨-, -, -, hR, hA⟩ := hK
  refine ⟨fun e => (mg 8 e).toNatClampNeg, h2, h3, hR, hA, fun e he => ?_⟩
  by_cases h4 : e < 4
  · have he2 : e < d.R := by rcases he with he | he; exact he; omega
    obtain ⟨b, e1, e2, e3⟩ := hr e he2
    have hb := e3.le
    have e4 : (mg 8 e).toNatClampNeg = b := by rw [e1, nI_clamp (by omega)]
    rw [show opsD d e = fun k => (d.rs e).getD k 0 from funext (fun k => by unfold opsD; rw [if_pos h4]), show meD d e = (d.rs e).length from by unfold meD; rw [if_pos h4]]
    simp only [e4]
    exact ⟨e1, e2, e3.code hc (hB.2.2.1 e he2) hL⟩
  · have he2 : 4 ≤ e ∧ e < 4 + d.A := by rcases he with he | he; omega; exact he
    obtain ⟨q, rfl⟩ : ∃ q, e = 4 + q := ⟨e - 4, by omega⟩
    obtain ⟨b, e1, e2, e3⟩ := ha q (by omega)
    have hb := e3.le
    have e4 : (mg 8 (4 + q)).toNatClampNeg = b := by rw [e1, nI_clamp (by omega)]
    rw [show opsD d (4 + q) = fun k => (d.as q).getD k 0 from funext (fun k => by unfold opsD; rw [if_neg h4, show 4 + q - 4 = q by omega]), show meD d (4 + q) = (d.as q).length from by unfold meD; rw [if_neg h4, show 4 + q - 4 = q by omega]]
    simp only [e4]
    exact ⟨e1, e2, e3.code hc (hB.2.2.2 q (by omega)) hL⟩
theorem DrK.h {d : Dr} (hK : DrK d) : ∃ h, 1 ≤ h ∧ h ≤ 10 ∧ d.H = nI h := by
  obtain ⟨h1, h2, -⟩ := hK
  have hi := inI_in (x := d.H) (n := 11) (by omega) (fun q => absurd (Int32.lt_of_le_of_lt h1 q) (by decide)) (fun q => absurd (Int32.le_trans q h2) (by decide))
  obtain ⟨k, hk, e⟩ := inI_t hi (by omega)
  refine ⟨k, ?_, by omega, e⟩
  rcases Nat.eq_zero_or_pos k with z | z
  · subst z; rw [e] at h1; exact absurd h1 (by decide)
  · exact z
theorem nN_of {x : Int32} {n : Nat} (hn : n < 2 ^ 31) (h0 : 0 ≤ x) (h1 : x < nI n) : ∃ k, k < n ∧ x = nI k := inI_t (inI_lt hn (Int32.not_lt.mpr h0) h1) hn
