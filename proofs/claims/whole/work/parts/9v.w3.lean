/-- holds: the long is 1 where the reference says true -/
def AgH (o a : Nat → Nat) (cA : Nat → ClassId) (q : Nat) (PW : va_W → Option Value → Prop) (Pm : ZV → ZG → Option Value → Prop) : Prop := ∀ ws r, PW ws r → ∃ (k : Int32) (v2 : ZV) (g2 : ZG) (f2 : Nat → Int64), ws = WC o a cA v2 g2 ++ oC cA q f2 ∧ r = some (.int k) ∧ ∀ v3 g3 r', Pm v3 g3 r' → SimE v2 g2 v3 g3 ∧ v3 2 = k ∧ ∃ y : Int32, r' = some (.int y) ∧ (k = 0 → f2 0 = if y = 0 then 0 else 1)
/-- move: no long -/
def AgM (o a : Nat → Nat) (cA : Nat → ClassId) (PW : va_W → Option Value → Prop) (Pm : ZV → ZG → Option Value → Prop) : Prop := ∀ ws r, PW ws r → ∃ (k : Int32) (v2 : ZV) (g2 : ZG), ws = WC o a cA v2 g2 ∧ r = some (.int k) ∧ ∀ v3 g3 r', Pm v3 g3 r' → SimE v2 g2 v3 g3 ∧ v3 2 = k ∧ r' = none
theorem w_holds {l : Launch} {D : va_G} {cA : Nat → ClassId} {o a a' : Nat → Nat} {r0 q : Nat} {f : Nat → Int64} {s0 s1 : Nat → Option Nat} {v mv : ZV} {g mg : ZG} {aK aV : Nat → Nat} {x y : Int32} (hE : SimE v g mv mg) : ∃ PW Pm, ME l D cA (LC l aK aV) yL_holds cL_holds 5 (some .int) [(0, 17, 20, 18)] 9 1 6 [.ref (o 0), .int x, .int y, .ref q] (WC o a cA v g ++ oC cA q f) PW ∧ MG l D cA (WM r0 a' cA s0 s1) yX11_holds cX11_holds 3 (some .boolean) 4 [(.ref r0), .int x, .int y] mv mg Pm ∧ AgH o a cA q PW Pm := by
  obtain ⟨P, XP, Pm, hM, hMm, h1, h2, h3, h4⟩ := j_holds (l := l) (D := D) (cA := cA) (o := o) (a := a) (a' := a') (r0 := r0) (s0 := s0) (s1 := s1) hE
  refine ⟨_, Pm, wr_holds XV.ok (fun _ _ _ h => h.1.1) (MX.toMY hM) (fun En ws' h => h2 En h.2) (fun r ws' h => by obtain ⟨v', g', -, hp⟩ := h; exact h1 _ _ _ hp) rcv_10, hMm, fun ws r h => ?_⟩
  rcases h with ⟨x9, ws', ⟨v2, g2, rfl, hp⟩, rfl, rfl⟩ | ⟨ws', ⟨rfl, hxp⟩, rfl, rfl⟩
  · exact ⟨0, v2, g2, _, rfl, rfl, fun v3 g3 r' h' => by
      obtain ⟨e1, e2, e3⟩ := h3 _ _ _ _ _ _ hp h'
      exact ⟨e1, e2, x9, e3, fun _ => rfl⟩⟩
  · exact ⟨1, v, g, f, rfl, rfl, fun v3 g3 r' h' => by
      obtain ⟨e1, e2, y, e3⟩ := h4 _ _ _ _ hxp h'
      exact ⟨e1, e2, y, e3, fun q => absurd q (by decide)⟩⟩
theorem w_move {l : Launch} {D : va_G} {cA : Nat → ClassId} {o a a' : Nat → Nat} {r0 : Nat} {s0 s1 : Nat → Option Nat} {v mv : ZV} {g mg : ZG} {aK aV : Nat → Nat} {x y : Int32} (hE : SimE v g mv mg) : ∃ PW Pm, ME l D cA (LC l aK aV) yL_move cL_move 4 (some .int) [(0, 6, 9, 18)] 9 2 12 [.ref (o 0), .int x, .int y] (WC o a cA v g) PW ∧ MG l D cA (WM r0 a' cA s0 s1) yX11_move cX11_move 3 none 3 [(.ref r0), .int x, .int y] mv mg Pm ∧ AgM o a cA PW Pm := by
  obtain ⟨P, XP, Pm, hM, hMm, h1, h2, h3, h4⟩ := j_move (l := l) (D := D) (cA := cA) (o := o) (a := a) (a' := a') (r0 := r0) (s0 := s0) (s1 := s1) (x := x) (y := y) hE
  refine ⟨_, Pm, wr_move (q := 0) (f := fun _ => 0) XV.ok (fun _ _ _ h => h.1.1) (MX.toMY hM) (fun En ws' h => h2 En h.2) (fun r ws' h => by obtain ⟨v', g', -, hp⟩ := h; exact h1 _ _ _ hp) rcv_10, hMm, fun ws r h => ?_⟩
  rcases h with ⟨ws', ⟨v2, g2, rfl, hp⟩, rfl, rfl⟩ | ⟨ws', ⟨rfl, hxp⟩, rfl, rfl⟩
  · exact ⟨0, v2, g2, rfl, rfl, fun v3 g3 r' h' => h3 _ _ _ _ _ _ hp h'⟩
  · exact ⟨1, v, g, rfl, rfl, fun v3 g3 r' h' => h4 _ _ _ _ hxp h'⟩
