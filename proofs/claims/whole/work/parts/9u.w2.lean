theorem w_stranger {l : Launch} {D : va_G} {cA : Nat → ClassId} {o a a' : Nat → Nat} {r0 q : Nat} {f : Nat → Int64} {s0 s1 : Nat → Option Nat} {v mv : ZV} {g mg : ZG} {aK aV : Nat → Nat} {x w : Int32} (hE : SimE v g mv mg) : ∃ PW Pm, ME l D cA (LC l aK aV) yL_stranger cL_stranger 5 (some .int) [(0, 10, 13, 18), (0, 10, 17, 13)] 9 2 12 [.ref (o 0), .int x, .int w, .ref q] (WC o a cA v g ++ oC cA q f) PW ∧ MG l D cA (WM r0 a' cA s0 s1) yX11_stranger cX11_stranger 4 (some .int) 5 [(.ref r0), .int x, .int w] mv mg Pm ∧ AgW o a cA q PW Pm := by
  obtain ⟨P, XP, Pm, hM, hMm, h1, h2, h3, h4⟩ := j_stranger (l := l) (D := D) (cA := cA) (o := o) (a := a) (a' := a') (r0 := r0) (s0 := s0) (s1 := s1) hE
  refine ⟨_, Pm, wr_stranger XV.ok (fun _ _ _ h => h.1.1) (MX.toMY hM) (fun En ws' h => h2 En h.2) (fun r ws' h => by obtain ⟨v', g', -, hp⟩ := h; exact h1 _ _ _ hp) rcv_10, hMm, fun ws r h => ?_⟩
  rcases h with ⟨x9, ws', ⟨v2, g2, rfl, hp⟩, rfl, rfl⟩ | ⟨ws', ⟨rfl, hxp⟩, rfl, rfl⟩ | ⟨ws', ⟨rfl, hxp⟩, rfl, rfl⟩
  · exact ⟨0, v2, g2, _, rfl, rfl, fun v3 g3 r' h' => by
      obtain ⟨e1, e2, e3⟩ := h3 _ _ _ _ _ _ hp h'
      exact ⟨e1, e2, x9, e3, fun _ => rfl⟩⟩
  · exact ⟨1, v, g, f, rfl, rfl, fun v3 g3 r' h' => by
      obtain ⟨e1, e2, y, e3⟩ := h4 _ _ _ _ hxp h'
      exact ⟨e1, e2.trans kN_N, y, e3, fun q => absurd q (by decide)⟩⟩
  · exact ⟨2, v, g, f, rfl, rfl, fun v3 g3 r' h' => by
      obtain ⟨e1, e2, y, e3⟩ := h4 _ _ _ _ hxp h'
      exact ⟨e1, e2.trans kN_I, y, e3, fun q => absurd q (by decide)⟩⟩
theorem w_will {l : Launch} {D : va_G} {cA : Nat → ClassId} {o a a' : Nat → Nat} {r0 q : Nat} {f : Nat → Int64} {s0 s1 : Nat → Option Nat} {v mv : ZV} {g mg : ZG} {aK aV : Nat → Nat} {x y f1 t1 w : Int32} (hE : SimE v g mv mg) : ∃ PW Pm, ME l D cA (LC l aK aV) yL_will cL_will 8 (some .int) [(0, 16, 19, 18), (0, 16, 23, 13)] 9 6 36 [.ref (o 0), .int x, .int y, .int f1, .int t1, .int w, .ref q] (WC o a cA v g ++ oC cA q f) PW ∧ MG l D cA (WM r0 a' cA s0 s1) yX11_will cX11_will 9 (some .int) 4 [(.ref r0), .int x, .int y, .int f1, .int t1, .int w] mv mg Pm ∧ AgW o a cA q PW Pm := by
  obtain ⟨P, XP, Pm, hM, hMm, h1, h2, h3, h4⟩ := j_will (l := l) (D := D) (cA := cA) (o := o) (a := a) (a' := a') (r0 := r0) (s0 := s0) (s1 := s1) hE
  refine ⟨_, Pm, wr_will XV.ok (fun _ _ _ h => h.1.1) (MX.toMY hM) (fun En ws' h => h2 En h.2) (fun r ws' h => by obtain ⟨v', g', -, hp⟩ := h; exact h1 _ _ _ hp) rcv_10, hMm, fun ws r h => ?_⟩
  rcases h with ⟨x9, ws', ⟨v2, g2, rfl, hp⟩, rfl, rfl⟩ | ⟨ws', ⟨rfl, hxp⟩, rfl, rfl⟩ | ⟨ws', ⟨rfl, hxp⟩, rfl, rfl⟩
  · exact ⟨0, v2, g2, _, rfl, rfl, fun v3 g3 r' h' => by
      obtain ⟨e1, e2, e3⟩ := h3 _ _ _ _ _ _ hp h'
      exact ⟨e1, e2, x9, e3, fun _ => rfl⟩⟩
  · exact ⟨1, v, g, f, rfl, rfl, fun v3 g3 r' h' => by
      obtain ⟨e1, e2, y, e3⟩ := h4 _ _ _ _ hxp h'
      exact ⟨e1, e2.trans kN_N, y, e3, fun q => absurd q (by decide)⟩⟩
  · exact ⟨2, v, g, f, rfl, rfl, fun v3 g3 r' h' => by
      obtain ⟨e1, e2, y, e3⟩ := h4 _ _ _ _ hxp h'
      exact ⟨e1, e2.trans kN_I, y, e3, fun q => absurd q (by decide)⟩⟩
theorem w_behind {l : Launch} {D : va_G} {cA : Nat → ClassId} {o a a' : Nat → Nat} {r0 q : Nat} {f : Nat → Int64} {s0 s1 : Nat → Option Nat} {v mv : ZV} {g mg : ZG} {aK aV : Nat → Nat} {x y d : Int32} (hE : SimE v g mv mg) : ∃ PW Pm, ME l D cA (LC l aK aV) yL_behind cL_behind 6 (some .int) [(0, 12, 15, 18), (0, 12, 19, 13)] 9 3 18 [.ref (o 0), .int x, .int y, .int d, .ref q] (WC o a cA v g ++ oC cA q f) PW ∧ MG l D cA (WM r0 a' cA s0 s1) yX11_behind cX11_behind 11 (some .int) 4 [(.ref r0), .int x, .int y, .int d] mv mg Pm ∧ AgW o a cA q PW Pm := by
  obtain ⟨P, XP, Pm, hM, hMm, h1, h2, h3, h4⟩ := j_behind (l := l) (D := D) (cA := cA) (o := o) (a := a) (a' := a') (r0 := r0) (s0 := s0) (s1 := s1) hE
  refine ⟨_, Pm, wr_behind XV.ok (fun _ _ _ h => h.1.1) (MX.toMY hM) (fun En ws' h => h2 En h.2) (fun r ws' h => by obtain ⟨v', g', -, hp⟩ := h; exact h1 _ _ _ hp) rcv_10, hMm, fun ws r h => ?_⟩
  rcases h with ⟨x9, ws', ⟨v2, g2, rfl, hp⟩, rfl, rfl⟩ | ⟨ws', ⟨rfl, hxp⟩, rfl, rfl⟩ | ⟨ws', ⟨rfl, hxp⟩, rfl, rfl⟩
  · exact ⟨0, v2, g2, _, rfl, rfl, fun v3 g3 r' h' => by
      obtain ⟨e1, e2, e3⟩ := h3 _ _ _ _ _ _ hp h'
      exact ⟨e1, e2, x9, e3, fun _ => rfl⟩⟩
  · exact ⟨1, v, g, f, rfl, rfl, fun v3 g3 r' h' => by
      obtain ⟨e1, e2, y, e3⟩ := h4 _ _ _ _ hxp h'
      exact ⟨e1, e2.trans kN_N, y, e3, fun q => absurd q (by decide)⟩⟩
  · exact ⟨2, v, g, f, rfl, rfl, fun v3 g3 r' h' => by
      obtain ⟨e1, e2, y, e3⟩ := h4 _ _ _ _ hxp h'
      exact ⟨e1, e2.trans kN_I, y, e3, fun q => absurd q (by decide)⟩⟩
