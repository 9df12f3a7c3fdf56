/-- a wrapper's end and the reference's agree -/
def AgW (o a : Nat → Nat) (cA : Nat → ClassId) (q : Nat) (PW : va_W → Option Value → Prop) (Pm : ZV → ZG → Option Value → Prop) : Prop := ∀ ws r, PW ws r → ∃ (k : Int32) (v2 : ZV) (g2 : ZG) (f2 : Nat → Int64), ws = WC o a cA v2 g2 ++ oC cA q f2 ∧ r = some (.int k) ∧ ∀ v3 g3 r', Pm v3 g3 r' → SimE v2 g2 v3 g3 ∧ v3 2 = k ∧ ∃ y : Int32, r' = some (.int y) ∧ (k = 0 → f2 0 = y.toInt64)
theorem rcv_10 {o a : Nat → Nat} {cA : Nat → ClassId} {v : ZV} {g : ZG} : Rcv (WC o a cA v g) (o 0) "TearsPost" := ⟨0, 10, 13, TX10, _, rfl, rfl⟩
theorem w_count {l : Launch} {D : va_G} {cA : Nat → ClassId} {o a a' : Nat → Nat} {r0 q : Nat} {f : Nat → Int64} {s0 s1 : Nat → Option Nat} {v mv : ZV} {g mg : ZG} {aK aV : Nat → Nat} {w : Int32} (hE : SimE v g mv mg) : ∃ PW Pm, ME l D cA (LC l aK aV) yL_count cL_count 4 (some .int) [(0, 9, 12, 18)] 9 1 6 [.ref (o 0), .int w, .ref q] (WC o a cA v g ++ oC cA q f) PW ∧ MG l D cA (WM r0 a' cA s0 s1) yX11_count cX11_count 2 (some .int) 2 [(.ref r0), .int w] mv mg Pm ∧ AgW o a cA q PW Pm := by
  obtain ⟨P, XP, Pm, hM, hMm, h1, h2, h3, h4⟩ := j_count (l := l) (D := D) (cA := cA) (o := o) (a := a) (a' := a') (r0 := r0) (s0 := s0) (s1 := s1) hE
  refine ⟨_, Pm, wr_count XV.ok (fun _ _ _ h => h.1.1) (MX.toMY hM) (fun En ws' h => h2 En h.2) (fun r ws' h => by obtain ⟨v', g', -, hp⟩ := h; exact h1 _ _ _ hp) rcv_10, hMm, fun ws r h => ?_⟩
  rcases h with ⟨x9, ws', ⟨v2, g2, rfl, hp⟩, rfl, rfl⟩ | ⟨ws', ⟨rfl, hxp⟩, rfl, rfl⟩
  · exact ⟨0, v2, g2, _, rfl, rfl, fun v3 g3 r' h' => by
      obtain ⟨e1, e2, e3⟩ := h3 _ _ _ _ _ _ hp h'
      exact ⟨e1, e2, x9, e3, fun _ => rfl⟩⟩
  · exact ⟨1, v, g, f, rfl, rfl, fun v3 g3 r' h' => by
      obtain ⟨e1, e2, y, e3⟩ := h4 _ _ _ _ hxp h'
      exact ⟨e1, e2, y, e3, fun q => absurd q (by decide)⟩⟩
theorem w_person {l : Launch} {D : va_G} {cA : Nat → ClassId} {o a a' : Nat → Nat} {r0 q : Nat} {f : Nat → Int64} {s0 s1 : Nat → Option Nat} {v mv : ZV} {g mg : ZG} {aK aV : Nat → Nat} {x w : Int32} (hE : SimE v g mv mg) : ∃ PW Pm, ME l D cA (LC l aK aV) yL_person cL_person 5 (some .int) [(0, 10, 13, 18)] 9 2 12 [.ref (o 0), .int x, .int w, .ref q] (WC o a cA v g ++ oC cA q f) PW ∧ MG l D cA (WM r0 a' cA s0 s1) yX11_person cX11_person 3 (some .int) 3 [(.ref r0), .int x, .int w] mv mg Pm ∧ AgW o a cA q PW Pm := by
  obtain ⟨P, XP, Pm, hM, hMm, h1, h2, h3, h4⟩ := j_person (l := l) (D := D) (cA := cA) (o := o) (a := a) (a' := a') (r0 := r0) (s0 := s0) (s1 := s1) hE
  refine ⟨_, Pm, wr_person XV.ok (fun _ _ _ h => h.1.1) (MX.toMY hM) (fun En ws' h => h2 En h.2) (fun r ws' h => by obtain ⟨v', g', -, hp⟩ := h; exact h1 _ _ _ hp) rcv_10, hMm, fun ws r h => ?_⟩
  rcases h with ⟨x9, ws', ⟨v2, g2, rfl, hp⟩, rfl, rfl⟩ | ⟨ws', ⟨rfl, hxp⟩, rfl, rfl⟩
  · exact ⟨0, v2, g2, _, rfl, rfl, fun v3 g3 r' h' => by
      obtain ⟨e1, e2, e3⟩ := h3 _ _ _ _ _ _ hp h'
      exact ⟨e1, e2, x9, e3, fun _ => rfl⟩⟩
  · exact ⟨1, v, g, f, rfl, rfl, fun v3 g3 r' h' => by
      obtain ⟨e1, e2, y, e3⟩ := h4 _ _ _ _ hxp h'
      exact ⟨e1, e2, y, e3, fun q => absurd q (by decide)⟩⟩
theorem w_walk {l : Launch} {D : va_G} {cA : Nat → ClassId} {o a a' : Nat → Nat} {r0 q : Nat} {f : Nat → Int64} {s0 s1 : Nat → Option Nat} {v mv : ZV} {g mg : ZG} {aK aV : Nat → Nat} {x y : Int32} (hE : SimE v g mv mg) : ∃ PW Pm, ME l D cA (LC l aK aV) yL_walk cL_walk 5 (some .int) [(0, 10, 13, 18)] 9 2 12 [.ref (o 0), .int x, .int y, .ref q] (WC o a cA v g ++ oC cA q f) PW ∧ MG l D cA (WM r0 a' cA s0 s1) yX11_walk cX11_walk 3 (some .int) 3 [(.ref r0), .int x, .int y] mv mg Pm ∧ AgW o a cA q PW Pm := by
  obtain ⟨P, XP, Pm, hM, hMm, h1, h2, h3, h4⟩ := j_walk (l := l) (D := D) (cA := cA) (o := o) (a := a) (a' := a') (r0 := r0) (s0 := s0) (s1 := s1) hE
  refine ⟨_, Pm, wr_walk XV.ok (fun _ _ _ h => h.1.1) (MX.toMY hM) (fun En ws' h => h2 En h.2) (fun r ws' h => by obtain ⟨v', g', -, hp⟩ := h; exact h1 _ _ _ hp) rcv_10, hMm, fun ws r h => ?_⟩
  rcases h with ⟨x9, ws', ⟨v2, g2, rfl, hp⟩, rfl, rfl⟩ | ⟨ws', ⟨rfl, hxp⟩, rfl, rfl⟩
  · exact ⟨0, v2, g2, _, rfl, rfl, fun v3 g3 r' h' => by
      obtain ⟨e1, e2, e3⟩ := h3 _ _ _ _ _ _ hp h'
      exact ⟨e1, e2, x9, e3, fun _ => rfl⟩⟩
  · exact ⟨1, v, g, f, rfl, rfl, fun v3 g3 r' h' => by
      obtain ⟨e1, e2, y, e3⟩ := h4 _ _ _ _ hxp h'
      exact ⟨e1, e2, y, e3, fun q => absurd q (by decide)⟩⟩
theorem w_weep {l : Launch} {D : va_G} {cA : Nat → ClassId} {o a a' : Nat → Nat} {r0 q : Nat} {f : Nat → Int64} {s0 s1 : Nat → Option Nat} {v mv : ZV} {g mg : ZG} {aK aV : Nat → Nat} {x y z : Int32} (hE : SimE v g mv mg) : ∃ PW Pm, ME l D cA (LC l aK aV) yL_weep cL_weep 6 (some .int) [(0, 12, 15, 18)] 9 1 6 [.ref (o 0), .int x, .int y, .int z, .ref q] (WC o a cA v g ++ oC cA q f) PW ∧ MG l D cA (WM r0 a' cA s0 s1) yX11_weep cX11_weep 5 (some .int) 4 [(.ref r0), .int x, .int y, .int z] mv mg Pm ∧ AgW o a cA q PW Pm := by
  obtain ⟨P, XP, Pm, hM, hMm, h1, h2, h3, h4⟩ := j_weep (l := l) (D := D) (cA := cA) (o := o) (a := a) (a' := a') (r0 := r0) (s0 := s0) (s1 := s1) hE
  refine ⟨_, Pm, wr_weep XV.ok (fun _ _ _ h => h.1.1) (MX.toMY hM) (fun En ws' h => h2 En h.2) (fun r ws' h => by obtain ⟨v', g', -, hp⟩ := h; exact h1 _ _ _ hp) rcv_10, hMm, fun ws r h => ?_⟩
  rcases h with ⟨x9, ws', ⟨v2, g2, rfl, hp⟩, rfl, rfl⟩ | ⟨ws', ⟨rfl, hxp⟩, rfl, rfl⟩
  · exact ⟨0, v2, g2, _, rfl, rfl, fun v3 g3 r' h' => by
      obtain ⟨e1, e2, e3⟩ := h3 _ _ _ _ _ _ hp h'
      exact ⟨e1, e2, x9, e3, fun _ => rfl⟩⟩
  · exact ⟨1, v, g, f, rfl, rfl, fun v3 g3 r' h' => by
      obtain ⟨e1, e2, y, e3⟩ := h4 _ _ _ _ hxp h'
      exact ⟨e1, e2, y, e3, fun q => absurd q (by decide)⟩⟩
theorem w_tears {l : Launch} {D : va_G} {cA : Nat → ClassId} {o a a' : Nat → Nat} {r0 q : Nat} {f : Nat → Int64} {s0 s1 : Nat → Option Nat} {v mv : ZV} {g mg : ZG} {aK aV : Nat → Nat} {x w : Int32} (hE : SimE v g mv mg) : ∃ PW Pm, ME l D cA (LC l aK aV) yL_tears cL_tears 5 (some .int) [(0, 10, 13, 18)] 9 1 6 [.ref (o 0), .int x, .int w, .ref q] (WC o a cA v g ++ oC cA q f) PW ∧ MG l D cA (WM r0 a' cA s0 s1) yX11_tears cX11_tears 3 (some .int) 3 [(.ref r0), .int x, .int w] mv mg Pm ∧ AgW o a cA q PW Pm := by
  obtain ⟨P, XP, Pm, hM, hMm, h1, h2, h3, h4⟩ := j_tears (l := l) (D := D) (cA := cA) (o := o) (a := a) (a' := a') (r0 := r0) (s0 := s0) (s1 := s1) hE
  refine ⟨_, Pm, wr_tears XV.ok (fun _ _ _ h => h.1.1) (MX.toMY hM) (fun En ws' h => h2 En h.2) (fun r ws' h => by obtain ⟨v', g', -, hp⟩ := h; exact h1 _ _ _ hp) rcv_10, hMm, fun ws r h => ?_⟩
  rcases h with ⟨x9, ws', ⟨v2, g2, rfl, hp⟩, rfl, rfl⟩ | ⟨ws', ⟨rfl, hxp⟩, rfl, rfl⟩
  · exact ⟨0, v2, g2, _, rfl, rfl, fun v3 g3 r' h' => by
      obtain ⟨e1, e2, e3⟩ := h3 _ _ _ _ _ _ hp h'
      exact ⟨e1, e2, x9, e3, fun _ => rfl⟩⟩
  · exact ⟨1, v, g, f, rfl, rfl, fun v3 g3 r' h' => by
      obtain ⟨e1, e2, y, e3⟩ := h4 _ _ _ _ hxp h'
      exact ⟨e1, e2, y, e3, fun q => absurd q (by decide)⟩⟩
theorem w_name {l : Launch} {D : va_G} {cA : Nat → ClassId} {o a a' : Nat → Nat} {r0 q : Nat} {f : Nat → Int64} {s0 s1 : Nat → Option Nat} {v mv : ZV} {g mg : ZG} {aK aV : Nat → Nat} {x y : Int32} (hE : SimE v g mv mg) : ∃ PW Pm, ME l D cA (LC l aK aV) yL_name cL_name 5 (some .int) [(0, 10, 13, 18)] 9 2 12 [.ref (o 0), .int x, .int y, .ref q] (WC o a cA v g ++ oC cA q f) PW ∧ MG l D cA (WM r0 a' cA s0 s1) yX11_name cX11_name 3 (some .int) 3 [(.ref r0), .int x, .int y] mv mg Pm ∧ AgW o a cA q PW Pm := by
  obtain ⟨P, XP, Pm, hM, hMm, h1, h2, h3, h4⟩ := j_name (l := l) (D := D) (cA := cA) (o := o) (a := a) (a' := a') (r0 := r0) (s0 := s0) (s1 := s1) hE
  refine ⟨_, Pm, wr_name XV.ok (fun _ _ _ h => h.1.1) (MX.toMY hM) (fun En ws' h => h2 En h.2) (fun r ws' h => by obtain ⟨v', g', -, hp⟩ := h; exact h1 _ _ _ hp) rcv_10, hMm, fun ws r h => ?_⟩
  rcases h with ⟨x9, ws', ⟨v2, g2, rfl, hp⟩, rfl, rfl⟩ | ⟨ws', ⟨rfl, hxp⟩, rfl, rfl⟩
  · exact ⟨0, v2, g2, _, rfl, rfl, fun v3 g3 r' h' => by
      obtain ⟨e1, e2, e3⟩ := h3 _ _ _ _ _ _ hp h'
      exact ⟨e1, e2, x9, e3, fun _ => rfl⟩⟩
  · exact ⟨1, v, g, f, rfl, rfl, fun v3 g3 r' h' => by
      obtain ⟨e1, e2, y, e3⟩ := h4 _ _ _ _ hxp h'
      exact ⟨e1, e2, y, e3, fun q => absurd q (by decide)⟩⟩
theorem w_houses {l : Launch} {D : va_G} {cA : Nat → ClassId} {o a a' : Nat → Nat} {r0 q : Nat} {f : Nat → Int64} {s0 s1 : Nat → Option Nat} {v mv : ZV} {g mg : ZG} {aK aV : Nat → Nat} {x y : Int32} (hE : SimE v g mv mg) : ∃ PW Pm, ME l D cA (LC l aK aV) yL_houses cL_houses 5 (some .int) [(0, 10, 13, 18)] 9 2 12 [.ref (o 0), .int x, .int y, .ref q] (WC o a cA v g ++ oC cA q f) PW ∧ MG l D cA (WM r0 a' cA s0 s1) yX11_houses cX11_houses 3 (some .int) 4 [(.ref r0), .int x, .int y] mv mg Pm ∧ AgW o a cA q PW Pm := by
  obtain ⟨P, XP, Pm, hM, hMm, h1, h2, h3, h4⟩ := j_houses (l := l) (D := D) (cA := cA) (o := o) (a := a) (a' := a') (r0 := r0) (s0 := s0) (s1 := s1) hE
  refine ⟨_, Pm, wr_houses XV.ok (fun _ _ _ h => h.1.1) (MX.toMY hM) (fun En ws' h => h2 En h.2) (fun r ws' h => by obtain ⟨v', g', -, hp⟩ := h; exact h1 _ _ _ hp) rcv_10, hMm, fun ws r h => ?_⟩
  rcases h with ⟨x9, ws', ⟨v2, g2, rfl, hp⟩, rfl, rfl⟩ | ⟨ws', ⟨rfl, hxp⟩, rfl, rfl⟩
  · exact ⟨0, v2, g2, _, rfl, rfl, fun v3 g3 r' h' => by
      obtain ⟨e1, e2, e3⟩ := h3 _ _ _ _ _ _ hp h'
      exact ⟨e1, e2, x9, e3, fun _ => rfl⟩⟩
  · exact ⟨1, v, g, f, rfl, rfl, fun v3 g3 r' h' => by
      obtain ⟨e1, e2, y, e3⟩ := h4 _ _ _ _ hxp h'
      exact ⟨e1, e2, y, e3, fun q => absurd q (by decide)⟩⟩
theorem w_letter {l : Launch} {D : va_G} {cA : Nat → ClassId} {o a a' : Nat → Nat} {r0 q : Nat} {f : Nat → Int64} {s0 s1 : Nat → Option Nat} {v mv : ZV} {g mg : ZG} {aK aV : Nat → Nat} {x y : Int32} (hE : SimE v g mv mg) : ∃ PW Pm, ME l D cA (LC l aK aV) yL_letter cL_letter 5 (some .int) [(0, 10, 13, 18)] 9 2 12 [.ref (o 0), .int x, .int y, .ref q] (WC o a cA v g ++ oC cA q f) PW ∧ MG l D cA (WM r0 a' cA s0 s1) yX11_letter cX11_letter 3 (some .int) 3 [(.ref r0), .int x, .int y] mv mg Pm ∧ AgW o a cA q PW Pm := by
  obtain ⟨P, XP, Pm, hM, hMm, h1, h2, h3, h4⟩ := j_letter (l := l) (D := D) (cA := cA) (o := o) (a := a) (a' := a') (r0 := r0) (s0 := s0) (s1 := s1) hE
  refine ⟨_, Pm, wr_letter XV.ok (fun _ _ _ h => h.1.1) (MX.toMY hM) (fun En ws' h => h2 En h.2) (fun r ws' h => by obtain ⟨v', g', -, hp⟩ := h; exact h1 _ _ _ hp) rcv_10, hMm, fun ws r h => ?_⟩
  rcases h with ⟨x9, ws', ⟨v2, g2, rfl, hp⟩, rfl, rfl⟩ | ⟨ws', ⟨rfl, hxp⟩, rfl, rfl⟩
  · exact ⟨0, v2, g2, _, rfl, rfl, fun v3 g3 r' h' => by
      obtain ⟨e1, e2, e3⟩ := h3 _ _ _ _ _ _ hp h'
      exact ⟨e1, e2, x9, e3, fun _ => rfl⟩⟩
  · exact ⟨1, v, g, f, rfl, rfl, fun v3 g3 r' h' => by
      obtain ⟨e1, e2, y, e3⟩ := h4 _ _ _ _ hxp h'
      exact ⟨e1, e2, y, e3, fun q => absurd q (by decide)⟩⟩
theorem w_post {l : Launch} {D : va_G} {cA : Nat → ClassId} {o a a' : Nat → Nat} {r0 q : Nat} {f : Nat → Int64} {s0 s1 : Nat → Option Nat} {v mv : ZV} {g mg : ZG} {aK aV : Nat → Nat} {x w : Int32} (hE : SimE v g mv mg) : ∃ PW Pm, ME l D cA (LC l aK aV) yL_post cL_post 5 (some .int) [(0, 10, 13, 18)] 9 1 6 [.ref (o 0), .int x, .int w, .ref q] (WC o a cA v g ++ oC cA q f) PW ∧ MG l D cA (WM r0 a' cA s0 s1) yX11_post cX11_post 3 (some .int) 4 [(.ref r0), .int x, .int w] mv mg Pm ∧ AgW o a cA q PW Pm := by
  obtain ⟨P, XP, Pm, hM, hMm, h1, h2, h3, h4⟩ := j_post (l := l) (D := D) (cA := cA) (o := o) (a := a) (a' := a') (r0 := r0) (s0 := s0) (s1 := s1) hE
  refine ⟨_, Pm, wr_post XV.ok (fun _ _ _ h => h.1.1) (MX.toMY hM) (fun En ws' h => h2 En h.2) (fun r ws' h => by obtain ⟨v', g', -, hp⟩ := h; exact h1 _ _ _ hp) rcv_10, hMm, fun ws r h => ?_⟩
  rcases h with ⟨x9, ws', ⟨v2, g2, rfl, hp⟩, rfl, rfl⟩ | ⟨ws', ⟨rfl, hxp⟩, rfl, rfl⟩
  · exact ⟨0, v2, g2, _, rfl, rfl, fun v3 g3 r' h' => by
      obtain ⟨e1, e2, e3⟩ := h3 _ _ _ _ _ _ hp h'
      exact ⟨e1, e2, x9, e3, fun _ => rfl⟩⟩
  · exact ⟨1, v, g, f, rfl, rfl, fun v3 g3 r' h' => by
      obtain ⟨e1, e2, y, e3⟩ := h4 _ _ _ _ hxp h'
      exact ⟨e1, e2, y, e3, fun q => absurd q (by decide)⟩⟩
theorem w_round {l : Launch} {D : va_G} {cA : Nat → ClassId} {o a a' : Nat → Nat} {r0 q : Nat} {f : Nat → Int64} {s0 s1 : Nat → Option Nat} {v mv : ZV} {g mg : ZG} {aK aV : Nat → Nat} {x : Int32} (hE : SimE v g mv mg) : ∃ PW Pm, ME l D cA (LC l aK aV) yL_round cL_round 4 (some .int) [(0, 9, 12, 18)] 9 1 6 [.ref (o 0), .int x, .ref q] (WC o a cA v g ++ oC cA q f) PW ∧ MG l D cA (WM r0 a' cA s0 s1) yX11_round cX11_round 3 (some .int) 12 [(.ref r0), .int x] mv mg Pm ∧ AgW o a cA q PW Pm := by
  obtain ⟨P, XP, Pm, hM, hMm, h1, h2, h3, h4⟩ := j_round (l := l) (D := D) (cA := cA) (o := o) (a := a) (a' := a') (r0 := r0) (s0 := s0) (s1 := s1) hE
  refine ⟨_, Pm, wr_round XV.ok (fun _ _ _ h => h.1.1) (MX.toMY hM) (fun En ws' h => h2 En h.2) (fun r ws' h => by obtain ⟨v', g', -, hp⟩ := h; exact h1 _ _ _ hp) rcv_10, hMm, fun ws r h => ?_⟩
  rcases h with ⟨x9, ws', ⟨v2, g2, rfl, hp⟩, rfl, rfl⟩ | ⟨ws', ⟨rfl, hxp⟩, rfl, rfl⟩
  · exact ⟨0, v2, g2, _, rfl, rfl, fun v3 g3 r' h' => by
      obtain ⟨e1, e2, e3⟩ := h3 _ _ _ _ _ _ hp h'
      exact ⟨e1, e2, x9, e3, fun _ => rfl⟩⟩
  · exact ⟨1, v, g, f, rfl, rfl, fun v3 g3 r' h' => by
      obtain ⟨e1, e2, y, e3⟩ := h4 _ _ _ _ hxp h'
      exact ⟨e1, e2, y, e3, fun q => absurd q (by decide)⟩⟩
theorem w_rounded {l : Launch} {D : va_G} {cA : Nat → ClassId} {o a a' : Nat → Nat} {r0 q : Nat} {f : Nat → Int64} {s0 s1 : Nat → Option Nat} {v mv : ZV} {g mg : ZG} {aK aV : Nat → Nat} {x : Int32} (hE : SimE v g mv mg) : ∃ PW Pm, ME l D cA (LC l aK aV) yL_rounded cL_rounded 4 (some .int) [(0, 9, 12, 18)] 9 1 6 [.ref (o 0), .int x, .ref q] (WC o a cA v g ++ oC cA q f) PW ∧ MG l D cA (WM r0 a' cA s0 s1) yX11_rounded cX11_rounded 2 (some .int) 3 [(.ref r0), .int x] mv mg Pm ∧ AgW o a cA q PW Pm := by
  obtain ⟨P, XP, Pm, hM, hMm, h1, h2, h3, h4⟩ := j_rounded (l := l) (D := D) (cA := cA) (o := o) (a := a) (a' := a') (r0 := r0) (s0 := s0) (s1 := s1) hE
  refine ⟨_, Pm, wr_rounded XV.ok (fun _ _ _ h => h.1.1) (MX.toMY hM) (fun En ws' h => h2 En h.2) (fun r ws' h => by obtain ⟨v', g', -, hp⟩ := h; exact h1 _ _ _ hp) rcv_10, hMm, fun ws r h => ?_⟩
  rcases h with ⟨x9, ws', ⟨v2, g2, rfl, hp⟩, rfl, rfl⟩ | ⟨ws', ⟨rfl, hxp⟩, rfl, rfl⟩
  · exact ⟨0, v2, g2, _, rfl, rfl, fun v3 g3 r' h' => by
      obtain ⟨e1, e2, e3⟩ := h3 _ _ _ _ _ _ hp h'
      exact ⟨e1, e2, x9, e3, fun _ => rfl⟩⟩
  · exact ⟨1, v, g, f, rfl, rfl, fun v3 g3 r' h' => by
      obtain ⟨e1, e2, y, e3⟩ := h4 _ _ _ _ hxp h'
      exact ⟨e1, e2, y, e3, fun q => absurd q (by decide)⟩⟩
theorem w_write {l : Launch} {D : va_G} {cA : Nat → ClassId} {o a a' : Nat → Nat} {r0 q : Nat} {f : Nat → Int64} {s0 s1 : Nat → Option Nat} {v mv : ZV} {g mg : ZG} {aK aV : Nat → Nat} {x : Int32} (hE : SimE v g mv mg) : ∃ PW Pm, ME l D cA (LC l aK aV) yL_write cL_write 4 (some .int) [(0, 9, 12, 18)] 9 1 6 [.ref (o 0), .int x, .ref q] (WC o a cA v g ++ oC cA q f) PW ∧ MG l D cA (WM r0 a' cA s0 s1) yX11_write cX11_write 2 (some .int) 3 [(.ref r0), .int x] mv mg Pm ∧ AgW o a cA q PW Pm := by
  obtain ⟨P, XP, Pm, hM, hMm, h1, h2, h3, h4⟩ := j_write (l := l) (D := D) (cA := cA) (o := o) (a := a) (a' := a') (r0 := r0) (s0 := s0) (s1 := s1) hE
  refine ⟨_, Pm, wr_write XV.ok (fun _ _ _ h => h.1.1) (MX.toMY hM) (fun En ws' h => h2 En h.2) (fun r ws' h => by obtain ⟨v', g', -, hp⟩ := h; exact h1 _ _ _ hp) rcv_10, hMm, fun ws r h => ?_⟩
  rcases h with ⟨x9, ws', ⟨v2, g2, rfl, hp⟩, rfl, rfl⟩ | ⟨ws', ⟨rfl, hxp⟩, rfl, rfl⟩
  · exact ⟨0, v2, g2, _, rfl, rfl, fun v3 g3 r' h' => by
      obtain ⟨e1, e2, e3⟩ := h3 _ _ _ _ _ _ hp h'
      exact ⟨e1, e2, x9, e3, fun _ => rfl⟩⟩
  · exact ⟨1, v, g, f, rfl, rfl, fun v3 g3 r' h' => by
      obtain ⟨e1, e2, y, e3⟩ := h4 _ _ _ _ hxp h'
      exact ⟨e1, e2, y, e3, fun q => absurd q (by decide)⟩⟩
theorem w_register {l : Launch} {D : va_G} {cA : Nat → ClassId} {o a a' : Nat → Nat} {r0 q : Nat} {f : Nat → Int64} {s0 s1 : Nat → Option Nat} {v mv : ZV} {g mg : ZG} {aK aV : Nat → Nat} {x w : Int32} (hE : SimE v g mv mg) : ∃ PW Pm, ME l D cA (LC l aK aV) yL_register cL_register 5 (some .int) [(0, 10, 13, 18)] 9 1 6 [.ref (o 0), .int x, .int w, .ref q] (WC o a cA v g ++ oC cA q f) PW ∧ MG l D cA (WM r0 a' cA s0 s1) yX11_register cX11_register 8 (some .int) 1 [(.ref r0), .int x, .int w] mv mg Pm ∧ AgW o a cA q PW Pm := by
  obtain ⟨P, XP, Pm, hM, hMm, h1, h2, h3, h4⟩ := j_register (l := l) (D := D) (cA := cA) (o := o) (a := a) (a' := a') (r0 := r0) (s0 := s0) (s1 := s1) hE
  refine ⟨_, Pm, wr_register XV.ok (fun _ _ _ h => h.1.1) (MX.toMY hM) (fun En ws' h => h2 En h.2) (fun r ws' h => by obtain ⟨v', g', -, hp⟩ := h; exact h1 _ _ _ hp) rcv_10, hMm, fun ws r h => ?_⟩
  rcases h with ⟨x9, ws', ⟨v2, g2, rfl, hp⟩, rfl, rfl⟩ | ⟨ws', ⟨rfl, hxp⟩, rfl, rfl⟩
  · exact ⟨0, v2, g2, _, rfl, rfl, fun v3 g3 r' h' => by
      obtain ⟨e1, e2, e3⟩ := h3 _ _ _ _ _ _ hp h'
      exact ⟨e1, e2, x9, e3, fun _ => rfl⟩⟩
  · exact ⟨1, v, g, f, rfl, rfl, fun v3 g3 r' h' => by
      obtain ⟨e1, e2, y, e3⟩ := h4 _ _ _ _ hxp h'
      exact ⟨e1, e2, y, e3, fun q => absurd q (by decide)⟩⟩
theorem w_last {l : Launch} {D : va_G} {cA : Nat → ClassId} {o a a' : Nat → Nat} {r0 q : Nat} {f : Nat → Int64} {s0 s1 : Nat → Option Nat} {v mv : ZV} {g mg : ZG} {aK aV : Nat → Nat} {x : Int32} (hE : SimE v g mv mg) : ∃ PW Pm, ME l D cA (LC l aK aV) yL_last cL_last 4 (some .int) [(0, 9, 12, 18)] 9 1 6 [.ref (o 0), .int x, .ref q] (WC o a cA v g ++ oC cA q f) PW ∧ MG l D cA (WM r0 a' cA s0 s1) yX11_last cX11_last 2 (some .int) 2 [(.ref r0), .int x] mv mg Pm ∧ AgW o a cA q PW Pm := by
  obtain ⟨P, XP, Pm, hM, hMm, h1, h2, h3, h4⟩ := j_last (l := l) (D := D) (cA := cA) (o := o) (a := a) (a' := a') (r0 := r0) (s0 := s0) (s1 := s1) hE
  refine ⟨_, Pm, wr_last XV.ok (fun _ _ _ h => h.1.1) (MX.toMY hM) (fun En ws' h => h2 En h.2) (fun r ws' h => by obtain ⟨v', g', -, hp⟩ := h; exact h1 _ _ _ hp) rcv_10, hMm, fun ws r h => ?_⟩
  rcases h with ⟨x9, ws', ⟨v2, g2, rfl, hp⟩, rfl, rfl⟩ | ⟨ws', ⟨rfl, hxp⟩, rfl, rfl⟩
  · exact ⟨0, v2, g2, _, rfl, rfl, fun v3 g3 r' h' => by
      obtain ⟨e1, e2, e3⟩ := h3 _ _ _ _ _ _ hp h'
      exact ⟨e1, e2, x9, e3, fun _ => rfl⟩⟩
  · exact ⟨1, v, g, f, rfl, rfl, fun v3 g3 r' h' => by
      obtain ⟨e1, e2, y, e3⟩ := h4 _ _ _ _ hxp h'
      exact ⟨e1, e2, y, e3, fun q => absurd q (by decide)⟩⟩
theorem w_nobody {l : Launch} {D : va_G} {cA : Nat → ClassId} {o a a' : Nat → Nat} {r0 q : Nat} {f : Nat → Int64} {s0 s1 : Nat → Option Nat} {v mv : ZV} {g mg : ZG} {aK aV : Nat → Nat} {x : Int32} (hE : SimE v g mv mg) : ∃ PW Pm, ME l D cA (LC l aK aV) yL_nobody cL_nobody 4 (some .int) [(0, 9, 12, 18)] 9 1 6 [.ref (o 0), .int x, .ref q] (WC o a cA v g ++ oC cA q f) PW ∧ MG l D cA (WM r0 a' cA s0 s1) yX11_nobody cX11_nobody 2 (some .int) 3 [(.ref r0), .int x] mv mg Pm ∧ AgW o a cA q PW Pm := by
  obtain ⟨P, XP, Pm, hM, hMm, h1, h2, h3, h4⟩ := j_nobody (l := l) (D := D) (cA := cA) (o := o) (a := a) (a' := a') (r0 := r0) (s0 := s0) (s1 := s1) hE
  refine ⟨_, Pm, wr_nobody XV.ok (fun _ _ _ h => h.1.1) (MX.toMY hM) (fun En ws' h => h2 En h.2) (fun r ws' h => by obtain ⟨v', g', -, hp⟩ := h; exact h1 _ _ _ hp) rcv_10, hMm, fun ws r h => ?_⟩
  rcases h with ⟨x9, ws', ⟨v2, g2, rfl, hp⟩, rfl, rfl⟩ | ⟨ws', ⟨rfl, hxp⟩, rfl, rfl⟩
  · exact ⟨0, v2, g2, _, rfl, rfl, fun v3 g3 r' h' => by
      obtain ⟨e1, e2, e3⟩ := h3 _ _ _ _ _ _ hp h'
      exact ⟨e1, e2, x9, e3, fun _ => rfl⟩⟩
  · exact ⟨1, v, g, f, rfl, rfl, fun v3 g3 r' h' => by
      obtain ⟨e1, e2, y, e3⟩ := h4 _ _ _ _ hxp h'
      exact ⟨e1, e2, y, e3, fun q => absurd q (by decide)⟩⟩
theorem w_dry {l : Launch} {D : va_G} {cA : Nat → ClassId} {o a a' : Nat → Nat} {r0 q : Nat} {f : Nat → Int64} {s0 s1 : Nat → Option Nat} {v mv : ZV} {g mg : ZG} {aK aV : Nat → Nat} {x : Int32} (hE : SimE v g mv mg) : ∃ PW Pm, ME l D cA (LC l aK aV) yL_dry cL_dry 4 (some .int) [(0, 9, 12, 13)] 9 1 6 [.ref (o 0), .int x, .ref q] (WC o a cA v g ++ oC cA q f) PW ∧ MG l D cA (WM r0 a' cA s0 s1) yX11_dry cX11_dry 4 (some .int) 3 [(.ref r0), .int x] mv mg Pm ∧ AgW o a cA q PW Pm := by
  obtain ⟨P, XP, Pm, hM, hMm, h1, h2, h3, h4⟩ := j_dry (l := l) (D := D) (cA := cA) (o := o) (a := a) (a' := a') (r0 := r0) (s0 := s0) (s1 := s1) hE
  refine ⟨_, Pm, wr_dry XV.ok (fun _ _ _ h => h.1.1) (MX.toMY hM) (fun En ws' h => h2 En h.2) (fun r ws' h => by obtain ⟨v', g', -, hp⟩ := h; exact h1 _ _ _ hp) rcv_10, hMm, fun ws r h => ?_⟩
  rcases h with ⟨x9, ws', ⟨v2, g2, rfl, hp⟩, rfl, rfl⟩ | ⟨ws', ⟨rfl, hxp⟩, rfl, rfl⟩
  · exact ⟨0, v2, g2, _, rfl, rfl, fun v3 g3 r' h' => by
      obtain ⟨e1, e2, e3⟩ := h3 _ _ _ _ _ _ hp h'
      exact ⟨e1, e2, x9, e3, fun _ => rfl⟩⟩
  · exact ⟨1, v, g, f, rfl, rfl, fun v3 g3 r' h' => by
      obtain ⟨e1, e2, y, e3⟩ := h4 _ _ _ _ hxp h'
      exact ⟨e1, e2, y, e3, fun q => absurd q (by decide)⟩⟩
theorem w_mourner {l : Launch} {D : va_G} {cA : Nat → ClassId} {o a a' : Nat → Nat} {r0 q : Nat} {f : Nat → Int64} {s0 s1 : Nat → Option Nat} {v mv : ZV} {g mg : ZG} {aK aV : Nat → Nat} {x : Int32} (hE : SimE v g mv mg) : ∃ PW Pm, ME l D cA (LC l aK aV) yL_mourner cL_mourner 4 (some .int) [(0, 9, 12, 18)] 9 1 6 [.ref (o 0), .int x, .ref q] (WC o a cA v g ++ oC cA q f) PW ∧ MG l D cA (WM r0 a' cA s0 s1) yX11_mourner cX11_mourner 2 (some .int) 5 [(.ref r0), .int x] mv mg Pm ∧ AgW o a cA q PW Pm := by
  obtain ⟨P, XP, Pm, hM, hMm, h1, h2, h3, h4⟩ := j_mourner (l := l) (D := D) (cA := cA) (o := o) (a := a) (a' := a') (r0 := r0) (s0 := s0) (s1 := s1) hE
  refine ⟨_, Pm, wr_mourner XV.ok (fun _ _ _ h => h.1.1) (MX.toMY hM) (fun En ws' h => h2 En h.2) (fun r ws' h => by obtain ⟨v', g', -, hp⟩ := h; exact h1 _ _ _ hp) rcv_10, hMm, fun ws r h => ?_⟩
  rcases h with ⟨x9, ws', ⟨v2, g2, rfl, hp⟩, rfl, rfl⟩ | ⟨ws', ⟨rfl, hxp⟩, rfl, rfl⟩
  · exact ⟨0, v2, g2, _, rfl, rfl, fun v3 g3 r' h' => by
      obtain ⟨e1, e2, e3⟩ := h3 _ _ _ _ _ _ hp h'
      exact ⟨e1, e2, x9, e3, fun _ => rfl⟩⟩
  · exact ⟨1, v, g, f, rfl, rfl, fun v3 g3 r' h' => by
      obtain ⟨e1, e2, y, e3⟩ := h4 _ _ _ _ hxp h'
      exact ⟨e1, e2, y, e3, fun q => absurd q (by decide)⟩⟩
