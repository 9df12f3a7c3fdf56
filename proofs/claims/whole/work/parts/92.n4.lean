theorem z_aald {l : Launch} {D : va_G} {cA : Nat → ClassId} {own : String} {cc : ByteArray} {nl k mc ms : Nat} {E : Nat → Nat → va_W → Option Value → Prop} {X : Nat → Nat → va_W → String → Prop} {Z : ZT} {u w pc : Nat} {ws : va_W} {L : List (Option Value)} {st : List Value} (hZ : ZR l D cA own cc nl k mc ms E X Z) {a q0 n j : Nat} {f : Nat → Option Nat} {x : Nat} (d : decode cc pc = .ok (.aaload, 1)) (he : ws[q0]? = some (a, .inl (cA 3, n, .inr (.inr (.inr (.inr f)))))) (hj : j < n) (hn : n < 2 ^ 31) (hx : f j = some x) (kk : Z u w ws L (.ref x :: st) (pc + 1)) : Z u w ws L (.int (nI j) :: .ref a :: st) pc := by
  obtain ⟨p, e, s, m, args, below, meth, c, A, Q, ⟨hxx, hb, hnl, hown, hev, hK, hA⟩, h1, h2, h3, rfl⟩ := hZ
  intro H locs ls hP hD hS hl
  refine va_aldq hxx hb hK hP q0 3 (C := "java/lang/String") he rfl (vp_in_nI hj hn) d ?_
  rw [nI_clamp (by omega), hx]
  exact kk H locs ls hP hD hS hl
/-- the words of a clause -/
def clN (k : Nat) : Nat := [10, 1, 11, 12, 13].getD k 0
theorem clN_lt : ∀ k, k < 5 → clN k < 15 := by decide
theorem c_X11_is {l : Launch} {D : va_G} {cA : Nat → ClassId} {r : Nat} {a : Nat → Nat} {s0 s1 : Nat → Option Nat} {v : ZV} {g : ZG} {aK aV : Nat → Nat} {t : Nat → Int32} {n m i : Nat} {K N : Nat → Int32} {L : List Int32} {j : Nat} (hG : GM t n m K N) (hM : MI t n m v g i L) (hj : j < 15) : MGY l D cA aK aV (WM r a cA s0 s1) yX11_is cX11_is 4 (some .boolean) 4 [(.ref r), (.ref (aK j))] v g (PF v g (some (.int (bI (decide (K i = kcN j)))))) := by
  refine MGY.of (by decide) rfl (Nat.le_of_ble_eq_true rfl) (by simp [Value.category]) (fun Z hY => ?_)
  have hZ := hY.toZR
  have h24 : g 24 = t := hM.1
  have hb : v 32 = 0 := hM.2.2.2.1
  have h30 : v 30 = nI (tokS t n i) := hM.2.2.2.2.1.1
  have h31 : v 31 = nI (eNd t n (tokS t n i)) := hM.2.2.2.2.1.2.2.1
  have h28 : v 28 = tcM t n (tokS t n i) := hM.2.2.2.2.1.2.2.2.1
  have h26 : v 26 = nI (eNd t n (tokS t n i)) := hM.2.2.2.2.1.2.1
  have hi : i ≤ m := hM.2.2.1
  have hn7 : n ≤ 700 := hG.2.1
  have htok : ¬ K i = 0 → tokS t n i < n := tok_in hG.1 hi
  have hse := tok_end hG.1 hi
  have he7 : eNd t n (tokS t n i) ≤ 700 := Nat.le_trans eNd_le hn7
  have hwn : (wr j).length < 2 ^ 31 := (wrd_ok j hj).1
  have hT2 := isT_K hG.1 hi hj
  refine z_aload_n hZ (pc := 0) dX11_is_0 rfl ?_
  refine gM_32 hZ (pc := 1) fl_X11_209 dX11_is_1 ?_
  refine z_if_ne hZ (pc := 4) (tgt := 35) dX11_is_4 rfl (fun c4 => ?_) (fun c4 => ?_)
  · skip
    exact absurd hb c4
  · skip
    refine z_aload_n hZ (pc := 7) dX11_is_7 rfl ?_
    refine gM_28 hZ (pc := 8) fl_X11_183 dX11_is_8 ?_
    refine z_iconst hZ (pc := 11) (v := 1) dX11_is_11 (by decide) ?_
    refine z_icmp_ne hZ (pc := 12) (tgt := 35) dX11_is_12 rfl (fun c12 => ?_) (fun c12 => ?_)
    · skip
      have h0 : isT t n (tokS t n i) j = false := by rw [isT, decide_eq_false (by rw [← h28]; exact c12)]; rfl
      refine z_iconst hZ (pc := 35) (v := 0) dX11_is_35 (by decide) ?_
      refine q_istore_n_4_2 hZ (pc := 36) dX11_is_36 rfl ?_
      refine z_iconst hZ (pc := 37) (v := 0) dX11_is_37 (by decide) ?_
      refine q_istore_n_4_3 hZ (pc := 38) dX11_is_38 rfl ?_
      have lp39 : ∀ (f k : Nat) (b : Bool), (wr j).length - k < f → ((b = true ∧ tcM t n (tokS t n i) = 1 ∧ eNd t n (tokS t n i) - tokS t n i = (wr j).length ∧ k ≤ (wr j).length ∧ ∀ q, q < k → t (tokS t n i + q) = (wr j).getD q 0) ∨ (b = false ∧ isT t n (tokS t n i) j = false)) → Z 0 0 (WM r a cA s0 s1 v g) [some (.ref r), some (.ref (aK j)), some (.int (bI b)), some (.int (nI k))] [] 39 := by
        intro f
        induction f with
        | zero => intro k b hf; exact absurd hf (Nat.not_lt_zero _)
        | succ f ih39 =>
          intro k b hf hI
          refine z_iload_n hZ (pc := 39) dX11_is_39 rfl ?_
          refine z_if_eq hZ (pc := 40) (tgt := 82) dX11_is_40 rfl (fun c40 => ?_) (fun c40 => ?_)
          · skip
            refine z_iload_n hZ (pc := 82) dX11_is_82 rfl ?_
            refine zr_i hZ (pc := 83) dX11_is_83 FitR.bI ?_
            have hb0 : b = false := bI_eq.mp c40
            exact ⟨rfl, rfl, by
              rcases hI with ⟨hb1, -⟩ | ⟨-, h1⟩
              · rw [hb0] at hb1; cases hb1
              · rw [← hT2, h1, hb0]⟩
          · skip
            obtain ⟨-, j1, j2, j3, j4⟩ : b = true ∧ tcM t n (tokS t n i) = 1 ∧ eNd t n (tokS t n i) - tokS t n i = (wr j).length ∧ k ≤ (wr j).length ∧ ∀ q, q < k → t (tokS t n i + q) = (wr j).getD q 0 := by
              rcases hI with x | ⟨hb0, -⟩
              · exact x
              · rw [bI_ne c40] at hb0; cases hb0
            refine z_iload_n hZ (pc := 43) dX11_is_43 rfl ?_
            refine z_aload_n hZ (pc := 44) dX11_is_44 rfl ?_
            refine zy_callV hY (pc := 45) (As := []) dX11_is_45 lk_X11_215 mn_J0_length_8abf5 mv_J0_length_8abf5 (c_J0_length hj) (sO hj) rfl rfl (Nat.le_of_ble_eq_true rfl) (by decide) (by decide) (Nat.zero_le _) (Nat.zero_le _) ?_
            refine z_icmp_ge hZ (pc := 48) (tgt := 82) dX11_is_48 rfl (fun c48 => ?_) (fun c48 => ?_)
            · skip
              refine z_iload_n hZ (pc := 82) dX11_is_82 rfl ?_
              refine zr_i hZ (pc := 83) dX11_is_83 FitR.bI ?_
              exact ⟨rfl, rfl, by
                have e1 : k = (wr j).length := lp_ge rfl hwn j3 c48
                rw [bI_ne c40, ← hT2, isT, decide_eq_true j1, decide_eq_true (wd_eq j2 (fun q hq => j4 q (by omega)))]; rfl⟩
            · skip
              have hl : k < (wr j).length := lp_lt rfl hwn j3 c48
              refine z_aload_n hZ (pc := 51) dX11_is_51 rfl ?_
              refine z_iload_n hZ (pc := 52) dX11_is_52 rfl ?_
              refine zy_callV hY (pc := 53) (As := [.int (nI k)]) dX11_is_53 lk_X11_219 mn_J0_charAt_5068e mv_J0_charAt_5068e (c_J0_charAt hj hl) (sO hj) rfl rfl (Nat.le_of_ble_eq_true rfl) (by decide) (by decide) (Nat.zero_le _) (Nat.zero_le _) ?_
              refine z_aload_n hZ (pc := 56) dX11_is_56 rfl ?_
              refine gM_24 hZ (pc := 57) fl_X11_95 dX11_is_57 ?_
              refine z_aload_n hZ (pc := 60) dX11_is_60 rfl ?_
              refine gM_30 hZ (pc := 61) fl_X11_180 dX11_is_61 ?_
              refine z_top h30 ?_
              refine z_iload_n hZ (pc := 64) dX11_is_64 rfl ?_
              refine z_iadd hZ (pc := 65) dX11_is_65 ?_
              refine z_top (y := nI (tokS t n i + k)) (nI_add _ _) ?_
              refine lMn_24 hZ (pc := 66) dX11_is_66 (by omega) ?_
              refine z_icmp_ne hZ (pc := 67) (tgt := 74) dX11_is_67 rfl (fun c67 => ?_) (fun c67 => ?_)
              · skip
                refine z_iconst hZ (pc := 74) (v := 0) dX11_is_74 (by decide) ?_
                refine q_istore_n_4_2 hZ (pc := 75) dX11_is_75 rfl ?_
                refine q_iinc_4_3 hZ (pc := 76) dX11_is_76 rfl ?_
                refine z_goto hZ (pc := 79) (tgt := 39) dX11_is_79 rfl ?_
                exact z_back hZ (ih39 (k + 1) false (by omega) (Or.inr ⟨rfl, by rw [isT, show decide (wdL t (tokS t n i) (eNd t n (tokS t n i) - tokS t n i) = wr j) = false from decide_eq_false (wd_ne2 (k := k) (by omega) (fun z => c67 (by rw [h24, z]))), Bool.and_false]⟩)) rfl ⟨rfl, rfl, rfl, zi (nI_inc _), trivial⟩
              · skip
                refine z_iconst hZ (pc := 70) (v := 1) dX11_is_70 (by decide) ?_
                refine z_goto hZ (pc := 71) (tgt := 75) dX11_is_71 rfl ?_
                refine q_istore_n_4_2 hZ (pc := 75) dX11_is_75 rfl ?_
                refine q_iinc_4_3 hZ (pc := 76) dX11_is_76 rfl ?_
                refine z_goto hZ (pc := 79) (tgt := 39) dX11_is_79 rfl ?_
                exact z_back hZ (ih39 (k + 1) true (by omega) (Or.inl ⟨rfl, j1, j2, hl, lt_s j4 (by rw [h24] at c67; exact c67.symm)⟩)) rfl ⟨rfl, rfl, rfl, zi (nI_inc _), trivial⟩
      exact z_back hZ (lp39 ((wr j).length + 1) 0 false (by omega) (Or.inr ⟨rfl, h0⟩)) rfl ⟨rfl, rfl, rfl, rfl, trivial⟩
    · skip
      refine z_aload_n hZ (pc := 15) dX11_is_15 rfl ?_
      refine zy_callV hY (pc := 16) (As := []) dX11_is_16 lk_X11_215 mn_J0_length_8abf5 mv_J0_length_8abf5 (c_J0_length hj) (sO hj) rfl rfl (Nat.le_of_ble_eq_true rfl) (by decide) (by decide) (Nat.zero_le _) (Nat.zero_le _) ?_
      refine z_aload_n hZ (pc := 19) dX11_is_19 rfl ?_
      refine gM_31 hZ (pc := 20) fl_X11_206 dX11_is_20 ?_
      refine z_top h31 ?_
      refine z_aload_n hZ (pc := 23) dX11_is_23 rfl ?_
      refine gM_30 hZ (pc := 24) fl_X11_180 dX11_is_24 ?_
      refine z_top h30 ?_
      refine z_isub hZ (pc := 27) dX11_is_27 ?_
      refine z_top (y := nI (eNd t n (tokS t n i) - tokS t n i)) (pk_sub hse) ?_
      refine z_icmp_ne hZ (pc := 28) (tgt := 35) dX11_is_28 rfl (fun c28 => ?_) (fun c28 => ?_)
      · skip
        have h0 : isT t n (tokS t n i) j = false := by
          rw [isT, show decide (wdL t (tokS t n i) (eNd t n (tokS t n i) - tokS t n i) = wr j) = false from decide_eq_false (wd_ne1 (fun z => c28 (by rw [z]))), Bool.and_false]
        refine z_iconst hZ (pc := 35) (v := 0) dX11_is_35 (by decide) ?_
        refine q_istore_n_4_2 hZ (pc := 36) dX11_is_36 rfl ?_
        refine z_iconst hZ (pc := 37) (v := 0) dX11_is_37 (by decide) ?_
        refine q_istore_n_4_3 hZ (pc := 38) dX11_is_38 rfl ?_
        have lp39 : ∀ (f k : Nat) (b : Bool), (wr j).length - k < f → ((b = true ∧ tcM t n (tokS t n i) = 1 ∧ eNd t n (tokS t n i) - tokS t n i = (wr j).length ∧ k ≤ (wr j).length ∧ ∀ q, q < k → t (tokS t n i + q) = (wr j).getD q 0) ∨ (b = false ∧ isT t n (tokS t n i) j = false)) → Z 0 0 (WM r a cA s0 s1 v g) [some (.ref r), some (.ref (aK j)), some (.int (bI b)), some (.int (nI k))] [] 39 := by
          intro f
          induction f with
          | zero => intro k b hf; exact absurd hf (Nat.not_lt_zero _)
          | succ f ih39 =>
            intro k b hf hI
            refine z_iload_n hZ (pc := 39) dX11_is_39 rfl ?_
            refine z_if_eq hZ (pc := 40) (tgt := 82) dX11_is_40 rfl (fun c40 => ?_) (fun c40 => ?_)
            · skip
              refine z_iload_n hZ (pc := 82) dX11_is_82 rfl ?_
              refine zr_i hZ (pc := 83) dX11_is_83 FitR.bI ?_
              have hb0 : b = false := bI_eq.mp c40
              exact ⟨rfl, rfl, by
                rcases hI with ⟨hb1, -⟩ | ⟨-, h1⟩
                · rw [hb0] at hb1; cases hb1
                · rw [← hT2, h1, hb0]⟩
            · skip
              obtain ⟨-, j1, j2, j3, j4⟩ : b = true ∧ tcM t n (tokS t n i) = 1 ∧ eNd t n (tokS t n i) - tokS t n i = (wr j).length ∧ k ≤ (wr j).length ∧ ∀ q, q < k → t (tokS t n i + q) = (wr j).getD q 0 := by
                rcases hI with x | ⟨hb0, -⟩
                · exact x
                · rw [bI_ne c40] at hb0; cases hb0
              refine z_iload_n hZ (pc := 43) dX11_is_43 rfl ?_
              refine z_aload_n hZ (pc := 44) dX11_is_44 rfl ?_
              refine zy_callV hY (pc := 45) (As := []) dX11_is_45 lk_X11_215 mn_J0_length_8abf5 mv_J0_length_8abf5 (c_J0_length hj) (sO hj) rfl rfl (Nat.le_of_ble_eq_true rfl) (by decide) (by decide) (Nat.zero_le _) (Nat.zero_le _) ?_
              refine z_icmp_ge hZ (pc := 48) (tgt := 82) dX11_is_48 rfl (fun c48 => ?_) (fun c48 => ?_)
              · skip
                refine z_iload_n hZ (pc := 82) dX11_is_82 rfl ?_
                refine zr_i hZ (pc := 83) dX11_is_83 FitR.bI ?_
                exact ⟨rfl, rfl, by
                  have e1 : k = (wr j).length := lp_ge rfl hwn j3 c48
                  rw [bI_ne c40, ← hT2, isT, decide_eq_true j1, decide_eq_true (wd_eq j2 (fun q hq => j4 q (by omega)))]; rfl⟩
              · skip
                have hl : k < (wr j).length := lp_lt rfl hwn j3 c48
                refine z_aload_n hZ (pc := 51) dX11_is_51 rfl ?_
                refine z_iload_n hZ (pc := 52) dX11_is_52 rfl ?_
                refine zy_callV hY (pc := 53) (As := [.int (nI k)]) dX11_is_53 lk_X11_219 mn_J0_charAt_5068e mv_J0_charAt_5068e (c_J0_charAt hj hl) (sO hj) rfl rfl (Nat.le_of_ble_eq_true rfl) (by decide) (by decide) (Nat.zero_le _) (Nat.zero_le _) ?_
                refine z_aload_n hZ (pc := 56) dX11_is_56 rfl ?_
                refine gM_24 hZ (pc := 57) fl_X11_95 dX11_is_57 ?_
                refine z_aload_n hZ (pc := 60) dX11_is_60 rfl ?_
                refine gM_30 hZ (pc := 61) fl_X11_180 dX11_is_61 ?_
                refine z_top h30 ?_
                refine z_iload_n hZ (pc := 64) dX11_is_64 rfl ?_
                refine z_iadd hZ (pc := 65) dX11_is_65 ?_
                refine z_top (y := nI (tokS t n i + k)) (nI_add _ _) ?_
                refine lMn_24 hZ (pc := 66) dX11_is_66 (by omega) ?_
                refine z_icmp_ne hZ (pc := 67) (tgt := 74) dX11_is_67 rfl (fun c67 => ?_) (fun c67 => ?_)
                · skip
                  refine z_iconst hZ (pc := 74) (v := 0) dX11_is_74 (by decide) ?_
                  refine q_istore_n_4_2 hZ (pc := 75) dX11_is_75 rfl ?_
                  refine q_iinc_4_3 hZ (pc := 76) dX11_is_76 rfl ?_
                  refine z_goto hZ (pc := 79) (tgt := 39) dX11_is_79 rfl ?_
                  exact z_back hZ (ih39 (k + 1) false (by omega) (Or.inr ⟨rfl, by rw [isT, show decide (wdL t (tokS t n i) (eNd t n (tokS t n i) - tokS t n i) = wr j) = false from decide_eq_false (wd_ne2 (k := k) (by omega) (fun z => c67 (by rw [h24, z]))), Bool.and_false]⟩)) rfl ⟨rfl, rfl, rfl, zi (nI_inc _), trivial⟩
                · skip
                  refine z_iconst hZ (pc := 70) (v := 1) dX11_is_70 (by decide) ?_
                  refine z_goto hZ (pc := 71) (tgt := 75) dX11_is_71 rfl ?_
                  refine q_istore_n_4_2 hZ (pc := 75) dX11_is_75 rfl ?_
                  refine q_iinc_4_3 hZ (pc := 76) dX11_is_76 rfl ?_
                  refine z_goto hZ (pc := 79) (tgt := 39) dX11_is_79 rfl ?_
                  exact z_back hZ (ih39 (k + 1) true (by omega) (Or.inl ⟨rfl, j1, j2, hl, lt_s j4 (by rw [h24] at c67; exact c67.symm)⟩)) rfl ⟨rfl, rfl, rfl, zi (nI_inc _), trivial⟩
        exact z_back hZ (lp39 ((wr j).length + 1) 0 false (by omega) (Or.inr ⟨rfl, h0⟩)) rfl ⟨rfl, rfl, rfl, rfl, trivial⟩
      · skip
        have h0 : tcM t n (tokS t n i) = 1 ∧ eNd t n (tokS t n i) - tokS t n i = (wr j).length := ⟨by rw [← h28]; exact c12, ((nI_eq hwn (by omega)).mp c28).symm⟩
        refine z_iconst hZ (pc := 31) (v := 1) dX11_is_31 (by decide) ?_
        refine z_goto hZ (pc := 32) (tgt := 36) dX11_is_32 rfl ?_
        refine q_istore_n_4_2 hZ (pc := 36) dX11_is_36 rfl ?_
        refine z_iconst hZ (pc := 37) (v := 0) dX11_is_37 (by decide) ?_
        refine q_istore_n_4_3 hZ (pc := 38) dX11_is_38 rfl ?_
        have lp39 : ∀ (f k : Nat) (b : Bool), (wr j).length - k < f → ((b = true ∧ tcM t n (tokS t n i) = 1 ∧ eNd t n (tokS t n i) - tokS t n i = (wr j).length ∧ k ≤ (wr j).length ∧ ∀ q, q < k → t (tokS t n i + q) = (wr j).getD q 0) ∨ (b = false ∧ isT t n (tokS t n i) j = false)) → Z 0 0 (WM r a cA s0 s1 v g) [some (.ref r), some (.ref (aK j)), some (.int (bI b)), some (.int (nI k))] [] 39 := by
          intro f
          induction f with
          | zero => intro k b hf; exact absurd hf (Nat.not_lt_zero _)
          | succ f ih39 =>
            intro k b hf hI
            refine z_iload_n hZ (pc := 39) dX11_is_39 rfl ?_
            refine z_if_eq hZ (pc := 40) (tgt := 82) dX11_is_40 rfl (fun c40 => ?_) (fun c40 => ?_)
            · skip
              refine z_iload_n hZ (pc := 82) dX11_is_82 rfl ?_
              refine zr_i hZ (pc := 83) dX11_is_83 FitR.bI ?_
              have hb0 : b = false := bI_eq.mp c40
              exact ⟨rfl, rfl, by
                rcases hI with ⟨hb1, -⟩ | ⟨-, h1⟩
                · rw [hb0] at hb1; cases hb1
                · rw [← hT2, h1, hb0]⟩
            · skip
              obtain ⟨-, j1, j2, j3, j4⟩ : b = true ∧ tcM t n (tokS t n i) = 1 ∧ eNd t n (tokS t n i) - tokS t n i = (wr j).length ∧ k ≤ (wr j).length ∧ ∀ q, q < k → t (tokS t n i + q) = (wr j).getD q 0 := by
                rcases hI with x | ⟨hb0, -⟩
                · exact x
                · rw [bI_ne c40] at hb0; cases hb0
              refine z_iload_n hZ (pc := 43) dX11_is_43 rfl ?_
              refine z_aload_n hZ (pc := 44) dX11_is_44 rfl ?_
              refine zy_callV hY (pc := 45) (As := []) dX11_is_45 lk_X11_215 mn_J0_length_8abf5 mv_J0_length_8abf5 (c_J0_length hj) (sO hj) rfl rfl (Nat.le_of_ble_eq_true rfl) (by decide) (by decide) (Nat.zero_le _) (Nat.zero_le _) ?_
              refine z_icmp_ge hZ (pc := 48) (tgt := 82) dX11_is_48 rfl (fun c48 => ?_) (fun c48 => ?_)
              · skip
                refine z_iload_n hZ (pc := 82) dX11_is_82 rfl ?_
                refine zr_i hZ (pc := 83) dX11_is_83 FitR.bI ?_
                exact ⟨rfl, rfl, by
                  have e1 : k = (wr j).length := lp_ge rfl hwn j3 c48
                  rw [bI_ne c40, ← hT2, isT, decide_eq_true j1, decide_eq_true (wd_eq j2 (fun q hq => j4 q (by omega)))]; rfl⟩
              · skip
                have hl : k < (wr j).length := lp_lt rfl hwn j3 c48
                refine z_aload_n hZ (pc := 51) dX11_is_51 rfl ?_
                refine z_iload_n hZ (pc := 52) dX11_is_52 rfl ?_
                refine zy_callV hY (pc := 53) (As := [.int (nI k)]) dX11_is_53 lk_X11_219 mn_J0_charAt_5068e mv_J0_charAt_5068e (c_J0_charAt hj hl) (sO hj) rfl rfl (Nat.le_of_ble_eq_true rfl) (by decide) (by decide) (Nat.zero_le _) (Nat.zero_le _) ?_
                refine z_aload_n hZ (pc := 56) dX11_is_56 rfl ?_
                refine gM_24 hZ (pc := 57) fl_X11_95 dX11_is_57 ?_
                refine z_aload_n hZ (pc := 60) dX11_is_60 rfl ?_
                refine gM_30 hZ (pc := 61) fl_X11_180 dX11_is_61 ?_
                refine z_top h30 ?_
                refine z_iload_n hZ (pc := 64) dX11_is_64 rfl ?_
                refine z_iadd hZ (pc := 65) dX11_is_65 ?_
                refine z_top (y := nI (tokS t n i + k)) (nI_add _ _) ?_
                refine lMn_24 hZ (pc := 66) dX11_is_66 (by omega) ?_
                refine z_icmp_ne hZ (pc := 67) (tgt := 74) dX11_is_67 rfl (fun c67 => ?_) (fun c67 => ?_)
                · skip
                  refine z_iconst hZ (pc := 74) (v := 0) dX11_is_74 (by decide) ?_
                  refine q_istore_n_4_2 hZ (pc := 75) dX11_is_75 rfl ?_
                  refine q_iinc_4_3 hZ (pc := 76) dX11_is_76 rfl ?_
                  refine z_goto hZ (pc := 79) (tgt := 39) dX11_is_79 rfl ?_
                  exact z_back hZ (ih39 (k + 1) false (by omega) (Or.inr ⟨rfl, by rw [isT, show decide (wdL t (tokS t n i) (eNd t n (tokS t n i) - tokS t n i) = wr j) = false from decide_eq_false (wd_ne2 (k := k) (by omega) (fun z => c67 (by rw [h24, z]))), Bool.and_false]⟩)) rfl ⟨rfl, rfl, rfl, zi (nI_inc _), trivial⟩
                · skip
                  refine z_iconst hZ (pc := 70) (v := 1) dX11_is_70 (by decide) ?_
                  refine z_goto hZ (pc := 71) (tgt := 75) dX11_is_71 rfl ?_
                  refine q_istore_n_4_2 hZ (pc := 75) dX11_is_75 rfl ?_
                  refine q_iinc_4_3 hZ (pc := 76) dX11_is_76 rfl ?_
                  refine z_goto hZ (pc := 79) (tgt := 39) dX11_is_79 rfl ?_
                  exact z_back hZ (ih39 (k + 1) true (by omega) (Or.inl ⟨rfl, j1, j2, hl, lt_s j4 (by rw [h24] at c67; exact c67.symm)⟩)) rfl ⟨rfl, rfl, rfl, zi (nI_inc _), trivial⟩
        exact z_back hZ (lp39 ((wr j).length + 1) 0 true (by omega) (Or.inl ⟨rfl, h0.1, h0.2, Nat.zero_le _, fun q hq => absurd hq (Nat.not_lt_zero _)⟩)) rfl ⟨rfl, rfl, rfl, rfl, trivial⟩
theorem c_X11_is_b {l : Launch} {D : va_G} {cA : Nat → ClassId} {r : Nat} {a : Nat → Nat} {s0 s1 : Nat → Option Nat} {v : ZV} {g : ZG} {x : Nat} (hb : ¬ v 32 = 0) : MG l D cA (WM r a cA s0 s1) yX11_is cX11_is 4 (some .boolean) 0 [(.ref r), (.ref x)] v g (PF v g (some (.int 0))) := by
  refine MG.of (by decide) rfl (Nat.le_of_ble_eq_true rfl) (by simp [Value.category]) (fun Z hZ => ?_)
  refine z_aload_n hZ (pc := 0) dX11_is_0 rfl ?_
  refine gM_32 hZ (pc := 1) fl_X11_209 dX11_is_1 ?_
  refine z_if_ne hZ (pc := 4) (tgt := 35) dX11_is_4 rfl (fun _ => ?_) (fun c4 => absurd c4 hb)
  refine z_iconst hZ (pc := 35) (v := 0) dX11_is_35 (by decide) ?_
  refine q_istore_n_4_2 hZ (pc := 36) dX11_is_36 rfl ?_
  refine z_iconst hZ (pc := 37) (v := 0) dX11_is_37 (by decide) ?_
  refine q_istore_n_4_3 hZ (pc := 38) dX11_is_38 rfl ?_
  refine z_iload_n hZ (pc := 39) dX11_is_39 rfl ?_
  refine z_if_eq hZ (pc := 40) (tgt := 82) dX11_is_40 rfl (fun _ => ?_) (fun c40 => absurd c40 (by decide))
  refine z_iload_n hZ (pc := 82) dX11_is_82 rfl ?_
  refine zr_i hZ (pc := 83) dX11_is_83 FitR.b0 ?_
  exact ⟨rfl, rfl, rfl⟩
theorem c_X11_which_v {l : Launch} {D : va_G} {cA : Nat → ClassId} {r : Nat} {a : Nat → Nat} {s0 s1 : Nat → Option Nat} {v : ZV} {g : ZG} {aK aV : Nat → Nat} {t : Nat → Int32} {n m i : Nat} {K N : Nat → Int32} {L : List Int32} (hG : GM t n m K N) (hM : MI t n m v g i L) (hs : ∀ k, k < 7 → s1 k = some (aK (k))) : MGY l D cA aK aV (WM r a cA s0 s1) yX11_which cX11_which 3 (some .int) 5 [(.ref r), (.ref (a 1))] v g (fun v2 g2 r => v2 = v ∧ g2 = g ∧ ∃ x, r = some (.int x) ∧ ((∃ k, k < 7 ∧ x = nI k ∧ K i = kcN (k)) ∨ (x = -1 ∧ ∀ k, k < 7 → ¬ K i = kcN (k)))) := by
  refine MGY.of (by decide) rfl (Nat.le_of_ble_eq_true rfl) (by simp [Value.category]) (fun Z hY => ?_)
  have hZ := hY.toZR
  refine z_iconst hZ (pc := 0) (v := 0) dX11_which_0 (by decide) ?_
  refine q_istore_n_3_2 hZ (pc := 1) dX11_which_1 rfl ?_
  have lp2 : ∀ (f k : Nat), k ≤ 7 → 7 - k < f → (∀ q, q < k → ¬ K i = kcN (q)) → Z 0 0 (WM r a cA s0 s1 v g) [some (.ref r), some (.ref (a 1)), some (.int (nI k))] [] 2 := by
    intro f
    induction f with
    | zero => intro k _ hf; exact absurd hf (Nat.not_lt_zero _)
    | succ f ih2 =>
      intro k hk hf hno
      refine z_iload_n hZ (pc := 2) dX11_which_2 rfl ?_
      refine z_aload_n hZ (pc := 3) dX11_which_3 rfl ?_
      refine z_alen hZ (pc := 4) dX11_which_4 (q0 := 2) (t0 := 3) rfl rfl rfl ?_
      refine z_icmp_ge hZ (pc := 5) (tgt := 26) dX11_which_5 rfl (fun c5 => ?_) (fun c5 => ?_)
      · skip
        have ek : k = 7 := lp_ge rfl (by decide) hk c5
        subst ek
        refine z_iconst hZ (pc := 26) (v := (-1)) dX11_which_26 (by decide) ?_
        refine zr_i hZ (pc := 27) dX11_which_27 FitR.int ?_
        exact ⟨rfl, rfl, _, rfl, Or.inr ⟨rfl, hno⟩⟩
      · skip
        have hk5 : k < 7 := lp_lt rfl (by decide) hk c5
        refine z_aload_n hZ (pc := 8) dX11_which_8 rfl ?_
        refine z_aload_n hZ (pc := 9) dX11_which_9 rfl ?_
        refine z_iload_n hZ (pc := 10) dX11_which_10 rfl ?_
        refine z_aald hZ (pc := 11) (q0 := 2) (n := 7) dX11_which_11 rfl hk5 (by decide) (hs k hk5) ?_
        refine cVY hY (pc := 12) dX11_which_12 lk_X11_223 mn_X11_is mv_X11_is (c_X11_is (j := k) hG hM (by omega)) rc_M rfl rfl (Nat.le_of_ble_eq_true rfl) (by decide) (by decide) (Nat.zero_le _) (Nat.zero_le _) (fun v2 g2 r h => ?_)
        obtain ⟨e1, e2, rfl⟩ := h
        subst v2
        subst g2
        refine z_if_eq hZ (pc := 15) (tgt := 20) dX11_which_15 rfl (fun c15 => ?_) (fun c15 => ?_)
        · skip
          refine q_iinc_3_2 hZ (pc := 20) dX11_which_20 rfl ?_
          refine z_goto hZ (pc := 23) (tgt := 2) dX11_which_23 rfl ?_
          exact z_back hZ (ih2 (k + 1) hk5 (by omega) (lt_s hno (bD0 c15))) rfl ⟨rfl, rfl, zi (nI_inc _), trivial⟩
        · skip
          refine z_iload_n hZ (pc := 18) dX11_which_18 rfl ?_
          refine zr_i hZ (pc := 19) dX11_which_19 FitR.int ?_
          exact ⟨rfl, rfl, _, rfl, Or.inl ⟨k, hk5, rfl, bD1 c15⟩⟩
  exact z_back hZ (lp2 8 0 (Nat.zero_le _) (by decide) (fun q hq => absurd hq (Nat.not_lt_zero _))) rfl ⟨rfl, rfl, rfl, trivial⟩
theorem c_X11_which_c {l : Launch} {D : va_G} {cA : Nat → ClassId} {r : Nat} {a : Nat → Nat} {s0 s1 : Nat → Option Nat} {v : ZV} {g : ZG} {aK aV : Nat → Nat} {t : Nat → Int32} {n m i : Nat} {K N : Nat → Int32} {L : List Int32} (hG : GM t n m K N) (hM : MI t n m v g i L) (hs : ∀ k, k < 5 → s0 k = some (aK (clN k))) : MGY l D cA aK aV (WM r a cA s0 s1) yX11_which cX11_which 3 (some .int) 5 [(.ref r), (.ref (a 0))] v g (fun v2 g2 r => v2 = v ∧ g2 = g ∧ ∃ x, r = some (.int x) ∧ ((∃ k, k < 5 ∧ x = nI k ∧ K i = kcN (clN k)) ∨ (x = -1 ∧ ∀ k, k < 5 → ¬ K i = kcN (clN k)))) := by
  refine MGY.of (by decide) rfl (Nat.le_of_ble_eq_true rfl) (by simp [Value.category]) (fun Z hY => ?_)
  have hZ := hY.toZR
  refine z_iconst hZ (pc := 0) (v := 0) dX11_which_0 (by decide) ?_
  refine q_istore_n_3_2 hZ (pc := 1) dX11_which_1 rfl ?_
  have lp2 : ∀ (f k : Nat), k ≤ 5 → 5 - k < f → (∀ q, q < k → ¬ K i = kcN (clN q)) → Z 0 0 (WM r a cA s0 s1 v g) [some (.ref r), some (.ref (a 0)), some (.int (nI k))] [] 2 := by
    intro f
    induction f with
    | zero => intro k _ hf; exact absurd hf (Nat.not_lt_zero _)
    | succ f ih2 =>
      intro k hk hf hno
      refine z_iload_n hZ (pc := 2) dX11_which_2 rfl ?_
      refine z_aload_n hZ (pc := 3) dX11_which_3 rfl ?_
      refine z_alen hZ (pc := 4) dX11_which_4 (q0 := 1) (t0 := 3) rfl rfl rfl ?_
      refine z_icmp_ge hZ (pc := 5) (tgt := 26) dX11_which_5 rfl (fun c5 => ?_) (fun c5 => ?_)
      · skip
        have ek : k = 5 := lp_ge rfl (by decide) hk c5
        subst ek
        refine z_iconst hZ (pc := 26) (v := (-1)) dX11_which_26 (by decide) ?_
        refine zr_i hZ (pc := 27) dX11_which_27 FitR.int ?_
        exact ⟨rfl, rfl, _, rfl, Or.inr ⟨rfl, hno⟩⟩
      · skip
        have hk5 : k < 5 := lp_lt rfl (by decide) hk c5
        refine z_aload_n hZ (pc := 8) dX11_which_8 rfl ?_
        refine z_aload_n hZ (pc := 9) dX11_which_9 rfl ?_
        refine z_iload_n hZ (pc := 10) dX11_which_10 rfl ?_
        refine z_aald hZ (pc := 11) (q0 := 1) (n := 5) dX11_which_11 rfl hk5 (by decide) (hs k hk5) ?_
        refine cVY hY (pc := 12) dX11_which_12 lk_X11_223 mn_X11_is mv_X11_is (c_X11_is (j := clN k) hG hM (clN_lt k hk5)) rc_M rfl rfl (Nat.le_of_ble_eq_true rfl) (by decide) (by decide) (Nat.zero_le _) (Nat.zero_le _) (fun v2 g2 r h => ?_)
        obtain ⟨e1, e2, rfl⟩ := h
        subst v2
        subst g2
        refine z_if_eq hZ (pc := 15) (tgt := 20) dX11_which_15 rfl (fun c15 => ?_) (fun c15 => ?_)
        · skip
          refine q_iinc_3_2 hZ (pc := 20) dX11_which_20 rfl ?_
          refine z_goto hZ (pc := 23) (tgt := 2) dX11_which_23 rfl ?_
          exact z_back hZ (ih2 (k + 1) hk5 (by omega) (lt_s hno (bD0 c15))) rfl ⟨rfl, rfl, zi (nI_inc _), trivial⟩
        · skip
          refine z_iload_n hZ (pc := 18) dX11_which_18 rfl ?_
          refine zr_i hZ (pc := 19) dX11_which_19 FitR.int ?_
          exact ⟨rfl, rfl, _, rfl, Or.inl ⟨k, hk5, rfl, bD1 c15⟩⟩
  exact z_back hZ (lp2 6 0 (Nat.zero_le _) (by decide) (fun q hq => absurd hq (Nat.not_lt_zero _))) rfl ⟨rfl, rfl, rfl, trivial⟩
