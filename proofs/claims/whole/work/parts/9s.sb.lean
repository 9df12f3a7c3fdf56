theorem Sim0 : SimE vI gI vMi gM0 := by
  refine ⟨1, 0, 0, 0, 0, 0, 0, 0, fun _ _ => 0, fun _ => 0, ⟨by omega, by omega, by omega, by omega, by omega, by omega, by omega, by omega, by omega⟩, ⟨⟨rfl, rfl, rfl, rfl, rfl, rfl, rfl, rfl⟩, ⟨rfl, rfl, rfl, rfl, rfl, rfl, rfl, rfl⟩, rfl, rfl, Or.inl rfl⟩, ⟨fun t j ht hj => absurd ht (Nat.not_lt_zero _), fun t ht => absurd ht (Nat.not_lt_zero _), fun s t _ ht => absurd ht (Nat.not_lt_zero _)⟩, ⟨fun k hk => absurd hk (Nat.not_lt_zero _), fun k hk => absurd hk (Nat.not_lt_zero _), fun k hk => absurd hk (Nat.not_lt_zero _), fun k hk => rfl, rfl, fun q => (by decide : (0 : Int32) ≤ 0)⟩, ⟨fun k hk => absurd hk (Nat.not_lt_zero _), fun q => Or.inl rfl, fun x y hx hy => ?_⟩, ⟨⟨0, by omega, rfl, Or.inr ⟨rfl, rfl⟩, fun k hk => absurd hk (Nat.not_lt_zero _)⟩, rfl⟩, ⟨⟨0, by omega, rfl, fun k hk => absurd hk (Nat.not_lt_zero _)⟩, fun q => absurd rfl q⟩, ⟨0, fun _ => 0, rfl, rfl, rfl, by omega, by omega, fun k hk => absurd hk (Nat.not_lt_zero _), fun k hk => absurd hk (Nat.not_lt_zero _)⟩, ⟨fun _ => 0, rfl, rfl, by omega, by omega, fun e he => absurd he (by omega)⟩⟩
  have e : gM0 6 (10 * x + y) = if x = y then 0 else 10 := by
    show clW (100 * 0) (gMi 6) 100 (10 * x + y) = _
    unfold clW
    rw [if_pos (by omega), show (10 * x + y - 100 * 0) / 10 = x by omega, show (10 * x + y - 100 * 0) % 10 = y by omega]
  have e2 : gI 20 (10 * x + y) = 10 := by
    show fillf 100 (fun _ => 0) 10 (10 * x + y) = 10
    unfold fillf
    rw [if_pos (by omega)]
  rw [e, e2]
  refine ⟨rfl, ?_⟩
  by_cases h : x = y
  · rw [if_pos h]; exact ⟨0, by omega, rfl⟩
  · rw [if_neg h]; exact ⟨10, by omega, rfl⟩
