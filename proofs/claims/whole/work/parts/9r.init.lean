/-! both constructors, by evaluation -/
def a_m0 : aM := (fun _ => (99, 0), fun _ _ => 0, fun _ _ => 0, fun _ _ => none, 0, 0)
def mk_m (o : Option aRes) : aM := match o with
  | some (_, m) => m
  | none => a_m0
noncomputable def mA1 : aM := mk_m (fX8_init [.ref 0] (m_new a_m0 8 12))
theorem mA1_n : mN mA1 = 41 := rfl
theorem mA1_eq : fX8_init [.ref 0] (m_new a_m0 8 12) = some (none, mA1) := rfl
noncomputable def mA2 : aM := mk_m (fX9_init [.ref 41] (m_new mA1 9 24))
theorem mA2_eq : fX9_init [.ref 41] (m_new mA1 9 24) = some (none, mA2) := rfl
theorem mA1_m : mN (m_new a_m0 8 12) ≤ mN mA1 ∧ mS (m_new a_m0 8 12) ≤ mS mA1 := ⟨by decide +kernel, by decide +kernel⟩
theorem mA2_m : mN (m_new mA1 9 24) ≤ mN mA2 ∧ mS (m_new mA1 9 24) ≤ mS mA2 := ⟨by decide +kernel, by decide +kernel⟩
theorem mA2_n : mN mA2 = 55 := rfl
theorem mA2_s : mS mA2 ≤ 10000 := by decide +kernel
theorem mA2_T : ∀ p, p < 55 → mT mA2 p = shT.getD p (99, 0) := by decide +kernel
theorem mA2_R : ∀ q ∈ shR, mR mA2 q.1 q.2.1 = some q.2.2 := by decide +kernel
theorem mA2_S : aSh (mT mA2) (mR mA2) := ⟨mA2_T, mA2_R⟩
theorem mA2_24 : ∀ k, k < 32 → k_sl (mR mA2) k = none := by decide +kernel
theorem mA2_I : mI mA2 1 1 = -1 ∧ mI mA2 41 9 = -1 ∧ mI mA2 1 3 = 0 ∧ mI mA2 41 8 = 0 ∧ mI mA2 31 0 = 0 ∧ mI mA2 31 1 = 0 ∧ mI mA2 31 2 = 0 ∧ mI mA2 41 11 = 0 ∧ mI mA2 41 13 = 0 ∧ mI mA2 41 15 = 0 ∧ mI mA2 23 1 = 0 ∧ mI mA2 23 2 = 0 ∧ mI mA2 41 4 = 0 ∧ mI mA2 0 8 = 0 ∧ mI mA2 12 1 = 0 ∧ mI mA2 12 2 = 0 ∧ mI mA2 0 11 = 0 := by decide +kernel
theorem mA2_20 : mI mA2 20 0 = 0 ∧ mI mA2 20 1 = 0 ∧ mI mA2 20 2 = 0 ∧ mI mA2 20 3 = 0 ∧ mI mA2 20 4 = -1 ∧ mI mA2 20 5 = 0 ∧ mI mA2 20 6 = 0 := by decide +kernel
theorem mA2_42 : ∀ y, y < 74 → mI mA2 42 y = if y = 6 then -1 else 0 := by decide +kernel
theorem mA2_47 : ∀ i, i < 2 → mI mA2 47 i = 0 := by decide +kernel
theorem vRow_00 {c : Nat → Int32} (h : ∀ y, y < 74 → c y = if y = 6 then -1 else 0) : vRow c 0 0 := by
  have h' : ∀ y, y < 74 → y ≠ 6 → c y = 0 := fun y hy h6 => by rw [h y hy, if_neg h6]
  exact ⟨by omega, by omega, h' 0 (by omega) (by omega), h' 1 (by omega) (by omega), ⟨0, by omega, h' 3 (by omega) (by omega)⟩, fun l hl k hk => ⟨0, by omega, h' _ (by omega) (by omega)⟩, fun l hl => ⟨⟨0, by omega, h' _ (by omega) (by omega)⟩, ⟨0, by omega, h' _ (by omega) (by omega)⟩⟩, fun j hj => absurd hj (Nat.not_lt_zero _)⟩
/-- both are new -/
theorem kInv_new : kInv (mT mA2) (mI mA2) (mR mA2) (mN mA2) (mI mA2) := by
  obtain ⟨i1, i2, i3, i4, i5, i6, i7, i8, i9, i10, i11, i12, i13, i14, i15, i16, i17⟩ := mA2_I
  obtain ⟨a0, a1, a2, a3, a4, a5, a6⟩ := mA2_20
  have c0 : ∀ y, y < 74 → y ≠ 6 → mI mA2 42 y = 0 := fun y hy h6 => by rw [mA2_42 y hy, if_neg h6]
  refine ⟨⟨mA2_S, by rw [mA2_n]; omega, fun k hk q hq => ?_, fun k k' hk _ _ q q' hq _ => ?_⟩, ⟨by rw [i1, i2], 0, by omega, i3, i4, fun i hi => absurd hi (Nat.not_lt_zero _)⟩, ⟨0, 0, 0, by omega, by omega, by omega, i5, i8, i6, i9, i7, i10, fun i hi => absurd hi (Nat.not_lt_zero _), fun i hi => absurd hi (Nat.not_lt_zero _), fun i hi => absurd hi (Nat.not_lt_zero _)⟩, 0, 0, ⟨⟨vRow_00 mA2_42, ⟨i15, i16, fun l hl => absurd hl (Nat.not_lt_zero _), fun j hj => absurd hj (Nat.not_lt_zero _)⟩, ⟨?_, fun j hj => absurd hj (Nat.not_lt_zero _), fun l hl => ?_, fun l hl => absurd hl (Nat.not_lt_zero _)⟩, ⟨?_, ?_, ?_, ?_, ?_, fun j hj => absurd hj (Nat.not_lt_zero _)⟩⟩, ⟨0, by omega, c0 2 (by omega) (by omega)⟩, ⟨0, by omega, c0 7 (by omega) (by omega)⟩, by rw [i14, c0 7 (by omega) (by omega)]⟩, kPst_0 i11 i12 i13, ⟨⟨0, by omega, i17⟩, fun i hi => Or.inl ⟨mA2_47 i hi, by rw [i17]; exact kbt_0 i hi⟩⟩⟩
  · rw [mA2_24 k hk] at hq; cases hq
  · rw [mA2_24 k hk] at hq; cases hq
  · rw [a5]; rfl
  · rw [a6, k_set_0 l hl, c0 _ (by omega) (by omega)]
  · rw [a0, c0 2 (by omega) (by omega)]
  · rw [a1, c0 3 (by omega) (by omega)]
  · rw [a2, c0 4 (by omega) (by omega)]
  · rw [a3, c0 5 (by omega) (by omega)]
  · rw [a4, if_pos rfl, mA2_42 6 (by omega), if_pos rfl]

