/-! bits -/
theorem k_xand (x y z : Int32) : (x ^^^ y) &&& z = (x &&& z) ^^^ (y &&& z) := by
  apply Int32.toBitVec_inj.mp
  simp only [Int32.toBitVec_and, Int32.toBitVec_xor]
  apply BitVec.eq_of_getLsbD_eq
  intro i hi
  simp only [BitVec.getLsbD_and, BitVec.getLsbD_xor]
  cases x.toBitVec.getLsbD i <;> cases y.toBitVec.getLsbD i <;> cases z.toBitVec.getLsbD i <;> rfl
theorem k_oand (x y z : Int32) : (x ||| y) &&& z = (x &&& z) ||| (y &&& z) := by
  apply Int32.toBitVec_inj.mp
  simp only [Int32.toBitVec_and, Int32.toBitVec_or]
  apply BitVec.eq_of_getLsbD_eq
  intro i hi
  simp only [BitVec.getLsbD_and, BitVec.getLsbD_or]
  cases x.toBitVec.getLsbD i <;> cases y.toBitVec.getLsbD i <;> cases z.toBitVec.getLsbD i <;> rfl
theorem k_set_x (x y : Int32) (l : Nat) : k_set (x ^^^ y) l = k_set x l ^^^ k_set y l := by
  unfold k_set
  rw [Int32.shiftRight_xor, k_xand]
theorem k_set_o (x y : Int32) (l : Nat) : k_set (x ||| y) l = k_set x l ||| k_set y l := by
  unfold k_set
  rw [Int32.shiftRight_or, k_oand]
theorem k_set_on : ∀ l, l < 4 → ∀ a, a < 4 → ∀ v, v < 16 → k_set (nI v <<< (nI (4 * a) &&& 31)) l = if l = a then nI v else 0 := by decide +kernel
theorem k_set_0 : ∀ l, l < 4 → k_set 0 l = 0 := by decide +kernel
/-- one life's set is put in -/
theorem k_set_put {E : Int32} {a v l e : Nat} (ha : a < 4) (hl : l < 4) (hv : v < 16) (he : e < 16) (h : k_set E a = nI e) : k_set (E ^^^ (nI e <<< (nI (4 * a) &&& 31)) ^^^ (nI v <<< (nI (4 * a) &&& 31))) l = if l = a then nI v else k_set E l := by
  rw [k_set_x, k_set_x, k_set_on l hl a ha e he, k_set_on l hl a ha v hv]
  by_cases e1 : l = a
  · subst e1
    simp only [if_true]
    rw [h, Int32.xor_self, Int32.zero_xor]
  · simp only [if_neg e1]
    rw [Int32.xor_zero, Int32.xor_zero]
theorem k_set_15 (E : Int32) (l : Nat) : ∃ e, e < 16 ∧ k_set E l = nI e := by
  obtain ⟨j, h1, h2⟩ := pk_andE (E >>> (nI (4 * l) &&& 31)) (m := 15) 4 (by decide)
  exact ⟨j, h1, h2⟩
theorem lap_step : ∀ j, j < 6 → ∀ S, S < 64 → nI (S % 2 ^ j) ||| (nI (S / 2 ^ j % 2) <<< (nI j &&& 31)) = nI (S % 2 ^ (j + 1)) := by decide +kernel
theorem lap_has : ∀ j, j < 6 → ∀ S, S < 64 → k_has (nI S) j = nI (S / 2 ^ j % 2) := by decide +kernel
theorem lap_flip : ∀ j, j < 6 → ∀ S, S < 64 → nI S ^^^ ((1 : Int32) <<< (nI j &&& 31)) = nI (S ^^^ 2 ^ j) := by decide +kernel
theorem lap_bit : ∀ j, j < 6 → ∀ i, i < 6 → ∀ S, S < 64 → (S ^^^ 2 ^ j) / 2 ^ i % 2 = if i = j then 1 - S / 2 ^ i % 2 else S / 2 ^ i % 2 := by decide +kernel
theorem lap_lt : ∀ P, P ≤ 6 → ∀ j, j < P → ∀ S, S < 64 → S < 2 ^ P → S ^^^ 2 ^ j < 2 ^ P := by decide +kernel
theorem lap_one1 : ∀ P, P < 6 → ∀ z, z < 2 → ∀ S, S < 64 → S < 2 ^ P → S + z * 2 ^ P < 2 ^ (P + 1) ∧ (S + z * 2 ^ P) / 2 ^ P % 2 = z := by decide +kernel
theorem lap_one2 : ∀ P, P < 6 → ∀ z, z < 2 → ∀ j, j < P → ∀ S, S < 64 → S < 2 ^ P → (S + z * 2 ^ P) / 2 ^ j % 2 = S / 2 ^ j % 2 := by decide +kernel
/-- who lapsed, as a number -/
theorem lap_of {c : Nat → Int32} {P S : Nat} (hP : P ≤ 6) (hS : S < 2 ^ P) (h : ∀ j, j < P → c (32 + 7 * j + 6) = nI (S / 2 ^ j % 2)) : d_lapsed c P = nI S := by
  have h64 : S < 64 := Nat.lt_of_lt_of_le hS (Nat.pow_le_pow_right (by omega) hP)
  have g : ∀ d, d ≤ P → itr (fun j v => v ||| (c (32 + 7 * j + 6) <<< (nI j &&& 31))) d 0 0 = nI (S % 2 ^ d) := by
    intro d
    induction d with
    | zero => intro _; simp only [itr, Nat.pow_zero, Nat.mod_one]; rfl
    | succ d ih =>
      intro hd
      rw [itr_last, ih (by omega), Nat.zero_add, h d (by omega)]
      exact lap_step d (by omega) S h64
  unfold d_lapsed
  rw [g P (Nat.le_refl _), Nat.mod_eq_of_lt hS]
theorem lap_ex {c : Nat → Int32} : ∀ P, P ≤ 6 → (∀ j, j < P → ∃ z, z < 2 ∧ c (32 + 7 * j + 6) = nI z) → ∃ S, S < 2 ^ P ∧ ∀ j, j < P → c (32 + 7 * j + 6) = nI (S / 2 ^ j % 2) := by
  intro P
  induction P with
  | zero => intro _ _; exact ⟨0, by decide, fun j hj => by omega⟩
  | succ P ih =>
    intro hP h
    obtain ⟨S, hS, hb⟩ := ih (by omega) (fun j hj => h j (by omega))
    obtain ⟨z, hz, hc⟩ := h P (by omega)
    have h64 : S < 64 := Nat.lt_of_lt_of_le hS (Nat.pow_le_pow_right (n := 2) (by omega) (by omega : P ≤ 6))
    obtain ⟨g1, g2⟩ := lap_one1 P (by omega) z hz S h64 hS
    refine ⟨S + z * 2 ^ P, g1, fun j hj => ?_⟩
    by_cases e : j = P
    · subst e
      rw [g2]; exact hc
    · rw [lap_one2 P (by omega) z hz j (by omega) S h64 hS]; exact hb j (by omega)
/-- of a row -/
theorem lap_row {c : Nat → Int32} {L P : Nat} (hv : vRow c L P) : ∃ S, S < 2 ^ P ∧ S < 64 ∧ d_lapsed c P = nI S ∧ ∀ j, j < P → c (32 + 7 * j + 6) = nI (S / 2 ^ j % 2) := by
  obtain ⟨hL, hP, -, -, -, -, -, hpol⟩ := hv
  obtain ⟨S, hS, hb⟩ := lap_ex (c := c) P hP (fun j hj => by
    obtain ⟨l, k, d, am, pr, x, z, c0, g0, c1, g1, c2, g2, g2', c3, g3, c4, g4, c5, g5, c6, g6⟩ := hpol j hj
    exact ⟨z, by omega, c6⟩)
  exact ⟨S, hS, Nat.lt_of_lt_of_le hS (Nat.pow_le_pow_right (n := 2) (by omega) hP), lap_of hP hS hb, hb⟩
