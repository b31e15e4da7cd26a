/-! the invariant: the class's memory I, T, R beside the reference's M -/
def kRw (I : Nat → Nat → Int32) (p : Nat) (c : Nat → Int32) (L P : Nat) : Prop := vRow c L P ∧ kLw I c L P ∧ kE (I p) (I (p + 1)) c L P ∧ kD (I p) (I (p + 2)) c 0 P
theorem kD_row {a q c c' : Nat → Int32} {r : Int32} {P : Nat} (hP : P ≤ 6) (h : ∀ x, x < 74 → c' x = c x) (hD : kD a q c r P) : kD a q c' r P := by
  obtain ⟨D0, D1, D2, D3, D4, Dq⟩ := hD
  refine ⟨?_, ?_, ?_, ?_, ?_, ?_⟩
  · rw [h _ (by omega)]; exact D0
  · rw [h _ (by omega)]; exact D1
  · rw [h _ (by omega)]; exact D2
  · rw [h _ (by omega)]; exact D3
  · rw [h _ (by omega), h _ (by omega)]; exact D4
  · intro j hj; rw [h _ (by omega)]; exact Dq j hj
theorem vRow_row {c c' : Nat → Int32} {L P : Nat} (h : ∀ x, x < 74 → c' x = c x) (hv : vRow c L P) : vRow c' L P := by
  obtain ⟨hL, hP, h0, h1, h3, h4, h5, hpol⟩ := hv
  refine ⟨hL, hP, ?_, ?_, ?_, ?_, ?_, ?_⟩
  · rw [h _ (by omega)]; exact h0
  · rw [h _ (by omega)]; exact h1
  · rw [h _ (by omega)]; exact h3
  · intro l hl k hk
    rw [h _ (by omega)]; exact h4 l hl k hk
  · intro l hl
    rw [h _ (by omega), h _ (by omega)]; exact h5 l hl
  · intro j hj
    exact vPol_congr (fun x h1 h2 => h _ (by omega)) (hpol j hj)
theorem kRw_row {I : Nat → Nat → Int32} {p : Nat} {c c' : Nat → Int32} {L P : Nat} (h : ∀ x, x < 74 → c' x = c x) (hr : kRw I p c L P) : kRw I p c' L P := by
  obtain ⟨hv, hl, hE, hD⟩ := hr
  have hL := hv.1
  have hP := hv.2.1
  exact ⟨vRow_row h hv, kLw_congr (fun i hi k hk => h _ (by omega)) (fun l hl k hk => h _ (by omega)) hl, kE_congr hL rfl rfl (fun j hj => h _ (by omega)) (fun l hl => ⟨h _ (by omega), h _ (by omega)⟩) hE, kD_row hP h hD⟩
theorem kLw_I {I I' : Nat → Nat → Int32} {c : Nat → Int32} {L P : Nat} (h : ∀ x, 12 ≤ x → x < 20 → I' x = I x) (hl : kLw I c L P) : kLw I' c L P := by
  unfold kLw
  rw [h 12 (by omega) (by omega), h 13 (by omega) (by omega), h 15 (by omega) (by omega), h 16 (by omega) (by omega), h 17 (by omega) (by omega), h 18 (by omega) (by omega), h 19 (by omega) (by omega)]
  exact hl
theorem kRw_I {I I' : Nat → Nat → Int32} {p : Nat} {c : Nat → Int32} {L P : Nat} (h : ∀ x, 12 ≤ x → x < 20 → I' x = I x) (h0 : I' p = I p) (h1 : I' (p + 1) = I (p + 1)) (h2 : I' (p + 2) = I (p + 2)) (hr : kRw I p c L P) : kRw I' p c L P := by
  obtain ⟨hv, hl, hE, hD⟩ := hr
  unfold kRw
  rw [h0, h1, h2]
  exact ⟨hv, kLw_I h hl, hE, hD⟩
theorem kRw_copy {I I' : Nat → Nat → Int32} {p q : Nat} {c : Nat → Int32} {L P : Nat} (h : ∀ x, 12 ≤ x → x < 20 → I' x = I x) (h0 : ∀ i, i < 7 → I' p i = I q i) (h1 : ∀ i, i < 4 → I' (p + 1) i = I (q + 1) i) (h2 : ∀ i, i < 6 → I' (p + 2) i = I (q + 2) i) (hr : kRw I q c L P) : kRw I' p c L P := by
  obtain ⟨hv, hl, ⟨e0, e1, e2, e3⟩, ⟨D0, D1, D2, D3, D4, Dq⟩⟩ := hr
  have hL := hv.1
  have hP := hv.2.1
  refine ⟨hv, kLw_I h hl, ⟨?_, ?_, ?_, ?_⟩, ⟨?_, ?_, ?_, ?_, ?_, ?_⟩⟩
  · rw [h0 _ (by omega)]; exact e0
  · rw [h0 _ (by omega)]; exact e1
  · rw [h0 _ (by omega)]; exact e2
  · intro l hl; rw [h1 _ (by omega)]; exact e3 l hl
  · rw [h0 _ (by omega)]; exact D0
  · rw [h0 _ (by omega)]; exact D1
  · rw [h0 _ (by omega)]; exact D2
  · rw [h0 _ (by omega)]; exact D3
  · rw [h0 _ (by omega)]; exact D4
  · intro j hj; rw [h2 _ (by omega)]; exact Dq j hj
def k_sl (R : Nat → Nat → Option Nat) (k : Nat) : Option Nat := if k < 30 then R 24 k else R 39 (k - 30)
/-- references to States made by calls -/
def kRef (T : Nat → Nat × Nat) (R : Nat → Nat → Option Nat) (n : Nat) : Prop := aSh T R ∧ 55 ≤ n ∧ (∀ k, k < 32 → ∀ q, k_sl R k = some q → stT T R q ∧ 55 ≤ q ∧ q + 2 < n) ∧ ∀ k k', k < 32 → k' < 32 → k ≠ k' → ∀ q q', k_sl R k = some q → k_sl R k' = some q' → q + 2 < q' ∨ q' + 2 < q
/-- the office as it is -/
def kNow (I M : Nat → Nat → Int32) (L P : Nat) : Prop := kRw I 20 (M 42) L P ∧ bd (M 42 2) 90099 ∧ bd (M 42 7) 2147483647 ∧ I 0 8 = M 42 7
def kTxt (I M : Nat → Nat → Int32) : Prop := I 1 1 = M 41 9 ∧ ∃ t, t ≤ 250 ∧ I 1 3 = nI t ∧ M 41 8 = nI t ∧ ∀ i, i < t → I 10 i = M 48 i ∧ bd (M 48 i) 255
def kSee (I M : Nat → Nat → Int32) : Prop := ∃ w g b, w ≤ 8 ∧ g ≤ 3 ∧ b ≤ 20 ∧ I 31 0 = nI w ∧ M 41 11 = nI w ∧ I 31 1 = nI g ∧ M 41 13 = nI g ∧ I 31 2 = nI b ∧ M 41 15 = nI b ∧ (∀ i, i < w → I 32 i = M 49 i) ∧ (∀ i, i < g → I 33 i = M 50 i) ∧ ∀ i, i < b → I 34 i = M 51 i
def kPst (I : Nat → Nat → Int32) (R : Nat → Nat → Option Nat) (M : Nat → Nat → Int32) (L P : Nat) : Prop := ∃ u x, u ≤ 30 ∧ x < 30 ∧ I 23 2 = nI u ∧ M 41 4 = nI u ∧ I 23 1 = nI x ∧ ∀ i, i < u → ∃ q, R 24 ((x + 30 - u + i) % 30) = some q ∧ kRw I q (fun y => M 45 (74 * i + y)) L P ∧ bd (M 45 (74 * i + 2)) 90099
/-- bit i of the images kept -/
def kbt (x : Int32) (i : Nat) : Int32 := (x >>> (nI i &&& 31)) &&& 1
def kImg (I : Nat → Nat → Int32) (R : Nat → Nat → Option Nat) (M : Nat → Nat → Int32) (L P : Nat) : Prop := (∃ z, z < 4 ∧ I 0 11 = nI z) ∧ ∀ i, i < 2 → (M 47 i = 0 ∧ kbt (I 0 11) i = 0) ∨ (M 47 i = 1 ∧ ¬ kbt (I 0 11) i = 0 ∧ ∃ q, R 39 i = some q ∧ kRw I q (fun y => M 46 (74 * i + y)) L P ∧ bd (M 46 (74 * i + 2)) 90099 ∧ bd (M 46 (74 * i + 7)) 2147483647 ∧ I 40 i = M 46 (74 * i + 7))
def kInv (T : Nat → Nat × Nat) (I : Nat → Nat → Int32) (R : Nat → Nat → Option Nat) (n : Nat) (M : Nat → Nat → Int32) : Prop := kRef T R n ∧ kTxt I M ∧ kSee I M ∧ ∃ L P, kNow I M L P ∧ kPst I R M L P ∧ kImg I R M L P
theorem kTxt_c {I I' M M' : Nat → Nat → Int32} (h1 : I' 1 = I 1) (h2 : I' 10 = I 10) (h3 : M' 41 8 = M 41 8) (h4 : M' 41 9 = M 41 9) (h5 : M' 48 = M 48) (h : kTxt I M) : kTxt I' M' := by
  unfold kTxt
  rw [h1, h2, h3, h4, h5]
  exact h
theorem kSee_c {I I' M M' : Nat → Nat → Int32} (h1 : I' 31 = I 31) (h2 : I' 32 = I 32) (h3 : I' 33 = I 33) (h4 : I' 34 = I 34) (h5 : M' 41 11 = M 41 11) (h6 : M' 41 13 = M 41 13) (h7 : M' 41 15 = M 41 15) (h8 : M' 49 = M 49) (h9 : M' 50 = M 50) (h10 : M' 51 = M 51) (h : kSee I M) : kSee I' M' := by
  unfold kSee
  rw [h1, h2, h3, h4, h5, h6, h7, h8, h9, h10]
  exact h
theorem kNow_c {I I' M M' : Nat → Nat → Int32} {L P : Nat} (h0 : I' 0 8 = I 0 8) (h : ∀ x, 12 ≤ x → x < 23 → I' x = I x) (h42 : M' 42 = M 42) (hn : kNow I M L P) : kNow I' M' L P := by
  unfold kNow
  rw [h0, h42]
  exact ⟨kRw_I (fun x h1 h2 => h x (by omega) (by omega)) (h 20 (by omega) (by omega)) (h 21 (by omega) (by omega)) (h 22 (by omega) (by omega)) hn.1, hn.2⟩
theorem kPst_c {T : Nat → Nat × Nat} {n : Nat} {I I' M M' : Nat → Nat → Int32} {R : Nat → Nat → Option Nat} {L P : Nat} (hr : kRef T R n) (h23 : I' 23 = I 23) (h : ∀ x, (12 ≤ x ∧ x < 20) ∨ (55 ≤ x ∧ x < n) → I' x = I x) (h4 : M' 41 4 = M 41 4) (h45 : M' 45 = M 45) (hp : kPst I R M L P) : kPst I' R M' L P := by
  obtain ⟨u, x, hu, hx, e1, e2, e3, e4⟩ := hp
  refine ⟨u, x, hu, hx, by rw [h23]; exact e1, by rw [h4]; exact e2, by rw [h23]; exact e3, fun i hi => ?_⟩
  obtain ⟨q, hq, r, b⟩ := e4 i hi
  obtain ⟨-, hq1, hq2⟩ := hr.2.2.1 ((x + 30 - u + i) % 30) (by omega) q (by unfold k_sl; rw [if_pos (by omega)]; exact hq)
  rw [h45]
  exact ⟨q, hq, kRw_I (fun y h1 h2 => h y (by omega)) (h q (by omega)) (h (q + 1) (by omega)) (h (q + 2) (by omega)) r, b⟩
theorem kImg_c {T : Nat → Nat × Nat} {n : Nat} {I I' M M' : Nat → Nat → Int32} {R : Nat → Nat → Option Nat} {L P : Nat} (hr : kRef T R n) (h11 : I' 0 11 = I 0 11) (h40 : I' 40 = I 40) (h : ∀ x, (12 ≤ x ∧ x < 20) ∨ (55 ≤ x ∧ x < n) → I' x = I x) (h46 : M' 46 = M 46) (h47 : M' 47 = M 47) (hp : kImg I R M L P) : kImg I' R M' L P := by
  refine ⟨by rw [h11]; exact hp.1, ?_⟩
  intro i hi
  rw [h11, h40, h46, h47]
  rcases hp.2 i hi with g | ⟨g1, g0, q, hq, r, g2⟩
  · exact Or.inl g
  · obtain ⟨-, hq1, hq2⟩ := hr.2.2.1 (i + 30) (by omega) q (by unfold k_sl; rw [if_neg (by omega), Nat.add_sub_cancel]; exact hq)
    exact Or.inr ⟨g1, g0, q, hq, kRw_I (fun y h1 h2 => h y (by omega)) (h q (by omega)) (h (q + 1) (by omega)) (h (q + 2) (by omega)) r, g2⟩
/-- scratch places -/
theorem kInv_c {T : Nat → Nat × Nat} {n : Nat} {I I' M M' : Nat → Nat → Int32} {R : Nat → Nat → Option Nat} (h : ∀ x, x ≠ 26 → x ≠ 28 → x ≠ 29 → x ≠ 30 → x ≠ 35 → x ≠ 36 → x ≠ 37 → x ≠ 38 → x < 41 ∨ 55 ≤ x → I' x = I x) (hM : ∀ x, 42 ≤ x → x < 52 → x ≠ 43 → x ≠ 44 → M' x = M x) (h41 : ∀ x, x < 17 → M' 41 x = M 41 x) (hi : kInv T I R n M) : kInv T I' R n M' := by
  obtain ⟨r, t, e, L, P, a, b, c⟩ := hi
  have g : ∀ x, x ≠ 26 → x ≠ 28 → x ≠ 29 → x ≠ 30 → x ≠ 35 → x ≠ 36 → x ≠ 37 → x ≠ 38 → x < 41 → I' x = I x := fun x a1 a2 a3 a4 a5 a6 a7 a8 a9 => h x a1 a2 a3 a4 a5 a6 a7 a8 (Or.inl a9)
  refine ⟨r, kTxt_c ?_ ?_ ?_ ?_ ?_ t, kSee_c ?_ ?_ ?_ ?_ ?_ ?_ ?_ ?_ ?_ ?_ e, L, P, kNow_c ?_ ?_ ?_ a, kPst_c r ?_ ?_ ?_ ?_ b, kImg_c r ?_ ?_ ?_ ?_ ?_ c⟩
  · exact g 1 (by omega) (by omega) (by omega) (by omega) (by omega) (by omega) (by omega) (by omega) (by omega)
  · exact g 10 (by omega) (by omega) (by omega) (by omega) (by omega) (by omega) (by omega) (by omega) (by omega)
  · exact h41 8 (by omega)
  · exact h41 9 (by omega)
  · exact hM 48 (by omega) (by omega) (by omega) (by omega)
  · exact g 31 (by omega) (by omega) (by omega) (by omega) (by omega) (by omega) (by omega) (by omega) (by omega)
  · exact g 32 (by omega) (by omega) (by omega) (by omega) (by omega) (by omega) (by omega) (by omega) (by omega)
  · exact g 33 (by omega) (by omega) (by omega) (by omega) (by omega) (by omega) (by omega) (by omega) (by omega)
  · exact g 34 (by omega) (by omega) (by omega) (by omega) (by omega) (by omega) (by omega) (by omega) (by omega)
  · exact h41 11 (by omega)
  · exact h41 13 (by omega)
  · exact h41 15 (by omega)
  · exact hM 49 (by omega) (by omega) (by omega) (by omega)
  · exact hM 50 (by omega) (by omega) (by omega) (by omega)
  · exact hM 51 (by omega) (by omega) (by omega) (by omega)
  · rw [g 0 (by omega) (by omega) (by omega) (by omega) (by omega) (by omega) (by omega) (by omega) (by omega)]
  · intro x h1 h2
    exact g x (by omega) (by omega) (by omega) (by omega) (by omega) (by omega) (by omega) (by omega) (by omega)
  · exact hM 42 (by omega) (by omega) (by omega) (by omega)
  · exact g 23 (by omega) (by omega) (by omega) (by omega) (by omega) (by omega) (by omega) (by omega) (by omega)
  · intro x h1
    exact h x (by omega) (by omega) (by omega) (by omega) (by omega) (by omega) (by omega) (by omega) (by omega)
  · exact h41 4 (by omega)
  · exact hM 45 (by omega) (by omega) (by omega) (by omega)
  · rw [g 0 (by omega) (by omega) (by omega) (by omega) (by omega) (by omega) (by omega) (by omega) (by omega)]
  · exact g 40 (by omega) (by omega) (by omega) (by omega) (by omega) (by omega) (by omega) (by omega) (by omega)
  · intro x h1
    exact h x (by omega) (by omega) (by omega) (by omega) (by omega) (by omega) (by omega) (by omega) (by omega)
  · exact hM 46 (by omega) (by omega) (by omega) (by omega)
  · exact hM 47 (by omega) (by omega) (by omega) (by omega)
/-- a call of both -/
def kCall (F G : aF) (vs : List Value) (m : aM) : Prop := ∃ v T1 I1 J1 R1 n1 s1 I2 J2, F (.ref 0 :: vs) m = some (some (.int v), (T1, I1, J1, R1, n1, s1)) ∧ G (.ref 41 :: vs) (T1, I1, J1, R1, n1, s1) = some (some (.int v), (T1, I2, J2, R1, n1, s1)) ∧ kInv T1 I2 R1 n1 I2 ∧ mN m ≤ n1 ∧ n1 ≤ mN m + 297 ∧ mS m ≤ s1 ∧ s1 ≤ mS m + 1881
/-- a call without States made -/
theorem kCall_s {T : Nat → Nat × Nat} {I : Nat → Nat → Int32} {J : Nat → Nat → Int64} {R : Nat → Nat → Option Nat} {n s : Nat} {F G : aF} {vs : List Value} (v : Int32) (I1 : Nat → Nat → Int32) (I2 : Nat → Nat → Int32) (J2 : Nat → Nat → Int64) (h1 : F (.ref 0 :: vs) (T, I, J, R, n, s) = some (some (.int v), (T, I1, J, R, n, s))) (h2 : G (.ref 41 :: vs) (T, I1, J, R, n, s) = some (some (.int v), (T, I2, J2, R, n, s))) (hi : kInv T I2 R n I2) : kCall F G vs (T, I, J, R, n, s) :=
  ⟨v, T, I1, J, R, n, s, I2, J2, h1, h2, hi, Nat.le_refl _, Nat.le_add_right _ _, Nat.le_refl _, Nat.le_add_right _ _⟩
/-- a call that changes nothing -/
theorem kCall_0 {T : Nat → Nat × Nat} {I : Nat → Nat → Int32} {J : Nat → Nat → Int64} {R : Nat → Nat → Option Nat} {n s : Nat} {F G : aF} {vs : List Value} (v : Int32) (h1 : F (.ref 0 :: vs) (T, I, J, R, n, s) = some (some (.int v), (T, I, J, R, n, s))) (h2 : G (.ref 41 :: vs) (T, I, J, R, n, s) = some (some (.int v), (T, I, J, R, n, s))) (hi : kInv T I R n I) : kCall F G vs (T, I, J, R, n, s) := kCall_s v I I J h1 h2 hi
