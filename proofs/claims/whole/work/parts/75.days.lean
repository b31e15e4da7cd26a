theorem d_dn : ∀ (d : Nat) (c : Nat → Int32) (x : Nat), itr (fun j c => va_up c j (c (j + 74))) d 0 c x = if x < d then c (x + 74) else c x := by
  intro d
  induction d with
  | zero => intro c x; rw [if_neg (by omega)]; rfl
  | succ d ih =>
    intro c x
    rw [itr_last, Nat.zero_add]
    by_cases e : x = d
    · subst e
      rw [va_up_self, if_pos (by omega), ih, if_neg (by omega)]
    · rw [va_up_ne _ _ e, ih]
      by_cases h : x < d
      · rw [if_pos h, if_pos (by omega)]
      · rw [if_neg h, if_neg (by omega)]
theorem d_notes_ne {M : Nat → Nat → Int32} {p : Nat} (h1 : p ≠ 41) (h2 : p ≠ 45) : d_notes M p = M p := by
  unfold d_notes
  split <;> rw [va_up_ne _ _ h1, va_up_ne _ _ h2]
theorem d_notes_41f {M : Nat → Nat → Int32} {f : Nat} (h : f ≠ 4) : d_notes M 41 f = M 41 f := by
  unfold d_notes
  split <;> rw [va_up_self, va_up_ne _ _ h]
theorem d_notes_4 {M : Nat → Nat → Int32} {u : Nat} (hu3 : u ≤ 30) (hu : M 41 4 = nI u) : d_notes M 41 4 = nI (if u = 30 then 30 else u + 1) := by
  unfold d_notes
  rw [hu]
  by_cases h : u = 30
  · subst h
    rw [if_pos rfl, if_pos (show nI 30 = (30 : Int32) from rfl), va_up_self, va_up_self]
  · rw [if_neg h, if_neg (by rw [lt31 30, nI_eq (by omega) (by omega)]; exact h), va_up_self, va_up_self, al1]
theorem d_notes_45 {M : Nat → Nat → Int32} {u i y : Nat} (hu3 : u ≤ 30) (hu : M 41 4 = nI u) (hy : y < 74) : d_notes M 45 (74 * i + y) = if u = 30 then (if i < 29 then M 45 (74 * (i + 1) + y) else if i = 29 then M 42 y else M 45 (74 * i + y)) else if i = u then M 42 y else M 45 (74 * i + y) := by
  unfold d_notes
  rw [hu]
  by_cases h : u = 30
  · subst h
    rw [if_pos rfl, if_pos (show nI 30 = (30 : Int32) from rfl), va_up_ne _ _ (by omega), va_up_self]
    unfold d_copy d_down
    rw [d_cp, d_dn]
    by_cases h1 : i < 29
    · rw [if_neg (by omega), if_pos (by omega), if_pos h1]
      congr 1
      omega
    · by_cases h2 : i = 29
      · subst h2
        rw [if_pos (by omega), if_neg (by omega), if_pos rfl, show 74 * 29 + y - 2146 = y by omega]
      · rw [if_neg (by omega), if_neg (by omega), if_neg h1, if_neg h2]
  · rw [if_neg h, if_neg (by rw [lt31 30, nI_eq (by omega) (by omega)]; exact h), va_up_ne _ _ (by omega), va_up_self, nI_clamp (by omega)]
    by_cases h1 : i = u
    · subst h1
      rw [d_copy_in hy, if_pos rfl]
    · rw [d_copy_ne (by omega), if_neg h1]
/-- the past goes on -/
theorem kPst_rem {T T1 : Nat → Nat × Nat} {R R1 : Nat → Nat → Option Nat} {n n1 q u x L P : Nat} {I I1 M : Nat → Nat → Int32} (hr : kRef T R n) (hr1 : kRef T1 R1 n1) (hq : R1 24 x = some q) (hoth : ∀ k', k' < 32 → k' ≠ x → k_sl R1 k' = k_sl R k') (hI : ∀ p, p < n → p ≠ 23 → p ≠ q → p ≠ q + 1 → p ≠ q + 2 → I1 p = I p) (hx1 : I1 23 1 = nI ((x + 1) % 30)) (hu1 : I1 23 2 = nI (if u = 30 then 30 else u + 1)) (hA : ∀ i, i < 7 → I1 q i = I 20 i) (hB : ∀ i, i < 4 → I1 (q + 1) i = I (20 + 1) i) (hQ : ∀ i, i < 6 → I1 (q + 2) i = I (20 + 2) i) (h55 : 55 ≤ q) (hn : kRw I 20 (M 42) L P) (hb2 : bd (M 42 2) 90099) (hu3 : u ≤ 30) (hx3 : x < 30) (u2 : M 41 4 = nI u) (rows : ∀ i, i < u → ∃ q, R 24 ((x + 30 - u + i) % 30) = some q ∧ kRw I q (fun y => M 45 (74 * i + y)) L P ∧ bd (M 45 (74 * i + 2)) 90099) : kPst I1 R1 (d_notes M) L P := by
  have hn55 := hr.2.1
  have old : ∀ i, i < u → (x + 30 - u + i) % 30 ≠ x → ∃ q, R1 24 ((x + 30 - u + i) % 30) = some q ∧ kRw I1 q (fun y => M 45 (74 * i + y)) L P ∧ bd (M 45 (74 * i + 2)) 90099 := by
    intro i hi hne
    obtain ⟨q2, hq2, r2, b2⟩ := rows i hi
    have hk := hoth ((x + 30 - u + i) % 30) (by omega) hne
    rw [k_sl_24 (by omega), k_sl_24 (by omega), hq2] at hk
    obtain ⟨-, g1, g2⟩ := hr.2.2.1 ((x + 30 - u + i) % 30) (by omega) q2 (by rw [k_sl_24 (by omega)]; exact hq2)
    have hdis := hr1.2.2.2 ((x + 30 - u + i) % 30) x (by omega) (by omega) hne q2 q (by rw [k_sl_24 (by omega)]; exact hk) (by rw [k_sl_24 hx3]; exact hq)
    refine ⟨q2, hk, kRw_q (T := T) (R := R) (n := n) (I := I) (fun y h1 h2 => hI y (by omega) (by omega) (by omega) (by omega) (by omega)) (fun y h1 h2 => hI y (by omega) (by omega) (by omega) (by omega) (by omega)) r2, b2⟩
  have new : kRw I1 q (M 42) L P := kRw_copy (I := I) (q := 20) (fun y h1 h2 => hI y (by omega) (by omega) (by omega) (by omega) (by omega)) hA hB hQ hn
  refine ⟨if u = 30 then 30 else u + 1, (x + 1) % 30, by split <;> omega, by omega, hu1, d_notes_4 hu3 u2, hx1, fun i hi => ?_⟩
  have c45 : ∀ y, y < 74 → d_notes M 45 (74 * i + y) = _ := fun y hy => d_notes_45 (M := M) (u := u) (i := i) hu3 u2 hy
  by_cases hu30 : u = 30
  · subst hu30
    rw [if_pos rfl] at hi
    rw [if_pos rfl]
    have es : ((x + 1) % 30 + 30 - 30 + i) % 30 = (x + 1 + i) % 30 := by omega
    rw [es]
    by_cases h29 : i = 29
    · subst h29
      have e0 : (x + 1 + 29) % 30 = x := by omega
      rw [e0]
      refine ⟨q, hq, kRw_row (fun y hy => ?_) new, ?_⟩
      · rw [c45 y hy, if_pos rfl, if_neg (by omega), if_pos rfl]
      · rw [c45 2 (by omega), if_pos rfl, if_neg (by omega), if_pos rfl]; exact hb2
    · obtain ⟨q2, hq2, r2, b2⟩ := old (i + 1) (by omega) (by omega)
      have e0 : (x + 30 - 30 + (i + 1)) % 30 = (x + 1 + i) % 30 := by congr 1; omega
      rw [e0] at hq2
      refine ⟨q2, hq2, kRw_row (fun y hy => ?_) r2, ?_⟩
      · rw [c45 y hy, if_pos rfl, if_pos (by omega)]
      · rw [c45 2 (by omega), if_pos rfl, if_pos (by omega)]; exact b2
  · rw [if_neg hu30] at hi
    rw [if_neg hu30]
    have es : ((x + 1) % 30 + 30 - (u + 1) + i) % 30 = (x + 30 - u + i) % 30 := by omega
    rw [es]
    by_cases hiu : i = u
    · subst hiu
      have e0 : (x + 30 - i + i) % 30 = x := by omega
      rw [e0]
      refine ⟨q, hq, kRw_row (fun y hy => ?_) new, ?_⟩
      · rw [c45 y hy, if_neg hu30, if_pos rfl]
      · rw [c45 2 (by omega), if_neg hu30, if_pos rfl]; exact hb2
    · obtain ⟨q2, hq2, r2, b2⟩ := old i (by omega) (by omega)
      refine ⟨q2, hq2, kRw_row (fun y hy => ?_) r2, ?_⟩
      · rw [c45 y hy, if_neg hu30, if_neg hiu]
      · rw [c45 2 (by omega), if_neg hu30, if_neg hiu]; exact b2
theorem kImg_rem {T T1 : Nat → Nat × Nat} {R R1 : Nat → Nat → Option Nat} {n n1 q x L P : Nat} {I I1 M : Nat → Nat → Int32} (hr : kRef T R n) (hr1 : kRef T1 R1 n1) (hq : R1 24 x = some q) (hx3 : x < 30) (hoth : ∀ k', k' < 32 → k' ≠ x → k_sl R1 k' = k_sl R k') (hI : ∀ p, p < n → p ≠ 23 → p ≠ q → p ≠ q + 1 → p ≠ q + 2 → I1 p = I p) (h55 : 55 ≤ q) (hc : kImg I R M L P) : kImg I1 R1 M L P := by
  have hn55 := hr.2.1
  have h0 := hI 0 (by omega) (by omega) (by omega) (by omega) (by omega)
  refine ⟨by rw [h0]; exact hc.1, ?_⟩
  intro i hi
  have hk := hoth (i + 30) (by omega) (by omega)
  rw [k_sl_39, k_sl_39] at hk
  rw [hk, h0, hI 40 (by omega) (by omega) (by omega) (by omega) (by omega)]
  rcases hc.2 i hi with g | ⟨g1, g0, q2, hq2, r2, g2⟩
  · exact Or.inl g
  · obtain ⟨-, e1, e2⟩ := hr.2.2.1 (i + 30) (by omega) q2 (by rw [k_sl_39]; exact hq2)
    have hdis := hr1.2.2.2 (i + 30) x (by omega) (by omega) (by omega) q2 q (by rw [k_sl_39, hk]; exact hq2) (by rw [k_sl_24 hx3]; exact hq)
    exact Or.inr ⟨g1, g0, q2, hq2, kRw_q (T := T) (R := R) (n := n) (I := I) (fun y h1 h2 => hI y (by omega) (by omega) (by omega) (by omega) (by omega)) (fun y h1 h2 => hI y (by omega) (by omega) (by omega) (by omega) (by omega)) r2, g2⟩
