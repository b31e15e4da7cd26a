/-! days without events: what is paid, as numbers -/
def sm (f : Nat → Nat) : Nat → Nat
  | 0 => 0
  | n + 1 => sm f n + f n
theorem sm_congr {f g : Nat → Nat} : ∀ n, (∀ i, i < n → f i = g i) → sm f n = sm g n := by
  intro n
  induction n with
  | zero => intro _; rfl
  | succ n ih => intro h; simp only [sm]; rw [ih (fun i hi => h i (by omega)), h n (by omega)]
theorem sm_add {f g : Nat → Nat} : ∀ n, sm (fun i => f i + g i) n = sm f n + sm g n := by
  intro n
  induction n with
  | zero => rfl
  | succ n ih => simp only [sm]; rw [ih]; omega
theorem sm_le {f g : Nat → Nat} : ∀ n, (∀ i, i < n → f i ≤ g i) → sm f n ≤ sm g n := by
  intro n
  induction n with
  | zero => intro _; exact Nat.le_refl _
  | succ n ih => intro h; simp only [sm]; have := ih (fun i hi => h i (by omega)); have := h n (by omega); omega
theorem sm_bd {f : Nat → Nat} {B : Nat} : ∀ n, (∀ i, i < n → f i ≤ B) → sm f n ≤ n * B := by
  intro n
  induction n with
  | zero => intro _; simp [sm]
  | succ n ih => intro h; simp only [sm]; have := ih (fun i hi => h i (by omega)); have := h n (by omega); rw [Nat.succ_mul]; omega
def an (c : Nat → Int32) (j : Nat) : Nat := (c (32 + 7 * j + 3)).toNatClampNeg
def qn (c : Nat → Int32) (j : Nat) : Nat := (c (32 + 7 * j + 5)).toNatClampNeg
theorem vRow_qn {c : Nat → Int32} {L P i : Nat} (hv : vRow c L P) (hi : i < P) : c (32 + 7 * i + 3) = nI (an c i) ∧ an c i ≤ 999 ∧ c (32 + 7 * i + 5) = nI (qn c i) ∧ qn c i < dyc c i ∧ (c (32 + 7 * i + 6) = 0 ∨ c (32 + 7 * i + 6) = 1) := by
  obtain ⟨l, k, d, am, pr, x, z, c0, g0, c1, g1, c2, g2, g2', c3, g3, c4, g4, c5, g5, c6, g6⟩ := hv.2.2.2.2.2.2.2 i hi
  have e1 : an c i = am := by unfold an; rw [c3, nI_clamp (by omega)]
  have e2 : dyc c i = d := by unfold dyc; rw [c2, nI_clamp (by omega)]
  have e3 : qn c i = x := by unfold qn; rw [c5, nI_clamp (by omega)]
  rw [e1, e2, e3, c6]
  refine ⟨c3, g3, c5, g5, ?_⟩
  rcases (by omega : z = 0 ∨ z = 1) with h | h <;> subst h
  · exact Or.inl rfl
  · exact Or.inr rfl
/-- what a policy pays on the next quiet day; its quiet behind it -/
def pj (c : Nat → Int32) (j : Nat) : Nat := if c (32 + 7 * j + 6) = 0 then (if qn c j + 1 = dyc c j then an c j else 0) else 0
def nq (c : Nat → Int32) (j : Nat) : Nat := if c (32 + 7 * j + 6) = 0 then (if qn c j + 1 = dyc c j then 0 else qn c j + 1) else qn c j
theorem k_and0 (x : Int32) : (0 : Int32) &&& x = 0 := Int32.zero_and
theorem d_pol_nz {ev : Nat → Int32} {j : Nat} {x : (Nat → Int32) × Int32} (h : ¬ x.2 = 0) : ¬ (d_pol ev j x).2 = 0 := by
  unfold d_pol
  split
  · split
    · split
      · dsimp only
        decide
      · exact h
    · exact h
  · exact h
theorem day_loop {ev c : Nat → Int32} {L P f : Nat} (hv : vRow c L P) (hev : ∀ l, l < 4 → ev l = 0) (hf : c 3 = nI f) (hf9 : f ≤ 999999) : ∀ d, d ≤ P →
    (sm (pj c) d ≤ f → (itr (d_pol ev) d 0 (c, 0)).2 = 0 ∧ (itr (d_pol ev) d 0 (c, 0)).1 3 = nI (f - sm (pj c) d) ∧ (∀ i, i < d → (itr (d_pol ev) d 0 (c, 0)).1 (32 + 7 * i + 5) = nI (nq c i)) ∧ ∀ i, d ≤ i → (itr (d_pol ev) d 0 (c, 0)).1 (32 + 7 * i + 5) = c (32 + 7 * i + 5)) ∧ (f < sm (pj c) d → ¬ (itr (d_pol ev) d 0 (c, 0)).2 = 0) := by
  have hL := hv.1
  have hP := hv.2.1
  intro d
  induction d with
  | zero =>
    intro _
    refine ⟨fun _ => ⟨rfl, hf, fun i hi => by omega, fun i _ => rfl⟩, fun h => ?_⟩
    simp only [sm] at h
    omega
  | succ d ih =>
    intro hd
    obtain ⟨ih1, ih2⟩ := ih (by omega)
    rw [itr_last, Nat.zero_add]
    obtain ⟨a1, a2, a3, a4, a5⟩ := vRow_qn hv (show d < P by omega)
    obtain ⟨f1, f2, f3, f4, f5⟩ := vRow_lf hv (show d < P by omega)
    have st : ∀ x, x ≠ 3 → x ≠ 4 → x ≠ 5 → (∀ j, x ≠ 32 + 7 * j + 5) → (itr (d_pol ev) d 0 (c, 0)).1 x = c x := fun x h3 h4 h5 hq => itr_pol_ne h3 h4 h5 hq d 0 c 0
    generalize itr (d_pol ev) d 0 (c, 0) = y at ih1 ih2 st
    obtain ⟨y1, y2⟩ := y
    dsimp only at ih1 ih2 st
    simp only [sm]
    have s0 := st (32 + 7 * d) (by omega) (by omega) (by omega) (by omega)
    have s2 := st (32 + 7 * d + 2) (by omega) (by omega) (by omega) (by omega)
    have s3 := st (32 + 7 * d + 3) (by omega) (by omega) (by omega) (by omega)
    have s6 := st (32 + 7 * d + 6) (by omega) (by omega) (by omega) (by omega)
    by_cases hle : sm (pj c) d ≤ f
    · obtain ⟨r0, fu, qd, qo⟩ := ih1 hle
      have s5 := qo d (Nat.le_refl _)
      rw [f1] at s0
      rw [f3] at s2
      rw [a1] at s3
      rw [a3] at s5
      subst r0
      have ev0 : ev (nI (lfc c d)).toNatClampNeg = 0 := by rw [nI_clamp (by omega)]; exact hev _ (by omega)
      by_cases h6 : c (32 + 7 * d + 6) = 0
      · by_cases hq : qn c d + 1 = dyc c d
        · have pjd : pj c d = an c d := by unfold pj; rw [if_pos h6, if_pos hq]
          have nqd : nq c d = 0 := by unfold nq; rw [if_pos h6, if_pos hq]
          have hq' : nI (qn c d + 1) = nI (dyc c d) := by rw [hq]
          unfold d_pol
          simp only [s6, h6, s0, ev0, k_and0, s5, s2, al1, hq', if_true, s3, fu]
          rw [pjd]
          refine ⟨fun h => ⟨?_, ?_, ?_, ?_⟩, fun h => ?_⟩
          · have m1 : ¬ nI (f - sm (pj c) d) < nI (an c d) := by rw [nI_ltI (by omega) (by omega)]; omega
            rw [if_neg m1, if_neg Int32.lt_irrefl]
          · have m1 : ¬ nI (f - sm (pj c) d) < nI (an c d) := by rw [nI_ltI (by omega) (by omega)]; omega
            simp (disch := omega) only [va_up_ne, va_up_self, m1, if_false]
            rw [pk_sub (by omega)]
            congr 1
            omega
          · intro i hi
            by_cases e : i = d
            · subst e
              simp (disch := omega) only [va_up_self]
              rw [nqd]; rfl
            · simp (disch := omega) only [va_up_ne]
              exact qd i (by omega)
          · intro i hi
            simp (disch := omega) only [va_up_ne]
            exact qo i (by omega)
          · have m1 : nI (f - sm (pj c) d) < nI (an c d) := by rw [nI_ltI (by omega) (by omega)]; omega
            rw [if_pos m1, if_pos m1]
            decide
        · have pjd : pj c d = 0 := by unfold pj; rw [if_pos h6, if_neg hq]
          have nqd : nq c d = qn c d + 1 := by unfold nq; rw [if_pos h6, if_neg hq]
          have ne : ¬ nI (qn c d + 1) = nI (dyc c d) := by rw [nI_eq (by omega) (by omega)]; exact hq
          unfold d_pol
          simp only [s6, h6, s0, ev0, k_and0, s5, s2, al1, ne, if_true, if_false]
          rw [pjd]
          refine ⟨fun h => ⟨trivial, ?_, ?_, ?_⟩, fun h => by omega⟩
          · simp (disch := omega) only [va_up_ne]
            rw [fu]
            congr 1
          · intro i hi
            by_cases e : i = d
            · subst e
              simp (disch := omega) only [va_up_self]
              rw [nqd]
            · simp (disch := omega) only [va_up_ne]
              exact qd i (by omega)
          · intro i hi
            simp (disch := omega) only [va_up_ne]
            exact qo i (by omega)
      · have pjd : pj c d = 0 := by unfold pj; rw [if_neg h6]
        have nqd : nq c d = qn c d := by unfold nq; rw [if_neg h6]
        unfold d_pol
        simp only [s6, h6, if_false]
        rw [pjd]
        refine ⟨fun h => ⟨trivial, ?_, ?_, ?_⟩, fun h => by omega⟩
        · rw [fu]
          congr 1
        · intro i hi
          by_cases e : i = d
          · subst e
            rw [nqd]
            exact s5
          · exact qd i (by omega)
        · intro i hi
          exact qo i (by omega)
    · exact ⟨fun h => by omega, fun _ => d_pol_nz (x := (y1, y2)) (ih2 (by omega))⟩
/-- a quiet day -/
theorem day_quiet {ev c : Nat → Int32} {L P f : Nat} (hv : vRow c L P) (hev : ∀ l, l < 4 → ev l = 0) (hf : c 3 = nI f) (hf9 : f ≤ 999999) :
    (sm (pj c) P ≤ f → (d_pass ev P c).2 = 0 ∧ (d_pass ev P c).1 3 = nI (f - sm (pj c) P) ∧ ∀ i, i < P → (d_pass ev P c).1 (32 + 7 * i + 5) = nI (nq c i)) ∧ (f < sm (pj c) P → ¬ (d_pass ev P c).2 = 0) := by
  have hv' : vRow (va_up c 2 (c 2 + 1)) L P := vRow_congr (fun x h2 _ _ _ _ => va_up_ne _ _ h2) hv
  have e1 : ∀ j, qn (va_up c 2 (c 2 + 1)) j = qn c j := fun j => by unfold qn; rw [va_up_ne _ _ (by omega)]
  have e2 : ∀ j, dyc (va_up c 2 (c 2 + 1)) j = dyc c j := fun j => by unfold dyc; rw [va_up_ne _ _ (by omega)]
  have e3 : ∀ j, an (va_up c 2 (c 2 + 1)) j = an c j := fun j => by unfold an; rw [va_up_ne _ _ (by omega)]
  have e4 : pj (va_up c 2 (c 2 + 1)) = pj c := by funext j; unfold pj; rw [e1, e2, e3, va_up_ne _ _ (by omega)]
  have e5 : nq (va_up c 2 (c 2 + 1)) = nq c := by funext j; unfold nq; rw [e1, e2, va_up_ne _ _ (by omega)]
  obtain ⟨g1, g2⟩ := day_loop (ev := ev) (f := f) hv' hev (by rw [va_up_ne _ _ (by omega)]; exact hf) hf9 P (Nat.le_refl _)
  rw [e4] at g1 g2
  rw [e5] at g1
  unfold d_pass
  dsimp only
  refine ⟨fun h => ?_, fun h => g2 h⟩
  obtain ⟨a, b, cc, -⟩ := g1 h
  refine ⟨a, ?_, fun i hi => ?_⟩
  · rw [va_up_ne _ _ (by omega)]; exact b
  · rw [va_up_ne _ _ (by omega)]; exact cc i hi
