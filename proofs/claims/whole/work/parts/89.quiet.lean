theorem k_div1 {m d : Nat} (hd : 0 < d) : (m + 1) / d = m / d + (if m % d + 1 = d then 1 else 0) ∧ (m + 1) % d = if m % d + 1 = d then 0 else m % d + 1 := by
  have h1 := Nat.div_add_mod m d
  have h2 := Nat.mod_lt m hd
  by_cases h : m % d + 1 = d
  · rw [if_pos h, if_pos h]
    have e : m + 1 = d * (m / d + 1) := by rw [Nat.mul_add, Nat.mul_one]; omega
    rw [e, Nat.mul_div_cancel_left _ hd, Nat.mul_mod_right]
    exact ⟨rfl, rfl⟩
  · rw [if_neg h, if_neg h]
    have e : m + 1 = (m % d + 1) + d * (m / d) := by omega
    rw [e, Nat.add_mul_div_left _ _ hd, Nat.add_mul_mod_self_left, Nat.div_eq_of_lt (by omega), Nat.mod_eq_of_lt (by omega)]
    exact ⟨by omega, rfl⟩
/-- what a policy has paid in t quiet days -/
def pd (c : Nat → Int32) (t j : Nat) : Nat := if c (32 + 7 * j + 6) = 0 then (qn c j + t) / dyc c j * an c j else 0
theorem pd_mono {c : Nat → Int32} {P t t' : Nat} (h : t ≤ t') : sm (pd c t) P ≤ sm (pd c t') P := by
  apply sm_le
  intro i _
  unfold pd
  split
  · exact Nat.mul_le_mul_right _ (Nat.div_le_div_right (by omega))
  · exact Nat.le_refl _
def c_t (ev : Nat → Int32) (P : Nat) (c : Nat → Int32) (t : Nat) : Nat → Int32 := itr (fun _ x => (d_pass ev P x).1) t 0 c
theorem c_t_s {ev c : Nat → Int32} {P t : Nat} : c_t ev P c (t + 1) = (d_pass ev P (c_t ev P c t)).1 := itr_last t 0 c
theorem days_quiet {ev c : Nat → Int32} {L P f : Nat} (hv : vRow c L P) (hev : ∀ l, l < 4 → ev l = 0) (hf : c 3 = nI f) (hf9 : f ≤ 999999) : ∀ t, sm (pd c t) P ≤ f →
    vRow (c_t ev P c t) L P ∧ c_t ev P c t 3 = nI (f - sm (pd c t) P) ∧ (∀ j, j < P → qn (c_t ev P c t) j = if c (32 + 7 * j + 6) = 0 then (qn c j + t) % dyc c j else qn c j) ∧ ∀ x, x ≠ 2 → x ≠ 3 → x ≠ 4 → x ≠ 5 → x ≠ 6 → (∀ j, x ≠ 32 + 7 * j + 5) → c_t ev P c t x = c x := by
  have hP := hv.2.1
  intro t
  induction t with
  | zero =>
    intro h
    have z : sm (pd c 0) P = 0 := by
      have : ∀ i, i < P → pd c 0 i = 0 := fun i hi => by
        obtain ⟨a1, a2, a3, a4, a5⟩ := vRow_qn hv hi
        unfold pd
        split
        · rw [Nat.add_zero, Nat.div_eq_of_lt a4, Nat.zero_mul]
        · rfl
      have := sm_bd (f := pd c 0) (B := 0) P (fun i hi => by rw [this i hi]; exact Nat.le_refl _)
      omega
    refine ⟨hv, ?_, ?_, fun x _ _ _ _ _ _ => rfl⟩
    · rw [z, Nat.sub_zero]; exact hf
    · intro j hj
      obtain ⟨a1, a2, a3, a4, a5⟩ := vRow_qn hv hj
      split
      · rw [Nat.add_zero, Nat.mod_eq_of_lt a4]; rfl
      · rfl
  | succ t ih =>
    intro h
    have hm := pd_mono (c := c) (P := P) (show t ≤ t + 1 by omega)
    obtain ⟨v, fu, q, st⟩ := ih (by omega)
    rw [c_t_s]
    generalize c_t ev P c t = y at v fu q st
    have sd : ∀ j, dyc y j = dyc c j := fun j => by unfold dyc; rw [st _ (by omega) (by omega) (by omega) (by omega) (by omega) (by omega)]
    have sa : ∀ j, an y j = an c j := fun j => by unfold an; rw [st _ (by omega) (by omega) (by omega) (by omega) (by omega) (by omega)]
    have s6 : ∀ j, y (32 + 7 * j + 6) = c (32 + 7 * j + 6) := fun j => st _ (by omega) (by omega) (by omega) (by omega) (by omega) (by omega)
    have stp : ∀ j, j < P → pd c (t + 1) j = pd c t j + pj y j ∧ nq y j = if c (32 + 7 * j + 6) = 0 then (qn c j + (t + 1)) % dyc c j else qn c j := by
      intro j hj
      obtain ⟨f1, f2, f3, f4, f5⟩ := vRow_lf hv hj
      unfold pd pj nq
      rw [s6, sd, sa, q j hj]
      by_cases h6 : c (32 + 7 * j + 6) = 0
      · simp only [h6, if_true]
        obtain ⟨k1, k2⟩ := k_div1 (m := qn c j + t) f4
        rw [show qn c j + (t + 1) = qn c j + t + 1 by omega, k1, k2]
        refine ⟨?_, rfl⟩
        by_cases hq : (qn c j + t) % dyc c j + 1 = dyc c j
        · rw [if_pos hq, if_pos hq, Nat.add_mul, Nat.one_mul]
        · rw [if_neg hq, if_neg hq, Nat.add_zero, Nat.add_zero]
      · simp only [h6, if_false]
        exact ⟨trivial, trivial⟩
    have ss : sm (pd c (t + 1)) P = sm (pd c t) P + sm (pj y) P := by
      rw [← sm_add]
      exact sm_congr P (fun i hi => (stp i hi).1)
    obtain ⟨g1, -⟩ := day_quiet (ev := ev) (f := f - sm (pd c t) P) v hev fu (by omega)
    obtain ⟨r0, r3, r5⟩ := g1 (by omega)
    refine ⟨d_pass_v v, ?_, ?_, ?_⟩
    · rw [r3, ss]
      congr 1
      omega
    · intro j hj
      have e : qn (d_pass ev P y).1 j = nq y j := by
        unfold qn
        obtain ⟨f1, f2, f3, f4, f5⟩ := vRow_lf v hj
        obtain ⟨a1, a2, a3, a4, a5⟩ := vRow_qn v hj
        rw [r5 j hj, nI_clamp]
        unfold nq
        split
        · split <;> omega
        · omega
      rw [e, (stp j hj).2]
    · intro x h2 h3 h4 h5 h6 hq
      rw [d_pass_ne h2 h3 h4 h5 h6 hq]
      exact st x h2 h3 h4 h5 h6 hq
/-- the next day's ruin -/
theorem days_ruin {ev c : Nat → Int32} {L P f t : Nat} (hv : vRow c L P) (hev : ∀ l, l < 4 → ev l = 0) (hf : c 3 = nI f) (hf9 : f ≤ 999999) (h : sm (pd c t) P ≤ f) : (d_pass ev P (c_t ev P c t)).2 = 0 ↔ sm (pd c (t + 1)) P ≤ f := by
  obtain ⟨v, fu, q, st⟩ := days_quiet (ev := ev) hv hev hf hf9 t h
  generalize c_t ev P c t = y at v fu q st
  have sd : ∀ j, dyc y j = dyc c j := fun j => by unfold dyc; rw [st _ (by omega) (by omega) (by omega) (by omega) (by omega) (by omega)]
  have sa : ∀ j, an y j = an c j := fun j => by unfold an; rw [st _ (by omega) (by omega) (by omega) (by omega) (by omega) (by omega)]
  have s6 : ∀ j, y (32 + 7 * j + 6) = c (32 + 7 * j + 6) := fun j => st _ (by omega) (by omega) (by omega) (by omega) (by omega) (by omega)
  have ss : sm (pd c (t + 1)) P = sm (pd c t) P + sm (pj y) P := by
    rw [← sm_add]
    apply sm_congr P
    intro j hj
    obtain ⟨f1, f2, f3, f4, f5⟩ := vRow_lf hv hj
    unfold pd pj
    rw [s6, sd, sa, q j hj]
    by_cases h6 : c (32 + 7 * j + 6) = 0
    · simp only [h6, if_true]
      obtain ⟨k1, k2⟩ := k_div1 (m := qn c j + t) f4
      rw [show qn c j + (t + 1) = qn c j + t + 1 by omega, k1]
      by_cases hq : (qn c j + t) % dyc c j + 1 = dyc c j
      · rw [if_pos hq, if_pos hq, Nat.add_mul, Nat.one_mul]
      · rw [if_neg hq, if_neg hq, Nat.add_zero, Nat.add_zero]
    · simp only [h6, if_false]
  obtain ⟨g1, g2⟩ := day_quiet (ev := ev) (f := f - sm (pd c t) P) v hev fu (by omega)
  constructor
  · intro h0
    by_cases hc : sm (pj y) P ≤ f - sm (pd c t) P
    · omega
    · exact absurd h0 (g2 (by omega))
  · intro h0
    exact (g1 (by omega)).1
/-- whether it holds -/
theorem holds_iff {ev c : Nat → Int32} {L P f N : Nat} (hv : vRow c L P) (hev : ∀ l, l < 4 → ev l = 0) (hf : c 3 = nI f) (hf9 : f ≤ 999999) : (d_holds ev P N c).2 = if sm (pd c N) P ≤ f then 1 else 0 := by
  have g : ∀ d t, t + d = N → sm (pd c t) P ≤ f → (itw (fun _ x => ((d_pass ev P x.1).1, if (d_pass ev P x.1).2 = 0 then (1 : Int32) else 0)) (fun _ (x : (Nat → Int32) × Int32) => x.2) d t (c_t ev P c t, 1)).2.2 = if sm (pd c N) P ≤ f then 1 else 0 := by
    intro d
    induction d with
    | zero =>
      intro t ht hs
      have e : t = N := by omega
      subst e
      rw [if_pos hs]
      rfl
    | succ d ih =>
      intro t ht hs
      have i10' : ¬ ((1 : Int32) = 0) := by decide
      have e : itw (fun _ x => ((d_pass ev P x.1).1, if (d_pass ev P x.1).2 = 0 then (1 : Int32) else 0)) (fun _ (x : (Nat → Int32) × Int32) => x.2) (d + 1) t (c_t ev P c t, 1) = itw (fun _ x => ((d_pass ev P x.1).1, if (d_pass ev P x.1).2 = 0 then (1 : Int32) else 0)) (fun _ (x : (Nat → Int32) × Int32) => x.2) d (t + 1) (c_t ev P c (t + 1), if (d_pass ev P (c_t ev P c t)).2 = 0 then (1 : Int32) else 0) := by
        rw [c_t_s]
        exact if_neg i10'
      rw [e]
      have hr := days_ruin (t := t) hv hev hf hf9 hs
      by_cases h1 : sm (pd c (t + 1)) P ≤ f
      · rw [if_pos (hr.mpr h1)]
        exact ih (t + 1) (by omega) h1
      · rw [if_neg (fun h0 => h1 (hr.mp h0))]
        have hN : ¬ sm (pd c N) P ≤ f := fun h2 => h1 (Nat.le_trans (pd_mono (show t + 1 ≤ N by omega)) h2)
        rw [if_neg hN]
        cases d with
        | zero => rfl
        | succ d =>
          have : itw (fun _ x => ((d_pass ev P x.1).1, if (d_pass ev P x.1).2 = 0 then (1 : Int32) else 0)) (fun _ (x : (Nat → Int32) × Int32) => x.2) (d + 1) (t + 1) (c_t ev P c (t + 1), 0) = (t + 1, (c_t ev P c (t + 1), 0)) := if_pos rfl
          rw [this]
  have z : sm (pd c 0) P = 0 := by
    have : ∀ i, i < P → pd c 0 i = 0 := fun i hi => by
      obtain ⟨a1, a2, a3, a4, a5⟩ := vRow_qn hv hi
      unfold pd
      split
      · rw [Nat.add_zero, Nat.div_eq_of_lt a4, Nat.zero_mul]
      · rfl
    have := sm_bd (f := pd c 0) (B := 0) P (fun i hi => by rw [this i hi]; exact Nat.le_refl _)
    omega
  unfold d_holds
  exact g N 0 (by omega) (by omega)
