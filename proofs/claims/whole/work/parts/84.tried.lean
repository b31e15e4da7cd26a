/-! days that are tried -/
theorem wh_relx {σ : Type} {c : aC} {b : aP} (V : Nat → σ → List Value → aM → Prop) (f : Nat → σ → σ) (st : Nat → σ → Int32) (Out : Nat → Option aRes → Prop) (P : Nat)
    (h1 : ∀ (x : σ) (L : List Value) (m : aM) (k1 k2 : aK), V P x L m → c k1 k2 L m = k2 L m)
    (h2 : ∀ (j : Nat) (x : σ) (L : List Value) (m : aM), j < P → V j x L m → (st j x = 0 ∧ ∃ L' m', (∀ K k2 : aK, c (b K) k2 L m = K L' m') ∧ V (j + 1) (f j x) L' m') ∨ (¬ st j x = 0 ∧ ∃ r, (∀ K k2 : aK, c (b K) k2 L m = r) ∧ Out j r)) :
    ∀ (d j : Nat) (x : σ) (N : Nat) (L : List Value) (m : aM), j + d = P → d < N → V j x L m → (∃ i r, itx f st (fun j _ => nI j) (fun _ _ => -1) d j x = nI i ∧ (∀ k : aK, s_wh c b N k L m = r) ∧ Out i r) ∨ (itx f st (fun j _ => nI j) (fun _ _ => -1) d j x = -1 ∧ ∃ L' m' y, (∀ k : aK, s_wh c b N k L m = k L' m') ∧ V P y L' m') := by
  intro d
  induction d with
  | zero =>
    intro j x N L m hj hN hv
    obtain ⟨N, rfl⟩ : ∃ N', N = N' + 1 := ⟨N - 1, by omega⟩
    have e : j = P := by omega
    subst e
    exact Or.inr ⟨rfl, L, m, x, fun k => by rw [wh_s, h1 _ _ _ _ _ hv], hv⟩
  | succ d ih =>
    intro j x N L m hj hN hv
    obtain ⟨N, rfl⟩ : ∃ N', N = N' + 1 := ⟨N - 1, by omega⟩
    rcases h2 j x L m (by omega) hv with ⟨s0, L1, m1, e1, v1⟩ | ⟨s0, r, e1, o1⟩
    · have es : itx f st (fun j _ => nI j) (fun _ _ => (-1 : Int32)) (d + 1) j x = itx f st (fun j _ => nI j) (fun _ _ => -1) d (j + 1) (f j x) := if_pos s0
      rw [es]
      rcases ih (j + 1) (f j x) N L1 m1 (by omega) (by omega) v1 with ⟨i, r, q1, q2, q3⟩ | ⟨q1, L2, m2, y, q2, q3⟩
      · exact Or.inl ⟨i, r, q1, fun k => by rw [wh_s, e1, q2], q3⟩
      · exact Or.inr ⟨q1, L2, m2, y, fun k => by rw [wh_s, e1, q2], q3⟩
    · have es : itx f st (fun j _ => nI j) (fun _ _ => (-1 : Int32)) (d + 1) j x = nI j := if_neg s0
      exact Or.inl ⟨j, r, es, fun k => by rw [wh_s, e1], o1⟩
theorem va_3 {I : Nat → Nat → Int32} {p : Nat} {a h q a' q' : Nat → Int32} : va_up (va_up (va_up (va_up (va_up I p a) (p + 1) h) (p + 2) q) p a') (p + 2) q' = va_up (va_up (va_up I p a') (p + 1) h) (p + 2) q' := by
  funext x
  by_cases h2 : x = p + 2
  · subst h2; rw [va_up_self, va_up_self]
  · rw [va_up_ne _ _ h2, va_up_ne _ _ h2]
    by_cases h0 : x = p
    · subst h0; rw [va_up_self, va_up_ne _ _ (by omega), va_up_self]
    · rw [va_up_ne _ _ h0, va_up_ne _ _ h2]
      by_cases h1 : x = p + 1
      · subst h1; rw [va_up_self, va_up_self]
      · rw [va_up_ne _ _ h1, va_up_ne _ _ h1, va_up_ne _ _ h0, va_up_ne _ _ h0]
/-- a tried day -/
theorem ek_tday {T : Nat → Nat × Nat} {I : Nat → Nat → Int32} {J : Nat → Nat → Int64} {R : Nat → Nat → Option Nat} {n s : Nat} (hS : aSh T R) {p : Nat} (hp : 20 ≤ p) (hst : stT T R p) {c ev a h q : Nat → Int32} {E : Int32} {L P : Nat} (hl : kLw I c L P) (hv : vRow c L P) (hb : ∀ j, j < P → k_has (a 5) j = c (32 + 7 * j + 6)) (he : ∀ l, l < 4 → k_set E l = ev l) (hD : kD a q c 0 P) :
    ∃ a' q', fX6_passDay [.ref p, .ref 12, .int E] (T, va_up (va_up (va_up I p a) (p + 1) h) (p + 2) q, J, R, n, s) = some (none, (T, va_up (va_up (va_up I p a') (p + 1) h) (p + 2) q', J, R, n, s)) ∧ kD a' q' (d_pass ev P c).1 0 P ∧ a' 5 = a 5 ∧ vRow (d_pass ev P c).1 L P ∧ kLw I (d_pass ev P c).1 L P ∧ ∀ j, j < P → k_has (a' 5) j = (d_pass ev P c).1 (32 + 7 * j + 6) := by
  have hL := hv.1
  have hP := hv.2.1
  obtain ⟨a', q', e, D, h5, h6, v⟩ := ek_passDay (I := va_up (va_up (va_up I p a) (p + 1) h) (p + 2) q) (J := J) (n := n) (s := s) (E := E) (ev := ev) hS hp hst.1 hst.2.2.1 hst.2.2.2.2 (kLw_I (fun x h1 h2 => by simp (disch := omega) only [va_up_ne]) hl) hv (by simp (disch := omega) only [va_up_ne, va_up_self]; exact hb) he (by simp (disch := omega) only [va_up_ne, va_up_self]; exact hD)
  rw [va_3] at e
  simp (disch := omega) only [va_up_ne, va_up_self] at h5
  refine ⟨a', q', e, D, h5, v, kLw_congr (fun i hi k hk => d_pass_ne (by omega) (by omega) (by omega) (by omega) (by omega) (by omega)) (fun l hl k hk => d_pass_ne (by omega) (by omega) (by omega) (by omega) (by omega) (by omega)) hl, fun j hj => ?_⟩
  rw [h5, hb j hj, d_pass_ne (by omega) (by omega) (by omega) (by omega) (by omega) (by omega)]
theorem d_sil_0 {e : Nat → Int32} {l : Nat} (hl : l < 4) : d_sil e l = 0 := by
  unfold d_sil
  simp only [itr, Nat.reduceAdd]
  rcases (by omega : l = 0 ∨ l = 1 ∨ l = 2 ∨ l = 3) with h | h | h | h <;> subst h <;> simp (disch := omega) only [va_up_self, va_up_ne]
theorem va_c6 {c : Nat → Int32} {v w : Int32} {i : Nat} (h : i ≠ 6) : va_up (va_up c 6 v) i w = va_up (va_up c i w) 6 v := va_swap (Ne.symm h)
/-- cell 6 is neither read nor written by a policy's day -/
theorem d_pol_6 {ev c : Nat → Int32} {r v : Int32} {j : Nat} : d_pol ev j (va_up c 6 v, r) = (va_up (d_pol ev j (c, r)).1 6 v, (d_pol ev j (c, r)).2) := by
  unfold d_pol
  simp (disch := omega) only [va_up_ne]
  split
  · split
    · split
      · simp (disch := omega) only [va_c6]
      · simp (disch := omega) only [va_c6]
    · simp (disch := omega) only [va_c6]
  · rfl
theorem itr_pol_6 {ev : Nat → Int32} {v : Int32} : ∀ (d j : Nat) (c : Nat → Int32) (r : Int32), itr (d_pol ev) d j (va_up c 6 v, r) = (va_up (itr (d_pol ev) d j (c, r)).1 6 v, (itr (d_pol ev) d j (c, r)).2) := by
  intro d
  induction d with
  | zero => intro j c r; rfl
  | succ d ih =>
    intro j c r
    rw [itr_s, itr_s, d_pol_6, ih]
theorem itr_pol_p {ev : Nat → Int32} {d j : Nat} {c : Nat → Int32} {r : Int32} : (itr (d_pol ev) d j (c, r)).1 6 = c 6 ∧ (itr (d_pol ev) d j (c, r)).1 2 = c 2 := ⟨itr_pol_ne (by omega) (by omega) (by omega) (by omega) d j c r, itr_pol_ne (by omega) (by omega) (by omega) (by omega) d j c r⟩
theorem d_pass_6 {ev c : Nat → Int32} {v : Int32} {P : Nat} : (d_pass ev P (va_up c 6 v)).2 = (d_pass ev P c).2 ∧ (d_pass ev P (va_up c 6 v)).1 = va_up (d_pass ev P c).1 6 (if (d_pass ev P c).2 = 0 then v else if v = -1 then c 2 + 1 else v) := by
  unfold d_pass
  dsimp only
  have e : va_up (va_up c 6 v) 2 (va_up c 6 v 2 + 1) = va_up (va_up c 2 (c 2 + 1)) 6 v := by
    rw [va_up_ne _ _ (by omega), va_swap (by omega)]
  rw [e, itr_pol_6]
  dsimp only
  refine ⟨rfl, ?_⟩
  simp (disch := omega) only [va_twice, va_up_self, va_up_ne, itr_pol_p.2]
