/-! the whole text -/
def runP {σ : Type} (f : σ → σ) (stop : σ → Bool) : Nat → σ → σ
  | 0, x => x
  | d + 1, x => if stop x = true then x else runP f stop d (f x)
theorem wh_run {σ : Type} {c : aC} {b : aP} (V W : σ → List Value → aM → Prop) (f : σ → σ) (stop : σ → Bool) (μ : σ → Nat)
    (h0 : ∀ x L m, V x L m → μ x = 0 → stop x = true)
    (h1 : ∀ x L m, V x L m → stop x = true → ∃ L' m', (∀ k1 k2 : aK, c k1 k2 L m = k2 L' m') ∧ W x L' m')
    (h2 : ∀ x L m, V x L m → ¬ stop x = true → μ (f x) < μ x ∧ ∃ L' m', (∀ K k2 : aK, c (b K) k2 L m = K L' m') ∧ V (f x) L' m') :
    ∀ (d : Nat) (x : σ) (N : Nat) (L : List Value) (m : aM), μ x ≤ d → d < N → V x L m → ∃ L' m', (∀ k : aK, s_wh c b N k L m = k L' m') ∧ W (runP f stop d x) L' m' := by
  intro d
  induction d with
  | zero =>
    intro x N L m hd hN hv
    obtain ⟨N, rfl⟩ : ∃ N', N = N' + 1 := ⟨N - 1, by omega⟩
    obtain ⟨L1, m1, e1, w1⟩ := h1 x L m hv (h0 x L m hv (by omega))
    exact ⟨L1, m1, fun k => by rw [wh_s, e1], w1⟩
  | succ d ih =>
    intro x N L m hd hN hv
    obtain ⟨N, rfl⟩ : ∃ N', N = N' + 1 := ⟨N - 1, by omega⟩
    by_cases hst : stop x = true
    · obtain ⟨L1, m1, e1, w1⟩ := h1 x L m hv hst
      have er : runP f stop (d + 1) x = x := if_pos hst
      rw [er]
      exact ⟨L1, m1, fun k => by rw [wh_s, e1], w1⟩
    · obtain ⟨hμ, L1, m1, e1, v1⟩ := h2 x L m hv hst
      obtain ⟨L2, m2, e2, w2⟩ := ih (f x) N L1 m1 (by omega) (by omega) v1
      have er : runP f stop (d + 1) x = runP f stop d (f x) := if_neg hst
      rw [er]
      exact ⟨L2, m2, fun k => by rw [wh_s, e1, e2], w2⟩
/-- the draft is sound -/
def dOK (c : Nat → Int32) (L P : Nat) : Prop := vRow c L P ∧ c 2 = 0 ∧ c 4 = 0 ∧ c 5 = 0 ∧ (∀ l, l < 4 → c (8 + 6 * l + 5) = 0) ∧ ∀ j, j < P → c (32 + 7 * j + 5) = 0 ∧ c (32 + 7 * j + 6) = 0
theorem in_bd {v : Int32} {B : Nat} (hB : B < 99999) (h : ¬ d_in v 0 (nI B) = 0) : bd v B := by
  obtain ⟨a, ha, e⟩ := d_inK hB h
  exact ⟨a, ha, e⟩
theorem dOK_o {c : Nat → Int32} {L P : Nat} {v : Int32} (h : dOK c L P) (hv : ¬ d_in v 0 999 = 0) : dOK (va_up c 3 v) L P := by
  obtain ⟨⟨hL, hP, v0, v1, v3, v4, v5, vp⟩, h2, h4, h5, h6, h7⟩ := h
  obtain ⟨a, ha, e⟩ := in_bd (B := 999) (by omega) hv
  refine ⟨⟨hL, hP, by rw [va_up_ne _ _ (by omega)]; exact v0, by rw [va_up_ne _ _ (by omega)]; exact v1, by rw [va_up_self]; exact ⟨a, by omega, e⟩, ?_, ?_, ?_⟩, by rw [va_up_ne _ _ (by omega)]; exact h2, by rw [va_up_ne _ _ (by omega)]; exact h4, by rw [va_up_ne _ _ (by omega)]; exact h5, ?_, ?_⟩
  · intro l hl k hk; rw [va_up_ne _ _ (by omega)]; exact v4 l hl k hk
  · intro l hl; rw [va_up_ne _ _ (by omega), va_up_ne _ _ (by omega)]; exact v5 l hl
  · intro j hj; exact vPol_congr (fun x h1 h2 => va_up_ne _ _ (by omega)) (vp j hj)
  · intro l hl; rw [va_up_ne _ _ (by omega)]; exact h6 l hl
  · intro j hj; rw [va_up_ne _ _ (by omega), va_up_ne _ _ (by omega)]; exact h7 j hj
theorem upL_ne {L y : Nat} {v c : Nat → Int32} (h1 : y < 8 + 6 * L ∨ 8 + 6 * L + 6 ≤ y) (h0 : y ≠ 0) : upL L v c y = c y := by
  unfold upL
  rw [if_neg (by omega), if_neg (by omega), if_neg h0]
theorem upL_in {L k : Nat} {v c : Nat → Int32} (hk : k < 5) : upL L v c (8 + 6 * L + k) = v k := by
  unfold upL
  rw [if_pos (by omega), show 8 + 6 * L + k - (8 + 6 * L) = k by omega]
theorem upL_5 {L : Nat} {v c : Nat → Int32} : upL L v c (8 + 6 * L + 5) = 0 := by
  unfold upL
  rw [if_neg (by omega), if_pos rfl]
theorem upL_0 {L : Nat} {v c : Nat → Int32} : upL L v c 0 = nI (L + 1) := by
  unfold upL
  rw [if_neg (by omega), if_neg (by omega), if_pos rfl]
theorem dOK_l {c v : Nat → Int32} {L P : Nat} (hL4 : L < 4) (h : dOK c L P) (hv : ∀ k, k < 5 → ¬ d_in (v k) (lLo k) (lHi k) = 0) : dOK (upL L v c) (L + 1) P := by
  obtain ⟨⟨hL, hP, v0, v1, v3, v4, v5, vp⟩, h2, h4, h5, h6, h7⟩ := h
  have hvk : ∀ k, k < 4 → bd (v k) 200 := fun k hk => by
    have := hv k (by omega)
    have e : lHi k = nI 200 := by unfold lHi; rw [if_neg (by omega)]; rfl
    rw [e] at this
    exact in_bd (by omega) this
  have hv4 : bd (v 4) 2 := by
    have := hv 4 (by omega)
    have e : lHi 4 = nI 2 := rfl
    rw [e] at this
    exact in_bd (by omega) this
  refine ⟨⟨by omega, hP, upL_0, by rw [upL_ne (by omega) (by omega)]; exact v1, by rw [upL_ne (by omega) (by omega)]; exact v3, ?_, ?_, ?_⟩, by rw [upL_ne (by omega) (by omega)]; exact h2, by rw [upL_ne (by omega) (by omega)]; exact h4, by rw [upL_ne (by omega) (by omega)]; exact h5, ?_, ?_⟩
  · intro l hl k hk
    by_cases el : l = L
    · subst el; rw [upL_in (by omega)]; exact hvk k hk
    · rw [upL_ne (by omega) (by omega)]; exact v4 l hl k hk
  · intro l hl
    by_cases el : l = L
    · subst el; rw [upL_in (by omega), upL_5]; exact ⟨hv4, 0, by omega, rfl⟩
    · rw [upL_ne (by omega) (by omega), upL_ne (by omega) (by omega)]; exact v5 l hl
  · intro j hj
    obtain ⟨l, k, d, am, pr, x, z, c0, g0, rest⟩ := vPol_congr (c' := upL L v c) (fun x h1 h2 => upL_ne (by omega) (by omega)) (vp j hj)
    exact ⟨l, k, d, am, pr, x, z, c0, by omega, rest⟩
  · intro l hl
    by_cases el : l = L
    · subst el; exact upL_5
    · rw [upL_ne (by omega) (by omega)]; exact h6 l hl
  · intro j hj; rw [upL_ne (by omega) (by omega), upL_ne (by omega) (by omega)]; exact h7 j hj
theorem upP_ne {P y : Nat} {v c : Nat → Int32} (h1 : y < 32 + 7 * P ∨ 32 + 7 * P + 7 ≤ y) (h0 : y ≠ 1) : upP P v c y = c y := by
  unfold upP
  rw [if_neg (by omega), if_neg (by omega), if_neg (by omega), if_neg h0]
theorem upP_in {P k : Nat} {v c : Nat → Int32} (hk : k < 5) : upP P v c (32 + 7 * P + k) = v k := by
  unfold upP
  rw [if_pos (by omega), show 32 + 7 * P + k - (32 + 7 * P) = k by omega]
theorem upP_5 {P : Nat} {v c : Nat → Int32} : upP P v c (32 + 7 * P + 5) = 0 ∧ upP P v c (32 + 7 * P + 6) = 0 := by
  unfold upP
  refine ⟨?_, ?_⟩
  · rw [if_neg (by omega), if_pos rfl]
  · rw [if_neg (by omega), if_neg (by omega), if_pos rfl]
theorem upP_1 {P : Nat} {v c : Nat → Int32} : upP P v c 1 = nI (P + 1) := by
  unfold upP
  rw [if_neg (by omega), if_neg (by omega), if_neg (by omega), if_pos rfl]
theorem dOK_p {c v : Nat → Int32} {L P : Nat} (hP6 : P < 6) (h : dOK c L P) (hv : ∀ k, k < 5 → ¬ d_in (v k) (pLo k) (pHi (nI L - 1) k) = 0) : dOK (upP P v c) L (P + 1) := by
  obtain ⟨⟨hL, hP, v0, v1, v3, v4, v5, vp⟩, h2, h4, h5, h6, h7⟩ := h
  obtain ⟨l, hl, el⟩ := d_in0 (L := L) (by omega) (hv 0 (by omega))
  obtain ⟨ks, hks, hks0, eks⟩ := d_in1K (b := 15) (by omega) (hv 1 (by omega))
  obtain ⟨d, hd, hd0, ed⟩ := d_in1K (b := 30) (by omega) (hv 2 (by omega))
  obtain ⟨am, ham, eam⟩ := d_inK (b := 999) (by omega) (hv 3 (by omega))
  obtain ⟨pr, hpr, epr⟩ := d_inK (b := 999) (by omega) (hv 4 (by omega))
  have z := upP_in (P := P) (v := v) (c := c) (k := 0) (by omega)
  rw [Nat.add_zero] at z
  refine ⟨⟨hL, by omega, by rw [upP_ne (by omega) (by omega)]; exact v0, upP_1, by rw [upP_ne (by omega) (by omega)]; exact v3, ?_, ?_, ?_⟩, by rw [upP_ne (by omega) (by omega)]; exact h2, by rw [upP_ne (by omega) (by omega)]; exact h4, by rw [upP_ne (by omega) (by omega)]; exact h5, ?_, ?_⟩
  · intro l hl k hk; rw [upP_ne (by omega) (by omega)]; exact v4 l hl k hk
  · intro l hl; rw [upP_ne (by omega) (by omega), upP_ne (by omega) (by omega)]; exact v5 l hl
  · intro j hj
    by_cases ej : j = P
    · subst ej
      refine ⟨l, ks, d, am, pr, 0, 0, by rw [z]; exact el, hl, by rw [upP_in (by omega)]; exact eks, by omega, by rw [upP_in (by omega)]; exact ed, by omega, hd, by rw [upP_in (by omega)]; exact eam, ham, by rw [upP_in (by omega)]; exact epr, hpr, upP_5.1, by omega, upP_5.2, by omega⟩
    · exact vPol_congr (fun x h1 h2 => upP_ne (by omega) (by omega)) (vp j (by omega))
  · intro l hl; rw [upP_ne (by omega) (by omega)]; exact h6 l hl
  · intro j hj
    by_cases ej : j = P
    · subst ej; exact upP_5
    · rw [upP_ne (by omega) (by omega), upP_ne (by omega) (by omega)]; exact h7 j (by omega)
/-- a clause that is read -/
theorem clP_r {t : Nat → Int32} {n0 a b L P a' : Nat} {c : Nat → Int32} (hn : n0 ≤ 250) (ha : a < n0) (h : dOK c L P) (hr : (clP t n0 a b L P c).1 = .inr a') : a < a' ∧ a' ≤ n0 ∧ dOK (clP t n0 a b L P c).2 (nL (t a) L) (nP (t a) P) := by
  have hL := h.1.1
  have hP := h.1.2.1
  unfold clP at hr ⊢
  by_cases w1 : t a = 111
  · rw [if_pos w1] at hr ⊢
    have hL' : nL (t a) L = L := by unfold nL; rw [if_neg (by rw [w1]; decide)]
    have hP' : nP (t a) P = P := by unfold nP; rw [if_neg (by rw [w1]; decide)]
    by_cases b0 : b = 0
    · rw [if_pos b0] at hr ⊢
      dsimp only at hr ⊢
      obtain ⟨a1, e1, g1⟩ := nst_r hr
      obtain ⟨⟨a2, e2, g2⟩, g3⟩ := nxs_r e1
      have e2' : a + 1 = a2 := by injection e2
      have ok := nxs_ok (t := t) (lo := 0) (hi := 999) (s := .inr (a + 1)) hn (show a + 1 ≤ n0 by omega)
      rw [e1] at ok
      have ok1 : a1 ≤ n0 := ok
      have ok2 := nst_ok (t := t) (s := .inr a1) hn ok1
      rw [← e1, hr] at ok2
      have l1 := g1 ok1
      have l2 := g2 (by omega)
      rw [hL', hP']
      exact ⟨by omega, ok2, dOK_o h g3⟩
    · rw [if_neg b0] at hr
      cases hr
  · rw [if_neg w1] at hr ⊢
    by_cases b0 : b = 0
    · rw [if_pos b0] at hr
      cases hr
    · rw [if_neg b0] at hr ⊢
      by_cases w2 : t a = 108
      · rw [if_pos w2] at hr ⊢
        have hL' : nL (t a) L = L + 1 := if_pos w2
        have hP' : nP (t a) P = P := by unfold nP; rw [if_neg (by rw [w2]; decide)]
        by_cases L4 : L = 4
        · rw [if_pos L4] at hr
          cases hr
        · rw [if_neg L4] at hr ⊢
          dsimp only at hr ⊢
          obtain ⟨a1, e1, g1⟩ := nst_r hr
          obtain ⟨g2, g3⟩ := sq_r (show a + 1 ≤ n0 by omega) 5 a1 e1
          have ok := sq_ok (t := t) (lo := lLo) (hi := lHi) (s := .inr (a + 1)) hn (show a + 1 ≤ n0 by omega) 5
          rw [e1] at ok
          have ok1 : a1 ≤ n0 := ok
          have ok2 := nst_ok (t := t) (s := .inr a1) hn ok1
          rw [← e1, hr] at ok2
          have l1 := g1 ok1
          rw [hL', hP']
          exact ⟨by omega, ok2, dOK_l (by omega) h g3⟩
      · rw [if_neg w2] at hr ⊢
        have hL' : nL (t a) L = L := by unfold nL; rw [if_neg w2]
        by_cases w3 : t a = 112
        · rw [if_pos w3] at hr ⊢
          have hP' : nP (t a) P = P + 1 := if_pos w3
          by_cases P6 : P = 6
          · rw [if_pos P6] at hr
            cases hr
          · rw [if_neg P6] at hr ⊢
            dsimp only at hr ⊢
            obtain ⟨a1, e1, g1⟩ := nst_r hr
            obtain ⟨g2, g3⟩ := sq_r (show a + 1 ≤ n0 by omega) 5 a1 e1
            have ok := sq_ok (t := t) (lo := pLo) (hi := pHi (nI L - 1)) (s := .inr (a + 1)) hn (show a + 1 ≤ n0 by omega) 5
            rw [e1] at ok
            have ok1 : a1 ≤ n0 := ok
            have ok2 := nst_ok (t := t) (s := .inr a1) hn ok1
            rw [← e1, hr] at ok2
            have l1 := g1 ok1
            rw [hL', hP']
            exact ⟨by omega, ok2, dOK_p (by omega) h g3⟩
        · rw [if_neg w3] at hr
          cases hr
theorem clP_ok {t : Nat → Int32} {n0 a b L P : Nat} {c : Nat → Int32} (hn : n0 ≤ 250) (ha : a < n0) : pOk n0 (clP t n0 a b L P c).1 := by
  have hs : pOk n0 (.inr (a + 1)) := by show a + 1 ≤ n0; omega
  have f1 : pOk n0 (.inl (1, a)) := ⟨(by decide : 0 < 1), (by decide : 1 ≤ 3), by show a ≤ 250; omega⟩
  have f3 : pOk n0 (.inl (3, a)) := ⟨(by decide : 0 < 3), (by decide : 3 ≤ 3), by show a ≤ 250; omega⟩
  unfold clP
  split
  · split
    · exact nst_ok hn (nxs_ok hn hs)
    · exact f3
  · split
    · exact f1
    · split
      · split
        · exact f3
        · exact nst_ok hn (sq_ok hn hs 5)
      · split
        · split
          · exact f3
          · exact nst_ok hn (sq_ok hn hs 5)
        · exact f1
