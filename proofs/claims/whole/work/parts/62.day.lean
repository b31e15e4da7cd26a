theorem itr_congr {σ : Type} {f g : Nat → σ → σ} : ∀ (d j : Nat) (x : σ), (∀ i x, j ≤ i → i < j + d → f i x = g i x) → itr f d j x = itr g d j x := by
  intro d
  induction d with
  | zero => intro j x h; rfl
  | succ d ih =>
    intro j x h
    simp only [itr]
    rw [h j x (by omega) (by omega)]
    exact ih (j + 1) (g j x) (fun i y h1 h2 => h i y (by omega) (by omega))
theorem itr_last {σ : Type} {f : Nat → σ → σ} : ∀ (d j : Nat) (x : σ), itr f (d + 1) j x = f (j + d) (itr f d j x) := by
  intro d
  induction d with
  | zero => intro j x; rfl
  | succ d ih =>
    intro j x
    have e : itr f (d + 1 + 1) j x = itr f (d + 1) (j + 1) (f j x) := rfl
    rw [e, ih (j + 1) (f j x)]
    have e2 : j + 1 + d = j + (d + 1) := by omega
    rw [e2]
    rfl
theorem itr_inv {σ : Type} {f : Nat → σ → σ} (V : Nat → σ → Prop) : ∀ (d j : Nat) (x : σ), (∀ i x, j ≤ i → i < j + d → V i x → V (i + 1) (f i x)) → V j x → V (j + d) (itr f d j x) := by
  intro d
  induction d with
  | zero => intro j x h hv; exact hv
  | succ d ih =>
    intro j x h hv
    have := ih (j + 1) (f j x) (fun i y h1 h2 h3 => h i y (by omega) (by omega) h3) (h j x (by omega) (by omega) hv)
    have e : j + (d + 1) = j + 1 + d := by omega
    rw [e]
    exact this
theorem vPol_congr {c c' : Nat → Int32} {L j : Nat} (h : ∀ x, 32 + 7 * j ≤ x → x ≤ 32 + 7 * j + 6 → c' x = c x) (hv : vPol c L j) : vPol c' L j := by
  obtain ⟨l, k, d, am, pr, x, z, c0, g0, c1, g1, c2, g2, g2', c3, g3, c4, g4, c5, g5, c6, g6⟩ := hv
  refine ⟨l, k, d, am, pr, x, z, ?_, g0, ?_, g1, ?_, g2, g2', ?_, g3, ?_, g4, ?_, g5, ?_, g6⟩
  · rw [h _ (by omega) (by omega)]; exact c0
  · rw [h _ (by omega) (by omega)]; exact c1
  · rw [h _ (by omega) (by omega)]; exact c2
  · rw [h _ (by omega) (by omega)]; exact c3
  · rw [h _ (by omega) (by omega)]; exact c4
  · rw [h _ (by omega) (by omega)]; exact c5
  · rw [h _ (by omega) (by omega)]; exact c6
theorem d_lapsed_congr {c c' : Nat → Int32} {P : Nat} (h : ∀ j, j < P → c' (32 + 7 * j + 6) = c (32 + 7 * j + 6)) : d_lapsed c' P = d_lapsed c P :=
  itr_congr P 0 0 (fun i x _ h2 => by rw [h i (by omega)])
theorem kE_congr {a a' h c c' : Nat → Int32} {L P : Nat} (hL : L ≤ 4) (h5 : a' 5 = a 5) (h6 : a' 6 = a 6) (hc : ∀ j, j < P → c' (32 + 7 * j + 6) = c (32 + 7 * j + 6)) (hd : ∀ l, l < 4 → c' (8 + 6 * l + 4) = c (8 + 6 * l + 4) ∧ c' (8 + 6 * l + 5) = c (8 + 6 * l + 5)) (hE : kE a h c L P) : kE a' h c' L P := by
  obtain ⟨e0, e1, e2, e3⟩ := hE
  refine ⟨?_, ?_, ?_, ?_⟩
  · rw [h5, e0, d_lapsed_congr hc]
  · intro j hj; rw [h5, e1 j hj, hc j hj]
  · intro l hl; rw [h6, e2 l hl, (hd l hl).2]
  · intro l hl; rw [e3 l hl, (hd l (by omega)).1]
theorem kLw_congr {I : Nat → Nat → Int32} {c c' : Nat → Int32} {L P : Nat} (hc : ∀ j, j < P → ∀ k, k < 5 → c' (32 + 7 * j + k) = c (32 + 7 * j + k)) (hd : ∀ l, l < L → ∀ k, k < 4 → c' (8 + 6 * l + k) = c (8 + 6 * l + k)) (hl : kLw I c L P) : kLw I c' L P := by
  obtain ⟨l1, l2, l3, l4⟩ := hl
  refine ⟨l1, l2, ?_, ?_⟩
  · intro l hl k hk; rw [l3 l hl k hk, hd l hl k hk]
  · intro j hj
    obtain ⟨e0, e1, e2, e3, e4⟩ := l4 j hj
    exact ⟨by rw [e0]; exact (hc j hj 0 (by omega)).symm, by rw [e1, hc j hj 1 (by omega)], by rw [e2, hc j hj 2 (by omega)], by rw [e3, hc j hj 3 (by omega)], by rw [e4, hc j hj 4 (by omega)]⟩
theorem k_funds {f p : Nat} (hf : f ≤ 999999) (hp : p ≤ 999) : bd (if 999999 < nI f + nI p then 999999 else nI f + nI p) 999999 := by
  rw [nI_add]
  by_cases h : 999999 < f + p
  · exact ⟨999999, by omega, by rw [if_pos (by rw [lt31 999999, nI_ltI (by omega) (by omega)]; exact h)]; rfl⟩
  · exact ⟨f + p, by omega, by rw [if_neg (by rw [lt31 999999, nI_ltI (by omega) (by omega)]; exact h)]⟩
theorem k_paid {f p : Nat} (hf : f ≤ 999999) (hp : p ≤ 999) : bd (nI f - (if nI f < nI p then nI f else nI p)) 999999 := by
  by_cases h : f < p
  · exact ⟨0, by omega, by rw [if_pos (by rw [nI_ltI (by omega) (by omega)]; exact h), Int32.sub_self]; rfl⟩
  · exact ⟨f - p, by omega, by rw [if_neg (by rw [nI_ltI (by omega) (by omega)]; exact h), pk_sub (by omega)]⟩
theorem d_pol_v {ev c : Nat → Int32} {r : Int32} {L P j : Nat} (hj : j < P) (hv : vRow c L P) : vRow (d_pol ev j (c, r)).1 L P := by
  obtain ⟨hL, hP, h0, h1, ⟨f, hf, h3⟩, h4, h5, hpol⟩ := hv
  obtain ⟨l, k, d, am, pr, x, z, c0, g0, c1, g1, c2, g2, g2', c3, g3, c4, g4, c5, g5, c6, g6⟩ := hpol j hj
  have A : bd ((d_pol ev j (c, r)).1 3) 999999 ∧ ∃ q, (d_pol ev j (c, r)).1 (32 + 7 * j + 5) = nI q ∧ q < d := by
    unfold d_pol
    simp only [c0, c1, c2, c3, c4, c5, h3, al1]
    split
    · split
      · split
        · refine ⟨?_, 0, ?_, by omega⟩
          · simp (disch := omega) only [va_up_ne, va_up_self]
            exact k_paid hf g3
          · dsimp only; rw [va_up_self]; rfl
        · rename_i hx
          rw [nI_eq (by omega) (by omega)] at hx
          refine ⟨⟨f, hf, ?_⟩, x + 1, ?_, by omega⟩
          · dsimp only; rw [va_up_ne _ _ (by omega)]; exact h3
          · dsimp only; rw [va_up_self]
      · refine ⟨?_, 0, ?_, by omega⟩
        · simp (disch := omega) only [va_up_ne, va_up_self]
          exact k_funds hf g4
        · dsimp only; rw [va_up_self]; rfl
    · exact ⟨⟨f, hf, h3⟩, x, c5, g5⟩
  obtain ⟨A3, q, A5, Aq⟩ := A
  refine ⟨hL, hP, ?_, ?_, A3, ?_, ?_, ?_⟩
  · rw [d_pol_ne (by omega) (by omega) (by omega) (by omega)]; exact h0
  · rw [d_pol_ne (by omega) (by omega) (by omega) (by omega)]; exact h1
  · intro l hl k hk
    rw [d_pol_ne (by omega) (by omega) (by omega) (by omega)]; exact h4 l hl k hk
  · intro l hl
    rw [d_pol_ne (by omega) (by omega) (by omega) (by omega), d_pol_ne (by omega) (by omega) (by omega) (by omega)]; exact h5 l hl
  · intro i hi
    by_cases e : i = j
    · subst e
      refine ⟨l, k, d, am, pr, q, z, ?_, g0, ?_, g1, ?_, g2, g2', ?_, g3, ?_, g4, A5, Aq, ?_, g6⟩
      · rw [d_pol_ne (by omega) (by omega) (by omega) (by omega)]; exact c0
      · rw [d_pol_ne (by omega) (by omega) (by omega) (by omega)]; exact c1
      · rw [d_pol_ne (by omega) (by omega) (by omega) (by omega)]; exact c2
      · rw [d_pol_ne (by omega) (by omega) (by omega) (by omega)]; exact c3
      · rw [d_pol_ne (by omega) (by omega) (by omega) (by omega)]; exact c4
      · rw [d_pol_ne (by omega) (by omega) (by omega) (by omega)]; exact c6
    · exact vPol_congr (fun x h1 h2 => d_pol_ne (by omega) (by omega) (by omega) (by omega)) (hpol i hi)
/-- the loop over policies -/
theorem ek_pass_loop {T : Nat → Nat × Nat} {I : Nat → Nat → Int32} {J : Nat → Nat → Int64} {R : Nat → Nat → Option Nat} {n s : Nat} (hS : aSh T R) {p : Nat} (hp : 20 ≤ p) (hT : T p = (6, 9)) (hT2 : T (p + 2) = (10, 6)) (hR : R p 8 = some (p + 2)) {c a q ev : Nat → Int32} {E : Int32} {L P : Nat} (hl : kLw I c L P) (hv : vRow c L P) (hb : ∀ j, j < P → k_has (a 5) j = c (32 + 7 * j + 6)) (he : ∀ l, l < 4 → k_set E l = ev l) (hD : kD a q c 0 P) :
    ∃ a' q', (∀ K : aK, s_wh wcX6_passDay_0 wbX6_passDay_0 aN K [.ref p, .ref 12, .int E, .int 0] (T, va_up (va_up I p a) (p + 2) q, J, R, n, s) = K [.ref p, .ref 12, .int E, .int (nI P)] (T, va_up (va_up I p a') (p + 2) q', J, R, n, s)) ∧ kD a' q' (itr (d_pol ev) P 0 (c, 0)).1 (itr (d_pol ev) P 0 (c, 0)).2 P ∧ a' 5 = a 5 ∧ a' 6 = a 6 ∧ vRow (itr (d_pol ev) P 0 (c, 0)).1 L P := by
  have hN := aN_ge
  have hL4 := hv.1
  obtain ⟨L', m', e, a', q', rfl, rfl, D', h5, h6, v', -, -⟩ := wh_rel (σ := (Nat → Int32) × Int32) (c := wcX6_passDay_0) (b := wbX6_passDay_0)
    (fun j x Ls m => ∃ a' q', Ls = [.ref p, .ref 12, .int E, .int (nI j)] ∧ m = (T, va_up (va_up I p a') (p + 2) q', J, R, n, s) ∧ kD a' q' x.1 x.2 P ∧ a' 5 = a 5 ∧ a' 6 = a 6 ∧ vRow x.1 L P ∧ (∀ y, y ≠ 3 → y ≠ 4 → y ≠ 5 → (∀ i, y ≠ 32 + 7 * i + 5) → x.1 y = c y) ∧ (x.2 = 0 ∨ x.2 = 1))
    (d_pol ev) P
    (by
      rintro x Ls m k1 k2 ⟨a', q', rfl, rfl, -⟩
      have l2 := hl.2.1
      have hP := hv.2.1
      simp (disch := omega) only [↓uwcX6_passDay_0, l2, Nat.lt_irrefl, t12 hS, ↓x_ic, ↓x_jc, ↓x_nl, ↓x_il0, ↓x_jl0, ↓x_al0, ↓x_aln0, ↓x_il1, ↓x_jl1, ↓x_al1, ↓x_aln1, ↓x_il2, ↓x_jl2, ↓x_al2, ↓x_aln2, ↓x_il3, ↓x_jl3, ↓x_al3, ↓x_aln3, ↓x_il4, ↓x_jl4, ↓x_il5, ↓x_jl5, ↓x_il6, ↓x_jl6, ↓x_il7, ↓x_jl7, ↓x_il8, ↓x_jl8, ↓x_il9, ↓x_jl9, ↓x_il10, ↓x_jl10, ↓x_il11, ↓x_jl11, ↓x_il12, ↓x_jl12, ↓x_il13, ↓x_jl13, ↓x_il14, ↓x_jl14, ↓x_il15, ↓x_jl15, ↓x_i2, ↓x_j2, ↓x_id, ↓x_ir, ↓x_jd, ↓x_jr, ↓x_w, ↓x_n, ↓x_gi, ↓x_kgi, ↓x_gr, ↓x_kgr, ↓x_ia, ↓x_kia, ↓x_za, ↓x_kza, ↓x_ja, ↓x_kja, ↓x_ra, ↓x_kra, ↓x_len, ↓x_klen, ↓x_vn, ↓x_vi, ↓x_vr, ↓x_kvr, ↓x_kvrn, ↓x_ci, ↓x_cj, ↓x_cv, ↓x_evi, ↓x_evj, ↓x_svv, ↓x_min, ↓x_eif, ↓x_lt, ↓x_jlt, ↓x_lt0, ↓x_le, ↓x_jle, ↓x_le0, ↓x_eq, ↓x_jeq, ↓x_eq0, ↓x_cnl, ↓x_knl0, ↓x_knl1, ↓x_not, ↓x_and, ↓x_or, ↓x_sk, ↓x_sq, ↓x_sif, ↓x_sil, ↓x_sjl, ↓x_sal, ↓x_k1_0, ↓x_ii_0, ↓x_k2_0, ↓x_k3_0, ↓x_k1_1i, ↓x_ii_1i, ↓x_k2_1i, ↓x_k3_1i, ↓x_k1_1r, ↓x_ii_1r, ↓x_k2_1r, ↓x_k3_1r, ↓x_k1_1n, ↓x_ii_1n, ↓x_k2_1n, ↓x_k3_1n, ↓x_k1_1a, ↓x_ii_1a, ↓x_k2_1a, ↓x_k3_1a, ↓x_k1_1l, ↓x_ii_1l, ↓x_k2_1l, ↓x_k3_1l, ↓x_k1_2i, ↓x_ii_2i, ↓x_k2_2i, ↓x_k3_2i, ↓x_k1_2r, ↓x_ii_2r, ↓x_k2_2r, ↓x_k3_2r, ↓x_k1_2n, ↓x_ii_2n, ↓x_k2_2n, ↓x_k3_2n, ↓x_k1_2a, ↓x_ii_2a, ↓x_k2_2a, ↓x_k3_2a, ↓x_k1_2l, ↓x_ii_2l, ↓x_k2_2l, ↓x_k3_2l, ↓x_k1_3i, ↓x_ii_3i, ↓x_k2_3i, ↓x_k3_3i, ↓x_k1_3r, ↓x_ii_3r, ↓x_k2_3r, ↓x_k3_3r, ↓x_k1_3n, ↓x_ii_3n, ↓x_k2_3n, ↓x_k3_3n, ↓x_k1_3a, ↓x_ii_3a, ↓x_k2_3a, ↓x_k3_3a, ↓x_k1_3l, ↓x_ii_3l, ↓x_k2_3l, ↓x_k3_3l, ↓x_k1_4i, ↓x_ii_4i, ↓x_k2_4i, ↓x_k1_4r, ↓x_ii_4r, ↓x_k2_4r, ↓x_k1_4n, ↓x_ii_4n, ↓x_k2_4n, ↓x_k1_4a, ↓x_ii_4a, ↓x_k2_4a, ↓x_k1_4l, ↓x_ii_4l, ↓x_k2_4l, ↓x_k1_5i, ↓x_ii_5i, ↓x_k2_5i, ↓x_k1_5r, ↓x_ii_5r, ↓x_k2_5r, ↓x_k1_5n, ↓x_ii_5n, ↓x_k2_5n, ↓x_k1_5a, ↓x_ii_5a, ↓x_k2_5a, ↓x_k1_5l, ↓x_ii_5l, ↓x_k2_5l, ↓x_k1_6i, ↓x_ii_6i, ↓x_k2_6i, ↓x_k1_6r, ↓x_ii_6r, ↓x_k2_6r, ↓x_k1_6n, ↓x_ii_6n, ↓x_k2_6n, ↓x_k1_6a, ↓x_ii_6a, ↓x_k2_6a, ↓x_k1_6l, ↓x_ii_6l, ↓x_k2_6l, ↓x_k1_7i, ↓x_ii_7i, ↓x_k2_7i, ↓x_k1_7r, ↓x_ii_7r, ↓x_k2_7r, ↓x_k1_7n, ↓x_ii_7n, ↓x_k2_7n, ↓x_k1_7a, ↓x_ii_7a, ↓x_k2_7a, ↓x_k1_7l, ↓x_ii_7l, ↓x_k2_7l, ↓x_k1_8i, ↓x_ii_8i, ↓x_k2_8i, ↓x_k1_8r, ↓x_ii_8r, ↓x_k2_8r, ↓x_k1_8n, ↓x_ii_8n, ↓x_k2_8n, ↓x_k1_8a, ↓x_ii_8a, ↓x_k2_8a, ↓x_k1_8l, ↓x_ii_8l, ↓x_k2_8l, ↓x_k1_9i, ↓x_ii_9i, ↓x_k2_9i, ↓x_k1_9r, ↓x_ii_9r, ↓x_k2_9r, ↓x_k1_9n, ↓x_ii_9n, ↓x_k2_9n, ↓x_k1_9a, ↓x_ii_9a, ↓x_k2_9a, ↓x_k1_9l, ↓x_ii_9l, ↓x_k2_9l, ↓x_k1_10i, ↓x_ii_10i, ↓x_k2_10i, ↓x_k1_10r, ↓x_ii_10r, ↓x_k2_10r, ↓x_k1_10n, ↓x_ii_10n, ↓x_k2_10n, ↓x_k1_10a, ↓x_ii_10a, ↓x_k2_10a, ↓x_k1_10l, ↓x_ii_10l, ↓x_k2_10l, ↓x_k1_11i, ↓x_ii_11i, ↓x_k2_11i, ↓x_k1_11r, ↓x_ii_11r, ↓x_k2_11r, ↓x_k1_11n, ↓x_ii_11n, ↓x_k2_11n, ↓x_k1_11a, ↓x_ii_11a, ↓x_k2_11a, ↓x_k1_11l, ↓x_ii_11l, ↓x_k2_11l, ↓x_k1_12i, ↓x_ii_12i, ↓x_k2_12i, ↓x_k1_12r, ↓x_ii_12r, ↓x_k2_12r, ↓x_k1_12n, ↓x_ii_12n, ↓x_k2_12n, ↓x_k1_12a, ↓x_ii_12a, ↓x_k2_12a, ↓x_k1_12l, ↓x_ii_12l, ↓x_k2_12l, ↓x_k1_13i, ↓x_ii_13i, ↓x_k2_13i, ↓x_k1_13r, ↓x_ii_13r, ↓x_k2_13r, ↓x_k1_13n, ↓x_ii_13n, ↓x_k2_13n, ↓x_k1_13a, ↓x_ii_13a, ↓x_k2_13a, ↓x_k1_13l, ↓x_ii_13l, ↓x_k2_13l, ↓x_k1_14i, ↓x_ii_14i, ↓x_k2_14i, ↓x_k1_14r, ↓x_ii_14r, ↓x_k2_14r, ↓x_k1_14n, ↓x_ii_14n, ↓x_k2_14n, ↓x_k1_14a, ↓x_ii_14a, ↓x_k2_14a, ↓x_k1_14l, ↓x_ii_14l, ↓x_k2_14l, ↓x_k1_15i, ↓x_ii_15i, ↓x_k1_15r, ↓x_ii_15r, ↓x_k1_15n, ↓x_ii_15n, ↓x_k1_15a, ↓x_ii_15a, ↓x_k1_15l, ↓x_ii_15l, ↓x_fg_1_2, ↓x_fg_2_3, ↓x_fg_2_4, ↓x_fg_2_6, ↓x_fg_3_4, ↓x_fg_3_5, ↓x_fg_3_6, ↓x_fg_3_7, ↓x_fg_4_5, ↓x_fg_4_6, ↓x_fg_4_7, ↓x_fg_5_6, ↓x_fg_5_7, ↓x_fg_5_8, ↓x_fg_6_7, ↓x_fg_6_8, ↓x_fg_6_9, ↓x_fg_7_8, ↓x_fg_7_9, ↓x_fg_7_10, ↓x_fg_7_12, ↓x_fg_7_13, ↓x_fg_8_9, ↓x_fg_8_10, ↓x_fg_8_12, ↓x_fg_9_10, ↓x_fg_9_12, ↓x_fg_9_13, ↓x_fg_10_13, ↓x_fg_10_16, ↓x_fg_11_13, ↓x_fg_11_16, ↓x_fg_13_16, ↓x_fg_14_16, ↓x_sgi, ↓x_ksgi, ↓x_sgz, ↓x_ksgz, ↓x_sgr, ↓x_ksgr, ↓x_sgo, ↓x_kgo, ↓x_kgo2, ↓x_sia, ↓x_ksia, ↓x_sza, ↓x_ksza, ↓x_sja, ↓x_ksja, ↓x_sra, ↓x_ksra, ↓x_ksran, ↓x_sio, ↓x_kio, ↓x_kio2, ↓x_sjo, ↓x_kjo, ↓x_kjo2, ↓x_spi, ↓x_sri, ↓x_srz, ↓x_srj, ↓x_srv, ↓x_sob, ↓x_kob, ↓x_sac, ↓x_kac, ↓x_ssw, ↓reduceIte, and_self, true_and, and_true, true_or, or_true, eq_self, not_false_eq_true, not_true_eq_false, reduceCtorEq, Nat.reduceAdd, Nat.reduceMul, Nat.reduceEqDiff, Nat.le_refl, i10, i01, ltn, len, eqn, va_twice, Int32.lt_irrefl, Int32.le_refl, a_ixn, a_cln, nI_add, pk_mul, va_up_self, va_up_ne, up2_va, Nat.add_zero, Nat.zero_add, ix0, tc0, ix1, tc1, ix2, tc2, ix3, tc3, ix4, tc4, ix5, tc5, ix6, tc6, ix7, tc7, ix8, tc8, ix9, tc9, ix10, tc10, ix11, tc11, ix12, tc12, ix13, tc13, ix14, tc14, ix15, tc15, ix16, tc16, ix30, tc30, ix31, tc31, ix32, tc32, ix74, tc74, al0, ar0, al1, ar1, al2, ar2, al3, ar3, al4, ar4, al5, ar5, al6, ar6, al7, ar7, al8, ar8, al9, ar9, al10, ar10, al11, ar11, al12, ar12, al13, ar13, al14, ar14, al15, ar15, al16, ar16, al32, ar32, al74, ar74, ml4, mr4, ml6, mr6, ml7, mr7, ml10, mr10, ml74, mr74])
    (by
      rintro j ⟨cc, r⟩ Ls m hj ⟨a', q', rfl, rfl, D', h5, h6, v', hc, h01⟩
      obtain ⟨a2, q2, e2, D2, g5, g6⟩ := ek_pass_body (J := J) (n := n) (s := s) (ev := ev) hS hp hT hT2 hR hj (kLw_congr (fun i hi k hk => hc _ (by omega) (by omega) (by omega) (by omega)) (fun l hl k hk => hc _ (by omega) (by omega) (by omega) (by omega)) hl) v' (by rw [h5, hb j hj]; exact (hc _ (by omega) (by omega) (by omega) (by omega)).symm) he D' h01
      refine ⟨_, _, e2, a2, q2, rfl, rfl, D2, by rw [g5, h5], by rw [g6, h6], d_pol_v hj v', ?_, d_pol_01 h01⟩
      intro y y3 y4 y5 yi
      rw [d_pol_ne y3 y4 y5 (yi j)]
      exact hc y y3 y4 y5 yi)
    P 0 (c, 0) aN [.ref p, .ref 12, .int E, .int (nI 0)] (T, va_up (va_up I p a) (p + 2) q, J, R, n, s) (by omega) (by have := hv.2.1; omega) ⟨a, q, rfl, rfl, hD, rfl, rfl, hv, fun y _ _ _ _ => rfl, Or.inl rfl⟩
  exact ⟨a', q', e, D', h5, h6, v'⟩
theorem vRow_congr {c c' : Nat → Int32} {L P : Nat} (h : ∀ x, x ≠ 2 → x ≠ 4 → x ≠ 5 → x ≠ 6 → x ≠ 7 → c' x = c x) (hv : vRow c L P) : vRow c' L P := by
  obtain ⟨hL, hP, h0, h1, h3, h4, h5, hpol⟩ := hv
  refine ⟨hL, hP, ?_, ?_, ?_, ?_, ?_, ?_⟩
  · rw [h _ (by omega) (by omega) (by omega) (by omega) (by omega)]; exact h0
  · rw [h _ (by omega) (by omega) (by omega) (by omega) (by omega)]; exact h1
  · rw [h _ (by omega) (by omega) (by omega) (by omega) (by omega)]; exact h3
  · intro l hl k hk
    rw [h _ (by omega) (by omega) (by omega) (by omega) (by omega)]; exact h4 l hl k hk
  · intro l hl
    rw [h _ (by omega) (by omega) (by omega) (by omega) (by omega), h _ (by omega) (by omega) (by omega) (by omega) (by omega)]; exact h5 l hl
  · intro j hj
    exact vPol_congr (fun x h1 h2 => h _ (by omega) (by omega) (by omega) (by omega) (by omega)) (hpol j hj)
/-- a whole day of the class -/
theorem ek_passDay {T : Nat → Nat × Nat} {I : Nat → Nat → Int32} {J : Nat → Nat → Int64} {R : Nat → Nat → Option Nat} {n s : Nat} (hS : aSh T R) {p : Nat} (hp : 20 ≤ p) (hT : T p = (6, 9)) (hT2 : T (p + 2) = (10, 6)) (hR : R p 8 = some (p + 2)) {c ev : Nat → Int32} {E : Int32} {L P : Nat} (hl : kLw I c L P) (hv : vRow c L P) (hb : ∀ j, j < P → k_has (I p 5) j = c (32 + 7 * j + 6)) (he : ∀ l, l < 4 → k_set E l = ev l) (hD : kD (I p) (I (p + 2)) c 0 P) :
    ∃ a q, fX6_passDay [.ref p, .ref 12, .int E] (T, I, J, R, n, s) = some (none, (T, va_up (va_up I p a) (p + 2) q, J, R, n, s)) ∧ kD a q (d_pass ev P c).1 0 P ∧ a 5 = I p 5 ∧ a 6 = I p 6 ∧ vRow (d_pass ev P c).1 L P := by
  have D' : kD (va_up (I p) 0 (I p 0 + 1)) (I (p + 2)) (va_up c 2 (c 2 + 1)) 0 P := by
    obtain ⟨D0, D1, D2, D3, D4, Dq⟩ := hD
    refine ⟨?_, ?_, ?_, ?_, ?_, ?_⟩
    · rw [va_up_self, va_up_self, D0]
    · simp (disch := omega) only [va_up_ne]; exact D1
    · simp (disch := omega) only [va_up_ne]; exact D2
    · simp (disch := omega) only [va_up_ne]; exact D3
    · simp (disch := omega) only [va_up_ne, if_true]; exact D4
    · intro j hj
      simp (disch := omega) only [va_up_ne]; exact Dq j hj
  have v' : vRow (va_up c 2 (c 2 + 1)) L P := vRow_congr (fun x h2 _ _ _ _ => va_up_ne _ _ h2) hv
  have l' : kLw I (va_up c 2 (c 2 + 1)) L P := kLw_congr (fun i hi k hk => va_up_ne _ _ (by omega)) (fun l hl k hk => va_up_ne _ _ (by omega)) hl
  obtain ⟨a, q, e, D, h5, h6, v⟩ := ek_pass_loop (J := J) (n := n) (s := s) (ev := ev) (E := E) hS hp hT hT2 hR l' v' (fun j hj => by rw [va_up_ne _ _ (by omega), va_up_ne _ _ (by omega)]; exact hb j hj) he D'
  refine ⟨a, q, ?_, ?_, ?_, ?_, ?_⟩
  · rw [enX6_passDay]
    have e0 : va_up (va_up I p (va_up (I p) 0 (I p 0 + 1))) (p + 2) (I (p + 2)) = va_up I p (va_up (I p) 0 (I p 0 + 1)) := by
      rw [show I (p + 2) = va_up I p (va_up (I p) 0 (I p 0 + 1)) (p + 2) from (va_up_ne _ _ (by omega)).symm, va_same]
    rw [e0] at e
    simp (disch := omega) only [↓ubX6_passDay, hT, up2_row, ↓x_ic, ↓x_jc, ↓x_nl, ↓x_il0, ↓x_jl0, ↓x_al0, ↓x_aln0, ↓x_il1, ↓x_jl1, ↓x_al1, ↓x_aln1, ↓x_il2, ↓x_jl2, ↓x_al2, ↓x_aln2, ↓x_il3, ↓x_jl3, ↓x_al3, ↓x_aln3, ↓x_il4, ↓x_jl4, ↓x_il5, ↓x_jl5, ↓x_il6, ↓x_jl6, ↓x_il7, ↓x_jl7, ↓x_il8, ↓x_jl8, ↓x_il9, ↓x_jl9, ↓x_il10, ↓x_jl10, ↓x_il11, ↓x_jl11, ↓x_il12, ↓x_jl12, ↓x_il13, ↓x_jl13, ↓x_il14, ↓x_jl14, ↓x_il15, ↓x_jl15, ↓x_i2, ↓x_j2, ↓x_id, ↓x_ir, ↓x_jd, ↓x_jr, ↓x_w, ↓x_n, ↓x_gi, ↓x_kgi, ↓x_gr, ↓x_kgr, ↓x_ia, ↓x_kia, ↓x_za, ↓x_kza, ↓x_ja, ↓x_kja, ↓x_ra, ↓x_kra, ↓x_len, ↓x_klen, ↓x_vn, ↓x_vi, ↓x_vr, ↓x_kvr, ↓x_kvrn, ↓x_ci, ↓x_cj, ↓x_cv, ↓x_evi, ↓x_evj, ↓x_svv, ↓x_min, ↓x_eif, ↓x_lt, ↓x_jlt, ↓x_lt0, ↓x_le, ↓x_jle, ↓x_le0, ↓x_eq, ↓x_jeq, ↓x_eq0, ↓x_cnl, ↓x_knl0, ↓x_knl1, ↓x_not, ↓x_and, ↓x_or, ↓x_sk, ↓x_sq, ↓x_sif, ↓x_sil, ↓x_sjl, ↓x_sal, ↓x_k1_0, ↓x_ii_0, ↓x_k2_0, ↓x_k3_0, ↓x_k1_1i, ↓x_ii_1i, ↓x_k2_1i, ↓x_k3_1i, ↓x_k1_1r, ↓x_ii_1r, ↓x_k2_1r, ↓x_k3_1r, ↓x_k1_1n, ↓x_ii_1n, ↓x_k2_1n, ↓x_k3_1n, ↓x_k1_1a, ↓x_ii_1a, ↓x_k2_1a, ↓x_k3_1a, ↓x_k1_1l, ↓x_ii_1l, ↓x_k2_1l, ↓x_k3_1l, ↓x_k1_2i, ↓x_ii_2i, ↓x_k2_2i, ↓x_k3_2i, ↓x_k1_2r, ↓x_ii_2r, ↓x_k2_2r, ↓x_k3_2r, ↓x_k1_2n, ↓x_ii_2n, ↓x_k2_2n, ↓x_k3_2n, ↓x_k1_2a, ↓x_ii_2a, ↓x_k2_2a, ↓x_k3_2a, ↓x_k1_2l, ↓x_ii_2l, ↓x_k2_2l, ↓x_k3_2l, ↓x_k1_3i, ↓x_ii_3i, ↓x_k2_3i, ↓x_k3_3i, ↓x_k1_3r, ↓x_ii_3r, ↓x_k2_3r, ↓x_k3_3r, ↓x_k1_3n, ↓x_ii_3n, ↓x_k2_3n, ↓x_k3_3n, ↓x_k1_3a, ↓x_ii_3a, ↓x_k2_3a, ↓x_k3_3a, ↓x_k1_3l, ↓x_ii_3l, ↓x_k2_3l, ↓x_k3_3l, ↓x_k1_4i, ↓x_ii_4i, ↓x_k2_4i, ↓x_k1_4r, ↓x_ii_4r, ↓x_k2_4r, ↓x_k1_4n, ↓x_ii_4n, ↓x_k2_4n, ↓x_k1_4a, ↓x_ii_4a, ↓x_k2_4a, ↓x_k1_4l, ↓x_ii_4l, ↓x_k2_4l, ↓x_k1_5i, ↓x_ii_5i, ↓x_k2_5i, ↓x_k1_5r, ↓x_ii_5r, ↓x_k2_5r, ↓x_k1_5n, ↓x_ii_5n, ↓x_k2_5n, ↓x_k1_5a, ↓x_ii_5a, ↓x_k2_5a, ↓x_k1_5l, ↓x_ii_5l, ↓x_k2_5l, ↓x_k1_6i, ↓x_ii_6i, ↓x_k2_6i, ↓x_k1_6r, ↓x_ii_6r, ↓x_k2_6r, ↓x_k1_6n, ↓x_ii_6n, ↓x_k2_6n, ↓x_k1_6a, ↓x_ii_6a, ↓x_k2_6a, ↓x_k1_6l, ↓x_ii_6l, ↓x_k2_6l, ↓x_k1_7i, ↓x_ii_7i, ↓x_k2_7i, ↓x_k1_7r, ↓x_ii_7r, ↓x_k2_7r, ↓x_k1_7n, ↓x_ii_7n, ↓x_k2_7n, ↓x_k1_7a, ↓x_ii_7a, ↓x_k2_7a, ↓x_k1_7l, ↓x_ii_7l, ↓x_k2_7l, ↓x_k1_8i, ↓x_ii_8i, ↓x_k2_8i, ↓x_k1_8r, ↓x_ii_8r, ↓x_k2_8r, ↓x_k1_8n, ↓x_ii_8n, ↓x_k2_8n, ↓x_k1_8a, ↓x_ii_8a, ↓x_k2_8a, ↓x_k1_8l, ↓x_ii_8l, ↓x_k2_8l, ↓x_k1_9i, ↓x_ii_9i, ↓x_k2_9i, ↓x_k1_9r, ↓x_ii_9r, ↓x_k2_9r, ↓x_k1_9n, ↓x_ii_9n, ↓x_k2_9n, ↓x_k1_9a, ↓x_ii_9a, ↓x_k2_9a, ↓x_k1_9l, ↓x_ii_9l, ↓x_k2_9l, ↓x_k1_10i, ↓x_ii_10i, ↓x_k2_10i, ↓x_k1_10r, ↓x_ii_10r, ↓x_k2_10r, ↓x_k1_10n, ↓x_ii_10n, ↓x_k2_10n, ↓x_k1_10a, ↓x_ii_10a, ↓x_k2_10a, ↓x_k1_10l, ↓x_ii_10l, ↓x_k2_10l, ↓x_k1_11i, ↓x_ii_11i, ↓x_k2_11i, ↓x_k1_11r, ↓x_ii_11r, ↓x_k2_11r, ↓x_k1_11n, ↓x_ii_11n, ↓x_k2_11n, ↓x_k1_11a, ↓x_ii_11a, ↓x_k2_11a, ↓x_k1_11l, ↓x_ii_11l, ↓x_k2_11l, ↓x_k1_12i, ↓x_ii_12i, ↓x_k2_12i, ↓x_k1_12r, ↓x_ii_12r, ↓x_k2_12r, ↓x_k1_12n, ↓x_ii_12n, ↓x_k2_12n, ↓x_k1_12a, ↓x_ii_12a, ↓x_k2_12a, ↓x_k1_12l, ↓x_ii_12l, ↓x_k2_12l, ↓x_k1_13i, ↓x_ii_13i, ↓x_k2_13i, ↓x_k1_13r, ↓x_ii_13r, ↓x_k2_13r, ↓x_k1_13n, ↓x_ii_13n, ↓x_k2_13n, ↓x_k1_13a, ↓x_ii_13a, ↓x_k2_13a, ↓x_k1_13l, ↓x_ii_13l, ↓x_k2_13l, ↓x_k1_14i, ↓x_ii_14i, ↓x_k2_14i, ↓x_k1_14r, ↓x_ii_14r, ↓x_k2_14r, ↓x_k1_14n, ↓x_ii_14n, ↓x_k2_14n, ↓x_k1_14a, ↓x_ii_14a, ↓x_k2_14a, ↓x_k1_14l, ↓x_ii_14l, ↓x_k2_14l, ↓x_k1_15i, ↓x_ii_15i, ↓x_k1_15r, ↓x_ii_15r, ↓x_k1_15n, ↓x_ii_15n, ↓x_k1_15a, ↓x_ii_15a, ↓x_k1_15l, ↓x_ii_15l, ↓x_fg_1_2, ↓x_fg_2_3, ↓x_fg_2_4, ↓x_fg_2_6, ↓x_fg_3_4, ↓x_fg_3_5, ↓x_fg_3_6, ↓x_fg_3_7, ↓x_fg_4_5, ↓x_fg_4_6, ↓x_fg_4_7, ↓x_fg_5_6, ↓x_fg_5_7, ↓x_fg_5_8, ↓x_fg_6_7, ↓x_fg_6_8, ↓x_fg_6_9, ↓x_fg_7_8, ↓x_fg_7_9, ↓x_fg_7_10, ↓x_fg_7_12, ↓x_fg_7_13, ↓x_fg_8_9, ↓x_fg_8_10, ↓x_fg_8_12, ↓x_fg_9_10, ↓x_fg_9_12, ↓x_fg_9_13, ↓x_fg_10_13, ↓x_fg_10_16, ↓x_fg_11_13, ↓x_fg_11_16, ↓x_fg_13_16, ↓x_fg_14_16, ↓x_sgi, ↓x_ksgi, ↓x_sgz, ↓x_ksgz, ↓x_sgr, ↓x_ksgr, ↓x_sgo, ↓x_kgo, ↓x_kgo2, ↓x_sia, ↓x_ksia, ↓x_sza, ↓x_ksza, ↓x_sja, ↓x_ksja, ↓x_sra, ↓x_ksra, ↓x_ksran, ↓x_sio, ↓x_kio, ↓x_kio2, ↓x_sjo, ↓x_kjo, ↓x_kjo2, ↓x_spi, ↓x_sri, ↓x_srz, ↓x_srj, ↓x_srv, ↓x_sob, ↓x_kob, ↓x_sac, ↓x_kac, ↓x_ssw, ↓reduceIte, and_self, true_and, and_true, true_or, or_true, eq_self, not_false_eq_true, not_true_eq_false, reduceCtorEq, Nat.reduceAdd, Nat.reduceMul, Nat.reduceEqDiff, Nat.le_refl, i10, i01, ltn, len, eqn, va_twice, Int32.lt_irrefl, Int32.le_refl, a_ixn, a_cln, nI_add, pk_mul, va_up_self, va_up_ne, up2_va, Nat.add_zero, Nat.zero_add, ix0, tc0, ix1, tc1, ix2, tc2, ix3, tc3, ix4, tc4, ix5, tc5, ix6, tc6, ix7, tc7, ix8, tc8, ix9, tc9, ix10, tc10, ix11, tc11, ix12, tc12, ix13, tc13, ix14, tc14, ix15, tc15, ix16, tc16, ix30, tc30, ix31, tc31, ix32, tc32, ix74, tc74, al0, ar0, al1, ar1, al2, ar2, al3, ar3, al4, ar4, al5, ar5, al6, ar6, al7, ar7, al8, ar8, al9, ar9, al10, ar10, al11, ar11, al12, ar12, al13, ar13, al14, ar14, al15, ar15, al16, ar16, al32, ar32, al74, ar74, ml4, mr4, ml6, mr6, ml7, mr7, ml10, mr10, ml74, mr74]
    exact (e _).trans rfl
  · unfold d_pass
    dsimp only
    generalize itr (d_pol ev) P 0 (va_up c 2 (c 2 + 1), 0) = y at D
    obtain ⟨D0, D1, D2, D3, D4, Dq⟩ := D
    refine ⟨?_, ?_, ?_, ?_, ?_, ?_⟩
    · rw [D0, va_up_ne _ _ (by omega)]
    · rw [D1, va_up_ne _ _ (by omega)]
    · rw [D2, va_up_ne _ _ (by omega)]
    · rw [D3, va_up_ne _ _ (by omega)]
    · rw [D4, if_pos rfl, va_up_self]
    · intro j hj
      rw [Dq j hj, va_up_ne _ _ (by omega)]
  · rw [h5, va_up_ne _ _ (by omega)]
  · rw [h6, va_up_ne _ _ (by omega)]
  · exact vRow_congr (fun x _ _ _ h6 _ => va_up_ne _ _ h6) v
