theorem ev_numc {T : Nat → Nat × Nat} {I : Nat → Nat → Int32} {J : Nat → Nat → Int64} {R : Nat → Nat → Option Nat} {n s : Nat} (hS : aSh T R) {t A C : Nat → Int32} {n0 : Nat} {lo hi : Int32} {sp : pS} (p : Nat) (hp : p ≠ 7) (hn : n0 ≤ 250) (ht : ∀ i, i < n0 → I 48 i = t i) (hs : pOk n0 sp) (hr : mdS A C n0 sp) :
    ∃ A' C', fX9_number [.ref 41, .int lo, .int hi] (T, va_up (va_up I 43 C) 41 A, J, R, n, s) = some (some (.int (nxs t n0 lo hi sp).2), (T, va_up (va_up I 43 C') 41 A', J, R, n, s)) ∧ mdS A' (va_up C' p (nxs t n0 lo hi sp).2) n0 (nxs t n0 lo hi sp).1 ∧ (∀ f, f ≠ 17 → f ≠ 18 → A' f = A f) ∧ (∀ x, x ≠ 7 → C' x = C x) ∧ pOk n0 (nxs t n0 lo hi sp).1 := by
  obtain ⟨A', C', e, h1, h2, h3⟩ := ev_num (I := I) (J := J) (n := n) (s := s) (lo := lo) (hi := hi) hS hn ht hs hr
  refine ⟨A', C', e, ?_, h2, h3, nxs_ok hn hs⟩
  revert h1
  unfold mdS
  cases (nxs t n0 lo hi sp).1 with
  | inl f => intro q1; exact ⟨q1.1, q1.2.1, by rw [va_up_ne _ _ (Ne.symm hp)]; exact q1.2.2⟩
  | inr a => intro q1; exact q1

theorem ev_pol5 {T : Nat → Nat × Nat} {I : Nat → Nat → Int32} {J : Nat → Nat → Int64} {R : Nat → Nat → Option Nat} {n s : Nat} (hS : aSh T R) {t A C : Nat → Int32} {n0 L P : Nat} {sp : pS} (hn : n0 ≤ 250) (ht : ∀ i, i < n0 → I 48 i = t i) (hs : pOk n0 sp) (hr : mdS A C n0 sp) (hP : P < 6) (h0 : C 0 = nI L) (h1 : C 1 = nI P) :
    ∃ A' C', fX9_readsPolicy [.ref 41] (T, va_up (va_up I 43 C) 41 A, J, R, n, s) = some (none, (T, va_up (va_up I 43 C') 41 A', J, R, n, s)) ∧ mdS A' C' n0 (sq t n0 pLo (pHi (nI L - 1)) 5 sp).1 ∧ (∀ f, f ≠ 17 → f ≠ 18 → A' f = A f) ∧ ∀ y, y ≠ 7 → C' y = upP P (sq t n0 pLo (pHi (nI L - 1)) 5 sp).2 C y := by
  have x1 : sq t n0 pLo (pHi (nI L - 1)) 1 sp = ((nxs t n0 0 (nI L - 1) sp).1, va_up (fun _ => 0) 0 (nxs t n0 0 (nI L - 1) sp).2) := by rw [sq_s, sq_0]; rfl
  have x2 : sq t n0 pLo (pHi (nI L - 1)) 2 sp = ((nxs t n0 1 15 (sq t n0 pLo (pHi (nI L - 1)) 1 sp).1).1, va_up (sq t n0 pLo (pHi (nI L - 1)) 1 sp).2 1 (nxs t n0 1 15 (sq t n0 pLo (pHi (nI L - 1)) 1 sp).1).2) := by rw [sq_s]; rfl
  have x3 : sq t n0 pLo (pHi (nI L - 1)) 3 sp = ((nxs t n0 1 30 (sq t n0 pLo (pHi (nI L - 1)) 2 sp).1).1, va_up (sq t n0 pLo (pHi (nI L - 1)) 2 sp).2 2 (nxs t n0 1 30 (sq t n0 pLo (pHi (nI L - 1)) 2 sp).1).2) := by rw [sq_s]; rfl
  have x4 : sq t n0 pLo (pHi (nI L - 1)) 4 sp = ((nxs t n0 0 999 (sq t n0 pLo (pHi (nI L - 1)) 3 sp).1).1, va_up (sq t n0 pLo (pHi (nI L - 1)) 3 sp).2 3 (nxs t n0 0 999 (sq t n0 pLo (pHi (nI L - 1)) 3 sp).1).2) := by rw [sq_s]; rfl
  have x5 : sq t n0 pLo (pHi (nI L - 1)) 5 sp = ((nxs t n0 0 999 (sq t n0 pLo (pHi (nI L - 1)) 4 sp).1).1, va_up (sq t n0 pLo (pHi (nI L - 1)) 4 sp).2 4 (nxs t n0 0 999 (sq t n0 pLo (pHi (nI L - 1)) 4 sp).1).2) := by rw [sq_s]; rfl
  obtain ⟨A0, C0, e0, m0, fa0, fc0, ok0⟩ := ev_numc (I := I) (J := J) (n := n) (s := s) (lo := 0) (hi := (nI L - 1)) hS (32 + 7 * P) (by omega) hn ht hs hr
  obtain ⟨A1, C1, e1, m1, fa1, fc1, ok1⟩ := ev_numc (I := I) (J := J) (n := n) (s := s) (lo := 1) (hi := 15) hS (32 + 7 * P + 1) (by omega) hn ht ok0 m0
  obtain ⟨A2, C2, e2, m2, fa2, fc2, ok2⟩ := ev_numc (I := I) (J := J) (n := n) (s := s) (lo := 1) (hi := 30) hS (32 + 7 * P + 2) (by omega) hn ht ok1 m1
  obtain ⟨A3, C3, e3, m3, fa3, fc3, ok3⟩ := ev_numc (I := I) (J := J) (n := n) (s := s) (lo := 0) (hi := 999) hS (32 + 7 * P + 3) (by omega) hn ht ok2 m2
  obtain ⟨A4, C4, e4, m4, fa4, fc4, ok4⟩ := ev_numc (I := I) (J := J) (n := n) (s := s) (lo := 0) (hi := 999) hS (32 + 7 * P + 4) (by omega) hn ht ok3 m3
  rw [x5]
  rw [x4, x3, x2, x1]
  dsimp only
  generalize hv0 : (nxs t n0 0 (nI L - 1) sp) = y0 at *
  generalize hv1 : (nxs t n0 1 15 y0.1) = y1 at *
  generalize hv2 : (nxs t n0 1 30 y1.1) = y2 at *
  generalize hv3 : (nxs t n0 0 999 y2.1) = y3 at *
  generalize hv4 : (nxs t n0 0 999 y3.1) = y4 at *
  have c1 : va_up C4 (32 + 7 * P + 4) y4.2 1 = nI P := by
    rw [va_up_ne _ _ (by omega), fc4 _ (by omega), va_up_ne _ _ (by omega), fc3 _ (by omega), va_up_ne _ _ (by omega), fc2 _ (by omega), va_up_ne _ _ (by omega), fc1 _ (by omega), va_up_ne _ _ (by omega), fc0 _ (by omega)]
    exact h1
  rw [va_up_ne _ _ (by omega)] at c1
  refine ⟨A4, va_up (va_up (va_up (va_up C4 (32 + 7 * P + 4) y4.2) (32 + 7 * P + 5) 0) (32 + 7 * P + 6) 0) 1 (nI (P + 1)), ?_, ?_, fun f a b => by rw [fa4 f a b, fa3 f a b, fa2 f a b, fa1 f a b]; exact fa0 f a b, ?_⟩
  · have sw : ∀ (X Y Z : Nat → Int32), va_up (va_up (va_up I 43 X) 41 Y) 43 Z = va_up (va_up I 43 Z) 41 Y := fun X Y Z => by rw [va_swap (by omega), va_twice]
    rw [enX9_readsPolicy]
    simp (disch := omega) only [↓ubX9_readsPolicy, ↓y_ci (ev_policyAt _ _) ⟨Nat.le_refl _, Nat.le_refl _⟩, ↓y_vi (t41 hS) e0 ⟨Nat.le_refl _, Nat.le_refl _⟩, ↓y_vi (t41 hS) e1 ⟨Nat.le_refl _, Nat.le_refl _⟩, ↓y_vi (t41 hS) e2 ⟨Nat.le_refl _, Nat.le_refl _⟩, ↓y_vi (t41 hS) e3 ⟨Nat.le_refl _, Nat.le_refl _⟩, ↓y_vi (t41 hS) e4 ⟨Nat.le_refl _, Nat.le_refl _⟩, ↓sw, h0, h1, c1, t41 hS, t43 hS, p41_1 hS, up2_row, ↓x_ic, ↓x_jc, ↓x_nl, ↓x_il0, ↓x_jl0, ↓x_al0, ↓x_aln0, ↓x_il1, ↓x_jl1, ↓x_al1, ↓x_aln1, ↓x_il2, ↓x_jl2, ↓x_al2, ↓x_aln2, ↓x_il3, ↓x_jl3, ↓x_al3, ↓x_aln3, ↓x_il4, ↓x_jl4, ↓x_il5, ↓x_jl5, ↓x_il6, ↓x_jl6, ↓x_il7, ↓x_jl7, ↓x_il8, ↓x_jl8, ↓x_il9, ↓x_jl9, ↓x_il10, ↓x_jl10, ↓x_il11, ↓x_jl11, ↓x_il12, ↓x_jl12, ↓x_il13, ↓x_jl13, ↓x_il14, ↓x_jl14, ↓x_il15, ↓x_jl15, ↓x_i2, ↓x_j2, ↓x_id, ↓x_ir, ↓x_jd, ↓x_jr, ↓x_w, ↓x_n, ↓x_gi, ↓x_kgi, ↓x_gr, ↓x_kgr, ↓x_ia, ↓x_kia, ↓x_za, ↓x_kza, ↓x_ja, ↓x_kja, ↓x_ra, ↓x_kra, ↓x_len, ↓x_klen, ↓x_vn, ↓x_vi, ↓x_vr, ↓x_kvr, ↓x_kvrn, ↓x_ci, ↓x_cj, ↓x_cv, ↓x_evi, ↓x_evj, ↓x_svv, ↓x_min, ↓x_eif, ↓x_lt, ↓x_jlt, ↓x_lt0, ↓x_le, ↓x_jle, ↓x_le0, ↓x_eq, ↓x_jeq, ↓x_eq0, ↓x_cnl, ↓x_knl0, ↓x_knl1, ↓x_not, ↓x_and, ↓x_or, ↓x_sk, ↓x_sq, ↓x_sif, ↓x_sil, ↓x_sjl, ↓x_sal, ↓x_k1_0, ↓x_ii_0, ↓x_k2_0, ↓x_k3_0, ↓x_k1_1i, ↓x_ii_1i, ↓x_k2_1i, ↓x_k3_1i, ↓x_k1_1r, ↓x_ii_1r, ↓x_k2_1r, ↓x_k3_1r, ↓x_k1_1n, ↓x_ii_1n, ↓x_k2_1n, ↓x_k3_1n, ↓x_k1_1a, ↓x_ii_1a, ↓x_k2_1a, ↓x_k3_1a, ↓x_k1_1l, ↓x_ii_1l, ↓x_k2_1l, ↓x_k3_1l, ↓x_k1_2i, ↓x_ii_2i, ↓x_k2_2i, ↓x_k3_2i, ↓x_k1_2r, ↓x_ii_2r, ↓x_k2_2r, ↓x_k3_2r, ↓x_k1_2n, ↓x_ii_2n, ↓x_k2_2n, ↓x_k3_2n, ↓x_k1_2a, ↓x_ii_2a, ↓x_k2_2a, ↓x_k3_2a, ↓x_k1_2l, ↓x_ii_2l, ↓x_k2_2l, ↓x_k3_2l, ↓x_k1_3i, ↓x_ii_3i, ↓x_k2_3i, ↓x_k3_3i, ↓x_k1_3r, ↓x_ii_3r, ↓x_k2_3r, ↓x_k3_3r, ↓x_k1_3n, ↓x_ii_3n, ↓x_k2_3n, ↓x_k3_3n, ↓x_k1_3a, ↓x_ii_3a, ↓x_k2_3a, ↓x_k3_3a, ↓x_k1_3l, ↓x_ii_3l, ↓x_k2_3l, ↓x_k3_3l, ↓x_k1_4i, ↓x_ii_4i, ↓x_k2_4i, ↓x_k1_4r, ↓x_ii_4r, ↓x_k2_4r, ↓x_k1_4n, ↓x_ii_4n, ↓x_k2_4n, ↓x_k1_4a, ↓x_ii_4a, ↓x_k2_4a, ↓x_k1_4l, ↓x_ii_4l, ↓x_k2_4l, ↓x_k1_5i, ↓x_ii_5i, ↓x_k2_5i, ↓x_k1_5r, ↓x_ii_5r, ↓x_k2_5r, ↓x_k1_5n, ↓x_ii_5n, ↓x_k2_5n, ↓x_k1_5a, ↓x_ii_5a, ↓x_k2_5a, ↓x_k1_5l, ↓x_ii_5l, ↓x_k2_5l, ↓x_k1_6i, ↓x_ii_6i, ↓x_k2_6i, ↓x_k1_6r, ↓x_ii_6r, ↓x_k2_6r, ↓x_k1_6n, ↓x_ii_6n, ↓x_k2_6n, ↓x_k1_6a, ↓x_ii_6a, ↓x_k2_6a, ↓x_k1_6l, ↓x_ii_6l, ↓x_k2_6l, ↓x_k1_7i, ↓x_ii_7i, ↓x_k2_7i, ↓x_k1_7r, ↓x_ii_7r, ↓x_k2_7r, ↓x_k1_7n, ↓x_ii_7n, ↓x_k2_7n, ↓x_k1_7a, ↓x_ii_7a, ↓x_k2_7a, ↓x_k1_7l, ↓x_ii_7l, ↓x_k2_7l, ↓x_k1_8i, ↓x_ii_8i, ↓x_k2_8i, ↓x_k1_8r, ↓x_ii_8r, ↓x_k2_8r, ↓x_k1_8n, ↓x_ii_8n, ↓x_k2_8n, ↓x_k1_8a, ↓x_ii_8a, ↓x_k2_8a, ↓x_k1_8l, ↓x_ii_8l, ↓x_k2_8l, ↓x_k1_9i, ↓x_ii_9i, ↓x_k2_9i, ↓x_k1_9r, ↓x_ii_9r, ↓x_k2_9r, ↓x_k1_9n, ↓x_ii_9n, ↓x_k2_9n, ↓x_k1_9a, ↓x_ii_9a, ↓x_k2_9a, ↓x_k1_9l, ↓x_ii_9l, ↓x_k2_9l, ↓x_k1_10i, ↓x_ii_10i, ↓x_k2_10i, ↓x_k1_10r, ↓x_ii_10r, ↓x_k2_10r, ↓x_k1_10n, ↓x_ii_10n, ↓x_k2_10n, ↓x_k1_10a, ↓x_ii_10a, ↓x_k2_10a, ↓x_k1_10l, ↓x_ii_10l, ↓x_k2_10l, ↓x_k1_11i, ↓x_ii_11i, ↓x_k2_11i, ↓x_k1_11r, ↓x_ii_11r, ↓x_k2_11r, ↓x_k1_11n, ↓x_ii_11n, ↓x_k2_11n, ↓x_k1_11a, ↓x_ii_11a, ↓x_k2_11a, ↓x_k1_11l, ↓x_ii_11l, ↓x_k2_11l, ↓x_k1_12i, ↓x_ii_12i, ↓x_k2_12i, ↓x_k1_12r, ↓x_ii_12r, ↓x_k2_12r, ↓x_k1_12n, ↓x_ii_12n, ↓x_k2_12n, ↓x_k1_12a, ↓x_ii_12a, ↓x_k2_12a, ↓x_k1_12l, ↓x_ii_12l, ↓x_k2_12l, ↓x_k1_13i, ↓x_ii_13i, ↓x_k2_13i, ↓x_k1_13r, ↓x_ii_13r, ↓x_k2_13r, ↓x_k1_13n, ↓x_ii_13n, ↓x_k2_13n, ↓x_k1_13a, ↓x_ii_13a, ↓x_k2_13a, ↓x_k1_13l, ↓x_ii_13l, ↓x_k2_13l, ↓x_k1_14i, ↓x_ii_14i, ↓x_k2_14i, ↓x_k1_14r, ↓x_ii_14r, ↓x_k2_14r, ↓x_k1_14n, ↓x_ii_14n, ↓x_k2_14n, ↓x_k1_14a, ↓x_ii_14a, ↓x_k2_14a, ↓x_k1_14l, ↓x_ii_14l, ↓x_k2_14l, ↓x_k1_15i, ↓x_ii_15i, ↓x_k1_15r, ↓x_ii_15r, ↓x_k1_15n, ↓x_ii_15n, ↓x_k1_15a, ↓x_ii_15a, ↓x_k1_15l, ↓x_ii_15l, ↓x_fg_1_2, ↓x_fg_2_3, ↓x_fg_2_4, ↓x_fg_2_6, ↓x_fg_3_4, ↓x_fg_3_5, ↓x_fg_3_6, ↓x_fg_3_7, ↓x_fg_4_5, ↓x_fg_4_6, ↓x_fg_4_7, ↓x_fg_5_6, ↓x_fg_5_7, ↓x_fg_5_8, ↓x_fg_6_7, ↓x_fg_6_8, ↓x_fg_6_9, ↓x_fg_7_8, ↓x_fg_7_9, ↓x_fg_7_10, ↓x_fg_7_12, ↓x_fg_7_13, ↓x_fg_8_9, ↓x_fg_8_10, ↓x_fg_8_12, ↓x_fg_9_10, ↓x_fg_9_12, ↓x_fg_9_13, ↓x_fg_10_13, ↓x_fg_10_16, ↓x_fg_11_13, ↓x_fg_11_16, ↓x_fg_13_16, ↓x_fg_14_16, ↓x_sgi, ↓x_ksgi, ↓x_sgz, ↓x_ksgz, ↓x_sgr, ↓x_ksgr, ↓x_sgo, ↓x_kgo, ↓x_kgo2, ↓x_sia, ↓x_ksia, ↓x_sza, ↓x_ksza, ↓x_sja, ↓x_ksja, ↓x_sra, ↓x_ksra, ↓x_ksran, ↓x_sio, ↓x_kio, ↓x_kio2, ↓x_sjo, ↓x_kjo, ↓x_kjo2, ↓x_spi, ↓x_sri, ↓x_srz, ↓x_srj, ↓x_srv, ↓x_sob, ↓x_kob, ↓x_sac, ↓x_kac, ↓x_ssw, ↓reduceIte, and_self, true_and, and_true, true_or, or_true, eq_self, not_false_eq_true, not_true_eq_false, reduceCtorEq, Nat.reduceAdd, Nat.reduceMul, Nat.reduceEqDiff, Nat.le_refl, i10, i01, ltn, len, eqn, va_twice, Int32.lt_irrefl, Int32.le_refl, a_ixn, a_cln, nI_add, pk_mul, va_up_self, va_up_ne, up2_va, Nat.add_zero, Nat.zero_add, ix0, tc0, ix1, tc1, ix2, tc2, ix3, tc3, ix4, tc4, ix5, tc5, ix6, tc6, ix7, tc7, ix8, tc8, ix9, tc9, ix10, tc10, ix11, tc11, ix12, tc12, ix13, tc13, ix14, tc14, ix15, tc15, ix16, tc16, ix30, tc30, ix31, tc31, ix32, tc32, ix74, tc74, al0, ar0, al1, ar1, al2, ar2, al3, ar3, al4, ar4, al5, ar5, al6, ar6, al7, ar7, al8, ar8, al9, ar9, al10, ar10, al11, ar11, al12, ar12, al13, ar13, al14, ar14, al15, ar15, al16, ar16, al32, ar32, al74, ar74, ml4, mr4, ml6, mr6, ml7, mr7, ml10, mr10, ml74, mr74]
  · revert m4
    unfold mdS
    cases y4.1 with
    | inl f => intro q1; exact ⟨q1.1, q1.2.1, by simp (disch := omega) only [va_up_ne]; have := q1.2.2; rw [va_up_ne _ _ (by omega)] at this; exact this⟩
    | inr a => intro q1; exact q1
  · intro y h7
    unfold upP
    by_cases z1 : y = 1
    · subst z1
      rw [va_up_self, if_neg (by omega), if_neg (by omega), if_neg (by omega), if_pos rfl]
    · rw [va_up_ne _ _ z1]
      by_cases z6 : y = 32 + 7 * P + 6
      · subst z6
        rw [va_up_self, if_neg (by omega), if_neg (by omega), if_pos rfl]
      · rw [va_up_ne _ _ z6]
        by_cases z5 : y = 32 + 7 * P + 5
        · subst z5
          rw [va_up_self, if_neg (by omega), if_pos rfl]
        · rw [va_up_ne _ _ z5]
          by_cases yin : 32 + 7 * P ≤ y ∧ y < 32 + 7 * P + 5
          · rw [if_pos yin]
            rcases (by omega : y = 32 + 7 * P ∨ y = 32 + 7 * P + 1 ∨ y = 32 + 7 * P + 2 ∨ y = 32 + 7 * P + 3 ∨ y = 32 + 7 * P + 4) with h | h | h | h | h <;> subst h
            · rw [va_up_ne _ _ (by omega), fc4 _ (by omega), va_up_ne _ _ (by omega), fc3 _ (by omega), va_up_ne _ _ (by omega), fc2 _ (by omega), va_up_ne _ _ (by omega), fc1 _ (by omega), va_up_self, Nat.sub_self]
              simp (disch := omega) only [va_up_ne, va_up_self]
            · rw [va_up_ne _ _ (by omega), fc4 _ (by omega), va_up_ne _ _ (by omega), fc3 _ (by omega), va_up_ne _ _ (by omega), fc2 _ (by omega), va_up_self, Nat.add_sub_cancel_left]
              simp (disch := omega) only [va_up_ne, va_up_self]
            · rw [va_up_ne _ _ (by omega), fc4 _ (by omega), va_up_ne _ _ (by omega), fc3 _ (by omega), va_up_self, Nat.add_sub_cancel_left]
              simp (disch := omega) only [va_up_ne, va_up_self]
            · rw [va_up_ne _ _ (by omega), fc4 _ (by omega), va_up_self, Nat.add_sub_cancel_left]
              simp (disch := omega) only [va_up_ne, va_up_self]
            · rw [va_up_self, Nat.add_sub_cancel_left]
              simp (disch := omega) only [va_up_ne, va_up_self]
          · rw [if_neg yin, if_neg z5, if_neg z6, if_neg z1, va_up_ne _ _ (by omega), fc4 _ h7, va_up_ne _ _ (by omega), fc3 _ h7, va_up_ne _ _ (by omega), fc2 _ h7, va_up_ne _ _ (by omega), fc1 _ h7, va_up_ne _ _ (by omega), fc0 _ h7]
