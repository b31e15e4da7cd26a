/-! draws -/
theorem kj_and (a b : Nat) : lN a &&& lN b = lN (a &&& b) := by
  apply Int64.toBitVec_inj.1
  show BitVec.ofNat 64 a &&& BitVec.ofNat 64 b = BitVec.ofNat 64 (a &&& b)
  apply BitVec.eq_of_getLsbD_eq
  intro i hi
  simp [hi]
def k_next (x : Int32) : Int32 := ((x.toInt64 * 1103515245 + 12345) &&& 2147483647).toInt32
theorem lj31 (n : Nat) : (OfNat.ofNat n : Int64) = lN n := rfl
theorem kj_mask (n k : Nat) : lN n &&& lN (2 ^ k - 1) = lN (n % 2 ^ k) := by rw [kj_and, Nat.and_two_pow_sub_one_eq_mod]
theorem k_mod {Y B C : Nat} (hB : B = 2 ^ 31) (hC : C = 2 ^ 31 - 1) (hY : Y < 2 ^ 63) : (lN Y &&& lN C).toInt32 = (lN Y - lN Y / lN B * lN B).toInt32 ∧ bd (lN Y - lN Y / lN B * lN B).toInt32 2147483647 := by
  have e2 := pk_lRem (a := Y) (b := B) hY (by omega) (by omega)
  rw [e2, hC, kj_mask, lN_i, lN_i, hB]
  exact ⟨rfl, _, by omega, rfl⟩
theorem k_next_eq {a : Nat} (h : a < 2147483648) : k_next (nI a) = d_next (nI a) ∧ bd (d_next (nI a)) 2147483647 := by
  unfold k_next d_next
  have e : (nI a).toInt64 * 1103515245 + 12345 = lN (a * 1103515245 + 12345) := by
    rw [nI_l h, lj31 1103515245, lj31 12345, lN_mul, lN_add]
  rw [e]
  exact k_mod (Y := a * 1103515245 + 12345) (B := 2147483648) (C := 2147483647) (by decide) (by decide) (by omega)
noncomputable def bdr (A B C : Int64) : aP := (s_sq (s_gi 8 11 8 (e_al 0) (e_n (e_j2 (fun x y => x &&& y) (e_j2 (fun x y => x + y) (e_j2 (fun x y => x * y) (e_w (e_gi 8 11 8 (e_al 0))) (e_jc A)) (e_jc B)) (e_jc C)))) (s_ri (e_ir (e_id (e_gi 8 11 8 (e_al 0)) (e_ic 65536)) (e_ic 1000))))
theorem ubdr (A B C : Int64) (k : aK) (L : List Value) (m : aM) : bdr A B C k L m = (s_sq (s_gi 8 11 8 (e_al 0) (e_n (e_j2 (fun x y => x &&& y) (e_j2 (fun x y => x + y) (e_j2 (fun x y => x * y) (e_w (e_gi 8 11 8 (e_al 0))) (e_jc A)) (e_jc B)) (e_jc C)))) (s_ri (e_ir (e_id (e_gi 8 11 8 (e_al 0)) (e_ic 65536)) (e_ic 1000)))) k L m := rfl
theorem ek_bdr {T : Nat → Nat × Nat} {I : Nat → Nat → Int32} {J : Nat → Nat → Int64} {R : Nat → Nat → Option Nat} {n s : Nat} (hS : aSh T R) (A B C : Int64) (k : aK) : bdr A B C k [.ref 0] (T, I, J, R, n, s) = some (some (.int (d_three ((I 0 8).toInt64 * A + B &&& C).toInt32)), (T, va_up I 0 (va_up (I 0) 8 ((I 0 8).toInt64 * A + B &&& C).toInt32), J, R, n, s)) := by
  have h2 : ¬ ((65536 : Int32) = 0) := by decide
  have h3 : ¬ ((1000 : Int32) = 0) := by decide
  simp (disch := omega) only [↓ubdr, t0 hS, up2_row, h2, h3, d_three, ↓x_ic, ↓x_jc, ↓x_nl, ↓x_il0, ↓x_jl0, ↓x_al0, ↓x_aln0, ↓x_il1, ↓x_jl1, ↓x_al1, ↓x_aln1, ↓x_il2, ↓x_jl2, ↓x_al2, ↓x_aln2, ↓x_il3, ↓x_jl3, ↓x_al3, ↓x_aln3, ↓x_il4, ↓x_jl4, ↓x_il5, ↓x_jl5, ↓x_il6, ↓x_jl6, ↓x_il7, ↓x_jl7, ↓x_il8, ↓x_jl8, ↓x_il9, ↓x_jl9, ↓x_il10, ↓x_jl10, ↓x_il11, ↓x_jl11, ↓x_il12, ↓x_jl12, ↓x_il13, ↓x_jl13, ↓x_il14, ↓x_jl14, ↓x_il15, ↓x_jl15, ↓x_i2, ↓x_j2, ↓x_id, ↓x_ir, ↓x_jd, ↓x_jr, ↓x_w, ↓x_n, ↓x_gi, ↓x_kgi, ↓x_gr, ↓x_kgr, ↓x_ia, ↓x_kia, ↓x_za, ↓x_kza, ↓x_ja, ↓x_kja, ↓x_ra, ↓x_kra, ↓x_len, ↓x_klen, ↓x_vn, ↓x_vi, ↓x_vr, ↓x_kvr, ↓x_kvrn, ↓x_ci, ↓x_cj, ↓x_cv, ↓x_evi, ↓x_evj, ↓x_svv, ↓x_min, ↓x_eif, ↓x_lt, ↓x_jlt, ↓x_lt0, ↓x_le, ↓x_jle, ↓x_le0, ↓x_eq, ↓x_jeq, ↓x_eq0, ↓x_cnl, ↓x_knl0, ↓x_knl1, ↓x_not, ↓x_and, ↓x_or, ↓x_sk, ↓x_sq, ↓x_sif, ↓x_sil, ↓x_sjl, ↓x_sal, ↓x_k1_0, ↓x_ii_0, ↓x_k2_0, ↓x_k3_0, ↓x_k1_1i, ↓x_ii_1i, ↓x_k2_1i, ↓x_k3_1i, ↓x_k1_1r, ↓x_ii_1r, ↓x_k2_1r, ↓x_k3_1r, ↓x_k1_1n, ↓x_ii_1n, ↓x_k2_1n, ↓x_k3_1n, ↓x_k1_1a, ↓x_ii_1a, ↓x_k2_1a, ↓x_k3_1a, ↓x_k1_1l, ↓x_ii_1l, ↓x_k2_1l, ↓x_k3_1l, ↓x_k1_2i, ↓x_ii_2i, ↓x_k2_2i, ↓x_k3_2i, ↓x_k1_2r, ↓x_ii_2r, ↓x_k2_2r, ↓x_k3_2r, ↓x_k1_2n, ↓x_ii_2n, ↓x_k2_2n, ↓x_k3_2n, ↓x_k1_2a, ↓x_ii_2a, ↓x_k2_2a, ↓x_k3_2a, ↓x_k1_2l, ↓x_ii_2l, ↓x_k2_2l, ↓x_k3_2l, ↓x_k1_3i, ↓x_ii_3i, ↓x_k2_3i, ↓x_k3_3i, ↓x_k1_3r, ↓x_ii_3r, ↓x_k2_3r, ↓x_k3_3r, ↓x_k1_3n, ↓x_ii_3n, ↓x_k2_3n, ↓x_k3_3n, ↓x_k1_3a, ↓x_ii_3a, ↓x_k2_3a, ↓x_k3_3a, ↓x_k1_3l, ↓x_ii_3l, ↓x_k2_3l, ↓x_k3_3l, ↓x_k1_4i, ↓x_ii_4i, ↓x_k2_4i, ↓x_k1_4r, ↓x_ii_4r, ↓x_k2_4r, ↓x_k1_4n, ↓x_ii_4n, ↓x_k2_4n, ↓x_k1_4a, ↓x_ii_4a, ↓x_k2_4a, ↓x_k1_4l, ↓x_ii_4l, ↓x_k2_4l, ↓x_k1_5i, ↓x_ii_5i, ↓x_k2_5i, ↓x_k1_5r, ↓x_ii_5r, ↓x_k2_5r, ↓x_k1_5n, ↓x_ii_5n, ↓x_k2_5n, ↓x_k1_5a, ↓x_ii_5a, ↓x_k2_5a, ↓x_k1_5l, ↓x_ii_5l, ↓x_k2_5l, ↓x_k1_6i, ↓x_ii_6i, ↓x_k2_6i, ↓x_k1_6r, ↓x_ii_6r, ↓x_k2_6r, ↓x_k1_6n, ↓x_ii_6n, ↓x_k2_6n, ↓x_k1_6a, ↓x_ii_6a, ↓x_k2_6a, ↓x_k1_6l, ↓x_ii_6l, ↓x_k2_6l, ↓x_k1_7i, ↓x_ii_7i, ↓x_k2_7i, ↓x_k1_7r, ↓x_ii_7r, ↓x_k2_7r, ↓x_k1_7n, ↓x_ii_7n, ↓x_k2_7n, ↓x_k1_7a, ↓x_ii_7a, ↓x_k2_7a, ↓x_k1_7l, ↓x_ii_7l, ↓x_k2_7l, ↓x_k1_8i, ↓x_ii_8i, ↓x_k2_8i, ↓x_k1_8r, ↓x_ii_8r, ↓x_k2_8r, ↓x_k1_8n, ↓x_ii_8n, ↓x_k2_8n, ↓x_k1_8a, ↓x_ii_8a, ↓x_k2_8a, ↓x_k1_8l, ↓x_ii_8l, ↓x_k2_8l, ↓x_k1_9i, ↓x_ii_9i, ↓x_k2_9i, ↓x_k1_9r, ↓x_ii_9r, ↓x_k2_9r, ↓x_k1_9n, ↓x_ii_9n, ↓x_k2_9n, ↓x_k1_9a, ↓x_ii_9a, ↓x_k2_9a, ↓x_k1_9l, ↓x_ii_9l, ↓x_k2_9l, ↓x_k1_10i, ↓x_ii_10i, ↓x_k2_10i, ↓x_k1_10r, ↓x_ii_10r, ↓x_k2_10r, ↓x_k1_10n, ↓x_ii_10n, ↓x_k2_10n, ↓x_k1_10a, ↓x_ii_10a, ↓x_k2_10a, ↓x_k1_10l, ↓x_ii_10l, ↓x_k2_10l, ↓x_k1_11i, ↓x_ii_11i, ↓x_k2_11i, ↓x_k1_11r, ↓x_ii_11r, ↓x_k2_11r, ↓x_k1_11n, ↓x_ii_11n, ↓x_k2_11n, ↓x_k1_11a, ↓x_ii_11a, ↓x_k2_11a, ↓x_k1_11l, ↓x_ii_11l, ↓x_k2_11l, ↓x_k1_12i, ↓x_ii_12i, ↓x_k2_12i, ↓x_k1_12r, ↓x_ii_12r, ↓x_k2_12r, ↓x_k1_12n, ↓x_ii_12n, ↓x_k2_12n, ↓x_k1_12a, ↓x_ii_12a, ↓x_k2_12a, ↓x_k1_12l, ↓x_ii_12l, ↓x_k2_12l, ↓x_k1_13i, ↓x_ii_13i, ↓x_k2_13i, ↓x_k1_13r, ↓x_ii_13r, ↓x_k2_13r, ↓x_k1_13n, ↓x_ii_13n, ↓x_k2_13n, ↓x_k1_13a, ↓x_ii_13a, ↓x_k2_13a, ↓x_k1_13l, ↓x_ii_13l, ↓x_k2_13l, ↓x_k1_14i, ↓x_ii_14i, ↓x_k2_14i, ↓x_k1_14r, ↓x_ii_14r, ↓x_k2_14r, ↓x_k1_14n, ↓x_ii_14n, ↓x_k2_14n, ↓x_k1_14a, ↓x_ii_14a, ↓x_k2_14a, ↓x_k1_14l, ↓x_ii_14l, ↓x_k2_14l, ↓x_k1_15i, ↓x_ii_15i, ↓x_k1_15r, ↓x_ii_15r, ↓x_k1_15n, ↓x_ii_15n, ↓x_k1_15a, ↓x_ii_15a, ↓x_k1_15l, ↓x_ii_15l, ↓x_fg_1_2, ↓x_fg_2_3, ↓x_fg_2_4, ↓x_fg_2_6, ↓x_fg_3_4, ↓x_fg_3_5, ↓x_fg_3_6, ↓x_fg_3_7, ↓x_fg_4_5, ↓x_fg_4_6, ↓x_fg_4_7, ↓x_fg_5_6, ↓x_fg_5_7, ↓x_fg_5_8, ↓x_fg_6_7, ↓x_fg_6_8, ↓x_fg_6_9, ↓x_fg_7_8, ↓x_fg_7_9, ↓x_fg_7_10, ↓x_fg_7_12, ↓x_fg_7_13, ↓x_fg_8_9, ↓x_fg_8_10, ↓x_fg_8_12, ↓x_fg_9_10, ↓x_fg_9_12, ↓x_fg_9_13, ↓x_fg_10_13, ↓x_fg_10_16, ↓x_fg_11_13, ↓x_fg_11_16, ↓x_fg_13_16, ↓x_fg_14_16, ↓x_sgi, ↓x_ksgi, ↓x_sgz, ↓x_ksgz, ↓x_sgr, ↓x_ksgr, ↓x_sgo, ↓x_kgo, ↓x_kgo2, ↓x_sia, ↓x_ksia, ↓x_sza, ↓x_ksza, ↓x_sja, ↓x_ksja, ↓x_sra, ↓x_ksra, ↓x_ksran, ↓x_sio, ↓x_kio, ↓x_kio2, ↓x_sjo, ↓x_kjo, ↓x_kjo2, ↓x_spi, ↓x_sri, ↓x_srz, ↓x_srj, ↓x_srv, ↓x_sob, ↓x_kob, ↓x_sac, ↓x_kac, ↓x_ssw, ↓reduceIte, and_self, true_and, and_true, true_or, or_true, eq_self, not_false_eq_true, not_true_eq_false, reduceCtorEq, Nat.reduceAdd, Nat.reduceMul, Nat.reduceEqDiff, Nat.le_refl, i10, i01, ltn, len, eqn, va_twice, Int32.lt_irrefl, Int32.le_refl, a_ixn, a_cln, nI_add, pk_mul, va_up_self, va_up_ne, up2_va, Nat.add_zero, Nat.zero_add, ix0, tc0, ix1, tc1, ix2, tc2, ix3, tc3, ix4, tc4, ix5, tc5, ix6, tc6, ix7, tc7, ix8, tc8, ix9, tc9, ix10, tc10, ix11, tc11, ix12, tc12, ix13, tc13, ix14, tc14, ix15, tc15, ix16, tc16, ix30, tc30, ix31, tc31, ix32, tc32, ix74, tc74, al0, ar0, al1, ar1, al2, ar2, al3, ar3, al4, ar4, al5, ar5, al6, ar6, al7, ar7, al8, ar8, al9, ar9, al10, ar10, al11, ar11, al12, ar12, al13, ar13, al14, ar14, al15, ar15, al16, ar16, al32, ar32, al74, ar74, ml4, mr4, ml6, mr6, ml7, mr7, ml10, mr10, ml74, mr74]
theorem bdr_eq : bX8_drawOfThousand = bdr 1103515245 12345 2147483647 := rfl
theorem ek_draw {T : Nat → Nat × Nat} {I : Nat → Nat → Int32} {J : Nat → Nat → Int64} {R : Nat → Nat → Option Nat} {n s : Nat} (hS : aSh T R) : fX8_drawOfThousand [.ref 0] (T, I, J, R, n, s) = some (some (.int (d_three (k_next (I 0 8)))), (T, va_up I 0 (va_up (I 0) 8 (k_next (I 0 8))), J, R, n, s)) := by
  rw [enX8_drawOfThousand, bdr_eq, ek_bdr hS]
  unfold k_next
  rfl
/-- one draw: the seed, the sets -/
def k_dr (c : Nat → Int32) (l k : Nat) (x : Int32 × (Nat → Int32)) : Int32 × (Nat → Int32) := (d_next x.1, va_up x.2 l (x.2 l ||| (if d_three (d_next x.1) < d_odds c l k (c (8 + 6 * l + 4)) then (1 : Int32) <<< (nI k &&& 31) else 0)))
theorem k_dr1 {c : Nat → Int32} {l : Nat} : ∀ (d k : Nat) (M : Nat → Nat → Int32), (∀ k h, d_odds (M 42) l k h = d_odds c l k h) → M 42 (8 + 6 * l + 4) = c (8 + 6 * l + 4) → itr (d_draw1 l) d k M = va_up (va_up M 42 (va_up (M 42) 7 (itr (k_dr c l) d k (M 42 7, M 52)).1)) 52 (itr (k_dr c l) d k (M 42 7, M 52)).2 := by
  intro d
  induction d with
  | zero =>
    intro k M h1 h2
    simp only [itr]
    rw [va_same, va_same, va_same]
  | succ d ih =>
    intro k M h1 h2
    have e : itr (d_draw1 l) (d + 1) k M = itr (d_draw1 l) d (k + 1) (d_draw1 l k M) := rfl
    have e2 : itr (k_dr c l) (d + 1) k (M 42 7, M 52) = itr (k_dr c l) d (k + 1) (k_dr c l k (M 42 7, M 52)) := rfl
    rw [e, e2, ih (k + 1) (d_draw1 l k M)]
    · have g1 : d_draw1 l k M 42 = va_up (M 42) 7 (d_next (M 42 7)) := by
        unfold d_draw1
        rw [va_up_ne _ _ (by omega), va_up_self]
      have g2 : d_draw1 l k M 42 7 = (k_dr c l k (M 42 7, M 52)).1 := by rw [g1, va_up_self]; rfl
      have g3 : d_draw1 l k M 52 = (k_dr c l k (M 42 7, M 52)).2 := by
        unfold d_draw1 k_dr
        rw [va_up_self, h1, h2]
      rw [g2, g3]
      rw [show (((k_dr c l k (M 42 7, M 52)).1, (k_dr c l k (M 42 7, M 52)).2) : Int32 × (Nat → Int32)) = k_dr c l k (M 42 7, M 52) from rfl]
      rw [g1, va_twice]
      unfold d_draw1
      funext p
      by_cases h52 : p = 52
      · subst h52; rw [va_up_self, va_up_self]
      · rw [va_up_ne _ _ h52, va_up_ne _ _ h52]
        by_cases h42 : p = 42
        · subst h42; rw [va_up_self, va_up_self]
        · rw [va_up_ne _ _ h42, va_up_ne _ _ h42, va_up_ne _ _ h52, va_up_ne _ _ h42]
    · intro k' h
      unfold d_draw1
      rw [va_up_ne _ _ (by omega), va_up_self, d_odds_7, h1]
    · unfold d_draw1
      rw [va_up_ne _ _ (by omega), va_up_self, va_up_ne _ _ (by omega)]
      exact h2
def k_drs (c : Nat → Int32) (l : Nat) (x : Int32 × (Nat → Int32)) : Int32 × (Nat → Int32) := itr (k_dr c l) 4 0 x
theorem k_dr2 {c : Nat → Int32} : ∀ (d l : Nat) (M : Nat → Nat → Int32), (∀ l k h, d_odds (M 42) l k h = d_odds c l k h) → (∀ l, M 42 (8 + 6 * l + 4) = c (8 + 6 * l + 4)) → itr (fun l I => itr (d_draw1 l) 4 0 I) d l M = va_up (va_up M 42 (va_up (M 42) 7 (itr (k_drs c) d l (M 42 7, M 52)).1)) 52 (itr (k_drs c) d l (M 42 7, M 52)).2 := by
  intro d
  induction d with
  | zero =>
    intro k M h1 h2
    simp only [itr]
    rw [va_same, va_same, va_same]
  | succ d ih =>
    intro l M h1 h2
    have e : itr (fun l I => itr (d_draw1 l) 4 0 I) (d + 1) l M = itr (fun l I => itr (d_draw1 l) 4 0 I) d (l + 1) (itr (d_draw1 l) 4 0 M) := rfl
    have e2 : itr (k_drs c) (d + 1) l (M 42 7, M 52) = itr (k_drs c) d (l + 1) (k_drs c l (M 42 7, M 52)) := rfl
    have g0 := k_dr1 (c := c) (l := l) 4 0 M (h1 l) (h2 l)
    rw [show itr (k_dr c l) 4 0 (M 42 7, M 52) = k_drs c l (M 42 7, M 52) from rfl] at g0
    rw [e, e2, g0]
    generalize k_drs c l (M 42 7, M 52) = y
    obtain ⟨y1, y2⟩ := y
    rw [ih (l + 1)]
    · simp (disch := omega) only [va_up_self, va_up_ne, va_twice]
      funext p
      by_cases h52 : p = 52
      · subst h52; rw [va_up_self, va_up_self]
      · rw [va_up_ne _ _ h52, va_up_ne _ _ h52]
        by_cases h42 : p = 42
        · subst h42; rw [va_up_self, va_up_self]
        · rw [va_up_ne _ _ h42, va_up_ne _ _ h42, va_up_ne _ _ h52, va_up_ne _ _ h42]
    · intro l' k' h
      simp (disch := omega) only [va_up_self, va_up_ne]
      rw [d_odds_7, h1]
    · intro l'
      simp (disch := omega) only [va_up_self, va_up_ne]
      exact h2 l'
