/-! draws -/
theorem kj_and (a b : Nat) : lN a &&& lN b = lN (a &&& b) := by
  apply Int64.toBitVec_inj.1
  show BitVec.ofNat 64 a &&& BitVec.ofNat 64 b = BitVec.ofNat 64 (a &&& b)
  apply BitVec.eq_of_getLsbD_eq
  intro i hi
  simp [hi]
def k_next (x : Int32) : Int32 := ((x.toInt64 * 1103515245 + 12345) &&& 2147483647).toInt32
theorem lj31 (n : Nat) : (OfNat.ofNat n : Int64) = lN n := rfl
theorem kj_mask (n k : Nat) : lN n &&& lN (2 ^ k - 1) = lN (n % 2 ^ k) := by rw [kj_and, Nat.and_two_pow_sub_one_eq_mod]
theorem k_mod {Y B C : Nat} (hB : B = 2 ^ 31) (hC : C = 2 ^ 31 - 1) (hY : Y < 2 ^ 63) : (lN Y &&& lN C).toInt32 = (lN Y - lN Y / lN B * lN B).toInt32 ∧ bd (lN Y - lN Y / lN B * lN B).toInt32 2147483647 := by
  have e2 := pk_lRem (a := Y) (b := B) hY (by omega) (by omega)
  rw [e2, hC, kj_mask, lN_i, lN_i, hB]
  exact ⟨rfl, _, by omega, rfl⟩
theorem k_next_eq {a : Nat} (h : a < 2147483648) : k_next (nI a) = d_next (nI a) ∧ bd (d_next (nI a)) 2147483647 := by
  unfold k_next d_next
  have e : (nI a).toInt64 * 1103515245 + 12345 = lN (a * 1103515245 + 12345) := by
    rw [nI_l h, lj31 1103515245, lj31 12345, lN_mul, lN_add]
  rw [e]
  exact k_mod (Y := a * 1103515245 + 12345) (B := 2147483648) (C := 2147483647) (by decide) (by decide) (by omega)
noncomputable def bdr (A B C : Int64) : aP := (s_sq (s_gi 8 12 8 (e_al 0) (e_n (e_j2 (fun x y => x &&& y) (e_j2 (fun x y => x + y) (e_j2 (fun x y => x * y) (e_w (e_gi 8 12 8 (e_al 0))) (e_jc A)) (e_jc B)) (e_jc C)))) (s_ri (e_ir (e_id (e_gi 8 12 8 (e_al 0)) (e_ic 65536)) (e_ic 1000))))
theorem ubdr (A B C : Int64) (k : aK) (L : List Value) (m : aM) : bdr A B C k L m = (s_sq (s_gi 8 12 8 (e_al 0) (e_n (e_j2 (fun x y => x &&& y) (e_j2 (fun x y => x + y) (e_j2 (fun x y => x * y) (e_w (e_gi 8 12 8 (e_al 0))) (e_jc A)) (e_jc B)) (e_jc C)))) (s_ri (e_ir (e_id (e_gi 8 12 8 (e_al 0)) (e_ic 65536)) (e_ic 1000)))) k L m := rfl
theorem ek_bdr {T : Nat → Nat × Nat} {I : Nat → Nat → Int32} {J : Nat → Nat → Int64} {R : Nat → Nat → Option Nat} {n s : Nat} (hS : aSh T R) (A B C : Int64) (k : aK) : bdr A B C k [.ref 0] (T, I, J, R, n, s) = some (some (.int (d_three ((I 0 8).toInt64 * A + B &&& C).toInt32)), (T, va_up I 0 (va_up (I 0) 8 ((I 0 8).toInt64 * A + B &&& C).toInt32), J, R, n, s)) := by
  have h2 : ¬ ((65536 : Int32) = 0) := by decide
  have h3 : ¬ ((1000 : Int32) = 0) := by decide
  simp (disch := omega) only [↓ubdr, t0 hS, up2_row, h2, h3, d_three, ↓x_ic, ↓x_jc, ↓x_nl, ↓x_il0, ↓x_jl0, ↓x_al0, ↓x_aln0, ↓x_il1, ↓x_jl1, ↓x_al1, ↓x_aln1, ↓x_il2, ↓x_jl2, ↓x_al2, ↓x_aln2, ↓x_il3, ↓x_jl3, ↓x_al3, ↓x_aln3, ↓x_il4, ↓x_jl4, ↓x_il5, ↓x_jl5, ↓x_il6, ↓x_jl6, ↓x_il7, ↓x_jl7, ↓x_il8, ↓x_jl8, ↓x_il9, ↓x_jl9, ↓x_il10, ↓x_jl10, ↓x_il11, ↓x_jl11, ↓x_il12, ↓x_jl12, ↓x_il13, ↓x_jl13, ↓x_il14, ↓x_jl14, ↓x_il15, ↓x_jl15, ↓x_i2, ↓x_j2, ↓x_id, ↓x_ir, ↓x_jd, ↓x_jr, ↓x_w, ↓x_n, ↓x_gi, ↓x_kgi, ↓x_gr, ↓x_kgr, ↓x_ia, ↓x_kia, ↓x_za, ↓x_kza, ↓x_ja, ↓x_kja, ↓x_ra, ↓x_kra, ↓x_len, ↓x_klen, ↓x_vn, ↓x_vi, ↓x_vr, ↓x_kvr, ↓x_kvrn, ↓x_ci, ↓x_cj, ↓x_cv, ↓x_evi, ↓x_evj, ↓x_svv, ↓x_min, ↓x_eif, ↓x_lt, ↓x_jlt, ↓x_lt0, ↓x_le, ↓x_jle, ↓x_le0, ↓x_eq, ↓x_jeq, ↓x_eq0, ↓x_cnl, ↓x_knl0, ↓x_knl1, ↓x_not, ↓x_and, ↓x_or, ↓x_sk, ↓x_sq, ↓x_sif, ↓x_sil, ↓x_sjl, ↓x_sal, ↓x_k1_0, ↓x_ii_0, ↓x_k2_0, ↓x_k3_0, ↓x_k1_1i, ↓x_ii_1i, ↓x_k2_1i, ↓x_k3_1i, ↓x_k1_1r, ↓x_ii_1r, ↓x_k2_1r, ↓x_k3_1r, ↓x_k1_1n, ↓x_ii_1n, ↓x_k2_1n, ↓x_k3_1n, ↓x_k1_1a, ↓x_ii_1a, ↓x_k2_1a, ↓x_k3_1a, ↓x_k1_1l, ↓x_ii_1l, ↓x_k2_1l, ↓x_k3_1l, ↓x_k1_2i, ↓x_ii_2i, ↓x_k2_2i, ↓x_k3_2i, ↓x_k1_2r, ↓x_ii_2r, ↓x_k2_2r, ↓x_k3_2r, ↓x_k1_2n, ↓x_ii_2n, ↓x_k2_2n, ↓x_k3_2n, ↓x_k1_2a, ↓x_ii_2a, ↓x_k2_2a, ↓x_k3_2a, ↓x_k1_2l, ↓x_ii_2l, ↓x_k2_2l, ↓x_k3_2l, ↓x_k1_3i, ↓x_ii_3i, ↓x_k2_3i, ↓x_k3_3i, ↓x_k1_3r, ↓x_ii_3r, ↓x_k2_3r, ↓x_k3_3r, ↓x_k1_3n, ↓x_ii_3n, ↓x_k2_3n, ↓x_k3_3n, ↓x_k1_3a, ↓x_ii_3a, ↓x_k2_3a, ↓x_k3_3a, ↓x_k1_3l, ↓x_ii_3l, ↓x_k2_3l, ↓x_k3_3l, ↓x_k1_4i, ↓x_ii_4i, ↓x_k2_4i, ↓x_k1_4r, ↓x_ii_4r, ↓x_k2_4r, ↓x_k1_4n, ↓x_ii_4n, ↓x_k2_4n, ↓x_k1_4a, ↓x_ii_4a, ↓x_k2_4a, ↓x_k1_4l, ↓x_ii_4l, ↓x_k2_4l, ↓x_k1_5i, ↓x_ii_5i, ↓x_k2_5i, ↓x_k1_5r, ↓x_ii_5r, ↓x_k2_5r, ↓x_k1_5n, ↓x_ii_5n, ↓x_k2_5n, ↓x_k1_5a, ↓x_ii_5a, ↓x_k2_5a, ↓x_k1_5l, ↓x_ii_5l, ↓x_k2_5l, ↓x_k1_6i, ↓x_ii_6i, ↓x_k2_6i, ↓x_k1_6r, ↓x_ii_6r, ↓x_k2_6r, ↓x_k1_6n, ↓x_ii_6n, ↓x_k2_6n, ↓x_k1_6a, ↓x_ii_6a, ↓x_k2_6a, ↓x_k1_6l, ↓x_ii_6l, ↓x_k2_6l, ↓x_k1_7i, ↓x_ii_7i, ↓x_k2_7i, ↓x_k1_7r, ↓x_ii_7r, ↓x_k2_7r, ↓x_k1_7n, ↓x_ii_7n, ↓x_k2_7n, ↓x_k1_7a, ↓x_ii_7a, ↓x_k2_7a, ↓x_k1_7l, ↓x_ii_7l, ↓x_k2_7l, ↓x_k1_8i, ↓x_ii_8i, ↓x_k2_8i, ↓x_k1_8r, ↓x_ii_8r, ↓x_k2_8r, ↓x_k1_8n, ↓x_ii_8n, ↓x_k2_8n, ↓x_k1_8a, ↓x_ii_8a, ↓x_k2_8a, ↓x_k1_8l, ↓x_ii_8l, ↓x_k2_8l, ↓x_k1_9i, ↓x_ii_9i, ↓x_k2_9i, ↓x_k1_9r, ↓x_ii_9r, ↓x_k2_9r, ↓x_k1_9n, ↓x_ii_9n, ↓x_k2_9n, ↓x_k1_9a, ↓x_ii_9a, ↓x_k2_9a, ↓x_k1_9l, ↓x_ii_9l, ↓x_k2_9l, ↓x_k1_10i, ↓x_ii_10i, ↓x_k2_10i, ↓x_k1_10r, ↓x_ii_10r, ↓x_k2_10r, ↓x_k1_10n, ↓x_ii_10n, ↓x_k2_10n, ↓x_k1_10a, ↓x_ii_10a, ↓x_k2_10a, ↓x_k1_10l, ↓x_ii_10l, ↓x_k2_10l, ↓x_k1_11i, ↓x_ii_11i, ↓x_k2_11i, ↓x_k1_11r, ↓x_ii_11r, ↓x_k2_11r, ↓x_k1_11n, ↓x_ii_11n, ↓x_k2_11n, ↓x_k1_11a, ↓x_ii_11a, ↓x_k2_11a, ↓x_k1_11l, ↓x_ii_11l, ↓x_k2_11l, ↓x_k1_12i, ↓x_ii_12i, ↓x_k2_12i, ↓x_k1_12r, ↓x_ii_12r, ↓x_k2_12r, ↓x_k1_12n, ↓x_ii_12n, ↓x_k2_12n, ↓x_k1_12a, ↓x_ii_12a, ↓x_k2_12a, ↓x_k1_12l, ↓x_ii_12l, ↓x_k2_12l, ↓x_k1_13i, ↓x_ii_13i, ↓x_k2_13i, ↓x_k1_13r, ↓x_ii_13r, ↓x_k2_13r, ↓x_k1_13n, ↓x_ii_13n, ↓x_k2_13n, ↓x_k1_13a, ↓x_ii_13a, ↓x_k2_13a, ↓x_k1_13l, ↓x_ii_13l, ↓x_k2_13l, ↓x_k1_14i, ↓x_ii_14i, ↓x_k2_14i, ↓x_k1_14r, ↓x_ii_14r, ↓x_k2_14r, ↓x_k1_14n, ↓x_ii_14n, ↓x_k2_14n, ↓x_k1_14a, ↓x_ii_14a, ↓x_k2_14a, ↓x_k1_14l, ↓x_ii_14l, ↓x_k2_14l, ↓x_k1_15i, ↓x_ii_15i, ↓x_k1_15r, ↓x_ii_15r, ↓x_k1_15n, ↓x_ii_15n, ↓x_k1_15a, ↓x_ii_15a, ↓x_k1_15l, ↓x_ii_15l, ↓x_fg_1_2, ↓x_fg_2_3, ↓x_fg_2_4, ↓x_fg_2_6, ↓x_fg_3_4, ↓x_fg_3_5, ↓x_fg_3_6, ↓x_fg_3_7, ↓x_fg_4_5, ↓x_fg_4_6, ↓x_fg_4_7, ↓x_fg_5_6, ↓x_fg_5_7, ↓x_fg_5_8, ↓x_fg_6_7, ↓x_fg_6_8, ↓x_fg_6_9, ↓x_fg_7_8, ↓x_fg_7_9, ↓x_fg_7_10, ↓x_fg_7_12, ↓x_fg_7_13, ↓x_fg_8_9, ↓x_fg_8_10, ↓x_fg_8_12, ↓x_fg_9_10, ↓x_fg_9_12, ↓x_fg_9_13, ↓x_fg_10_13, ↓x_fg_10_16, ↓x_fg_11_13, ↓x_fg_11_16, ↓x_fg_13_16, ↓x_fg_14_16, ↓x_sgi, ↓x_ksgi, ↓x_sgz, ↓x_ksgz, ↓x_sgr, ↓x_ksgr, ↓x_sgo, ↓x_kgo, ↓x_kgo2, ↓x_sia, ↓x_ksia, ↓x_sza, ↓x_ksza, ↓x_sja, ↓x_ksja, ↓x_sra, ↓x_ksra, ↓x_ksran, ↓x_sio, ↓x_kio, ↓x_kio2, ↓x_sjo, ↓x_kjo, ↓x_kjo2, ↓x_spi, ↓x_sri, ↓x_srz, ↓x_srj, ↓x_srv, ↓x_sob, ↓x_kob, ↓x_sac, ↓x_kac, ↓x_ssw, ↓reduceIte, and_self, true_and, and_true, true_or, or_true, eq_self, not_false_eq_true, not_true_eq_false, reduceCtorEq, Nat.reduceAdd, Nat.reduceMul, Nat.reduceEqDiff, Nat.le_refl, i10, i01, ltn, len, eqn, va_twice, Int32.lt_irrefl, Int32.le_refl, a_ixn, a_cln, nI_add, pk_mul, va_up_self, va_up_ne, up2_va, Nat.add_zero, Nat.zero_add, ix0, tc0, ix1, tc1, ix2, tc2, ix3, tc3, ix4, tc4, ix5, tc5, ix6, tc6, ix7, tc7, ix8, tc8, ix9, tc9, ix10, tc10, ix11, tc11, ix12, tc12, ix13, tc13, ix14, tc14, ix15, tc15, ix16, tc16, ix30, tc30, ix31, tc31, ix32, tc32, ix74, tc74, al0, ar0, al1, ar1, al2, ar2, al3, ar3, al4, ar4, al5, ar5, al6, ar6, al7, ar7, al8, ar8, al9, ar9, al10, ar10, al11, ar11, al12, ar12, al13, ar13, al14, ar14, al15, ar15, al16, ar16, al32, ar32, al74, ar74, ml4, mr4, ml6, mr6, ml7, mr7, ml10, mr10, ml74, mr74]
theorem bdr_eq : bX8_drawOfThousand = bdr 1103515245 12345 2147483647 := rfl
theorem ek_draw {T : Nat → Nat × Nat} {I : Nat → Nat → Int32} {J : Nat → Nat → Int64} {R : Nat → Nat → Option Nat} {n s : Nat} (hS : aSh T R) : fX8_drawOfThousand [.ref 0] (T, I, J, R, n, s) = some (some (.int (d_three (k_next (I 0 8)))), (T, va_up I 0 (va_up (I 0) 8 (k_next (I 0 8))), J, R, n, s)) := by
  rw [enX8_drawOfThousand, bdr_eq, ek_bdr hS]
  unfold k_next
  rfl
/-- one draw: the seed, the sets -/
def k_dr (c : Nat → Int32) (l k : Nat) (x : Int32 × (Nat → Int32)) : Int32 × (Nat → Int32) := (d_next x.1, va_up x.2 l (x.2 l ||| (if d_three (d_next x.1) < d_odds c l k (c (8 + 6 * l + 4)) then (1 : Int32) <<< (nI k &&& 31) else 0)))
theorem k_dr_1 {c : Nat → Int32} {l k : Nat} {a : Int32} {e : Nat → Int32} : (k_dr c l k (a, e)).1 = d_next a := by
  dsimp only [k_dr]
theorem k_dr_2 {c : Nat → Int32} {l k : Nat} {a : Int32} {e : Nat → Int32} : (k_dr c l k (a, e)).2 = va_up e l (e l ||| (if d_three (d_next a) < d_odds c l k (c (8 + 6 * l + 4)) then (1 : Int32) <<< (nI k &&& 31) else 0)) := by
  dsimp only [k_dr]
theorem d_dr_42 {l k : Nat} {M : Nat → Nat → Int32} : d_draw1 l k M 42 = va_up (M 42) 7 (d_next (M 42 7)) := by
  unfold d_draw1
  rw [va_up_ne _ _ (by omega), va_up_self]
theorem d_dr_52 {l k : Nat} {M : Nat → Nat → Int32} : d_draw1 l k M 52 = va_up (M 52) l (M 52 l ||| (if d_three (d_next (M 42 7)) < d_odds (M 42) l k (M 42 (8 + 6 * l + 4)) then (1 : Int32) <<< (nI k &&& 31) else 0)) := by
  unfold d_draw1
  rw [va_up_self]
theorem d_dr_ne {l k p : Nat} {M : Nat → Nat → Int32} (h1 : p ≠ 42) (h2 : p ≠ 52) : d_draw1 l k M p = M p := by
  unfold d_draw1
  rw [va_up_ne _ _ h2, va_up_ne _ _ h1]
theorem va_two {M M' : Nat → Nat → Int32} {a b a' b' : Nat → Int32} (h : ∀ p, p ≠ 42 → p ≠ 52 → M' p = M p) (ha : a' = a) (hb : b' = b) : va_up (va_up M' 42 a') 52 b' = va_up (va_up M 42 a) 52 b := by
  subst ha
  subst hb
  funext p
  by_cases h52 : p = 52
  · subst h52; rw [va_up_self, va_up_self]
  · rw [va_up_ne _ _ h52, va_up_ne _ _ h52]
    by_cases h42 : p = 42
    · subst h42; rw [va_up_self, va_up_self]
    · rw [va_up_ne _ _ h42, va_up_ne _ _ h42]
      exact h p h42 h52
theorem va_two0 (M : Nat → Nat → Int32) : M = va_up (va_up M 42 (va_up (M 42) 7 (M 42 7))) 52 (M 52) := by
  funext p
  by_cases h52 : p = 52
  · subst h52; rw [va_up_self]
  · rw [va_up_ne _ _ h52]
    by_cases h42 : p = 42
    · subst h42; rw [va_up_self, va_same]
    · rw [va_up_ne _ _ h42]
theorem itr_s {σ : Type} (f : Nat → σ → σ) (d j : Nat) (x : σ) : itr f (d + 1) j x = itr f d (j + 1) (f j x) := rfl
theorem itr_0 {σ : Type} (f : Nat → σ → σ) (j : Nat) (x : σ) : itr f 0 j x = x := rfl
theorem k_dr1 {c : Nat → Int32} {l : Nat} : ∀ (d k : Nat) (M : Nat → Nat → Int32), (∀ k h, d_odds (M 42) l k h = d_odds c l k h) → M 42 (8 + 6 * l + 4) = c (8 + 6 * l + 4) → itr (d_draw1 l) d k M = va_up (va_up M 42 (va_up (M 42) 7 (itr (k_dr c l) d k (M 42 7, M 52)).1)) 52 (itr (k_dr c l) d k (M 42 7, M 52)).2 := by
  intro d
  induction d with
  | zero =>
    intro k M h1 h2
    rw [itr_0, itr_0]
    exact va_two0 M
  | succ d ih =>
    intro k M h1 h2
    have g : (d_draw1 l k M 42 7, d_draw1 l k M 52) = k_dr c l k (M 42 7, M 52) := by
      apply Prod.ext
      · rw [k_dr_1, d_dr_42, va_up_self]
      · rw [k_dr_2, d_dr_52, h1, h2]
    rw [itr_s, itr_s, ih (k + 1) (d_draw1 l k M), g]
    · exact va_two (fun p h1 h2 => d_dr_ne h1 h2) (by rw [d_dr_42, va_twice]) rfl
    · intro k' h
      rw [d_dr_42, d_odds_7, h1]
    · rw [d_dr_42, va_up_ne _ _ (by omega)]
      exact h2
def k_drs (c : Nat → Int32) (l : Nat) (x : Int32 × (Nat → Int32)) : Int32 × (Nat → Int32) := itr (k_dr c l) 4 0 x
theorem k_drs_eq (c : Nat → Int32) (l : Nat) (x : Int32 × (Nat → Int32)) : itr (k_dr c l) 4 0 x = k_drs c l x := rfl
theorem k_dr2 {c : Nat → Int32} : ∀ (d l : Nat) (M : Nat → Nat → Int32), (∀ l k h, d_odds (M 42) l k h = d_odds c l k h) → (∀ l, M 42 (8 + 6 * l + 4) = c (8 + 6 * l + 4)) → itr (fun l I => itr (d_draw1 l) 4 0 I) d l M = va_up (va_up M 42 (va_up (M 42) 7 (itr (k_drs c) d l (M 42 7, M 52)).1)) 52 (itr (k_drs c) d l (M 42 7, M 52)).2 := by
  intro d
  induction d with
  | zero =>
    intro k M h1 h2
    rw [itr_0, itr_0]
    exact va_two0 M
  | succ d ih =>
    intro l M h1 h2
    have g0 := k_dr1 (c := c) (l := l) 4 0 M (h1 l) (h2 l)
    rw [k_drs_eq] at g0
    rw [itr_s (fun l I => itr (d_draw1 l) 4 0 I), itr_s (k_drs c), g0]
    generalize k_drs c l (M 42 7, M 52) = y
    obtain ⟨y1, y2⟩ := y
    rw [ih (l + 1)]
    · simp (disch := omega) only [va_up_self, va_up_ne, va_twice]
      exact va_two (fun p h1 h2 => by rw [va_up_ne _ _ h2, va_up_ne _ _ h1]) rfl rfl
    · intro l' k' h
      simp (disch := omega) only [va_up_self, va_up_ne]
      rw [d_odds_7, h1]
    · intro l'
      simp (disch := omega) only [va_up_self, va_up_ne]
      exact h2 l'
theorem k_one : ∀ k, k < 4 → ∃ v, v < 16 ∧ (1 : Int32) <<< (nI k &&& 31) = nI v := fun k hk => by
  rcases (by omega : k = 0 ∨ k = 1 ∨ k = 2 ∨ k = 3) with h | h | h | h <;> subst h
  · exact ⟨1, by omega, by decide⟩
  · exact ⟨2, by omega, by decide⟩
  · exact ⟨4, by omega, by decide⟩
  · exact ⟨8, by omega, by decide⟩
/-- what the class's loops over draws keep -/
def k_drV (I : Nat → Nat → Int32) (J : Nat → Nat → Int64) (T : Nat → Nat × Nat) (R : Nat → Nat → Option Nat) (n s : Nat) (E0 : Int32) (x : Int32 × (Nat → Int32)) (E : Int32) (m : aM) : Prop := m = (T, va_up I 0 (va_up (I 0) 8 x.1), J, R, n, s) ∧ bd x.1 2147483647 ∧ ∀ l, l < 4 → k_set (E0 ||| E) l = x.2 l
theorem ek_draws0 {T : Nat → Nat × Nat} {I : Nat → Nat → Int32} {J : Nat → Nat → Int64} {R : Nat → Nat → Option Nat} {n s : Nat} (hS : aSh T R) {c : Nat → Int32} {L P l : Nat} {E0 : Int32} (hv : vRow c L P) (hlw : kLw I c L P) (hh : I 21 l = c (8 + 6 * l + 4)) (hl : l < L) {x : Int32 × (Nat → Int32)} {E : Int32} {m : aM} (h : k_drV I J T R n s E0 x E m) :
    ∃ E' m', (∀ K : aK, s_wh wcX8_drawnEvents_0 wbX8_drawnEvents_0 aN K [.ref 0, .int E, .int (nI l), .int 0] m = K [.ref 0, .int E', .int (nI l), .int (nI 4)] m') ∧ k_drV I J T R n s E0 (k_drs c l x) E' m' := by
  have hN := aN_ge
  have hL := hv.1
  obtain ⟨L', m', e, E', rfl, h'⟩ := wh_rel (σ := Int32 × (Nat → Int32)) (c := wcX8_drawnEvents_0) (b := wbX8_drawnEvents_0)
    (fun k x Ls m => ∃ E, Ls = [.ref 0, .int E, .int (nI l), .int (nI k)] ∧ k_drV I J T R n s E0 x E m)
    (k_dr c l) 4
    (by
      rintro x Ls m k1 k2 ⟨E, rfl, -⟩
      have h4 : ¬ nI 4 < 4 := by decide
      simp (disch := omega) only [↓uwcX8_drawnEvents_0, h4, ↓x_ic, ↓x_jc, ↓x_nl, ↓x_il0, ↓x_jl0, ↓x_al0, ↓x_aln0, ↓x_il1, ↓x_jl1, ↓x_al1, ↓x_aln1, ↓x_il2, ↓x_jl2, ↓x_al2, ↓x_aln2, ↓x_il3, ↓x_jl3, ↓x_al3, ↓x_aln3, ↓x_il4, ↓x_jl4, ↓x_il5, ↓x_jl5, ↓x_il6, ↓x_jl6, ↓x_il7, ↓x_jl7, ↓x_il8, ↓x_jl8, ↓x_il9, ↓x_jl9, ↓x_il10, ↓x_jl10, ↓x_il11, ↓x_jl11, ↓x_il12, ↓x_jl12, ↓x_il13, ↓x_jl13, ↓x_il14, ↓x_jl14, ↓x_il15, ↓x_jl15, ↓x_i2, ↓x_j2, ↓x_id, ↓x_ir, ↓x_jd, ↓x_jr, ↓x_w, ↓x_n, ↓x_gi, ↓x_kgi, ↓x_gr, ↓x_kgr, ↓x_ia, ↓x_kia, ↓x_za, ↓x_kza, ↓x_ja, ↓x_kja, ↓x_ra, ↓x_kra, ↓x_len, ↓x_klen, ↓x_vn, ↓x_vi, ↓x_vr, ↓x_kvr, ↓x_kvrn, ↓x_ci, ↓x_cj, ↓x_cv, ↓x_evi, ↓x_evj, ↓x_svv, ↓x_min, ↓x_eif, ↓x_lt, ↓x_jlt, ↓x_lt0, ↓x_le, ↓x_jle, ↓x_le0, ↓x_eq, ↓x_jeq, ↓x_eq0, ↓x_cnl, ↓x_knl0, ↓x_knl1, ↓x_not, ↓x_and, ↓x_or, ↓x_sk, ↓x_sq, ↓x_sif, ↓x_sil, ↓x_sjl, ↓x_sal, ↓x_k1_0, ↓x_ii_0, ↓x_k2_0, ↓x_k3_0, ↓x_k1_1i, ↓x_ii_1i, ↓x_k2_1i, ↓x_k3_1i, ↓x_k1_1r, ↓x_ii_1r, ↓x_k2_1r, ↓x_k3_1r, ↓x_k1_1n, ↓x_ii_1n, ↓x_k2_1n, ↓x_k3_1n, ↓x_k1_1a, ↓x_ii_1a, ↓x_k2_1a, ↓x_k3_1a, ↓x_k1_1l, ↓x_ii_1l, ↓x_k2_1l, ↓x_k3_1l, ↓x_k1_2i, ↓x_ii_2i, ↓x_k2_2i, ↓x_k3_2i, ↓x_k1_2r, ↓x_ii_2r, ↓x_k2_2r, ↓x_k3_2r, ↓x_k1_2n, ↓x_ii_2n, ↓x_k2_2n, ↓x_k3_2n, ↓x_k1_2a, ↓x_ii_2a, ↓x_k2_2a, ↓x_k3_2a, ↓x_k1_2l, ↓x_ii_2l, ↓x_k2_2l, ↓x_k3_2l, ↓x_k1_3i, ↓x_ii_3i, ↓x_k2_3i, ↓x_k3_3i, ↓x_k1_3r, ↓x_ii_3r, ↓x_k2_3r, ↓x_k3_3r, ↓x_k1_3n, ↓x_ii_3n, ↓x_k2_3n, ↓x_k3_3n, ↓x_k1_3a, ↓x_ii_3a, ↓x_k2_3a, ↓x_k3_3a, ↓x_k1_3l, ↓x_ii_3l, ↓x_k2_3l, ↓x_k3_3l, ↓x_k1_4i, ↓x_ii_4i, ↓x_k2_4i, ↓x_k1_4r, ↓x_ii_4r, ↓x_k2_4r, ↓x_k1_4n, ↓x_ii_4n, ↓x_k2_4n, ↓x_k1_4a, ↓x_ii_4a, ↓x_k2_4a, ↓x_k1_4l, ↓x_ii_4l, ↓x_k2_4l, ↓x_k1_5i, ↓x_ii_5i, ↓x_k2_5i, ↓x_k1_5r, ↓x_ii_5r, ↓x_k2_5r, ↓x_k1_5n, ↓x_ii_5n, ↓x_k2_5n, ↓x_k1_5a, ↓x_ii_5a, ↓x_k2_5a, ↓x_k1_5l, ↓x_ii_5l, ↓x_k2_5l, ↓x_k1_6i, ↓x_ii_6i, ↓x_k2_6i, ↓x_k1_6r, ↓x_ii_6r, ↓x_k2_6r, ↓x_k1_6n, ↓x_ii_6n, ↓x_k2_6n, ↓x_k1_6a, ↓x_ii_6a, ↓x_k2_6a, ↓x_k1_6l, ↓x_ii_6l, ↓x_k2_6l, ↓x_k1_7i, ↓x_ii_7i, ↓x_k2_7i, ↓x_k1_7r, ↓x_ii_7r, ↓x_k2_7r, ↓x_k1_7n, ↓x_ii_7n, ↓x_k2_7n, ↓x_k1_7a, ↓x_ii_7a, ↓x_k2_7a, ↓x_k1_7l, ↓x_ii_7l, ↓x_k2_7l, ↓x_k1_8i, ↓x_ii_8i, ↓x_k2_8i, ↓x_k1_8r, ↓x_ii_8r, ↓x_k2_8r, ↓x_k1_8n, ↓x_ii_8n, ↓x_k2_8n, ↓x_k1_8a, ↓x_ii_8a, ↓x_k2_8a, ↓x_k1_8l, ↓x_ii_8l, ↓x_k2_8l, ↓x_k1_9i, ↓x_ii_9i, ↓x_k2_9i, ↓x_k1_9r, ↓x_ii_9r, ↓x_k2_9r, ↓x_k1_9n, ↓x_ii_9n, ↓x_k2_9n, ↓x_k1_9a, ↓x_ii_9a, ↓x_k2_9a, ↓x_k1_9l, ↓x_ii_9l, ↓x_k2_9l, ↓x_k1_10i, ↓x_ii_10i, ↓x_k2_10i, ↓x_k1_10r, ↓x_ii_10r, ↓x_k2_10r, ↓x_k1_10n, ↓x_ii_10n, ↓x_k2_10n, ↓x_k1_10a, ↓x_ii_10a, ↓x_k2_10a, ↓x_k1_10l, ↓x_ii_10l, ↓x_k2_10l, ↓x_k1_11i, ↓x_ii_11i, ↓x_k2_11i, ↓x_k1_11r, ↓x_ii_11r, ↓x_k2_11r, ↓x_k1_11n, ↓x_ii_11n, ↓x_k2_11n, ↓x_k1_11a, ↓x_ii_11a, ↓x_k2_11a, ↓x_k1_11l, ↓x_ii_11l, ↓x_k2_11l, ↓x_k1_12i, ↓x_ii_12i, ↓x_k2_12i, ↓x_k1_12r, ↓x_ii_12r, ↓x_k2_12r, ↓x_k1_12n, ↓x_ii_12n, ↓x_k2_12n, ↓x_k1_12a, ↓x_ii_12a, ↓x_k2_12a, ↓x_k1_12l, ↓x_ii_12l, ↓x_k2_12l, ↓x_k1_13i, ↓x_ii_13i, ↓x_k2_13i, ↓x_k1_13r, ↓x_ii_13r, ↓x_k2_13r, ↓x_k1_13n, ↓x_ii_13n, ↓x_k2_13n, ↓x_k1_13a, ↓x_ii_13a, ↓x_k2_13a, ↓x_k1_13l, ↓x_ii_13l, ↓x_k2_13l, ↓x_k1_14i, ↓x_ii_14i, ↓x_k2_14i, ↓x_k1_14r, ↓x_ii_14r, ↓x_k2_14r, ↓x_k1_14n, ↓x_ii_14n, ↓x_k2_14n, ↓x_k1_14a, ↓x_ii_14a, ↓x_k2_14a, ↓x_k1_14l, ↓x_ii_14l, ↓x_k2_14l, ↓x_k1_15i, ↓x_ii_15i, ↓x_k1_15r, ↓x_ii_15r, ↓x_k1_15n, ↓x_ii_15n, ↓x_k1_15a, ↓x_ii_15a, ↓x_k1_15l, ↓x_ii_15l, ↓x_fg_1_2, ↓x_fg_2_3, ↓x_fg_2_4, ↓x_fg_2_6, ↓x_fg_3_4, ↓x_fg_3_5, ↓x_fg_3_6, ↓x_fg_3_7, ↓x_fg_4_5, ↓x_fg_4_6, ↓x_fg_4_7, ↓x_fg_5_6, ↓x_fg_5_7, ↓x_fg_5_8, ↓x_fg_6_7, ↓x_fg_6_8, ↓x_fg_6_9, ↓x_fg_7_8, ↓x_fg_7_9, ↓x_fg_7_10, ↓x_fg_7_12, ↓x_fg_7_13, ↓x_fg_8_9, ↓x_fg_8_10, ↓x_fg_8_12, ↓x_fg_9_10, ↓x_fg_9_12, ↓x_fg_9_13, ↓x_fg_10_13, ↓x_fg_10_16, ↓x_fg_11_13, ↓x_fg_11_16, ↓x_fg_13_16, ↓x_fg_14_16, ↓x_sgi, ↓x_ksgi, ↓x_sgz, ↓x_ksgz, ↓x_sgr, ↓x_ksgr, ↓x_sgo, ↓x_kgo, ↓x_kgo2, ↓x_sia, ↓x_ksia, ↓x_sza, ↓x_ksza, ↓x_sja, ↓x_ksja, ↓x_sra, ↓x_ksra, ↓x_ksran, ↓x_sio, ↓x_kio, ↓x_kio2, ↓x_sjo, ↓x_kjo, ↓x_kjo2, ↓x_spi, ↓x_sri, ↓x_srz, ↓x_srj, ↓x_srv, ↓x_sob, ↓x_kob, ↓x_sac, ↓x_kac, ↓x_ssw, ↓reduceIte, and_self, true_and, and_true, true_or, or_true, eq_self, not_false_eq_true, not_true_eq_false, reduceCtorEq, Nat.reduceAdd, Nat.reduceMul, Nat.reduceEqDiff, Nat.le_refl, i10, i01, ltn, len, eqn, va_twice, Int32.lt_irrefl, Int32.le_refl, a_ixn, a_cln, nI_add, pk_mul, va_up_self, va_up_ne, up2_va, Nat.add_zero, Nat.zero_add, ix0, tc0, ix1, tc1, ix2, tc2, ix3, tc3, ix4, tc4, ix5, tc5, ix6, tc6, ix7, tc7, ix8, tc8, ix9, tc9, ix10, tc10, ix11, tc11, ix12, tc12, ix13, tc13, ix14, tc14, ix15, tc15, ix16, tc16, ix30, tc30, ix31, tc31, ix32, tc32, ix74, tc74, al0, ar0, al1, ar1, al2, ar2, al3, ar3, al4, ar4, al5, ar5, al6, ar6, al7, ar7, al8, ar8, al9, ar9, al10, ar10, al11, ar11, al12, ar12, al13, ar13, al14, ar14, al15, ar15, al16, ar16, al32, ar32, al74, ar74, ml4, mr4, ml6, mr6, ml7, mr7, ml10, mr10, ml74, mr74])
    (by
      rintro k ⟨sd, ev⟩ Ls m hk ⟨E, rfl, rfl, ⟨a, ha, hs⟩, hE⟩
      dsimp only at hs hE
      subst hs
      obtain ⟨nx1, nx2⟩ := k_next_eq (a := a) (by omega)
      have h4 : nI k < 4 := by rw [lt31 4, ltn (by omega) (by omega)]; exact hk
      have hb := (hv.2.2.2.2.2.2.1 l (by omega)).1
      have od := ek_odds (I := va_up I 0 (va_up (I 0) 8 (d_next (nI a)))) (J := J) (n := n) (s := s) hS hv (kLw_I (fun x h1 h2 => va_up_ne _ _ (by omega)) hlw) hl hk hb
      have dr := ek_draw (I := va_up I 0 (va_up (I 0) 8 (nI a))) (J := J) (n := n) (s := s) hS
      simp only [va_up_self, nx1, va_twice] at dr
      obtain ⟨v, hv16, hone⟩ := k_one k hk
      by_cases hlt : d_three (d_next (nI a)) < d_odds c l k (c (8 + 6 * l + 4))
      · refine ⟨[.ref 0, .int (E ||| (nI v <<< (nI (4 * l) &&& 31))), .int (nI l), .int (nI (k + 1))], (T, va_up I 0 (va_up (I 0) 8 (d_next (nI a))), J, R, n, s), fun K k2 => ?_, E ||| (nI v <<< (nI (4 * l) &&& 31)), rfl, ?_, ?_, ?_⟩
        · simp (disch := omega) only [↓uwcX8_drawnEvents_0, ↓uwbX8_drawnEvents_0, ↓y_vi (t0 hS) dr ⟨Nat.le_refl _, Nat.le_refl _⟩, ↓y_vi (t12 hS) od ⟨Nat.le_refl _, Nat.le_refl _⟩, ↓y_ci (ek_onLife _ _ _) ⟨Nat.le_refl _, Nat.le_refl _⟩, h4, hlt, hone, hh, t0 hS, t20 hS, t21 hS, p0_1 hS, p0_2 hS, p20_7 hS, ↓x_ic, ↓x_jc, ↓x_nl, ↓x_il0, ↓x_jl0, ↓x_al0, ↓x_aln0, ↓x_il1, ↓x_jl1, ↓x_al1, ↓x_aln1, ↓x_il2, ↓x_jl2, ↓x_al2, ↓x_aln2, ↓x_il3, ↓x_jl3, ↓x_al3, ↓x_aln3, ↓x_il4, ↓x_jl4, ↓x_il5, ↓x_jl5, ↓x_il6, ↓x_jl6, ↓x_il7, ↓x_jl7, ↓x_il8, ↓x_jl8, ↓x_il9, ↓x_jl9, ↓x_il10, ↓x_jl10, ↓x_il11, ↓x_jl11, ↓x_il12, ↓x_jl12, ↓x_il13, ↓x_jl13, ↓x_il14, ↓x_jl14, ↓x_il15, ↓x_jl15, ↓x_i2, ↓x_j2, ↓x_id, ↓x_ir, ↓x_jd, ↓x_jr, ↓x_w, ↓x_n, ↓x_gi, ↓x_kgi, ↓x_gr, ↓x_kgr, ↓x_ia, ↓x_kia, ↓x_za, ↓x_kza, ↓x_ja, ↓x_kja, ↓x_ra, ↓x_kra, ↓x_len, ↓x_klen, ↓x_vn, ↓x_vi, ↓x_vr, ↓x_kvr, ↓x_kvrn, ↓x_ci, ↓x_cj, ↓x_cv, ↓x_evi, ↓x_evj, ↓x_svv, ↓x_min, ↓x_eif, ↓x_lt, ↓x_jlt, ↓x_lt0, ↓x_le, ↓x_jle, ↓x_le0, ↓x_eq, ↓x_jeq, ↓x_eq0, ↓x_cnl, ↓x_knl0, ↓x_knl1, ↓x_not, ↓x_and, ↓x_or, ↓x_sk, ↓x_sq, ↓x_sif, ↓x_sil, ↓x_sjl, ↓x_sal, ↓x_k1_0, ↓x_ii_0, ↓x_k2_0, ↓x_k3_0, ↓x_k1_1i, ↓x_ii_1i, ↓x_k2_1i, ↓x_k3_1i, ↓x_k1_1r, ↓x_ii_1r, ↓x_k2_1r, ↓x_k3_1r, ↓x_k1_1n, ↓x_ii_1n, ↓x_k2_1n, ↓x_k3_1n, ↓x_k1_1a, ↓x_ii_1a, ↓x_k2_1a, ↓x_k3_1a, ↓x_k1_1l, ↓x_ii_1l, ↓x_k2_1l, ↓x_k3_1l, ↓x_k1_2i, ↓x_ii_2i, ↓x_k2_2i, ↓x_k3_2i, ↓x_k1_2r, ↓x_ii_2r, ↓x_k2_2r, ↓x_k3_2r, ↓x_k1_2n, ↓x_ii_2n, ↓x_k2_2n, ↓x_k3_2n, ↓x_k1_2a, ↓x_ii_2a, ↓x_k2_2a, ↓x_k3_2a, ↓x_k1_2l, ↓x_ii_2l, ↓x_k2_2l, ↓x_k3_2l, ↓x_k1_3i, ↓x_ii_3i, ↓x_k2_3i, ↓x_k3_3i, ↓x_k1_3r, ↓x_ii_3r, ↓x_k2_3r, ↓x_k3_3r, ↓x_k1_3n, ↓x_ii_3n, ↓x_k2_3n, ↓x_k3_3n, ↓x_k1_3a, ↓x_ii_3a, ↓x_k2_3a, ↓x_k3_3a, ↓x_k1_3l, ↓x_ii_3l, ↓x_k2_3l, ↓x_k3_3l, ↓x_k1_4i, ↓x_ii_4i, ↓x_k2_4i, ↓x_k1_4r, ↓x_ii_4r, ↓x_k2_4r, ↓x_k1_4n, ↓x_ii_4n, ↓x_k2_4n, ↓x_k1_4a, ↓x_ii_4a, ↓x_k2_4a, ↓x_k1_4l, ↓x_ii_4l, ↓x_k2_4l, ↓x_k1_5i, ↓x_ii_5i, ↓x_k2_5i, ↓x_k1_5r, ↓x_ii_5r, ↓x_k2_5r, ↓x_k1_5n, ↓x_ii_5n, ↓x_k2_5n, ↓x_k1_5a, ↓x_ii_5a, ↓x_k2_5a, ↓x_k1_5l, ↓x_ii_5l, ↓x_k2_5l, ↓x_k1_6i, ↓x_ii_6i, ↓x_k2_6i, ↓x_k1_6r, ↓x_ii_6r, ↓x_k2_6r, ↓x_k1_6n, ↓x_ii_6n, ↓x_k2_6n, ↓x_k1_6a, ↓x_ii_6a, ↓x_k2_6a, ↓x_k1_6l, ↓x_ii_6l, ↓x_k2_6l, ↓x_k1_7i, ↓x_ii_7i, ↓x_k2_7i, ↓x_k1_7r, ↓x_ii_7r, ↓x_k2_7r, ↓x_k1_7n, ↓x_ii_7n, ↓x_k2_7n, ↓x_k1_7a, ↓x_ii_7a, ↓x_k2_7a, ↓x_k1_7l, ↓x_ii_7l, ↓x_k2_7l, ↓x_k1_8i, ↓x_ii_8i, ↓x_k2_8i, ↓x_k1_8r, ↓x_ii_8r, ↓x_k2_8r, ↓x_k1_8n, ↓x_ii_8n, ↓x_k2_8n, ↓x_k1_8a, ↓x_ii_8a, ↓x_k2_8a, ↓x_k1_8l, ↓x_ii_8l, ↓x_k2_8l, ↓x_k1_9i, ↓x_ii_9i, ↓x_k2_9i, ↓x_k1_9r, ↓x_ii_9r, ↓x_k2_9r, ↓x_k1_9n, ↓x_ii_9n, ↓x_k2_9n, ↓x_k1_9a, ↓x_ii_9a, ↓x_k2_9a, ↓x_k1_9l, ↓x_ii_9l, ↓x_k2_9l, ↓x_k1_10i, ↓x_ii_10i, ↓x_k2_10i, ↓x_k1_10r, ↓x_ii_10r, ↓x_k2_10r, ↓x_k1_10n, ↓x_ii_10n, ↓x_k2_10n, ↓x_k1_10a, ↓x_ii_10a, ↓x_k2_10a, ↓x_k1_10l, ↓x_ii_10l, ↓x_k2_10l, ↓x_k1_11i, ↓x_ii_11i, ↓x_k2_11i, ↓x_k1_11r, ↓x_ii_11r, ↓x_k2_11r, ↓x_k1_11n, ↓x_ii_11n, ↓x_k2_11n, ↓x_k1_11a, ↓x_ii_11a, ↓x_k2_11a, ↓x_k1_11l, ↓x_ii_11l, ↓x_k2_11l, ↓x_k1_12i, ↓x_ii_12i, ↓x_k2_12i, ↓x_k1_12r, ↓x_ii_12r, ↓x_k2_12r, ↓x_k1_12n, ↓x_ii_12n, ↓x_k2_12n, ↓x_k1_12a, ↓x_ii_12a, ↓x_k2_12a, ↓x_k1_12l, ↓x_ii_12l, ↓x_k2_12l, ↓x_k1_13i, ↓x_ii_13i, ↓x_k2_13i, ↓x_k1_13r, ↓x_ii_13r, ↓x_k2_13r, ↓x_k1_13n, ↓x_ii_13n, ↓x_k2_13n, ↓x_k1_13a, ↓x_ii_13a, ↓x_k2_13a, ↓x_k1_13l, ↓x_ii_13l, ↓x_k2_13l, ↓x_k1_14i, ↓x_ii_14i, ↓x_k2_14i, ↓x_k1_14r, ↓x_ii_14r, ↓x_k2_14r, ↓x_k1_14n, ↓x_ii_14n, ↓x_k2_14n, ↓x_k1_14a, ↓x_ii_14a, ↓x_k2_14a, ↓x_k1_14l, ↓x_ii_14l, ↓x_k2_14l, ↓x_k1_15i, ↓x_ii_15i, ↓x_k1_15r, ↓x_ii_15r, ↓x_k1_15n, ↓x_ii_15n, ↓x_k1_15a, ↓x_ii_15a, ↓x_k1_15l, ↓x_ii_15l, ↓x_fg_1_2, ↓x_fg_2_3, ↓x_fg_2_4, ↓x_fg_2_6, ↓x_fg_3_4, ↓x_fg_3_5, ↓x_fg_3_6, ↓x_fg_3_7, ↓x_fg_4_5, ↓x_fg_4_6, ↓x_fg_4_7, ↓x_fg_5_6, ↓x_fg_5_7, ↓x_fg_5_8, ↓x_fg_6_7, ↓x_fg_6_8, ↓x_fg_6_9, ↓x_fg_7_8, ↓x_fg_7_9, ↓x_fg_7_10, ↓x_fg_7_12, ↓x_fg_7_13, ↓x_fg_8_9, ↓x_fg_8_10, ↓x_fg_8_12, ↓x_fg_9_10, ↓x_fg_9_12, ↓x_fg_9_13, ↓x_fg_10_13, ↓x_fg_10_16, ↓x_fg_11_13, ↓x_fg_11_16, ↓x_fg_13_16, ↓x_fg_14_16, ↓x_sgi, ↓x_ksgi, ↓x_sgz, ↓x_ksgz, ↓x_sgr, ↓x_ksgr, ↓x_sgo, ↓x_kgo, ↓x_kgo2, ↓x_sia, ↓x_ksia, ↓x_sza, ↓x_ksza, ↓x_sja, ↓x_ksja, ↓x_sra, ↓x_ksra, ↓x_ksran, ↓x_sio, ↓x_kio, ↓x_kio2, ↓x_sjo, ↓x_kjo, ↓x_kjo2, ↓x_spi, ↓x_sri, ↓x_srz, ↓x_srj, ↓x_srv, ↓x_sob, ↓x_kob, ↓x_sac, ↓x_kac, ↓x_ssw, ↓reduceIte, and_self, true_and, and_true, true_or, or_true, eq_self, not_false_eq_true, not_true_eq_false, reduceCtorEq, Nat.reduceAdd, Nat.reduceMul, Nat.reduceEqDiff, Nat.le_refl, i10, i01, ltn, len, eqn, va_twice, Int32.lt_irrefl, Int32.le_refl, a_ixn, a_cln, nI_add, pk_mul, va_up_self, va_up_ne, up2_va, Nat.add_zero, Nat.zero_add, ix0, tc0, ix1, tc1, ix2, tc2, ix3, tc3, ix4, tc4, ix5, tc5, ix6, tc6, ix7, tc7, ix8, tc8, ix9, tc9, ix10, tc10, ix11, tc11, ix12, tc12, ix13, tc13, ix14, tc14, ix15, tc15, ix16, tc16, ix30, tc30, ix31, tc31, ix32, tc32, ix74, tc74, al0, ar0, al1, ar1, al2, ar2, al3, ar3, al4, ar4, al5, ar5, al6, ar6, al7, ar7, al8, ar8, al9, ar9, al10, ar10, al11, ar11, al12, ar12, al13, ar13, al14, ar14, al15, ar15, al16, ar16, al32, ar32, al74, ar74, ml4, mr4, ml6, mr6, ml7, mr7, ml10, mr10, ml74, mr74]
        · rw [k_dr_1]
        · rw [k_dr_1]; exact nx2
        · intro l' hl'
          rw [k_dr_2, if_pos hlt, hone, ← Int32.or_assoc, k_set_o, hE l' hl', k_set_on l' hl' l (by omega) v hv16]
          by_cases el : l' = l
          · subst el; rw [if_pos rfl, va_up_self]
          · rw [if_neg el, va_up_ne _ _ el, Int32.or_zero]
      · refine ⟨[.ref 0, .int E, .int (nI l), .int (nI (k + 1))], (T, va_up I 0 (va_up (I 0) 8 (d_next (nI a))), J, R, n, s), fun K k2 => ?_, E, rfl, ?_, ?_, ?_⟩
        · simp (disch := omega) only [↓uwcX8_drawnEvents_0, ↓uwbX8_drawnEvents_0, ↓y_vi (t0 hS) dr ⟨Nat.le_refl _, Nat.le_refl _⟩, ↓y_vi (t12 hS) od ⟨Nat.le_refl _, Nat.le_refl _⟩, h4, hlt, hone, hh, t0 hS, t20 hS, t21 hS, p0_1 hS, p0_2 hS, p20_7 hS, ↓x_ic, ↓x_jc, ↓x_nl, ↓x_il0, ↓x_jl0, ↓x_al0, ↓x_aln0, ↓x_il1, ↓x_jl1, ↓x_al1, ↓x_aln1, ↓x_il2, ↓x_jl2, ↓x_al2, ↓x_aln2, ↓x_il3, ↓x_jl3, ↓x_al3, ↓x_aln3, ↓x_il4, ↓x_jl4, ↓x_il5, ↓x_jl5, ↓x_il6, ↓x_jl6, ↓x_il7, ↓x_jl7, ↓x_il8, ↓x_jl8, ↓x_il9, ↓x_jl9, ↓x_il10, ↓x_jl10, ↓x_il11, ↓x_jl11, ↓x_il12, ↓x_jl12, ↓x_il13, ↓x_jl13, ↓x_il14, ↓x_jl14, ↓x_il15, ↓x_jl15, ↓x_i2, ↓x_j2, ↓x_id, ↓x_ir, ↓x_jd, ↓x_jr, ↓x_w, ↓x_n, ↓x_gi, ↓x_kgi, ↓x_gr, ↓x_kgr, ↓x_ia, ↓x_kia, ↓x_za, ↓x_kza, ↓x_ja, ↓x_kja, ↓x_ra, ↓x_kra, ↓x_len, ↓x_klen, ↓x_vn, ↓x_vi, ↓x_vr, ↓x_kvr, ↓x_kvrn, ↓x_ci, ↓x_cj, ↓x_cv, ↓x_evi, ↓x_evj, ↓x_svv, ↓x_min, ↓x_eif, ↓x_lt, ↓x_jlt, ↓x_lt0, ↓x_le, ↓x_jle, ↓x_le0, ↓x_eq, ↓x_jeq, ↓x_eq0, ↓x_cnl, ↓x_knl0, ↓x_knl1, ↓x_not, ↓x_and, ↓x_or, ↓x_sk, ↓x_sq, ↓x_sif, ↓x_sil, ↓x_sjl, ↓x_sal, ↓x_k1_0, ↓x_ii_0, ↓x_k2_0, ↓x_k3_0, ↓x_k1_1i, ↓x_ii_1i, ↓x_k2_1i, ↓x_k3_1i, ↓x_k1_1r, ↓x_ii_1r, ↓x_k2_1r, ↓x_k3_1r, ↓x_k1_1n, ↓x_ii_1n, ↓x_k2_1n, ↓x_k3_1n, ↓x_k1_1a, ↓x_ii_1a, ↓x_k2_1a, ↓x_k3_1a, ↓x_k1_1l, ↓x_ii_1l, ↓x_k2_1l, ↓x_k3_1l, ↓x_k1_2i, ↓x_ii_2i, ↓x_k2_2i, ↓x_k3_2i, ↓x_k1_2r, ↓x_ii_2r, ↓x_k2_2r, ↓x_k3_2r, ↓x_k1_2n, ↓x_ii_2n, ↓x_k2_2n, ↓x_k3_2n, ↓x_k1_2a, ↓x_ii_2a, ↓x_k2_2a, ↓x_k3_2a, ↓x_k1_2l, ↓x_ii_2l, ↓x_k2_2l, ↓x_k3_2l, ↓x_k1_3i, ↓x_ii_3i, ↓x_k2_3i, ↓x_k3_3i, ↓x_k1_3r, ↓x_ii_3r, ↓x_k2_3r, ↓x_k3_3r, ↓x_k1_3n, ↓x_ii_3n, ↓x_k2_3n, ↓x_k3_3n, ↓x_k1_3a, ↓x_ii_3a, ↓x_k2_3a, ↓x_k3_3a, ↓x_k1_3l, ↓x_ii_3l, ↓x_k2_3l, ↓x_k3_3l, ↓x_k1_4i, ↓x_ii_4i, ↓x_k2_4i, ↓x_k1_4r, ↓x_ii_4r, ↓x_k2_4r, ↓x_k1_4n, ↓x_ii_4n, ↓x_k2_4n, ↓x_k1_4a, ↓x_ii_4a, ↓x_k2_4a, ↓x_k1_4l, ↓x_ii_4l, ↓x_k2_4l, ↓x_k1_5i, ↓x_ii_5i, ↓x_k2_5i, ↓x_k1_5r, ↓x_ii_5r, ↓x_k2_5r, ↓x_k1_5n, ↓x_ii_5n, ↓x_k2_5n, ↓x_k1_5a, ↓x_ii_5a, ↓x_k2_5a, ↓x_k1_5l, ↓x_ii_5l, ↓x_k2_5l, ↓x_k1_6i, ↓x_ii_6i, ↓x_k2_6i, ↓x_k1_6r, ↓x_ii_6r, ↓x_k2_6r, ↓x_k1_6n, ↓x_ii_6n, ↓x_k2_6n, ↓x_k1_6a, ↓x_ii_6a, ↓x_k2_6a, ↓x_k1_6l, ↓x_ii_6l, ↓x_k2_6l, ↓x_k1_7i, ↓x_ii_7i, ↓x_k2_7i, ↓x_k1_7r, ↓x_ii_7r, ↓x_k2_7r, ↓x_k1_7n, ↓x_ii_7n, ↓x_k2_7n, ↓x_k1_7a, ↓x_ii_7a, ↓x_k2_7a, ↓x_k1_7l, ↓x_ii_7l, ↓x_k2_7l, ↓x_k1_8i, ↓x_ii_8i, ↓x_k2_8i, ↓x_k1_8r, ↓x_ii_8r, ↓x_k2_8r, ↓x_k1_8n, ↓x_ii_8n, ↓x_k2_8n, ↓x_k1_8a, ↓x_ii_8a, ↓x_k2_8a, ↓x_k1_8l, ↓x_ii_8l, ↓x_k2_8l, ↓x_k1_9i, ↓x_ii_9i, ↓x_k2_9i, ↓x_k1_9r, ↓x_ii_9r, ↓x_k2_9r, ↓x_k1_9n, ↓x_ii_9n, ↓x_k2_9n, ↓x_k1_9a, ↓x_ii_9a, ↓x_k2_9a, ↓x_k1_9l, ↓x_ii_9l, ↓x_k2_9l, ↓x_k1_10i, ↓x_ii_10i, ↓x_k2_10i, ↓x_k1_10r, ↓x_ii_10r, ↓x_k2_10r, ↓x_k1_10n, ↓x_ii_10n, ↓x_k2_10n, ↓x_k1_10a, ↓x_ii_10a, ↓x_k2_10a, ↓x_k1_10l, ↓x_ii_10l, ↓x_k2_10l, ↓x_k1_11i, ↓x_ii_11i, ↓x_k2_11i, ↓x_k1_11r, ↓x_ii_11r, ↓x_k2_11r, ↓x_k1_11n, ↓x_ii_11n, ↓x_k2_11n, ↓x_k1_11a, ↓x_ii_11a, ↓x_k2_11a, ↓x_k1_11l, ↓x_ii_11l, ↓x_k2_11l, ↓x_k1_12i, ↓x_ii_12i, ↓x_k2_12i, ↓x_k1_12r, ↓x_ii_12r, ↓x_k2_12r, ↓x_k1_12n, ↓x_ii_12n, ↓x_k2_12n, ↓x_k1_12a, ↓x_ii_12a, ↓x_k2_12a, ↓x_k1_12l, ↓x_ii_12l, ↓x_k2_12l, ↓x_k1_13i, ↓x_ii_13i, ↓x_k2_13i, ↓x_k1_13r, ↓x_ii_13r, ↓x_k2_13r, ↓x_k1_13n, ↓x_ii_13n, ↓x_k2_13n, ↓x_k1_13a, ↓x_ii_13a, ↓x_k2_13a, ↓x_k1_13l, ↓x_ii_13l, ↓x_k2_13l, ↓x_k1_14i, ↓x_ii_14i, ↓x_k2_14i, ↓x_k1_14r, ↓x_ii_14r, ↓x_k2_14r, ↓x_k1_14n, ↓x_ii_14n, ↓x_k2_14n, ↓x_k1_14a, ↓x_ii_14a, ↓x_k2_14a, ↓x_k1_14l, ↓x_ii_14l, ↓x_k2_14l, ↓x_k1_15i, ↓x_ii_15i, ↓x_k1_15r, ↓x_ii_15r, ↓x_k1_15n, ↓x_ii_15n, ↓x_k1_15a, ↓x_ii_15a, ↓x_k1_15l, ↓x_ii_15l, ↓x_fg_1_2, ↓x_fg_2_3, ↓x_fg_2_4, ↓x_fg_2_6, ↓x_fg_3_4, ↓x_fg_3_5, ↓x_fg_3_6, ↓x_fg_3_7, ↓x_fg_4_5, ↓x_fg_4_6, ↓x_fg_4_7, ↓x_fg_5_6, ↓x_fg_5_7, ↓x_fg_5_8, ↓x_fg_6_7, ↓x_fg_6_8, ↓x_fg_6_9, ↓x_fg_7_8, ↓x_fg_7_9, ↓x_fg_7_10, ↓x_fg_7_12, ↓x_fg_7_13, ↓x_fg_8_9, ↓x_fg_8_10, ↓x_fg_8_12, ↓x_fg_9_10, ↓x_fg_9_12, ↓x_fg_9_13, ↓x_fg_10_13, ↓x_fg_10_16, ↓x_fg_11_13, ↓x_fg_11_16, ↓x_fg_13_16, ↓x_fg_14_16, ↓x_sgi, ↓x_ksgi, ↓x_sgz, ↓x_ksgz, ↓x_sgr, ↓x_ksgr, ↓x_sgo, ↓x_kgo, ↓x_kgo2, ↓x_sia, ↓x_ksia, ↓x_sza, ↓x_ksza, ↓x_sja, ↓x_ksja, ↓x_sra, ↓x_ksra, ↓x_ksran, ↓x_sio, ↓x_kio, ↓x_kio2, ↓x_sjo, ↓x_kjo, ↓x_kjo2, ↓x_spi, ↓x_sri, ↓x_srz, ↓x_srj, ↓x_srv, ↓x_sob, ↓x_kob, ↓x_sac, ↓x_kac, ↓x_ssw, ↓reduceIte, and_self, true_and, and_true, true_or, or_true, eq_self, not_false_eq_true, not_true_eq_false, reduceCtorEq, Nat.reduceAdd, Nat.reduceMul, Nat.reduceEqDiff, Nat.le_refl, i10, i01, ltn, len, eqn, va_twice, Int32.lt_irrefl, Int32.le_refl, a_ixn, a_cln, nI_add, pk_mul, va_up_self, va_up_ne, up2_va, Nat.add_zero, Nat.zero_add, ix0, tc0, ix1, tc1, ix2, tc2, ix3, tc3, ix4, tc4, ix5, tc5, ix6, tc6, ix7, tc7, ix8, tc8, ix9, tc9, ix10, tc10, ix11, tc11, ix12, tc12, ix13, tc13, ix14, tc14, ix15, tc15, ix16, tc16, ix30, tc30, ix31, tc31, ix32, tc32, ix74, tc74, al0, ar0, al1, ar1, al2, ar2, al3, ar3, al4, ar4, al5, ar5, al6, ar6, al7, ar7, al8, ar8, al9, ar9, al10, ar10, al11, ar11, al12, ar12, al13, ar13, al14, ar14, al15, ar15, al16, ar16, al32, ar32, al74, ar74, ml4, mr4, ml6, mr6, ml7, mr7, ml10, mr10, ml74, mr74]
        · rw [k_dr_1]
        · rw [k_dr_1]; exact nx2
        · intro l' hl'
          rw [k_dr_2, if_neg hlt, hE l' hl', Int32.or_zero]
          by_cases el : l' = l
          · subst el; rw [va_up_self]
          · rw [va_up_ne _ _ el])
    4 0 x aN [.ref 0, .int E, .int (nI l), .int (nI 0)] m (by omega) (by omega) ⟨E, rfl, h⟩
  exact ⟨E', m', e, h'⟩
