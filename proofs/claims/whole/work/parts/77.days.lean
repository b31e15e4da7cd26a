noncomputable def evE : aE Int32 := e_if (c_not (c_eq0 (e_il 2))) (e_vi 8 12 fX8_drawnEvents (e_al 0) v_nil) (e_ic 0)
theorem uk_days (k : aK) (L : List Value) (m : aM) : wbX8_passDays_0 k L m = (s_sq (s_sq (s_vv 3 3 fX3_remember (e_gr 8 12 3 (e_al 0)) (v_r (e_gr 8 12 2 (e_al 0)) v_nil)) (s_sq (s_il 4 (e_i2 (fun x y => x ||| y) (e_gi 6 9 6 (e_gr 8 12 2 (e_al 0))) evE)) (s_sq (s_gi 6 9 6 (e_gr 8 12 2 (e_al 0)) (e_ic 0)) (s_sq (s_vv 6 9 fX6_passDay (e_gr 8 12 2 (e_al 0)) (v_r (e_gr 8 12 1 (e_al 0)) (v_i (e_il 4) v_nil))) (s_fg 4))))) (s_ii 3 1)) k L m := rfl
/-- one day of both -/
theorem ek_day1 {T : Nat → Nat × Nat} {I : Nat → Nat → Int32} {J : Nat → Nat → Int64} {R : Nat → Nat → Option Nat} {n s : Nat} {M : Nat → Nat → Int32} {z : Int32} {L P N j B : Nat} (hz : z = 0 ∨ z = 1) (hN1 : N < 100) (hj : j < N) (hi : kIn T I R n M L P) (hB : bd (M 42 2) B) (hB9 : B < 90099) :
    ∃ T' I' J' R' n' s', (∀ K k2 : aK, wcX8_passDays_0 (wbX8_passDays_0 K) k2 [.ref 0, .int (nI N), .int z, .int (nI j), a_jk] (T, I, J, R, n, s) = K [.ref 0, .int (nI N), .int z, .int (nI (j + 1)), a_jk] (T', I', J', R', n', s')) ∧ kIn T' I' R' n' (d_day z L P M) L P ∧ bd (d_day z L P M 42 2) (B + 1) ∧ (∀ p, 41 ≤ p → p < 55 → I' p = I p) ∧ n ≤ n' ∧ n' ≤ n + 3 ∧ s ≤ s' ∧ s' ≤ s + 19 := by
  obtain ⟨hr, ht, he, ⟨⟨hv, hlw, hE, hD⟩, hb2, hb7, h8⟩, ⟨u, x, hu3, hx3, u1, u2, x1, rows⟩, hc⟩ := hi
  have h55 := hr.2.1
  obtain ⟨T1, I1, J1, R1, n1, s1, q, hrem, hr1, hq, hoth, hI1, hx1, hu1, hA, hBq, hQ, hq55, hn1, hn2, hs1, hs2⟩ := ek_remember (J := J) (s := s) hr hx3 hu3 x1 u1
  have hS := hr.1
  have hS1 := hr1.1
  have hP1 := kPst_rem hr hr1 hq hoth hI1 hx1 hu1 hA hBq hQ hq55 ⟨hv, hlw, hE, hD⟩ hb2 hu3 hx3 u2 rows
  have hC1 := kImg_rem hr hr1 hq hx3 hoth hI1 hq55 hc
  have i1 : ∀ p, p < 55 → p ≠ 23 → I1 p = I p := fun p hp h23 => hI1 p (by omega) h23 (by omega) (by omega) (by omega)
  have hlw1 : kLw I1 (M 42) L P := kLw_I (fun y h1 h2 => i1 y (by omega) (by omega)) hlw
  have hE1 : kE (I1 20) (I1 21) (M 42) L P := by rw [i1 20 (by omega) (by omega), i1 21 (by omega) (by omega)]; exact hE
  obtain ⟨E, sd, hev, hsd, hsd7, hset⟩ := ek_events (v1 := .int (nI N)) (I := I1) (J := J1) (n := n1) (s := s1) hS1 hz hv hlw1 hE1 (by rw [i1 0 (by omega) (by omega)]; exact h8) hb7
  have hev' : ∀ (k : Int32 → aK) (L : List Value), evE k (.ref 0 :: .int (nI N) :: .int z :: L) (T1, I1, J1, R1, n1, s1) = k E (.ref 0 :: .int (nI N) :: .int z :: L) (T1, va_up I1 0 (va_up (I1 0) 8 sd), J1, R1, n1, s1) := hev
  obtain ⟨pr1, pr0⟩ := d_pre_row (z := z) (L := L) (M := M)
  have hv' := vRow_told pr1 pr0 hv
  have hL := hv.1
  have hP := hv.2.1
  obtain ⟨D0, D1, D2, D3, D4, Dq⟩ := id hD
  have hD1 : kD (va_up (I 20) 6 0) (I 22) (d_pre z L M 42) 0 P := by
    refine ⟨?_, ?_, ?_, ?_, ?_, ?_⟩
    · rw [va_up_ne _ _ (by omega), pr1 2 (by omega) (by omega) (by omega) (by omega) (by omega)]; exact D0
    · rw [va_up_ne _ _ (by omega), pr1 3 (by omega) (by omega) (by omega) (by omega) (by omega)]; exact D1
    · rw [va_up_ne _ _ (by omega), pr1 4 (by omega) (by omega) (by omega) (by omega) (by omega)]; exact D2
    · rw [va_up_ne _ _ (by omega), pr1 5 (by omega) (by omega) (by omega) (by omega) (by omega)]; exact D3
    · rw [va_up_ne _ _ (by omega), pr1 6 (by omega) (by omega) (by omega) (by omega) (by omega), if_pos rfl]; rw [if_pos rfl] at D4; exact D4
    · intro i hi; rw [pr1 _ (by omega) (by omega) (by omega) (by omega) (by omega)]; exact Dq i hi
  have e6 : I1 20 6 = I 20 6 := by rw [i1 20 (by omega) (by omega)]
  obtain ⟨a, qq, hpd, hDp, h5, h6, hvp⟩ := ek_passDay (I := va_up (va_up I1 0 (va_up (I1 0) 8 sd)) 20 (va_up (I1 20) 6 0)) (J := J1) (n := n1) (s := s1) (p := 20) (E := I1 20 6 ||| E) (c := d_pre z L M 42) (ev := d_pre z L M 52) hS1 (by omega) (t20 hS1) (t22 hS1) (p20_8 hS1)
    (kLw_I (fun y h1 h2 => by simp (disch := omega) only [va_up_ne]) (kLw_congr (fun i hi k hk => pr1 _ (by omega) (by omega) (by omega) (by omega) (by omega)) (fun l hl k hk => pr1 _ (by omega) (by omega) (by omega) (by omega) (by omega)) hlw1)) hv'
    (fun i hi => by rw [va_up_self, va_up_ne _ _ (by omega), i1 20 (by omega) (by omega), hE.2.1 i hi, pr1 _ (by omega) (by omega) (by omega) (by omega) (by omega)])
    hset
    (by rw [va_up_self, va_up_ne _ _ (by omega), va_up_ne _ _ (by omega), i1 20 (by omega) (by omega), i1 (20 + 2) (by omega) (by omega)]; exact hD1)
  refine ⟨T1, va_up (va_up (va_up (va_up I1 0 (va_up (I1 0) 8 sd)) 20 (va_up (I1 20) 6 0)) 20 a) (20 + 2) qq, J1, R1, n1, s1, ?_, ?_, ?_, ?_, hn1, hn2, hs1, hs2⟩
  · intro K k2
    simp (disch := omega) only [↓uwcX8_passDays_0, ↓uk_days, ↓y_vv (t23 hS) hrem ⟨hn1, hs1⟩, ↓hev', ↓y_vv (t20 hS1) hpd ⟨Nat.le_refl _, Nat.le_refl _⟩, hj, t0 hS, t20 hS, p0_2 hS, p0_3 hS, t0 hS1, t20 hS1, p0_1 hS1, p0_2 hS1, up2_row, ↓x_ic, ↓x_jc, ↓x_nl, ↓x_il0, ↓x_jl0, ↓x_al0, ↓x_aln0, ↓x_il1, ↓x_jl1, ↓x_al1, ↓x_aln1, ↓x_il2, ↓x_jl2, ↓x_al2, ↓x_aln2, ↓x_il3, ↓x_jl3, ↓x_al3, ↓x_aln3, ↓x_il4, ↓x_jl4, ↓x_il5, ↓x_jl5, ↓x_il6, ↓x_jl6, ↓x_il7, ↓x_jl7, ↓x_il8, ↓x_jl8, ↓x_il9, ↓x_jl9, ↓x_il10, ↓x_jl10, ↓x_il11, ↓x_jl11, ↓x_il12, ↓x_jl12, ↓x_il13, ↓x_jl13, ↓x_il14, ↓x_jl14, ↓x_il15, ↓x_jl15, ↓x_i2, ↓x_j2, ↓x_id, ↓x_ir, ↓x_jd, ↓x_jr, ↓x_w, ↓x_n, ↓x_gi, ↓x_kgi, ↓x_gr, ↓x_kgr, ↓x_ia, ↓x_kia, ↓x_za, ↓x_kza, ↓x_ja, ↓x_kja, ↓x_ra, ↓x_kra, ↓x_len, ↓x_klen, ↓x_vn, ↓x_vi, ↓x_vr, ↓x_kvr, ↓x_kvrn, ↓x_ci, ↓x_cj, ↓x_cv, ↓x_evi, ↓x_evj, ↓x_svv, ↓x_min, ↓x_eif, ↓x_lt, ↓x_jlt, ↓x_lt0, ↓x_le, ↓x_jle, ↓x_le0, ↓x_eq, ↓x_jeq, ↓x_eq0, ↓x_cnl, ↓x_knl0, ↓x_knl1, ↓x_not, ↓x_and, ↓x_or, ↓x_sk, ↓x_sq, ↓x_sif, ↓x_sil, ↓x_sjl, ↓x_sal, ↓x_k1_0, ↓x_ii_0, ↓x_k2_0, ↓x_k3_0, ↓x_k1_1i, ↓x_ii_1i, ↓x_k2_1i, ↓x_k3_1i, ↓x_k1_1r, ↓x_ii_1r, ↓x_k2_1r, ↓x_k3_1r, ↓x_k1_1n, ↓x_ii_1n, ↓x_k2_1n, ↓x_k3_1n, ↓x_k1_1a, ↓x_ii_1a, ↓x_k2_1a, ↓x_k3_1a, ↓x_k1_1l, ↓x_ii_1l, ↓x_k2_1l, ↓x_k3_1l, ↓x_k1_2i, ↓x_ii_2i, ↓x_k2_2i, ↓x_k3_2i, ↓x_k1_2r, ↓x_ii_2r, ↓x_k2_2r, ↓x_k3_2r, ↓x_k1_2n, ↓x_ii_2n, ↓x_k2_2n, ↓x_k3_2n, ↓x_k1_2a, ↓x_ii_2a, ↓x_k2_2a, ↓x_k3_2a, ↓x_k1_2l, ↓x_ii_2l, ↓x_k2_2l, ↓x_k3_2l, ↓x_k1_3i, ↓x_ii_3i, ↓x_k2_3i, ↓x_k3_3i, ↓x_k1_3r, ↓x_ii_3r, ↓x_k2_3r, ↓x_k3_3r, ↓x_k1_3n, ↓x_ii_3n, ↓x_k2_3n, ↓x_k3_3n, ↓x_k1_3a, ↓x_ii_3a, ↓x_k2_3a, ↓x_k3_3a, ↓x_k1_3l, ↓x_ii_3l, ↓x_k2_3l, ↓x_k3_3l, ↓x_k1_4i, ↓x_ii_4i, ↓x_k2_4i, ↓x_k1_4r, ↓x_ii_4r, ↓x_k2_4r, ↓x_k1_4n, ↓x_ii_4n, ↓x_k2_4n, ↓x_k1_4a, ↓x_ii_4a, ↓x_k2_4a, ↓x_k1_4l, ↓x_ii_4l, ↓x_k2_4l, ↓x_k1_5i, ↓x_ii_5i, ↓x_k2_5i, ↓x_k1_5r, ↓x_ii_5r, ↓x_k2_5r, ↓x_k1_5n, ↓x_ii_5n, ↓x_k2_5n, ↓x_k1_5a, ↓x_ii_5a, ↓x_k2_5a, ↓x_k1_5l, ↓x_ii_5l, ↓x_k2_5l, ↓x_k1_6i, ↓x_ii_6i, ↓x_k2_6i, ↓x_k1_6r, ↓x_ii_6r, ↓x_k2_6r, ↓x_k1_6n, ↓x_ii_6n, ↓x_k2_6n, ↓x_k1_6a, ↓x_ii_6a, ↓x_k2_6a, ↓x_k1_6l, ↓x_ii_6l, ↓x_k2_6l, ↓x_k1_7i, ↓x_ii_7i, ↓x_k2_7i, ↓x_k1_7r, ↓x_ii_7r, ↓x_k2_7r, ↓x_k1_7n, ↓x_ii_7n, ↓x_k2_7n, ↓x_k1_7a, ↓x_ii_7a, ↓x_k2_7a, ↓x_k1_7l, ↓x_ii_7l, ↓x_k2_7l, ↓x_k1_8i, ↓x_ii_8i, ↓x_k2_8i, ↓x_k1_8r, ↓x_ii_8r, ↓x_k2_8r, ↓x_k1_8n, ↓x_ii_8n, ↓x_k2_8n, ↓x_k1_8a, ↓x_ii_8a, ↓x_k2_8a, ↓x_k1_8l, ↓x_ii_8l, ↓x_k2_8l, ↓x_k1_9i, ↓x_ii_9i, ↓x_k2_9i, ↓x_k1_9r, ↓x_ii_9r, ↓x_k2_9r, ↓x_k1_9n, ↓x_ii_9n, ↓x_k2_9n, ↓x_k1_9a, ↓x_ii_9a, ↓x_k2_9a, ↓x_k1_9l, ↓x_ii_9l, ↓x_k2_9l, ↓x_k1_10i, ↓x_ii_10i, ↓x_k2_10i, ↓x_k1_10r, ↓x_ii_10r, ↓x_k2_10r, ↓x_k1_10n, ↓x_ii_10n, ↓x_k2_10n, ↓x_k1_10a, ↓x_ii_10a, ↓x_k2_10a, ↓x_k1_10l, ↓x_ii_10l, ↓x_k2_10l, ↓x_k1_11i, ↓x_ii_11i, ↓x_k2_11i, ↓x_k1_11r, ↓x_ii_11r, ↓x_k2_11r, ↓x_k1_11n, ↓x_ii_11n, ↓x_k2_11n, ↓x_k1_11a, ↓x_ii_11a, ↓x_k2_11a, ↓x_k1_11l, ↓x_ii_11l, ↓x_k2_11l, ↓x_k1_12i, ↓x_ii_12i, ↓x_k2_12i, ↓x_k1_12r, ↓x_ii_12r, ↓x_k2_12r, ↓x_k1_12n, ↓x_ii_12n, ↓x_k2_12n, ↓x_k1_12a, ↓x_ii_12a, ↓x_k2_12a, ↓x_k1_12l, ↓x_ii_12l, ↓x_k2_12l, ↓x_k1_13i, ↓x_ii_13i, ↓x_k2_13i, ↓x_k1_13r, ↓x_ii_13r, ↓x_k2_13r, ↓x_k1_13n, ↓x_ii_13n, ↓x_k2_13n, ↓x_k1_13a, ↓x_ii_13a, ↓x_k2_13a, ↓x_k1_13l, ↓x_ii_13l, ↓x_k2_13l, ↓x_k1_14i, ↓x_ii_14i, ↓x_k2_14i, ↓x_k1_14r, ↓x_ii_14r, ↓x_k2_14r, ↓x_k1_14n, ↓x_ii_14n, ↓x_k2_14n, ↓x_k1_14a, ↓x_ii_14a, ↓x_k2_14a, ↓x_k1_14l, ↓x_ii_14l, ↓x_k2_14l, ↓x_k1_15i, ↓x_ii_15i, ↓x_k1_15r, ↓x_ii_15r, ↓x_k1_15n, ↓x_ii_15n, ↓x_k1_15a, ↓x_ii_15a, ↓x_k1_15l, ↓x_ii_15l, ↓x_fg_1_2, ↓x_fg_2_3, ↓x_fg_2_4, ↓x_fg_2_6, ↓x_fg_3_4, ↓x_fg_3_5, ↓x_fg_3_6, ↓x_fg_3_7, ↓x_fg_4_5, ↓x_fg_4_6, ↓x_fg_4_7, ↓x_fg_5_6, ↓x_fg_5_7, ↓x_fg_5_8, ↓x_fg_6_7, ↓x_fg_6_8, ↓x_fg_6_9, ↓x_fg_7_8, ↓x_fg_7_9, ↓x_fg_7_10, ↓x_fg_7_12, ↓x_fg_7_13, ↓x_fg_8_9, ↓x_fg_8_10, ↓x_fg_8_12, ↓x_fg_9_10, ↓x_fg_9_12, ↓x_fg_9_13, ↓x_fg_10_13, ↓x_fg_10_16, ↓x_fg_11_13, ↓x_fg_11_16, ↓x_fg_13_16, ↓x_fg_14_16, ↓x_sgi, ↓x_ksgi, ↓x_sgz, ↓x_ksgz, ↓x_sgr, ↓x_ksgr, ↓x_sgo, ↓x_kgo, ↓x_kgo2, ↓x_sia, ↓x_ksia, ↓x_sza, ↓x_ksza, ↓x_sja, ↓x_ksja, ↓x_sra, ↓x_ksra, ↓x_ksran, ↓x_sio, ↓x_kio, ↓x_kio2, ↓x_sjo, ↓x_kjo, ↓x_kjo2, ↓x_spi, ↓x_sri, ↓x_srz, ↓x_srj, ↓x_srv, ↓x_sob, ↓x_kob, ↓x_sac, ↓x_kac, ↓x_ssw, ↓reduceIte, and_self, true_and, and_true, true_or, or_true, eq_self, not_false_eq_true, not_true_eq_false, reduceCtorEq, Nat.reduceAdd, Nat.reduceMul, Nat.reduceEqDiff, Nat.le_refl, i10, i01, ltn, len, eqn, va_twice, Int32.lt_irrefl, Int32.le_refl, a_ixn, a_cln, nI_add, pk_mul, va_up_self, va_up_ne, up2_va, Nat.add_zero, Nat.zero_add, ix0, tc0, ix1, tc1, ix2, tc2, ix3, tc3, ix4, tc4, ix5, tc5, ix6, tc6, ix7, tc7, ix8, tc8, ix9, tc9, ix10, tc10, ix11, tc11, ix12, tc12, ix13, tc13, ix14, tc14, ix15, tc15, ix16, tc16, ix30, tc30, ix31, tc31, ix32, tc32, ix74, tc74, al0, ar0, al1, ar1, al2, ar2, al3, ar3, al4, ar4, al5, ar5, al6, ar6, al7, ar7, al8, ar8, al9, ar9, al10, ar10, al11, ar11, al12, ar12, al13, ar13, al14, ar14, al15, ar15, al16, ar16, al32, ar32, al74, ar74, ml4, mr4, ml6, mr6, ml7, mr7, ml10, mr10, ml74, mr74]
  · have dn : ∀ p, p ≠ 41 → p ≠ 42 → p ≠ 45 → p ≠ 52 → d_day z L P M p = M p := fun p a1 a2 a3 a4 => by rw [d_day_ne a2 a4, d_notes_ne a1 a3]
    have dn41 : ∀ f, f ≠ 4 → d_day z L P M 41 f = M 41 f := fun f hf => by rw [d_day_ne (by omega) (by omega), d_notes_41f hf]
    refine ⟨hr1, kTxt_c (I := I) (M := M) ?_ ?_ ?_ ?_ ?_ ht, kSee_c (I := I) (M := M) ?_ ?_ ?_ ?_ ?_ ?_ ?_ ?_ ?_ ?_ he, ⟨⟨?_, ?_, ?_, ?_⟩, ?_, ?_, ?_⟩, kPst_c (I := I1) (M := d_notes M) hr1 ?_ ?_ ?_ ?_ hP1, kImg_c (I := I1) (M := M) hr1 ?_ ?_ ?_ ?_ ?_ hC1⟩
    any_goals first | (simp (disch := omega) only [va_up_ne, i1]; done) | (simp (disch := omega) only [va_up_ne, va_up_self]; done) | (simp (disch := omega) only [va_up_ne]; done) | exact dn41 _ (by omega) | exact dn _ (by omega) (by omega) (by omega) (by omega) | (intro y hy; simp (disch := omega) only [va_up_ne]; done) | (rw [d_day_ne (by omega) (by omega)]; done)
    · rw [d_day_42]; exact hvp
    · rw [d_day_42]
      exact kLw_I (I := I1) (fun y h1 h2 => by simp (disch := omega) only [va_up_ne]) (kLw_congr (fun i hi k hk => by rw [d_pass_ne (by omega) (by omega) (by omega) (by omega) (by omega) (by omega)]; exact pr1 _ (by omega) (by omega) (by omega) (by omega) (by omega)) (fun l hl k hk => by rw [d_pass_ne (by omega) (by omega) (by omega) (by omega) (by omega) (by omega)]; exact pr1 _ (by omega) (by omega) (by omega) (by omega) (by omega)) hlw1)
    · rw [d_day_42]
      simp (disch := omega) only [va_up_self, va_up_ne]
      rw [va_up_self] at h5 h6
      rw [va_up_ne _ _ (by omega)] at h5
      rw [va_up_self] at h6
      refine ⟨?_, ?_, ?_, ?_⟩
      · rw [h5, hE1.1]
        exact (d_lapsed_congr (fun i hi => by rw [d_pass_ne (by omega) (by omega) (by omega) (by omega) (by omega) (by omega)]; exact pr1 _ (by omega) (by omega) (by omega) (by omega) (by omega))).symm
      · intro i hi
        rw [h5, hE1.2.1 i hi, d_pass_ne (by omega) (by omega) (by omega) (by omega) (by omega) (by omega), pr1 _ (by omega) (by omega) (by omega) (by omega) (by omega)]
      · intro l hl
        rw [h6, k_set_0 l hl, d_pass_ne (by omega) (by omega) (by omega) (by omega) (by omega) (by omega), pr0 l hl]
      · intro l hl
        rw [i1 (20 + 1) (by omega) (by omega), hE.2.2.2 l hl, d_pass_ne (by omega) (by omega) (by omega) (by omega) (by omega) (by omega), pr1 _ (by omega) (by omega) (by omega) (by omega) (by omega)]
    · rw [d_day_42]
      simp (disch := omega) only [va_up_self, va_up_ne]
      exact hDp
    · rw [d_day_42, d_pass_2, pr1 2 (by omega) (by omega) (by omega) (by omega) (by omega)]
      obtain ⟨d, hd, e⟩ := hB
      exact ⟨d + 1, by omega, by rw [e, al1]⟩
    · rw [d_day_42, d_pass_7, ← hsd7]; exact hsd
    · rw [d_day_42, d_pass_7, ← hsd7]
      simp (disch := omega) only [va_up_self, va_up_ne]
  · rw [d_day_42, d_pass_2, pr1 2 (by omega) (by omega) (by omega) (by omega) (by omega)]
    obtain ⟨d, hd, e⟩ := hB
    exact ⟨d + 1, by omega, by rw [e, al1]⟩
  · intro p h1 h2
    simp (disch := omega) only [va_up_ne]
    exact i1 p (by omega) (by omega)
