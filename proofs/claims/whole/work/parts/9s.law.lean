/-! the law -/
noncomputable def lwC (F G : aF) (ag : aE (List Value)) : aP := s_if (c_not (c_eq (e_vi 8 12 F (e_al 1) ag) (e_vi 9 24 G (e_al 2) ag))) (s_rz (e_ic 0)) s_sk
theorem ulwC (F G : aF) (ag : aE (List Value)) (k : aK) (L : List Value) (m : aM) : lwC F G ag k L m = s_if (c_not (c_eq (e_vi 8 12 F (e_al 1) ag) (e_vi 9 24 G (e_al 2) ag))) (s_rz (e_ic 0)) s_sk k L m := rfl
def kOk (m : aM) : Prop := kInv (mT m) (mI m) (mR m) (mN m) (mI m)
/-- one call of both, compared -/
theorem lw_case {F G : aF} {ag : aE (List Value)} {vs : List Value} {i : Nat} {m : aM} (ha : ∀ (k : List Value → aK) (m : aM), ag k [.retAddr 1, .ref 0, .ref 41, .int (nI i)] m = k vs [.retAddr 1, .ref 0, .ref 41, .int (nI i)] m) (hm : kOk m) (hc : kCall F G vs m) :
    ∃ m2, (∀ K : aK, lwC F G ag K [.retAddr 1, .ref 0, .ref 41, .int (nI i)] m = K [.retAddr 1, .ref 0, .ref 41, .int (nI i)] m2) ∧ kOk m2 ∧ mN m2 ≤ mN m + 297 ∧ mS m2 ≤ mS m + 1881 := by
  obtain ⟨v, T1, I1, J1, R1, n1, s1, I2, J2, e1, e2, hk, h1, h2, h3, h4⟩ := hc
  have t0' : mT m 0 = (8, 12) := t0 hm.1.1
  have t41' : mT ((T1, I1, J1, R1, n1, s1) : aM) 41 = (9, 24) := t41 (T := T1) (R := R1) hk.1.1
  refine ⟨(T1, I2, J2, R1, n1, s1), fun K => ?_, hk, h2, h4⟩
  rw [ulwC, x_sif, x_not, x_eq, x_evi, x_al1, ha, y_vi t0' e1 ⟨h1, h3⟩, x_evi, x_al2, ha, y_vi t41' e2 ⟨Nat.le_refl _, Nat.le_refl _⟩]
  exact if_pos rfl
noncomputable def sS (Lx : Nat) (xs : Nat → Int32) (k : Int32) : aE Int32 := e_sc Lx xs 0 (e_i2 (fun x y => x + y) (e_il 3) (e_ic k))
theorem x_sS {Lx : Nat} {xs : Nat → Int32} {i j : Nat} (hL : Lx ≤ 2560) (h : i + j < Lx) (k : Int32 → aK) (m : aM) : sS Lx xs (nI j) k [.retAddr 1, .ref 0, .ref 41, .int (nI i)] m = k (xs (i + j)) [.retAddr 1, .ref 0, .ref 41, .int (nI i)] m := by
  have h1 : a_ix (nI i + nI j) Lx = true := by rw [nI_add]; exact a_ixn h (by omega)
  have h2 : (nI i + nI j).toNatClampNeg = i + j := by rw [nI_add]; exact nI_clamp (by omega)
  show (if a_ix (nI i + nI j) Lx = true then k (xs (nI i + nI j).toNatClampNeg) [.retAddr 1, .ref 0, .ref 41, .int (nI i)] m else none) = _
  rw [if_pos h1, h2]
theorem x_s1 {Lx : Nat} {xs : Nat → Int32} {i : Nat} (hL : Lx ≤ 2560) (h : i + 5 ≤ Lx) (k : Int32 → aK) (m : aM) : sS Lx xs 1 k [.retAddr 1, .ref 0, .ref 41, .int (nI i)] m = k (xs (i + 1)) [.retAddr 1, .ref 0, .ref 41, .int (nI i)] m := x_sS (j := 1) hL (by omega) k m
theorem x_s2 {Lx : Nat} {xs : Nat → Int32} {i : Nat} (hL : Lx ≤ 2560) (h : i + 5 ≤ Lx) (k : Int32 → aK) (m : aM) : sS Lx xs 2 k [.retAddr 1, .ref 0, .ref 41, .int (nI i)] m = k (xs (i + 2)) [.retAddr 1, .ref 0, .ref 41, .int (nI i)] m := x_sS (j := 2) hL (by omega) k m
theorem x_s3 {Lx : Nat} {xs : Nat → Int32} {i : Nat} (hL : Lx ≤ 2560) (h : i + 5 ≤ Lx) (k : Int32 → aK) (m : aM) : sS Lx xs 3 k [.retAddr 1, .ref 0, .ref 41, .int (nI i)] m = k (xs (i + 3)) [.retAddr 1, .ref 0, .ref 41, .int (nI i)] m := x_sS (j := 3) hL (by omega) k m
theorem x_s4 {Lx : Nat} {xs : Nat → Int32} {i : Nat} (hL : Lx ≤ 2560) (h : i + 5 ≤ Lx) (k : Int32 → aK) (m : aM) : sS Lx xs 4 k [.retAddr 1, .ref 0, .ref 41, .int (nI i)] m = k (xs (i + 4)) [.retAddr 1, .ref 0, .ref 41, .int (nI i)] m := x_sS (j := 4) hL (by omega) k m

noncomputable def lwL (Lx : Nat) (xs : Nat → Int32) : List aP := [lwC fX8_feed fX9_feed (v_i (sS Lx xs 1) v_nil), lwC fX8_office fX9_office v_nil, lwC fX8_fault fX9_fault v_nil, lwC fX8_told fX9_told (v_i (sS Lx xs 1) v_nil), lwC fX8_life fX9_life (v_i (sS Lx xs 1) (v_i (sS Lx xs 2) v_nil)), lwC fX8_policy fX9_policy (v_i (sS Lx xs 1) (v_i (sS Lx xs 2) v_nil)), lwC fX8_event fX9_event (v_i (sS Lx xs 1) (v_i (sS Lx xs 2) v_nil)), lwC fX8_day fX9_day (v_i (sS Lx xs 1) v_nil), lwC fX8_drift fX9_drift (v_i (sS Lx xs 1) v_nil), lwC fX8_fund fX9_fund (v_i (sS Lx xs 1) v_nil), lwC fX8_habit fX9_habit (v_i (sS Lx xs 1) (v_i (sS Lx xs 2) v_nil)), lwC fX8_lapse fX9_lapse (v_i (sS Lx xs 1) (v_i (e_if (c_not (c_eq0 (sS Lx xs 2))) (e_ic 1) (e_ic 0)) v_nil)), lwC fX8_undo fX9_undo (v_i (sS Lx xs 1) v_nil), lwC fX8_calm fX9_calm (v_i (sS Lx xs 1) (v_i (sS Lx xs 2) v_nil)), lwC fX8_fair fX9_fair (v_i (sS Lx xs 1) v_nil), lwC fX8_pays fX9_pays (v_i (sS Lx xs 1) (v_i (sS Lx xs 2) v_nil)), lwC fX8_soonest fX9_soonest v_nil, lwC fX8_needs fX9_needs (v_i (sS Lx xs 1) v_nil), lwC fX8_keepWhich fX9_keepWhich (v_i (sS Lx xs 1) (v_i (sS Lx xs 2) v_nil)), lwC fX8_choose fX9_choose (v_i (sS Lx xs 1) v_nil), lwC fX8_fires fX9_fires (v_i (sS Lx xs 1) (v_i (sS Lx xs 2) (v_i (sS Lx xs 3) (v_i (sS Lx xs 4) v_nil)))), lwC fX8_struck fX9_struck (v_i (sS Lx xs 1) (v_i (sS Lx xs 2) v_nil)), lwC fX8_witness fX9_witness (v_i (sS Lx xs 1) v_nil), lwC fX8_fewest fX9_fewest (v_i (sS Lx xs 1) (v_i (sS Lx xs 2) v_nil)), lwC fX8_ledger fX9_ledger (v_i (sS Lx xs 1) v_nil), lwC fX8_befell fX9_befell (v_i (sS Lx xs 1) (v_i (sS Lx xs 2) v_nil)), lwC fX8_sure fX9_sure (v_i (sS Lx xs 1) v_nil), lwC fX8_write fX9_write (v_i (sS Lx xs 1) v_nil), lwC fX8_judge fX9_judge v_nil, lwC fX8_tear fX9_tear v_nil, lwC fX8_seed fX9_seed (v_i (sS Lx xs 1) v_nil), lwC fX8_keep fX9_keep (v_i (sS Lx xs 1) v_nil), lwC fX8_goBack fX9_goBack (v_i (sS Lx xs 1) v_nil)]
theorem lw_body (Lx : Nat) (xs : Nat → Int32) : wbL_law_0 Lx xs = s_sq (s_sw (e_i2 (fun x y => x &&& y) (e_sc Lx xs 0 (e_il 3)) (e_ic 63)) (lwL Lx xs) s_sk) (s_ii 3 5) := rfl
theorem ag0 {i : Nat} (k : List Value → aK) (m : aM) : v_nil k [.retAddr 1, .ref 0, .ref 41, .int (nI i)] m = k [] [.retAddr 1, .ref 0, .ref 41, .int (nI i)] m := rfl
theorem ag1 {Lx : Nat} {xs : Nat → Int32} {i : Nat} (hL : Lx ≤ 2560) (h : i + 5 ≤ Lx) (k : List Value → aK) (m : aM) : v_i (sS Lx xs 1) v_nil k [.retAddr 1, .ref 0, .ref 41, .int (nI i)] m = k [.int (xs (i + 1))] [.retAddr 1, .ref 0, .ref 41, .int (nI i)] m := by
  rw [x_vi, x_s1 hL h, x_vn]
theorem ag2 {Lx : Nat} {xs : Nat → Int32} {i : Nat} (hL : Lx ≤ 2560) (h : i + 5 ≤ Lx) (k : List Value → aK) (m : aM) : v_i (sS Lx xs 1) (v_i (sS Lx xs 2) v_nil) k [.retAddr 1, .ref 0, .ref 41, .int (nI i)] m = k [.int (xs (i + 1)), .int (xs (i + 2))] [.retAddr 1, .ref 0, .ref 41, .int (nI i)] m := by
  rw [x_vi, x_s1 hL h, x_vi, x_s2 hL h, x_vn]
theorem ag4 {Lx : Nat} {xs : Nat → Int32} {i : Nat} (hL : Lx ≤ 2560) (h : i + 5 ≤ Lx) (k : List Value → aK) (m : aM) : v_i (sS Lx xs 1) (v_i (sS Lx xs 2) (v_i (sS Lx xs 3) (v_i (sS Lx xs 4) v_nil))) k [.retAddr 1, .ref 0, .ref 41, .int (nI i)] m = k [.int (xs (i + 1)), .int (xs (i + 2)), .int (xs (i + 3)), .int (xs (i + 4))] [.retAddr 1, .ref 0, .ref 41, .int (nI i)] m := by
  rw [x_vi, x_s1 hL h, x_vi, x_s2 hL h, x_vi, x_s3 hL h, x_vi, x_s4 hL h, x_vn]
theorem agz {Lx : Nat} {xs : Nat → Int32} {i : Nat} (hL : Lx ≤ 2560) (h : i + 5 ≤ Lx) (k : List Value → aK) (m : aM) : v_i (sS Lx xs 1) (v_i (e_if (c_not (c_eq0 (sS Lx xs 2))) (e_ic 1) (e_ic 0)) v_nil) k [.retAddr 1, .ref 0, .ref 41, .int (nI i)] m = k [.int (xs (i + 1)), .int (if xs (i + 2) = 0 then 0 else 1)] [.retAddr 1, .ref 0, .ref 41, .int (nI i)] m := by
  rw [x_vi, x_s1 hL h, x_vi, x_eif, x_not, x_eq0, x_s2 hL h]
  by_cases h0 : xs (i + 2) = 0
  · rw [if_pos h0, if_pos h0]; rfl
  · rw [if_neg h0, if_neg h0]; rfl

theorem lw_any {Lx : Nat} {xs : Nat → Int32} {i z : Nat} {m : aM} (hL : Lx ≤ 2560) (h : i + 5 ≤ Lx) (hz : z < 33) (hm : kOk m) : ∃ m2, (∀ K : aK, (lwL Lx xs).getD z s_sk K [.retAddr 1, .ref 0, .ref 41, .int (nI i)] m = K [.retAddr 1, .ref 0, .ref 41, .int (nI i)] m2) ∧ kOk m2 ∧ mN m2 ≤ mN m + 297 ∧ mS m2 ≤ mS m + 1881 := by
  obtain ⟨T, I, J, R, n, s⟩ := m
  have hS : aSh T R := hm.1.1
  match z, hz with
  | 0, _ => exact lw_case (ag1 hL h) hm (kc_feed hS _ hm)
  | 1, _ => exact lw_case (fun k m => ag0 k m) hm (kc_office hm)
  | 2, _ => exact lw_case (fun k m => ag0 k m) hm (kc_fault hS hm)
  | 3, _ => exact lw_case (ag1 hL h) hm (kc_told hS _ hm)
  | 4, _ => exact lw_case (ag2 hL h) hm (kc_life hS _ _ hm)
  | 5, _ => exact lw_case (ag2 hL h) hm (kc_policy hS _ _ hm)
  | 6, _ => exact lw_case (ag2 hL h) hm (kc_event hS _ _ hm)
  | 7, _ => exact lw_case (ag1 hL h) hm (kc_day _ hm)
  | 8, _ => exact lw_case (ag1 hL h) hm (kc_drift _ hm)
  | 9, _ => exact lw_case (ag1 hL h) hm (kc_fund hS _ hm)
  | 10, _ => exact lw_case (ag2 hL h) hm (kc_habit hS _ _ hm)
  | 11, _ => exact lw_case (agz hL h) hm (kc_lapse hS _ _ (by split; exact Or.inl rfl; exact Or.inr rfl) hm)
  | 12, _ => exact lw_case (ag1 hL h) hm (kc_undo _ hm)
  | 13, _ => exact lw_case (ag2 hL h) hm (kc_calm hS _ _ hm)
  | 14, _ => exact lw_case (ag1 hL h) hm (kc_fair hS _ hm)
  | 15, _ => exact lw_case (ag2 hL h) hm (kc_pays hS _ _ hm)
  | 16, _ => exact lw_case (fun k m => ag0 k m) hm (kc_soonest hS hm)
  | 17, _ => exact lw_case (ag1 hL h) hm (kc_needs hS _ hm)
  | 18, _ => exact lw_case (ag2 hL h) hm (kc_keepWhich hS _ _ hm)
  | 19, _ => exact lw_case (ag1 hL h) hm (kc_choose hS _ hm)
  | 20, _ => exact lw_case (ag4 hL h) hm (kc_fires hS _ _ _ _ hm)
  | 21, _ => exact lw_case (ag2 hL h) hm (kc_struck hS _ _ hm)
  | 22, _ => exact lw_case (ag1 hL h) hm (kc_witness hS _ hm)
  | 23, _ => exact lw_case (ag2 hL h) hm (kc_fewest hS _ _ hm)
  | 24, _ => exact lw_case (ag1 hL h) hm (kc_ledger hS _ hm)
  | 25, _ => exact lw_case (ag2 hL h) hm (kc_befell hS _ _ hm)
  | 26, _ => exact lw_case (ag1 hL h) hm (kc_sure hS _ hm)
  | 27, _ => exact lw_case (ag1 hL h) hm (kc_write hS _ hm)
  | 28, _ => exact lw_case (fun k m => ag0 k m) hm (kc_judge hS hm)
  | 29, _ => exact lw_case (fun k m => ag0 k m) hm (kc_tear hS hm)
  | 30, _ => exact lw_case (ag1 hL h) hm (kc_seed hS _ hm)
  | 31, _ => exact lw_case (ag1 hL h) hm (kc_keep _ hm)
  | 32, _ => exact lw_case (ag1 hL h) hm (kc_goBack _ hm)
  | z + 33, hz => exact absurd hz (by omega)

theorem acv_s {m0 m : aM} {k : aM → Option aRes} (h : mN m0 ≤ mN m ∧ mS m0 ≤ mS m) : a_cv m0 (some (none, m)) k = k m := if_pos h
theorem mA2_l1 : mN mA2 ≤ 55 + 297 * 0 := by rw [mA2_n]; exact Nat.le_refl _
theorem mA2_l2 : mS mA2 ≤ 10000 + 1881 * 0 := mA2_s
theorem lw_a1 (x y k : Nat) (h1 : x ≤ y + 297) (h2 : y ≤ 55 + 297 * k) : x ≤ 55 + 297 * (k + 1) := Nat.le_trans h1 (Nat.le_trans (Nat.add_le_add_right h2 297) (Nat.le_of_eq (Nat.add_assoc 55 (297 * k) 297)))
theorem lw_a2 (x y k : Nat) (h1 : x ≤ y + 1881) (h2 : y ≤ 10000 + 1881 * k) : x ≤ 10000 + 1881 * (k + 1) := Nat.le_trans h1 (Nat.le_trans (Nat.add_le_add_right h2 1881) (Nat.le_of_eq (Nat.add_assoc 10000 (1881 * k) 1881)))
theorem lw_step {Lx : Nat} {xs : Nat → Int32} {i : Nat} {m : aM} (hL : Lx ≤ 2560) (h : i + 5 ≤ Lx) (hm : kOk m) : ∃ m2, (∀ K k2 : aK, wcL_law_0 Lx xs (wbL_law_0 Lx xs K) k2 [.retAddr 1, .ref 0, .ref 41, .int (nI i)] m = K [.retAddr 1, .ref 0, .ref 41, .int (nI (i + 5))] m2) ∧ kOk m2 ∧ mN m2 ≤ mN m + 297 ∧ mS m2 ≤ mS m + 1881 := by
  have hc : nI i ≤ Int32.ofNat Lx - 5 := by
    rw [nI_of0, lt31 5, pk_sub (by omega), nI_leI (by omega) (by omega)]
    omega
  have hix : a_ix (nI i) Lx = true := a_ixn (by omega) (by omega)
  have hcl : (nI i).toNatClampNeg = i := nI_clamp (by omega)
  obtain ⟨z, hz, ez⟩ := pk_andE (xs i) (m := 63) 6 (by decide)
  have hz64 : z < 64 := hz
  have hcond : ∀ (K k2 : aK), wcL_law_0 Lx xs K k2 [.retAddr 1, .ref 0, .ref 41, .int (nI i)] m = K [.retAddr 1, .ref 0, .ref 41, .int (nI i)] m := fun K k2 => by
    show (if nI i ≤ Int32.ofNat Lx - 5 then K [.retAddr 1, .ref 0, .ref 41, .int (nI i)] m else k2 [.retAddr 1, .ref 0, .ref 41, .int (nI i)] m) = _
    rw [if_pos hc]
  have hsw : ∀ K : aK, s_sw (e_i2 (fun x y => x &&& y) (e_sc Lx xs 0 (e_il 3)) (e_ic 63)) (lwL Lx xs) s_sk K [.retAddr 1, .ref 0, .ref 41, .int (nI i)] m = if 0 ≤ (nI z).toInt ∧ (nI z).toInt < (lwL Lx xs).length then ((lwL Lx xs).getD (nI z).toInt.toNat s_sk) K [.retAddr 1, .ref 0, .ref 41, .int (nI i)] m else s_sk K [.retAddr 1, .ref 0, .ref 41, .int (nI i)] m := fun K => by
    rw [← ez]
    have hd : e_sc Lx xs 0 (e_il 3) (fun x => e_ic 63 (fun y L m => (fun (x : Int32) L m => if 0 ≤ x.toInt ∧ x.toInt < (lwL Lx xs).length then ((lwL Lx xs).getD x.toInt.toNat s_sk) K L m else s_sk K L m) (x &&& y) L m)) [.retAddr 1, .ref 0, .ref 41, .int (nI i)] m = (fun (x : Int32) L m => if 0 ≤ x.toInt ∧ x.toInt < (lwL Lx xs).length then ((lwL Lx xs).getD x.toInt.toNat s_sk) K L m else s_sk K L m) (xs i &&& 63) [.retAddr 1, .ref 0, .ref 41, .int (nI i)] m := by
      show (if a_ix (nI i) Lx = true then (fun (x : Int32) L m => if 0 ≤ x.toInt ∧ x.toInt < (lwL Lx xs).length then ((lwL Lx xs).getD x.toInt.toNat s_sk) K L m else s_sk K L m) (xs (nI i).toNatClampNeg &&& 63) [.retAddr 1, .ref 0, .ref 41, .int (nI i)] m else none) = _
      rw [if_pos hix, hcl]
    exact hd
  have hlen : (lwL Lx xs).length = 33 := rfl
  have hzi : (nI z).toInt = z := nI_toInt (by omega)
  by_cases hz33 : z < 33
  · obtain ⟨m2, e2, k2, r1, r2⟩ := lw_any (xs := xs) (i := i) hL h hz33 hm
    refine ⟨m2, fun K kk => ?_, k2, r1, r2⟩
    rw [hcond, lw_body, x_sq, hsw, hlen, hzi, if_pos (by omega), Int.toNat_natCast, e2]
    show K [.retAddr 1, .ref 0, .ref 41, .int (nI i + 5)] m2 = _
    rw [al5]
  · refine ⟨m, fun K kk => ?_, hm, by omega, by omega⟩
    rw [hcond, lw_body, x_sq, hsw, hlen, hzi, if_neg (by omega)]
    show K [.retAddr 1, .ref 0, .ref 41, .int (nI i + 5)] m = _
    rw [al5]
theorem pure_law (L : Nat) (hL : L ≤ 2560) (xs : Nat → Int32) : ∃ m9 : aM, bL_law L xs (fun _ _ => none) [.retAddr 1, a_jk, a_jk, a_jk] a_m0 = some (some (.int 1), m9) ∧ mN m9 ≤ 152119 ∧ mS m9 ≤ 973072 := by
  have hN := aN_ge
  obtain ⟨L', m', e, rfl, hk, r1, r2⟩ := wh_rel (σ := Unit) (c := wcL_law_0 L xs) (b := wbL_law_0 L xs)
    (fun k _ Ls m => Ls = [.retAddr 1, .ref 0, .ref 41, .int (nI (5 * k))] ∧ kOk m ∧ mN m ≤ 55 + 297 * k ∧ mS m ≤ 10000 + 1881 * k)
    (fun _ x => x) (L / 5)
    (by
      rintro x Ls m k1 k2 ⟨rfl, -⟩
      have hc : ¬ nI (5 * (L / 5)) ≤ Int32.ofNat L - 5 := by
        rw [nI_of0, lt31 5, Int32.le_iff_toInt_le, nI_toInt (by omega), pk_sub_toInt (a := L) (b := 5) (by omega) (by omega)]
        omega
      show (if nI (5 * (L / 5)) ≤ Int32.ofNat L - 5 then k1 [.retAddr 1, .ref 0, .ref 41, .int (nI (5 * (L / 5)))] m else k2 [.retAddr 1, .ref 0, .ref 41, .int (nI (5 * (L / 5)))] m) = _
      rw [if_neg hc])
    (by
      rintro k x Ls m hk ⟨rfl, h1, h2, h3⟩
      obtain ⟨m2, e, k2, r1, r2⟩ := lw_step (xs := xs) (i := 5 * k) hL (by omega) h1
      exact ⟨_, m2, e, by rw [show 5 * (k + 1) = 5 * k + 5 from rfl], k2, lw_a1 _ _ _ r1 h2, lw_a2 _ _ _ r2 h3⟩)
    (L / 5) 0 () aN [.retAddr 1, .ref 0, .ref 41, .int (nI 0)] mA2 (by omega) (by omega) ⟨rfl, kInv_new, mA2_l1, mA2_l2⟩
  refine ⟨m', ?_, by omega, by omega⟩
  have e1 : ∀ (k : Option Nat → aK) (Ls : List Value), e_new 8 12 fX8_init k Ls a_m0 = k (some 0) Ls mA1 := fun k Ls => by
    show a_cv (m_new a_m0 8 12) (fX8_init [.ref 0] (m_new a_m0 8 12)) (fun m9 => k (some 0) Ls m9) = _
    rw [mA1_eq, acv_s mA1_m]
  have e2 : ∀ (k : Option Nat → aK) (Ls : List Value), e_new 9 24 fX9_init k Ls mA1 = k (some 41) Ls mA2 := fun k Ls => by
    show a_cv (m_new mA1 9 24) (fX9_init [.ref 41] (m_new mA1 9 24)) (fun m9 => k (some 41) Ls m9) = _
    rw [mA2_eq, acv_s mA2_m]
  show s_sq (s_al 1 (e_new 8 12 fX8_init)) (s_sq (s_al 2 (e_new 9 24 fX9_init)) (s_sq (s_sq (s_il 3 (e_ic 0)) (s_sq (s_wh (wcL_law_0 L xs) (wbL_law_0 L xs) aN) (s_fg 3))) (s_rz (e_ic 1)))) (fun _ _ => none) [.retAddr 1, a_jk, a_jk, a_jk] a_m0 = _
  rw [x_sq, x_sal, e1]
  show s_sq (s_al 2 (e_new 9 24 fX9_init)) (s_sq (s_sq (s_il 3 (e_ic 0)) (s_sq (s_wh (wcL_law_0 L xs) (wbL_law_0 L xs) aN) (s_fg 3))) (s_rz (e_ic 1))) (fun _ _ => none) [.retAddr 1, .ref 0, a_jk, a_jk] mA1 = _
  rw [x_sq, x_sal, e2]
  show s_wh (wcL_law_0 L xs) (wbL_law_0 L xs) aN (s_fg 3 (s_rz (e_ic 1) (fun _ _ => none))) [.retAddr 1, .ref 0, .ref 41, .int (nI 0)] mA2 = _
  rw [e]
  rfl
