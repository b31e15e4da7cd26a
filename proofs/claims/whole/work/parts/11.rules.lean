theorem r_iconst {j : aJ} {w pc : Nat} {n : Int} {v : Int32} (hv : Int32.ofInt n = v) (d : decode j.1 pc = .ok (.iconst n, 1)) : aEv j w vI pc (pc + 1) (e_ic v) := by
  intro X r hC k L st m hw he hk
  exact g_iconst hC hv d (hk v L m he)

theorem r_bipush {j : aJ} {w pc : Nat} {n : Int} {v : Int32} (hv : (Int8.ofInt n).toInt32 = v) (d : decode j.1 pc = .ok (.bipush n, 2)) : aEv j w vI pc (pc + 2) (e_ic v) := by
  intro X r hC k L st m hw he hk
  exact g_bipush hC hv d (hk v L m he)

theorem r_sipush {j : aJ} {w pc : Nat} {n : Int} {v : Int32} (hv : (Int16.ofInt n).toInt32 = v) (d : decode j.1 pc = .ok (.sipush n, 3)) : aEv j w vI pc (pc + 3) (e_ic v) := by
  intro X r hC k L st m hw he hk
  exact g_sipush hC hv d (hk v L m he)

theorem r_ldc {j : aJ} {w pc : Nat} {index : Nat} {v : Int32} (hc : Cond.constant j.2.1 index v ∈ aG) (d : decode j.1 pc = .ok (.ldc index, 2)) : aEv j w vI pc (pc + 2) (e_ic v) := by
  intro X r hC k L st m hw he hk
  exact g_ldc hC hc d (hk v L m he)

theorem r_ldcw {j : aJ} {w pc : Nat} {index : Nat} {v : Int32} (hc : Cond.constant j.2.1 index v ∈ aG) (d : decode j.1 pc = .ok (.ldc_w index, 3)) : aEv j w vI pc (pc + 3) (e_ic v) := by
  intro X r hC k L st m hw he hk
  exact g_ldcw hC hc d (hk v L m he)

theorem r_lconst {j : aJ} {w pc : Nat} {n : Fin 2} {v : Int64} (hv : Int64.ofNat (n : Nat) = v) (d : decode j.1 pc = .ok (.lconst n, 1)) : aEv j w vJ pc (pc + 1) (e_jc v) := by
  intro X r hC k L st m hw he hk
  exact g_lconst hC hv d (hk v L m he)

theorem r_ldc2 {j : aJ} {w pc : Nat} {index : Nat} {v : Int64} (hc : Cond.constantLong j.2.1 index v ∈ aG) (d : decode j.1 pc = .ok (.ldc2_w index, 3)) : aEv j w vJ pc (pc + 3) (e_jc v) := by
  intro X r hC k L st m hw he hk
  exact g_ldc2 hC hc d (hk v L m he)

theorem r_null {j : aJ} {w pc : Nat}  (d : decode j.1 pc = .ok (.aconst_null, 1)) : aEv j w a_rv pc (pc + 1) (e_nl) := by
  intro X r hC k L st m hw he hk
  exact g_null hC d (hk none L m he)

theorem r_iload {j : aJ} {w pc : Nat} {i : Nat}  (d : decode j.1 pc = .ok (.iload i, 2)) : aEv j w vI pc (pc + 2) (e_il i) := by
  intro X r hC k L st m hw he hk
  unfold e_il at he
  split at he
  · rename_i x hx
    exact g_iload hC hx d (hk x L m he)
  · cases he

theorem r_iload_n {j : aJ} {w pc : Nat} {i : Nat} {n : Fin 4} (hi : (n : Nat) = i) (d : decode j.1 pc = .ok (.iload_n n, 1)) : aEv j w vI pc (pc + 1) (e_il i) := by
  intro X r hC k L st m hw he hk
  unfold e_il at he
  split at he
  · rename_i x hx
    exact g_iload_n hC hi hx d (hk x L m he)
  · cases he

theorem r_lload {j : aJ} {w pc : Nat} {i : Nat}  (d : decode j.1 pc = .ok (.lload i, 2)) : aEv j w vJ pc (pc + 2) (e_jl i) := by
  intro X r hC k L st m hw he hk
  unfold e_jl at he
  split at he
  · rename_i x hx
    exact g_lload hC hx d (hk x L m he)
  · cases he

theorem r_lload_n {j : aJ} {w pc : Nat} {i : Nat} {n : Fin 4} (hi : (n : Nat) = i) (d : decode j.1 pc = .ok (.lload_n n, 1)) : aEv j w vJ pc (pc + 1) (e_jl i) := by
  intro X r hC k L st m hw he hk
  unfold e_jl at he
  split at he
  · rename_i x hx
    exact g_lload_n hC hi hx d (hk x L m he)
  · cases he

theorem r_aload {j : aJ} {w pc : Nat} {i : Nat}  (d : decode j.1 pc = .ok (.aload i, 2)) : aEv j w a_rv pc (pc + 2) (e_al i) := by
  intro X r hC k L st m hw he hk
  unfold e_al at he
  split at he
  · rename_i q hx
    exact g_aload hC hx d (hk (some q) L m he)
  · rename_i hx
    exact g_aloadN hC hx d (hk none L m he)
  · cases he

theorem r_aload_n {j : aJ} {w pc : Nat} {i : Nat} {n : Fin 4} (hi : (n : Nat) = i) (d : decode j.1 pc = .ok (.aload_n n, 1)) : aEv j w a_rv pc (pc + 1) (e_al i) := by
  intro X r hC k L st m hw he hk
  unfold e_al at he
  split at he
  · rename_i q hx
    exact g_aload_n hC hi hx d (hk (some q) L m he)
  · rename_i hx
    exact g_aload_nN hC hi hx d (hk none L m he)
  · cases he

theorem r_iadd {j : aJ} {w pc p1 p2 : Nat} {a b : aE Int32} (ha : aEv j w vI pc p1 a) (hb : aEv j (w + 1) vI p1 p2 b) (d : decode j.1 p2 = .ok (.iadd, 1)) : aEv j w vI pc (p2 + 1) (e_i2 (fun x y => x + y) a b) := by
  intro X r hC k L st m hw he hk
  refine ha X r hC _ L st m hw he (fun x L1 m1 h1 => ?_)
  refine hb X r hC _ L1 (vI x :: st) m1 (by rw [a_wt_cons]; show 1 + a_wt st ≤ w + 1; omega) h1 (fun y L2 m2 h2 => ?_)
  exact g_iadd hC d (hk _ L2 m2 h2)

theorem r_isub {j : aJ} {w pc p1 p2 : Nat} {a b : aE Int32} (ha : aEv j w vI pc p1 a) (hb : aEv j (w + 1) vI p1 p2 b) (d : decode j.1 p2 = .ok (.isub, 1)) : aEv j w vI pc (p2 + 1) (e_i2 (fun x y => x - y) a b) := by
  intro X r hC k L st m hw he hk
  refine ha X r hC _ L st m hw he (fun x L1 m1 h1 => ?_)
  refine hb X r hC _ L1 (vI x :: st) m1 (by rw [a_wt_cons]; show 1 + a_wt st ≤ w + 1; omega) h1 (fun y L2 m2 h2 => ?_)
  exact g_isub hC d (hk _ L2 m2 h2)

theorem r_imul {j : aJ} {w pc p1 p2 : Nat} {a b : aE Int32} (ha : aEv j w vI pc p1 a) (hb : aEv j (w + 1) vI p1 p2 b) (d : decode j.1 p2 = .ok (.imul, 1)) : aEv j w vI pc (p2 + 1) (e_i2 (fun x y => x * y) a b) := by
  intro X r hC k L st m hw he hk
  refine ha X r hC _ L st m hw he (fun x L1 m1 h1 => ?_)
  refine hb X r hC _ L1 (vI x :: st) m1 (by rw [a_wt_cons]; show 1 + a_wt st ≤ w + 1; omega) h1 (fun y L2 m2 h2 => ?_)
  exact g_imul hC d (hk _ L2 m2 h2)

theorem r_iand {j : aJ} {w pc p1 p2 : Nat} {a b : aE Int32} (ha : aEv j w vI pc p1 a) (hb : aEv j (w + 1) vI p1 p2 b) (d : decode j.1 p2 = .ok (.iand, 1)) : aEv j w vI pc (p2 + 1) (e_i2 (fun x y => x &&& y) a b) := by
  intro X r hC k L st m hw he hk
  refine ha X r hC _ L st m hw he (fun x L1 m1 h1 => ?_)
  refine hb X r hC _ L1 (vI x :: st) m1 (by rw [a_wt_cons]; show 1 + a_wt st ≤ w + 1; omega) h1 (fun y L2 m2 h2 => ?_)
  exact g_iand hC d (hk _ L2 m2 h2)

theorem r_ior {j : aJ} {w pc p1 p2 : Nat} {a b : aE Int32} (ha : aEv j w vI pc p1 a) (hb : aEv j (w + 1) vI p1 p2 b) (d : decode j.1 p2 = .ok (.ior, 1)) : aEv j w vI pc (p2 + 1) (e_i2 (fun x y => x ||| y) a b) := by
  intro X r hC k L st m hw he hk
  refine ha X r hC _ L st m hw he (fun x L1 m1 h1 => ?_)
  refine hb X r hC _ L1 (vI x :: st) m1 (by rw [a_wt_cons]; show 1 + a_wt st ≤ w + 1; omega) h1 (fun y L2 m2 h2 => ?_)
  exact g_ior hC d (hk _ L2 m2 h2)

theorem r_ixor {j : aJ} {w pc p1 p2 : Nat} {a b : aE Int32} (ha : aEv j w vI pc p1 a) (hb : aEv j (w + 1) vI p1 p2 b) (d : decode j.1 p2 = .ok (.ixor, 1)) : aEv j w vI pc (p2 + 1) (e_i2 (fun x y => x ^^^ y) a b) := by
  intro X r hC k L st m hw he hk
  refine ha X r hC _ L st m hw he (fun x L1 m1 h1 => ?_)
  refine hb X r hC _ L1 (vI x :: st) m1 (by rw [a_wt_cons]; show 1 + a_wt st ≤ w + 1; omega) h1 (fun y L2 m2 h2 => ?_)
  exact g_ixor hC d (hk _ L2 m2 h2)

theorem r_ishl {j : aJ} {w pc p1 p2 : Nat} {a b : aE Int32} (ha : aEv j w vI pc p1 a) (hb : aEv j (w + 1) vI p1 p2 b) (d : decode j.1 p2 = .ok (.ishl, 1)) : aEv j w vI pc (p2 + 1) (e_i2 (fun x y => x <<< (y &&& 31)) a b) := by
  intro X r hC k L st m hw he hk
  refine ha X r hC _ L st m hw he (fun x L1 m1 h1 => ?_)
  refine hb X r hC _ L1 (vI x :: st) m1 (by rw [a_wt_cons]; show 1 + a_wt st ≤ w + 1; omega) h1 (fun y L2 m2 h2 => ?_)
  exact g_ishl hC d (hk _ L2 m2 h2)

theorem r_ishr {j : aJ} {w pc p1 p2 : Nat} {a b : aE Int32} (ha : aEv j w vI pc p1 a) (hb : aEv j (w + 1) vI p1 p2 b) (d : decode j.1 p2 = .ok (.ishr, 1)) : aEv j w vI pc (p2 + 1) (e_i2 (fun x y => x >>> (y &&& 31)) a b) := by
  intro X r hC k L st m hw he hk
  refine ha X r hC _ L st m hw he (fun x L1 m1 h1 => ?_)
  refine hb X r hC _ L1 (vI x :: st) m1 (by rw [a_wt_cons]; show 1 + a_wt st ≤ w + 1; omega) h1 (fun y L2 m2 h2 => ?_)
  exact g_ishr hC d (hk _ L2 m2 h2)

theorem r_iushr {j : aJ} {w pc p1 p2 : Nat} {a b : aE Int32} (ha : aEv j w vI pc p1 a) (hb : aEv j (w + 1) vI p1 p2 b) (d : decode j.1 p2 = .ok (.iushr, 1)) : aEv j w vI pc (p2 + 1) (e_i2 (fun x y => (x.toUInt32 >>> (y.toUInt32 &&& Int32.toUInt32 31)).toInt32) a b) := by
  intro X r hC k L st m hw he hk
  refine ha X r hC _ L st m hw he (fun x L1 m1 h1 => ?_)
  refine hb X r hC _ L1 (vI x :: st) m1 (by rw [a_wt_cons]; show 1 + a_wt st ≤ w + 1; omega) h1 (fun y L2 m2 h2 => ?_)
  exact g_iushr hC d (hk _ L2 m2 h2)

theorem r_ladd {j : aJ} {w pc p1 p2 : Nat} {a b : aE Int64} (ha : aEv j w vJ pc p1 a) (hb : aEv j (w + 2) vJ p1 p2 b) (d : decode j.1 p2 = .ok (.ladd, 1)) : aEv j w vJ pc (p2 + 1) (e_j2 (fun x y => x + y) a b) := by
  intro X r hC k L st m hw he hk
  refine ha X r hC _ L st m hw he (fun x L1 m1 h1 => ?_)
  refine hb X r hC _ L1 (vJ x :: st) m1 (by rw [a_wt_cons]; show 2 + a_wt st ≤ w + 2; omega) h1 (fun y L2 m2 h2 => ?_)
  exact g_ladd hC d (hk _ L2 m2 h2)

theorem r_lsub {j : aJ} {w pc p1 p2 : Nat} {a b : aE Int64} (ha : aEv j w vJ pc p1 a) (hb : aEv j (w + 2) vJ p1 p2 b) (d : decode j.1 p2 = .ok (.lsub, 1)) : aEv j w vJ pc (p2 + 1) (e_j2 (fun x y => x - y) a b) := by
  intro X r hC k L st m hw he hk
  refine ha X r hC _ L st m hw he (fun x L1 m1 h1 => ?_)
  refine hb X r hC _ L1 (vJ x :: st) m1 (by rw [a_wt_cons]; show 2 + a_wt st ≤ w + 2; omega) h1 (fun y L2 m2 h2 => ?_)
  exact g_lsub hC d (hk _ L2 m2 h2)

theorem r_lmul {j : aJ} {w pc p1 p2 : Nat} {a b : aE Int64} (ha : aEv j w vJ pc p1 a) (hb : aEv j (w + 2) vJ p1 p2 b) (d : decode j.1 p2 = .ok (.lmul, 1)) : aEv j w vJ pc (p2 + 1) (e_j2 (fun x y => x * y) a b) := by
  intro X r hC k L st m hw he hk
  refine ha X r hC _ L st m hw he (fun x L1 m1 h1 => ?_)
  refine hb X r hC _ L1 (vJ x :: st) m1 (by rw [a_wt_cons]; show 2 + a_wt st ≤ w + 2; omega) h1 (fun y L2 m2 h2 => ?_)
  exact g_lmul hC d (hk _ L2 m2 h2)

theorem r_land {j : aJ} {w pc p1 p2 : Nat} {a b : aE Int64} (ha : aEv j w vJ pc p1 a) (hb : aEv j (w + 2) vJ p1 p2 b) (d : decode j.1 p2 = .ok (.land, 1)) : aEv j w vJ pc (p2 + 1) (e_j2 (fun x y => x &&& y) a b) := by
  intro X r hC k L st m hw he hk
  refine ha X r hC _ L st m hw he (fun x L1 m1 h1 => ?_)
  refine hb X r hC _ L1 (vJ x :: st) m1 (by rw [a_wt_cons]; show 2 + a_wt st ≤ w + 2; omega) h1 (fun y L2 m2 h2 => ?_)
  exact g_land hC d (hk _ L2 m2 h2)

theorem r_idiv {j : aJ} {w pc p1 p2 : Nat} {a b : aE Int32} (ha : aEv j w vI pc p1 a) (hb : aEv j (w + 1) vI p1 p2 b) (d : decode j.1 p2 = .ok (.idiv, 1)) : aEv j w vI pc (p2 + 1) (e_id a b) := by
  intro X r hC k L st m hw he hk
  refine ha X r hC _ L st m hw he (fun x L1 m1 h1 => ?_)
  refine hb X r hC _ L1 (vI x :: st) m1 (by rw [a_wt_cons]; show 1 + a_wt st ≤ w + 1; omega) h1 (fun y L2 m2 h2 => ?_)
  by_cases hy : y = 0
  · simp [hy] at h2
  · simp only [hy, if_false] at h2
    exact g_idiv hC hy d (hk _ L2 m2 h2)

theorem r_irem {j : aJ} {w pc p1 p2 : Nat} {a b : aE Int32} (ha : aEv j w vI pc p1 a) (hb : aEv j (w + 1) vI p1 p2 b) (d : decode j.1 p2 = .ok (.irem, 1)) : aEv j w vI pc (p2 + 1) (e_ir a b) := by
  intro X r hC k L st m hw he hk
  refine ha X r hC _ L st m hw he (fun x L1 m1 h1 => ?_)
  refine hb X r hC _ L1 (vI x :: st) m1 (by rw [a_wt_cons]; show 1 + a_wt st ≤ w + 1; omega) h1 (fun y L2 m2 h2 => ?_)
  by_cases hy : y = 0
  · simp [hy] at h2
  · simp only [hy, if_false] at h2
    exact g_irem hC hy d (hk _ L2 m2 h2)

theorem r_ldiv {j : aJ} {w pc p1 p2 : Nat} {a b : aE Int64} (ha : aEv j w vJ pc p1 a) (hb : aEv j (w + 2) vJ p1 p2 b) (d : decode j.1 p2 = .ok (.ldiv, 1)) : aEv j w vJ pc (p2 + 1) (e_jd a b) := by
  intro X r hC k L st m hw he hk
  refine ha X r hC _ L st m hw he (fun x L1 m1 h1 => ?_)
  refine hb X r hC _ L1 (vJ x :: st) m1 (by rw [a_wt_cons]; show 2 + a_wt st ≤ w + 2; omega) h1 (fun y L2 m2 h2 => ?_)
  by_cases hy : y = 0
  · simp [hy] at h2
  · simp only [hy, if_false] at h2
    exact g_ldiv hC hy d (hk _ L2 m2 h2)

theorem r_lrem {j : aJ} {w pc p1 p2 : Nat} {a b : aE Int64} (ha : aEv j w vJ pc p1 a) (hb : aEv j (w + 2) vJ p1 p2 b) (d : decode j.1 p2 = .ok (.lrem, 1)) : aEv j w vJ pc (p2 + 1) (e_jr a b) := by
  intro X r hC k L st m hw he hk
  refine ha X r hC _ L st m hw he (fun x L1 m1 h1 => ?_)
  refine hb X r hC _ L1 (vJ x :: st) m1 (by rw [a_wt_cons]; show 2 + a_wt st ≤ w + 2; omega) h1 (fun y L2 m2 h2 => ?_)
  by_cases hy : y = 0
  · simp [hy] at h2
  · simp only [hy, if_false] at h2
    exact g_lrem hC hy d (hk _ L2 m2 h2)

theorem r_min {j : aJ} {w pc p1 p2 : Nat} {a b : aE Int32} (ha : aEv j w vI pc p1 a) (hb : aEv j (w + 1) vI p1 p2 b) {index : Nat} (hw8 : w ≤ 8) (hl : Cond.methodLink j.2.1 index Lib.Math.min.name ∈ aG) (hst : Cond.static Lib.Math.min.name ∈ aG) (hin : Cond.initialized "java/lang/Math" ∈ aG) (hcd : Cond.code Lib.Math.min.name Lib.Math.min.code 2 (some .int) ∈ aG) (hf1 : 1 ≤ j.2.2.1) (hl1 : 21 ≤ j.2.2.2.1) (d : decode j.1 p2 = .ok (.invokestatic index, 3)) : aEv j w vI pc (p2 + 3) (e_min a b) := by
  intro X r hC k L st m hw he hk
  refine ha X r hC _ L st m hw he (fun x L1 m1 h1 => ?_)
  refine hb X r hC _ L1 (vI x :: st) m1 (by rw [a_wt_cons]; show 1 + a_wt st ≤ w + 1; omega) h1 (fun y L2 m2 h2 => ?_)
  exact g_min hC (Nat.le_trans hw hw8) hl hst hin hcd hf1 hl1 d (hk _ L2 m2 h2)

theorem r_i2l {j : aJ} {w pc p1 : Nat} {a : aE Int32} (ha : aEv j w vI pc p1 a) (d : decode j.1 p1 = .ok (.i2l, 1)) : aEv j w vJ pc (p1 + 1) (e_w a) := by
  intro X r hC k L st m hw he hk
  exact ha X r hC _ L st m hw he (fun x L1 m1 h1 => g_i2l hC d (hk _ L1 m1 h1))
theorem r_l2i {j : aJ} {w pc p1 : Nat} {a : aE Int64} (ha : aEv j w vJ pc p1 a) (d : decode j.1 p1 = .ok (.l2i, 1)) : aEv j w vI pc (p1 + 1) (e_n a) := by
  intro X r hC k L st m hw he hk
  exact ha X r hC _ L st m hw he (fun x L1 m1 h1 => g_l2i hC d (hk _ L1 m1 h1))

theorem r_geti {j : aJ} {w pc p1 : Nat} {a : aE (Option Nat)} (ha : aEv j w a_rv pc p1 a) {ci N f index : Nat} {C : String} {T : u_T} (hin : ∀ w ∈ u_ws C T N, w ∈ aG) (hc : vwCl[ci]? = some (C, T, N)) (hci : ci < 10) (hk9 : f < N) (hlink : Cond.fieldLink j.2.1 index (T f).1 (T f).2.1 (T f).2.2.1 ∈ aG) (hi : a_it (a_ty ci f) = true) (d : decode j.1 p1 = .ok (.getfield index, 3)) : aEv j w vI pc (p1 + 3) (e_gi ci N f a) := by
  intro X r hC k L st m hw he hk
  refine ha X r hC _ L st m hw he (fun o L1 m1 h1 => ?_)
  cases o with
  | none => cases h1
  | some q =>
    by_cases hT : mT m1 q = (ci, N)
    · simp only [hT, if_true] at h1
      exact g_geti hC hin hc hci hT hk9 hlink hi d (hk _ L1 m1 h1)
    · simp [hT] at h1

theorem r_getr {j : aJ} {w pc p1 : Nat} {a : aE (Option Nat)} (ha : aEv j w a_rv pc p1 a) {ci N f index : Nat} {C : String} {T : u_T} (hin : ∀ w ∈ u_ws C T N, w ∈ aG) (hc : vwCl[ci]? = some (C, T, N)) (hci : ci < 10) (hk9 : f < N) (hlink : Cond.fieldLink j.2.1 index (T f).1 (T f).2.1 (T f).2.2.1 ∈ aG) (hi : a_it (a_ty ci f) = false) (d : decode j.1 p1 = .ok (.getfield index, 3)) : aEv j w a_rv pc (p1 + 3) (e_gr ci N f a) := by
  intro X r hC k L st m hw he hk
  refine ha X r hC _ L st m hw he (fun o L1 m1 h1 => ?_)
  cases o with
  | none => cases h1
  | some q =>
    by_cases hT : mT m1 q = (ci, N)
    · simp only [hT, if_true] at h1
      exact g_getr hC hin hc hci hT hk9 hlink hi d (hk _ L1 m1 h1)
    · simp [hT] at h1

theorem r_iald {j : aJ} {w pc p1 p2 : Nat} {a : aE (Option Nat)} {i : aE Int32} (ha : aEv j w a_rv pc p1 a) (hi : aEv j (w + 1) vI p1 p2 i) (d : decode j.1 p2 = .ok (.iaload, 1)) : aEv j w vI pc (p2 + 1) (e_ia a i) := by
  intro X r hC k L st m hw he hk
  refine ha X r hC _ L st m hw he (fun o L1 m1 h1 => ?_)
  refine hi X r hC _ L1 (a_rv o :: st) m1 (by rw [a_wt_cons, a_pv_cat (a_pv_rv o)]; omega) h1 (fun x L2 m2 h2 => ?_)
  cases o with
  | none => cases h2
  | some q =>
    by_cases hT : (mT m2 q).1 = 10 ∧ a_ix x (mT m2 q).2 = true
    · simp only [hT, and_self, if_true] at h2
      exact g_iald hC (n := (mT m2 q).2) (Prod.ext hT.1 rfl) (a_ix_in hT.2) d (hk _ L2 m2 h2)
    · simp [hT] at h2

theorem r_zald {j : aJ} {w pc p1 p2 : Nat} {a : aE (Option Nat)} {i : aE Int32} (ha : aEv j w a_rv pc p1 a) (hi : aEv j (w + 1) vI p1 p2 i) (d : decode j.1 p2 = .ok (.baload, 1)) : aEv j w vI pc (p2 + 1) (e_za a i) := by
  intro X r hC k L st m hw he hk
  refine ha X r hC _ L st m hw he (fun o L1 m1 h1 => ?_)
  refine hi X r hC _ L1 (a_rv o :: st) m1 (by rw [a_wt_cons, a_pv_cat (a_pv_rv o)]; omega) h1 (fun x L2 m2 h2 => ?_)
  cases o with
  | none => cases h2
  | some q =>
    by_cases hT : (mT m2 q).1 = 12 ∧ a_ix x (mT m2 q).2 = true
    · simp only [hT, and_self, if_true] at h2
      exact g_zald hC (n := (mT m2 q).2) (Prod.ext hT.1 rfl) (a_ix_in hT.2) d (hk _ L2 m2 h2)
    · simp [hT] at h2

theorem r_lald {j : aJ} {w pc p1 p2 : Nat} {a : aE (Option Nat)} {i : aE Int32} (ha : aEv j w a_rv pc p1 a) (hi : aEv j (w + 1) vI p1 p2 i) (d : decode j.1 p2 = .ok (.laload, 1)) : aEv j w vJ pc (p2 + 1) (e_ja a i) := by
  intro X r hC k L st m hw he hk
  refine ha X r hC _ L st m hw he (fun o L1 m1 h1 => ?_)
  refine hi X r hC _ L1 (a_rv o :: st) m1 (by rw [a_wt_cons, a_pv_cat (a_pv_rv o)]; omega) h1 (fun x L2 m2 h2 => ?_)
  cases o with
  | none => cases h2
  | some q =>
    by_cases hT : (mT m2 q).1 = 11 ∧ a_ix x (mT m2 q).2 = true
    · simp only [hT, and_self, if_true] at h2
      exact g_lald hC (n := (mT m2 q).2) (Prod.ext hT.1 rfl) (a_ix_in hT.2) d (hk _ L2 m2 h2)
    · simp [hT] at h2

theorem r_aald {j : aJ} {w pc p1 p2 : Nat} {a : aE (Option Nat)} {i : aE Int32} (ha : aEv j w a_rv pc p1 a) (hi : aEv j (w + 1) vI p1 p2 i) (d : decode j.1 p2 = .ok (.aaload, 1)) : aEv j w a_rv pc (p2 + 1) (e_ra a i) := by
  intro X r hC k L st m hw he hk
  refine ha X r hC _ L st m hw he (fun o L1 m1 h1 => ?_)
  refine hi X r hC _ L1 (a_rv o :: st) m1 (by rw [a_wt_cons, a_pv_cat (a_pv_rv o)]; omega) h1 (fun x L2 m2 h2 => ?_)
  cases o with
  | none => cases h2
  | some q =>
    by_cases hT : (mT m2 q).1 = 13 ∧ a_ix x (mT m2 q).2 = true
    · simp only [hT, and_self, if_true] at h2
      exact g_aald hC (n := (mT m2 q).2) (Prod.ext hT.1 rfl) (a_ix_in hT.2) d (hk _ L2 m2 h2)
    · simp [hT] at h2

theorem r_alen {j : aJ} {w pc p1 : Nat} {a : aE (Option Nat)} (ha : aEv j w a_rv pc p1 a) (d : decode j.1 p1 = .ok (.arraylength, 1)) : aEv j w vI pc (p1 + 1) (e_len a) := by
  intro X r hC k L st m hw he hk
  refine ha X r hC _ L st m hw he (fun o L1 m1 h1 => ?_)
  cases o with
  | none => cases h1
  | some q =>
    by_cases hT : (mT m1 q).1 = 10
    · simp only [hT, if_true] at h1
      exact g_alen hC (n := (mT m1 q).2) (kd := 10) (Prod.ext hT rfl) rfl d (hk _ L1 m1 h1)
    · simp [hT] at h1
theorem r_scr {j : aJ} {w pc p2 i : Nat} {n : Fin 4} {e : aE Int32} (hi : (n : Nat) = i) (hk2 : j.2.2.2.2.1 = 2) (d0 : decode j.1 pc = .ok (.aload_n n, 1)) (he0 : aEv j (w + 1) vI (pc + 1) p2 e) (d : decode j.1 p2 = .ok (.iaload, 1)) : aEv j w vI pc (p2 + 1) (e_sc j.2.2.2.2.2.2.2.1 j.2.2.2.2.2.2.2.2 i e) := by
  intro X r hC k L st m hw he hk
  unfold e_sc at he
  split at he
  · rename_i hx
    refine g_sload_n hC hi hx d0 ?_
    refine he0 X r hC _ L (.retAddr 1 :: st) m (by rw [a_wt_cons]; show 1 + a_wt st ≤ w + 1; omega) he (fun x L2 m2 h2 => ?_)
    by_cases hT : a_ix x j.2.2.2.2.2.2.2.1 = true
    · simp only [hT, if_true] at h2
      exact g_scr hC hk2 (a_ix_in hT) d (hk _ L2 m2 h2)
    · simp [hT] at h2
  · cases he
theorem r_scl {j : aJ} {w pc i : Nat} {n : Fin 4} (hi : (n : Nat) = i) (hk2 : j.2.2.2.2.1 = 2) (d0 : decode j.1 pc = .ok (.aload_n n, 1)) (d : decode j.1 (pc + 1) = .ok (.arraylength, 1)) : aEv j w vI pc (pc + 1 + 1) (e_sl j.2.2.2.2.2.2.2.1 i) := by
  intro X r hC k L st m hw he hk
  unfold e_sl at he
  split at he
  · rename_i hx
    exact g_sload_n hC hi hx d0 (g_scl hC hk2 d (hk _ L m he))
  · cases he
theorem r_vn {j : aJ} {w pc : Nat} : aAs j w 0 pc pc v_nil := by
  intro X r hC k L st m hw he hk
  exact hk [] L m rfl (fun _ h => by cases h) he
theorem r_vi {j : aJ} {w n pc p1 p2 : Nat} {a : aE Int32} {r0 : aE (List Value)} (ha : aEv j w vI pc p1 a) (hr : aAs j (w + 1) n p1 p2 r0) : aAs j w (n + 1) pc p2 (v_i a r0) := by
  intro X r hC k L st m hw he hk
  refine ha X r hC _ L st m hw he (fun x L1 m1 h1 => ?_)
  refine hr X r hC _ L1 (vI x :: st) m1 (by rw [a_wt_cons]; show 1 + a_wt st ≤ w + 1; omega) h1 (fun vs L2 m2 hl hp h2 => ?_)
  have := hk (.int x :: vs) L2 m2 (by simp [hl]) (fun v hv => by
    rcases List.mem_cons.mp hv with e | e
    · exact Or.inl ⟨x, e⟩
    · exact hp v e) h2
  simpa using this
theorem r_vr {j : aJ} {w n pc p1 p2 : Nat} {a : aE (Option Nat)} {r0 : aE (List Value)} (ha : aEv j w a_rv pc p1 a) (hr : aAs j (w + 1) n p1 p2 r0) : aAs j w (n + 1) pc p2 (v_r a r0) := by
  intro X r hC k L st m hw he hk
  refine ha X r hC _ L st m hw he (fun x L1 m1 h1 => ?_)
  refine hr X r hC _ L1 (a_rv x :: st) m1 (by rw [a_wt_cons, a_pv_cat (a_pv_rv x)]; omega) h1 (fun vs L2 m2 hl hp h2 => ?_)
  have := hk (a_rv x :: vs) L2 m2 (by simp [hl]) (fun v hv => by
    rcases List.mem_cons.mp hv with e | e
    · rw [e]; exact a_pv_rv x
    · exact hp v e) h2
  simpa using this

theorem r_callSi {j : aJ} {w pc p1 : Nat} {a : aE (List Value)} {y : MethodName} {bytes : ByteArray} {maxL fr9 lo9 n index : Nat} {rt9 : Option FieldType} {F : aF} (hM : aMet y (.code y bytes maxL rt9) fr9 lo9 F) (hcd : Cond.code y bytes maxL rt9 ∈ aG) (hl : Cond.methodLink j.2.1 index y ∈ aG) (hst : Cond.static y ∈ aG) (hin : Cond.initialized y.cls ∈ aG) (hd : y.cls ≠ "java/lang/invoke/MethodHandle" ∧ y.cls ≠ "java/lang/invoke/VarHandle" ∧ (parseMethodDescriptor y.desc).map (fun d => d.parameters.length) = some n) (hR1 : fr9 + 1 ≤ j.2.2.1) (hR2 : 8 + (maxL + 11) + lo9 ≤ j.2.2.2.1) (hw8 : w ≤ 8) (ha : aAs j w n pc p1 a) (d : decode j.1 p1 = .ok (.invokestatic index, 3)) : aEv j w vI pc (p1 + 3) (e_ci F a) := by
  intro X r hC k L st m hw he hk
  refine ha X r hC _ L st m hw he (fun vs L1 m1 hl1 hp h1 => ?_)
  unfold a_ci at h1
  split at h1
  · rename_i v m9 hF
    split at h1
    · rename_i hmm
      exact g_callSi hC hM hcd hl hst hin hd hl1 hp hR1 hR2 (Nat.le_trans hw hw8) hF hmm d (hk v L1 m9 h1)
    · cases h1
  · cases h1

theorem r_callNi {j : aJ} {w pc p1 : Nat} {a : aE (List Value)} {y : MethodName} {bytes : ByteArray} {maxL fr9 lo9 n index : Nat} {rt9 : Option FieldType} {F : aF} (hM : aMet y (.code y bytes maxL rt9) fr9 lo9 F) (hcd : Cond.code y bytes maxL rt9 ∈ aG) (hl : Cond.methodLinkNest j.2.1 index y "QuietOffice" ∈ lw_tbl) (hst : Cond.static y ∈ aG) (hin : Cond.initialized y.cls ∈ aG) (hd : y.cls ≠ "java/lang/invoke/MethodHandle" ∧ y.cls ≠ "java/lang/invoke/VarHandle" ∧ (parseMethodDescriptor y.desc).map (fun d => d.parameters.length) = some n) (hR1 : fr9 + 1 ≤ j.2.2.1) (hR2 : 8 + (maxL + 11) + lo9 ≤ j.2.2.2.1) (hw8 : w ≤ 8) (ha : aAs j w n pc p1 a) (d : decode j.1 p1 = .ok (.invokestatic index, 3)) : aEv j w vI pc (p1 + 3) (e_ci F a) := by
  intro X r hC k L st m hw he hk
  refine ha X r hC _ L st m hw he (fun vs L1 m1 hl1 hp h1 => ?_)
  unfold a_ci at h1
  split at h1
  · rename_i v m9 hF
    split at h1
    · rename_i hmm
      exact g_callNi hC hM hcd hl hst hin hd hl1 hp hR1 hR2 (Nat.le_trans hw hw8) hF hmm d (hk v L1 m9 h1)
    · cases h1
  · cases h1

theorem r_callSl {j : aJ} {w pc p1 : Nat} {a : aE (List Value)} {y : MethodName} {bytes : ByteArray} {maxL fr9 lo9 n index : Nat} {rt9 : Option FieldType} {F : aF} (hM : aMet y (.code y bytes maxL rt9) fr9 lo9 F) (hcd : Cond.code y bytes maxL rt9 ∈ aG) (hl : Cond.methodLink j.2.1 index y ∈ aG) (hst : Cond.static y ∈ aG) (hin : Cond.initialized y.cls ∈ aG) (hd : y.cls ≠ "java/lang/invoke/MethodHandle" ∧ y.cls ≠ "java/lang/invoke/VarHandle" ∧ (parseMethodDescriptor y.desc).map (fun d => d.parameters.length) = some n) (hR1 : fr9 + 1 ≤ j.2.2.1) (hR2 : 8 + (maxL + 11) + lo9 ≤ j.2.2.2.1) (hw8 : w ≤ 8) (ha : aAs j w n pc p1 a) (d : decode j.1 p1 = .ok (.invokestatic index, 3)) : aEv j w vJ pc (p1 + 3) (e_cj F a) := by
  intro X r hC k L st m hw he hk
  refine ha X r hC _ L st m hw he (fun vs L1 m1 hl1 hp h1 => ?_)
  unfold a_cj at h1
  split at h1
  · rename_i v m9 hF
    split at h1
    · rename_i hmm
      exact g_callSl hC hM hcd hl hst hin hd hl1 hp hR1 hR2 (Nat.le_trans hw hw8) hF hmm d (hk v L1 m9 h1)
    · cases h1
  · cases h1

theorem r_callSv {j : aJ} {pc p1 : Nat} {a : aE (List Value)} {y : MethodName} {bytes : ByteArray} {maxL fr9 lo9 n index : Nat} {rt9 : Option FieldType} {F : aF} (hM : aMet y (.code y bytes maxL rt9) fr9 lo9 F) (hcd : Cond.code y bytes maxL rt9 ∈ aG) (hl : Cond.methodLink j.2.1 index y ∈ aG) (hst : Cond.static y ∈ aG) (hin : Cond.initialized y.cls ∈ aG) (hd : y.cls ≠ "java/lang/invoke/MethodHandle" ∧ y.cls ≠ "java/lang/invoke/VarHandle" ∧ (parseMethodDescriptor y.desc).map (fun d => d.parameters.length) = some n) (hR1 : fr9 + 1 ≤ j.2.2.1) (hR2 : 8 + (maxL + 11) + lo9 ≤ j.2.2.2.1) (ha : aAs j 0 n pc p1 a) (d : decode j.1 p1 = .ok (.invokestatic index, 3)) : aRn j pc (p1 + 3) (s_cv F a) := by
  intro X r hC k L m he hk
  refine ha X r hC _ L [] m (Nat.le_refl 0) he (fun vs L1 m1 hl1 hp h1 => ?_)
  unfold a_cv at h1
  split at h1
  · rename_i m9 hF
    split at h1
    · rename_i hmm
      exact g_callSv hC hM hcd hl hst hin hd hl1 hp hR1 hR2 (Nat.zero_le _) hF hmm d (hk L1 m9 h1)
    · cases h1
  · cases h1

theorem r_callVi {j : aJ} {w pc p0 p1 : Nat} {o : aE (Option Nat)} {a : aE (List Value)} {y : MethodName} {bytes : ByteArray} {maxL fr9 lo9 n index : Nat} {rt9 : Option FieldType} {F : aF} (hM : aMet y (.code y bytes maxL rt9) fr9 lo9 F) (hcd : Cond.code y bytes maxL rt9 ∈ aG) (hl : Cond.methodLink j.2.1 index y ∈ aG) {ci N : Nat} {C : String} {T : u_T} (hc : vwCl[ci]? = some (C, T, N)) (hci : ci < 10) (hinst : Cond.instanceMethod y ∈ aG) (hsel : Cond.selects C y y ∈ aG) (hin : Cond.initialized y.cls ∈ aG) (hd : y.cls ≠ "java/lang/invoke/MethodHandle" ∧ y.cls ≠ "java/lang/invoke/VarHandle" ∧ (parseMethodDescriptor y.desc).map (fun d => d.parameters.length) = some n) (hR1 : fr9 + 1 ≤ j.2.2.1) (hR2 : 8 + (maxL + 11) + lo9 ≤ j.2.2.2.1) (hw8 : w ≤ 8) (ho : aEv j w a_rv pc p0 o) (ha : aAs j (w + 1) n p0 p1 a) (d : decode j.1 p1 = .ok (.invokevirtual index, 3)) : aEv j w vI pc (p1 + 3) (e_vi ci N F o a) := by
  intro X r hC k L st m hw he hk
  refine ho X r hC _ L st m hw he (fun q L0 m0 h0 => ?_)
  refine ha X r hC _ L0 (a_rv q :: st) m0 (by rw [a_wt_cons, a_pv_cat (a_pv_rv q)]; omega) h0 (fun vs L1 m1 hl1 hp h1 => ?_)
  cases q with
  | none => cases h1
  | some q =>
    by_cases hT : mT m1 q = (ci, N)
    · simp only [hT, if_true] at h1
      unfold a_ci at h1
      split at h1
      · rename_i v m9 hF
        split at h1
        · rename_i hmm
          exact g_callVi hC hM hcd hl hc hci hT hinst hsel hin hd hl1 hp hR1 hR2 (Nat.le_trans hw hw8) hF hmm d (hk v L1 m9 h1)
        · cases h1
      · cases h1
    · simp [hT] at h1

theorem r_callVl {j : aJ} {w pc p0 p1 : Nat} {o : aE (Option Nat)} {a : aE (List Value)} {y : MethodName} {bytes : ByteArray} {maxL fr9 lo9 n index : Nat} {rt9 : Option FieldType} {F : aF} (hM : aMet y (.code y bytes maxL rt9) fr9 lo9 F) (hcd : Cond.code y bytes maxL rt9 ∈ aG) (hl : Cond.methodLink j.2.1 index y ∈ aG) {ci N : Nat} {C : String} {T : u_T} (hc : vwCl[ci]? = some (C, T, N)) (hci : ci < 10) (hinst : Cond.instanceMethod y ∈ aG) (hsel : Cond.selects C y y ∈ aG) (hin : Cond.initialized y.cls ∈ aG) (hd : y.cls ≠ "java/lang/invoke/MethodHandle" ∧ y.cls ≠ "java/lang/invoke/VarHandle" ∧ (parseMethodDescriptor y.desc).map (fun d => d.parameters.length) = some n) (hR1 : fr9 + 1 ≤ j.2.2.1) (hR2 : 8 + (maxL + 11) + lo9 ≤ j.2.2.2.1) (hw8 : w ≤ 8) (ho : aEv j w a_rv pc p0 o) (ha : aAs j (w + 1) n p0 p1 a) (d : decode j.1 p1 = .ok (.invokevirtual index, 3)) : aEv j w vJ pc (p1 + 3) (e_vj ci N F o a) := by
  intro X r hC k L st m hw he hk
  refine ho X r hC _ L st m hw he (fun q L0 m0 h0 => ?_)
  refine ha X r hC _ L0 (a_rv q :: st) m0 (by rw [a_wt_cons, a_pv_cat (a_pv_rv q)]; omega) h0 (fun vs L1 m1 hl1 hp h1 => ?_)
  cases q with
  | none => cases h1
  | some q =>
    by_cases hT : mT m1 q = (ci, N)
    · simp only [hT, if_true] at h1
      unfold a_cj at h1
      split at h1
      · rename_i v m9 hF
        split at h1
        · rename_i hmm
          exact g_callVl hC hM hcd hl hc hci hT hinst hsel hin hd hl1 hp hR1 hR2 (Nat.le_trans hw hw8) hF hmm d (hk v L1 m9 h1)
        · cases h1
      · cases h1
    · simp [hT] at h1

theorem r_callVv {j : aJ} {pc p0 p1 : Nat} {o : aE (Option Nat)} {a : aE (List Value)} {y : MethodName} {bytes : ByteArray} {maxL fr9 lo9 n index : Nat} {rt9 : Option FieldType} {F : aF} (hM : aMet y (.code y bytes maxL rt9) fr9 lo9 F) (hcd : Cond.code y bytes maxL rt9 ∈ aG) (hl : Cond.methodLink j.2.1 index y ∈ aG) {ci N : Nat} {C : String} {T : u_T} (hc : vwCl[ci]? = some (C, T, N)) (hci : ci < 10) (hinst : Cond.instanceMethod y ∈ aG) (hsel : Cond.selects C y y ∈ aG) (hin : Cond.initialized y.cls ∈ aG) (hd : y.cls ≠ "java/lang/invoke/MethodHandle" ∧ y.cls ≠ "java/lang/invoke/VarHandle" ∧ (parseMethodDescriptor y.desc).map (fun d => d.parameters.length) = some n) (hR1 : fr9 + 1 ≤ j.2.2.1) (hR2 : 8 + (maxL + 11) + lo9 ≤ j.2.2.2.1) (ho : aEv j 0 a_rv pc p0 o) (ha : aAs j 1 n p0 p1 a) (d : decode j.1 p1 = .ok (.invokevirtual index, 3)) : aRn j pc (p1 + 3) (s_vv ci N F o a) := by
  intro X r hC k L m he hk
  refine ho X r hC _ L [] m (Nat.le_refl 0) he (fun q L0 m0 h0 => ?_)
  refine ha X r hC _ L0 (a_rv q :: []) m0 (by rw [a_wt_cons, a_pv_cat (a_pv_rv q)]; exact Nat.le_refl 1) h0 (fun vs L1 m1 hl1 hp h1 => ?_)
  cases q with
  | none => cases h1
  | some q =>
    by_cases hT : mT m1 q = (ci, N)
    · simp only [hT, if_true] at h1
      unfold a_cv at h1
      split at h1
      · rename_i m9 hF
        split at h1
        · rename_i hmm
          exact g_callVv hC hM hcd hl hc hci hT hinst hsel hin hd hl1 hp hR1 hR2 (Nat.zero_le _) hF hmm d (hk L1 m9 h1)
        · cases h1
      · cases h1
    · simp [hT] at h1

theorem r_new {j : aJ} {w pc : Nat} {y : MethodName} {bytes : ByteArray} {maxL fr9 lo9 index : Nat} {F : aF} (hM : aMet y (.code y bytes maxL none) fr9 lo9 F) (hcd : Cond.code y bytes maxL none ∈ aG) (hl : Cond.methodLink j.2.1 index y ∈ aG) (hy1 : y.name = "<init>") (hinst : Cond.instanceMethod y ∈ aG) (hin : Cond.initialized y.cls ∈ aG) (hd : y.cls ≠ "java/lang/invoke/MethodHandle" ∧ y.cls ≠ "java/lang/invoke/VarHandle" ∧ (parseMethodDescriptor y.desc).map (fun d => d.parameters.length) = some 0) (hR1 : fr9 + 1 ≤ j.2.2.1) (hR2 : 8 + (maxL + 11) + lo9 ≤ j.2.2.2.1) (hw8 : w + 1 ≤ 8) {ci N ix : Nat} {C : String} {T : u_T} (hin0 : ∀ w ∈ u_ws C T N, w ∈ aG) (hc : vwCl[ci]? = some (C, T, N)) (hci : ci < 10) (ty0 : Nat → FieldType) (hty : ∀ k, k < N → parseFieldDescriptor (T k).2.2.1 = some (ty0 k)) (hdf : ∀ i, i < N → defaultValue (ty0 i) = if a_it (a_ty ci i) = true then .int 0 else .null) (hcl : Cond.classLink j.2.1 ix C ∈ aG) (hcn : Cond.instantiable C N ∈ aG) (hini : Cond.initialized C ∈ aG) (d0 : decode j.1 pc = .ok (.new ix, 3)) (d1 : decode j.1 (pc + 3) = .ok (.dup, 1)) (d2 : decode j.1 (pc + 3 + 1) = .ok (.invokespecial index, 3)) : aEv j w a_rv pc (pc + 3 + 1 + 3) (e_new ci N F) := by
  intro X r hC k L st m hw he hk
  unfold e_new a_cv at he
  split at he
  · rename_i m9 hF
    split at he
    case isFalse => cases he
    rename_i hmm
    refine g_new hC hin0 hc hci ty0 hty hdf hcl hcn hini d0 (g_dup hC rfl d1 ?_)
    exact g_callIv hC (vs := []) (q := mN m) hM hcd hl hy1 hinst hin hd rfl (fun _ h => by cases h) hR1 hR2 (by show a_wt (.ref (mN m) :: st) ≤ 8; rw [a_wt_cons]; show 1 + a_wt st ≤ 8; omega) hF hmm d2 (hk (some (mN m)) L m9 he)
  · cases he

theorem r_newN {j : aJ} {w pc : Nat} {y : MethodName} {bytes : ByteArray} {maxL fr9 lo9 index : Nat} {F : aF} (hM : aMet y (.code y bytes maxL none) fr9 lo9 F) (hcd : Cond.code y bytes maxL none ∈ aG) (hl : Cond.methodLinkNest j.2.1 index y "QuietOffice" ∈ lw_tbl) (hy1 : y.name = "<init>") (hinst : Cond.instanceMethod y ∈ aG) (hin : Cond.initialized y.cls ∈ aG) (hd : y.cls ≠ "java/lang/invoke/MethodHandle" ∧ y.cls ≠ "java/lang/invoke/VarHandle" ∧ (parseMethodDescriptor y.desc).map (fun d => d.parameters.length) = some 0) (hR1 : fr9 + 1 ≤ j.2.2.1) (hR2 : 8 + (maxL + 11) + lo9 ≤ j.2.2.2.1) (hw8 : w + 1 ≤ 8) {ci N ix : Nat} {C : String} {T : u_T} (hin0 : ∀ w ∈ u_ws C T N, w ∈ aG) (hc : vwCl[ci]? = some (C, T, N)) (hci : ci < 10) (ty0 : Nat → FieldType) (hty : ∀ k, k < N → parseFieldDescriptor (T k).2.2.1 = some (ty0 k)) (hdf : ∀ i, i < N → defaultValue (ty0 i) = if a_it (a_ty ci i) = true then .int 0 else .null) (hcl : Cond.classLink j.2.1 ix C ∈ aG) (hcn : Cond.instantiable C N ∈ aG) (hini : Cond.initialized C ∈ aG) (d0 : decode j.1 pc = .ok (.new ix, 3)) (d1 : decode j.1 (pc + 3) = .ok (.dup, 1)) (d2 : decode j.1 (pc + 3 + 1) = .ok (.invokespecial index, 3)) : aEv j w a_rv pc (pc + 3 + 1 + 3) (e_new ci N F) := by
  intro X r hC k L st m hw he hk
  unfold e_new a_cv at he
  split at he
  · rename_i m9 hF
    split at he
    case isFalse => cases he
    rename_i hmm
    refine g_new hC hin0 hc hci ty0 hty hdf hcl hcn hini d0 (g_dup hC rfl d1 ?_)
    exact g_callINv hC (vs := []) (q := mN m) hM hcd hl hy1 hinst hin hd rfl (fun _ h => by cases h) hR1 hR2 (by show a_wt (.ref (mN m) :: st) ≤ 8; rw [a_wt_cons]; show 1 + a_wt st ≤ 8; omega) hF hmm d2 (hk (some (mN m)) L m9 he)
  · cases he

theorem a_nn {x : Int32} (h : 0 ≤ x.toInt) : ¬ x < 0 := by
  rw [Int32.lt_iff_toInt_lt]
  simpa using h
theorem a_cl {x : Int32} (h : 0 ≤ x.toInt ∧ x.toInt ≤ 60000) : x.toNatClampNeg ≤ 60000 := by
  have e : x.toNatClampNeg = x.toInt.toNat := rfl
  omega

theorem r_newa10 {j : aJ} {w pc p1 : Nat} {a : aE Int32} (ha : aEv j w vI pc p1 a) (harr : Cond.arrayClass .int ∈ aG) (d : decode j.1 p1 = .ok (.newarray .int, 2)) : aEv j w a_rv pc (p1 + 2) (e_na 10 a) := by
  intro X r hC k L st m hw he hk
  refine ha X r hC _ L st m hw he (fun x L1 m1 h1 => ?_)
  by_cases hx : 0 ≤ x.toInt ∧ x.toInt ≤ 60000
  · simp only [hx, and_self, if_true] at h1
    exact g_newa10 hC (a_nn hx.1) rfl (a_cl hx) harr d (hk _ L1 _ h1)
  · simp only [hx, if_false] at h1
    cases h1

theorem r_newa11 {j : aJ} {w pc p1 : Nat} {a : aE Int32} (ha : aEv j w vI pc p1 a) (harr : Cond.arrayClass .long ∈ aG) (d : decode j.1 p1 = .ok (.newarray .long, 2)) : aEv j w a_rv pc (p1 + 2) (e_na 11 a) := by
  intro X r hC k L st m hw he hk
  refine ha X r hC _ L st m hw he (fun x L1 m1 h1 => ?_)
  by_cases hx : 0 ≤ x.toInt ∧ x.toInt ≤ 60000
  · simp only [hx, and_self, if_true] at h1
    exact g_newa11 hC (a_nn hx.1) rfl (a_cl hx) harr d (hk _ L1 _ h1)
  · simp only [hx, if_false] at h1
    cases h1

theorem r_newa12 {j : aJ} {w pc p1 : Nat} {a : aE Int32} (ha : aEv j w vI pc p1 a) (harr : Cond.arrayClass .boolean ∈ aG) (d : decode j.1 p1 = .ok (.newarray .boolean, 2)) : aEv j w a_rv pc (p1 + 2) (e_na 12 a) := by
  intro X r hC k L st m hw he hk
  refine ha X r hC _ L st m hw he (fun x L1 m1 h1 => ?_)
  by_cases hx : 0 ≤ x.toInt ∧ x.toInt ≤ 60000
  · simp only [hx, and_self, if_true] at h1
    exact g_newa12 hC (a_nn hx.1) rfl (a_cl hx) harr d (hk _ L1 _ h1)
  · simp only [hx, if_false] at h1
    cases h1

theorem r_newq {j : aJ} {w pc p1 index : Nat} {a : aE Int32} (ha : aEv j w vI pc p1 a) (hcl : Cond.classLink j.2.1 index "QuietOffice$State" ∈ aG) (d : decode j.1 p1 = .ok (.anewarray index, 3)) : aEv j w a_rv pc (p1 + 3) (e_na 13 a) := by
  intro X r hC k L st m hw he hk
  refine ha X r hC _ L st m hw he (fun x L1 m1 h1 => ?_)
  by_cases hx : 0 ≤ x.toInt ∧ x.toInt ≤ 60000
  · simp only [hx, and_self, if_true] at h1
    exact g_newq hC (a_nn hx.1) rfl (a_cl hx) hcl d (hk _ L1 _ h1)
  · simp only [hx, if_false] at h1
    cases h1
theorem r_if {j : aJ} {w pc pa pb p9 : Nat} {α : Type} {f : α → Value} {c : aC} {a b : aE α} (hc : aCd j w pc pa pb c) (ha : aEv j w f pa p9 a) (hb : aEv j w f pb p9 b) : aEv j w f pc p9 (e_if c a b) := by
  intro X r hC k L st m hw he hk
  exact hc X r hC _ _ L st m hw he (fun L1 m1 h1 => ha X r hC _ L1 st m1 hw h1 hk) (fun L1 m1 h1 => hb X r hC _ L1 st m1 hw h1 hk)
theorem r_eg {j : aJ} {w pc p1 tgt : Nat} {α : Type} {f : α → Value} {e : aE α} {off : Int} (h : aEv j w f pc p1 e) (d : decode j.1 p1 = .ok (.goto off, 3)) (ht : (p1 : Int) + off = (tgt : Int)) : aEv j w f pc tgt e := by
  intro X r hC k L st m hw he hk
  exact h X r hC _ L st m hw he (fun x L1 m1 h1 => g_goto hC ht d (hk x L1 m1 h1))

theorem r_lt_t {j : aJ} {w pc p1 p2 tgt : Nat} {off : Int} {a b : aE Int32} (ha : aEv j w vI pc p1 a) (hb : aEv j (w + 1) vI p1 p2 b) (d : decode j.1 p2 = .ok (.if_icmp .lt off, 3)) (ht : (p2 : Int) + off = (tgt : Int)) : aCd j w pc tgt (p2 + 3) (c_lt a b) := by
  intro X r hC kt kf L st m hw he hkt hkf
  refine ha X r hC _ L st m hw he (fun x L1 m1 h1 => ?_)
  refine hb X r hC _ L1 (vI x :: st) m1 (by rw [a_wt_cons]; show 1 + a_wt st ≤ w + 1; omega) h1 (fun y L2 m2 h2 => ?_)
  exact g_icmp_lt hC ht d (fun q => hkt L2 m2 (by rw [← h2]; exact (if_pos q).symm)) (fun q => hkf L2 m2 (by rw [← h2]; exact (if_neg q).symm))

theorem r_lt0_t {j : aJ} {w pc p2 tgt : Nat} {off : Int} {a : aE Int32} (ha : aEv j w vI pc p2 a) (d : decode j.1 p2 = .ok (.ifCond .lt off, 3)) (ht : (p2 : Int) + off = (tgt : Int)) : aCd j w pc tgt (p2 + 3) (c_lt0 a) := by
  intro X r hC kt kf L st m hw he hkt hkf
  refine ha X r hC _ L st m hw he (fun x L2 m2 h2 => ?_)
  exact g_if_lt hC ht d (fun q => hkt L2 m2 (by rw [← h2]; exact (if_pos q).symm)) (fun q => hkf L2 m2 (by rw [← h2]; exact (if_neg q).symm))

theorem r_jlt_t {j : aJ} {w pc p1 p2 tgt : Nat} {off : Int} {a b : aE Int64} (ha : aEv j w vJ pc p1 a) (hb : aEv j (w + 2) vJ p1 p2 b) (d0 : decode j.1 p2 = .ok (.lcmp, 1)) (d : decode j.1 (p2 + 1) = .ok (.ifCond .lt off, 3)) (ht : ((p2 + 1 : Nat) : Int) + off = (tgt : Int)) : aCd j w pc tgt (p2 + 1 + 3) (c_jlt a b) := by
  intro X r hC kt kf L st m hw he hkt hkf
  refine ha X r hC _ L st m hw he (fun x L1 m1 h1 => ?_)
  refine hb X r hC _ L1 (vJ x :: st) m1 (by rw [a_wt_cons]; show 2 + a_wt st ≤ w + 2; omega) h1 (fun y L2 m2 h2 => ?_)
  refine g_lcmp hC d0 ?_
  exact g_if_lt hC ht d (fun q9 =>  hkt L2 m2 (by rw [← h2]; exact (if_pos ((lg_cmp_lt x y).mp q9)).symm)) (fun q9 =>  hkf L2 m2 (by rw [← h2]; exact (if_neg (fun z => q9 ((lg_cmp_lt x y).mpr z))).symm))

theorem r_lt_f {j : aJ} {w pc p1 p2 tgt : Nat} {off : Int} {a b : aE Int32} (ha : aEv j w vI pc p1 a) (hb : aEv j (w + 1) vI p1 p2 b) (d : decode j.1 p2 = .ok (.if_icmp .ge off, 3)) (ht : (p2 : Int) + off = (tgt : Int)) : aCd j w pc (p2 + 3) tgt (c_lt a b) := by
  intro X r hC kt kf L st m hw he hkt hkf
  refine ha X r hC _ L st m hw he (fun x L1 m1 h1 => ?_)
  refine hb X r hC _ L1 (vI x :: st) m1 (by rw [a_wt_cons]; show 1 + a_wt st ≤ w + 1; omega) h1 (fun y L2 m2 h2 => ?_)
  exact g_icmp_ge hC ht d (fun q => hkf L2 m2 (by rw [← h2]; exact (if_neg q).symm)) (fun q => hkt L2 m2 (by rw [← h2]; exact (if_pos q).symm))

theorem r_lt0_f {j : aJ} {w pc p2 tgt : Nat} {off : Int} {a : aE Int32} (ha : aEv j w vI pc p2 a) (d : decode j.1 p2 = .ok (.ifCond .ge off, 3)) (ht : (p2 : Int) + off = (tgt : Int)) : aCd j w pc (p2 + 3) tgt (c_lt0 a) := by
  intro X r hC kt kf L st m hw he hkt hkf
  refine ha X r hC _ L st m hw he (fun x L2 m2 h2 => ?_)
  exact g_if_ge hC ht d (fun q => hkf L2 m2 (by rw [← h2]; exact (if_neg q).symm)) (fun q => hkt L2 m2 (by rw [← h2]; exact (if_pos q).symm))

theorem r_jlt_f {j : aJ} {w pc p1 p2 tgt : Nat} {off : Int} {a b : aE Int64} (ha : aEv j w vJ pc p1 a) (hb : aEv j (w + 2) vJ p1 p2 b) (d0 : decode j.1 p2 = .ok (.lcmp, 1)) (d : decode j.1 (p2 + 1) = .ok (.ifCond .ge off, 3)) (ht : ((p2 + 1 : Nat) : Int) + off = (tgt : Int)) : aCd j w pc (p2 + 1 + 3) tgt (c_jlt a b) := by
  intro X r hC kt kf L st m hw he hkt hkf
  refine ha X r hC _ L st m hw he (fun x L1 m1 h1 => ?_)
  refine hb X r hC _ L1 (vJ x :: st) m1 (by rw [a_wt_cons]; show 2 + a_wt st ≤ w + 2; omega) h1 (fun y L2 m2 h2 => ?_)
  refine g_lcmp hC d0 ?_
  exact g_if_ge hC ht d (fun q9 =>  hkf L2 m2 (by rw [← h2]; exact (if_neg (fun z => q9 ((lg_cmp_lt x y).mpr z))).symm)) (fun q9 =>  hkt L2 m2 (by rw [← h2]; exact (if_pos ((lg_cmp_lt x y).mp q9)).symm))

theorem r_le_t {j : aJ} {w pc p1 p2 tgt : Nat} {off : Int} {a b : aE Int32} (ha : aEv j w vI pc p1 a) (hb : aEv j (w + 1) vI p1 p2 b) (d : decode j.1 p2 = .ok (.if_icmp .le off, 3)) (ht : (p2 : Int) + off = (tgt : Int)) : aCd j w pc tgt (p2 + 3) (c_le a b) := by
  intro X r hC kt kf L st m hw he hkt hkf
  refine ha X r hC _ L st m hw he (fun x L1 m1 h1 => ?_)
  refine hb X r hC _ L1 (vI x :: st) m1 (by rw [a_wt_cons]; show 1 + a_wt st ≤ w + 1; omega) h1 (fun y L2 m2 h2 => ?_)
  exact g_icmp_le hC ht d (fun q => hkt L2 m2 (by rw [← h2]; exact (if_pos q).symm)) (fun q => hkf L2 m2 (by rw [← h2]; exact (if_neg q).symm))

theorem r_le0_t {j : aJ} {w pc p2 tgt : Nat} {off : Int} {a : aE Int32} (ha : aEv j w vI pc p2 a) (d : decode j.1 p2 = .ok (.ifCond .le off, 3)) (ht : (p2 : Int) + off = (tgt : Int)) : aCd j w pc tgt (p2 + 3) (c_le0 a) := by
  intro X r hC kt kf L st m hw he hkt hkf
  refine ha X r hC _ L st m hw he (fun x L2 m2 h2 => ?_)
  exact g_if_le hC ht d (fun q => hkt L2 m2 (by rw [← h2]; exact (if_pos q).symm)) (fun q => hkf L2 m2 (by rw [← h2]; exact (if_neg q).symm))

theorem r_jle_t {j : aJ} {w pc p1 p2 tgt : Nat} {off : Int} {a b : aE Int64} (ha : aEv j w vJ pc p1 a) (hb : aEv j (w + 2) vJ p1 p2 b) (d0 : decode j.1 p2 = .ok (.lcmp, 1)) (d : decode j.1 (p2 + 1) = .ok (.ifCond .le off, 3)) (ht : ((p2 + 1 : Nat) : Int) + off = (tgt : Int)) : aCd j w pc tgt (p2 + 1 + 3) (c_jle a b) := by
  intro X r hC kt kf L st m hw he hkt hkf
  refine ha X r hC _ L st m hw he (fun x L1 m1 h1 => ?_)
  refine hb X r hC _ L1 (vJ x :: st) m1 (by rw [a_wt_cons]; show 2 + a_wt st ≤ w + 2; omega) h1 (fun y L2 m2 h2 => ?_)
  refine g_lcmp hC d0 ?_
  exact g_if_le hC ht d (fun q9 =>  hkt L2 m2 (by rw [← h2]; exact (if_pos ((lg_cmp_le x y).mp q9)).symm)) (fun q9 =>  hkf L2 m2 (by rw [← h2]; exact (if_neg (fun z => q9 ((lg_cmp_le x y).mpr z))).symm))

theorem r_le_f {j : aJ} {w pc p1 p2 tgt : Nat} {off : Int} {a b : aE Int32} (ha : aEv j w vI pc p1 a) (hb : aEv j (w + 1) vI p1 p2 b) (d : decode j.1 p2 = .ok (.if_icmp .gt off, 3)) (ht : (p2 : Int) + off = (tgt : Int)) : aCd j w pc (p2 + 3) tgt (c_le a b) := by
  intro X r hC kt kf L st m hw he hkt hkf
  refine ha X r hC _ L st m hw he (fun x L1 m1 h1 => ?_)
  refine hb X r hC _ L1 (vI x :: st) m1 (by rw [a_wt_cons]; show 1 + a_wt st ≤ w + 1; omega) h1 (fun y L2 m2 h2 => ?_)
  exact g_icmp_gt hC ht d (fun q => hkf L2 m2 (by rw [← h2]; exact (if_neg q).symm)) (fun q => hkt L2 m2 (by rw [← h2]; exact (if_pos q).symm))

theorem r_le0_f {j : aJ} {w pc p2 tgt : Nat} {off : Int} {a : aE Int32} (ha : aEv j w vI pc p2 a) (d : decode j.1 p2 = .ok (.ifCond .gt off, 3)) (ht : (p2 : Int) + off = (tgt : Int)) : aCd j w pc (p2 + 3) tgt (c_le0 a) := by
  intro X r hC kt kf L st m hw he hkt hkf
  refine ha X r hC _ L st m hw he (fun x L2 m2 h2 => ?_)
  exact g_if_gt hC ht d (fun q => hkf L2 m2 (by rw [← h2]; exact (if_neg q).symm)) (fun q => hkt L2 m2 (by rw [← h2]; exact (if_pos q).symm))

theorem r_jle_f {j : aJ} {w pc p1 p2 tgt : Nat} {off : Int} {a b : aE Int64} (ha : aEv j w vJ pc p1 a) (hb : aEv j (w + 2) vJ p1 p2 b) (d0 : decode j.1 p2 = .ok (.lcmp, 1)) (d : decode j.1 (p2 + 1) = .ok (.ifCond .gt off, 3)) (ht : ((p2 + 1 : Nat) : Int) + off = (tgt : Int)) : aCd j w pc (p2 + 1 + 3) tgt (c_jle a b) := by
  intro X r hC kt kf L st m hw he hkt hkf
  refine ha X r hC _ L st m hw he (fun x L1 m1 h1 => ?_)
  refine hb X r hC _ L1 (vJ x :: st) m1 (by rw [a_wt_cons]; show 2 + a_wt st ≤ w + 2; omega) h1 (fun y L2 m2 h2 => ?_)
  refine g_lcmp hC d0 ?_
  exact g_if_gt hC ht d (fun q9 =>  hkf L2 m2 (by rw [← h2]; exact (if_neg (fun z => q9 ((lg_cmp_le x y).mpr z))).symm)) (fun q9 =>  hkt L2 m2 (by rw [← h2]; exact (if_pos ((lg_cmp_le x y).mp q9)).symm))

theorem r_eq_t {j : aJ} {w pc p1 p2 tgt : Nat} {off : Int} {a b : aE Int32} (ha : aEv j w vI pc p1 a) (hb : aEv j (w + 1) vI p1 p2 b) (d : decode j.1 p2 = .ok (.if_icmp .eq off, 3)) (ht : (p2 : Int) + off = (tgt : Int)) : aCd j w pc tgt (p2 + 3) (c_eq a b) := by
  intro X r hC kt kf L st m hw he hkt hkf
  refine ha X r hC _ L st m hw he (fun x L1 m1 h1 => ?_)
  refine hb X r hC _ L1 (vI x :: st) m1 (by rw [a_wt_cons]; show 1 + a_wt st ≤ w + 1; omega) h1 (fun y L2 m2 h2 => ?_)
  exact g_icmp_eq hC ht d (fun q => hkt L2 m2 (by rw [← h2]; exact (if_pos q).symm)) (fun q => hkf L2 m2 (by rw [← h2]; exact (if_neg q).symm))

theorem r_eq0_t {j : aJ} {w pc p2 tgt : Nat} {off : Int} {a : aE Int32} (ha : aEv j w vI pc p2 a) (d : decode j.1 p2 = .ok (.ifCond .eq off, 3)) (ht : (p2 : Int) + off = (tgt : Int)) : aCd j w pc tgt (p2 + 3) (c_eq0 a) := by
  intro X r hC kt kf L st m hw he hkt hkf
  refine ha X r hC _ L st m hw he (fun x L2 m2 h2 => ?_)
  exact g_if_eq hC ht d (fun q => hkt L2 m2 (by rw [← h2]; exact (if_pos q).symm)) (fun q => hkf L2 m2 (by rw [← h2]; exact (if_neg q).symm))

theorem r_jeq_t {j : aJ} {w pc p1 p2 tgt : Nat} {off : Int} {a b : aE Int64} (ha : aEv j w vJ pc p1 a) (hb : aEv j (w + 2) vJ p1 p2 b) (d0 : decode j.1 p2 = .ok (.lcmp, 1)) (d : decode j.1 (p2 + 1) = .ok (.ifCond .eq off, 3)) (ht : ((p2 + 1 : Nat) : Int) + off = (tgt : Int)) : aCd j w pc tgt (p2 + 1 + 3) (c_jeq a b) := by
  intro X r hC kt kf L st m hw he hkt hkf
  refine ha X r hC _ L st m hw he (fun x L1 m1 h1 => ?_)
  refine hb X r hC _ L1 (vJ x :: st) m1 (by rw [a_wt_cons]; show 2 + a_wt st ≤ w + 2; omega) h1 (fun y L2 m2 h2 => ?_)
  refine g_lcmp hC d0 ?_
  exact g_if_eq hC ht d (fun q9 =>  hkt L2 m2 (by rw [← h2]; exact (if_pos ((lg_cmp_eq x y).mp q9)).symm)) (fun q9 =>  hkf L2 m2 (by rw [← h2]; exact (if_neg (fun z => q9 ((lg_cmp_eq x y).mpr z))).symm))

theorem r_eq_f {j : aJ} {w pc p1 p2 tgt : Nat} {off : Int} {a b : aE Int32} (ha : aEv j w vI pc p1 a) (hb : aEv j (w + 1) vI p1 p2 b) (d : decode j.1 p2 = .ok (.if_icmp .ne off, 3)) (ht : (p2 : Int) + off = (tgt : Int)) : aCd j w pc (p2 + 3) tgt (c_eq a b) := by
  intro X r hC kt kf L st m hw he hkt hkf
  refine ha X r hC _ L st m hw he (fun x L1 m1 h1 => ?_)
  refine hb X r hC _ L1 (vI x :: st) m1 (by rw [a_wt_cons]; show 1 + a_wt st ≤ w + 1; omega) h1 (fun y L2 m2 h2 => ?_)
  exact g_icmp_ne hC ht d (fun q => hkf L2 m2 (by rw [← h2]; exact (if_neg q).symm)) (fun q => hkt L2 m2 (by rw [← h2]; exact (if_pos q).symm))

theorem r_eq0_f {j : aJ} {w pc p2 tgt : Nat} {off : Int} {a : aE Int32} (ha : aEv j w vI pc p2 a) (d : decode j.1 p2 = .ok (.ifCond .ne off, 3)) (ht : (p2 : Int) + off = (tgt : Int)) : aCd j w pc (p2 + 3) tgt (c_eq0 a) := by
  intro X r hC kt kf L st m hw he hkt hkf
  refine ha X r hC _ L st m hw he (fun x L2 m2 h2 => ?_)
  exact g_if_ne hC ht d (fun q => hkf L2 m2 (by rw [← h2]; exact (if_neg q).symm)) (fun q => hkt L2 m2 (by rw [← h2]; exact (if_pos q).symm))

theorem r_jeq_f {j : aJ} {w pc p1 p2 tgt : Nat} {off : Int} {a b : aE Int64} (ha : aEv j w vJ pc p1 a) (hb : aEv j (w + 2) vJ p1 p2 b) (d0 : decode j.1 p2 = .ok (.lcmp, 1)) (d : decode j.1 (p2 + 1) = .ok (.ifCond .ne off, 3)) (ht : ((p2 + 1 : Nat) : Int) + off = (tgt : Int)) : aCd j w pc (p2 + 1 + 3) tgt (c_jeq a b) := by
  intro X r hC kt kf L st m hw he hkt hkf
  refine ha X r hC _ L st m hw he (fun x L1 m1 h1 => ?_)
  refine hb X r hC _ L1 (vJ x :: st) m1 (by rw [a_wt_cons]; show 2 + a_wt st ≤ w + 2; omega) h1 (fun y L2 m2 h2 => ?_)
  refine g_lcmp hC d0 ?_
  exact g_if_ne hC ht d (fun q9 =>  hkf L2 m2 (by rw [← h2]; exact (if_neg (fun z => q9 ((lg_cmp_eq x y).mpr z))).symm)) (fun q9 =>  hkt L2 m2 (by rw [← h2]; exact (if_pos ((lg_cmp_eq x y).mp q9)).symm))

theorem r_nl_t {j : aJ} {w pc p2 tgt : Nat} {off : Int} {a : aE (Option Nat)} (ha : aEv j w a_rv pc p2 a) (d : decode j.1 p2 = .ok (.ifnull off, 3)) (ht : (p2 : Int) + off = (tgt : Int)) : aCd j w pc tgt (p2 + 3) (c_nl a) := by
  intro X r hC kt kf L st m hw he hkt hkf
  refine ha X r hC _ L st m hw he (fun o L2 m2 h2 => ?_)
  exact g_ifnull hC ht d (fun q => by subst q; exact hkt L2 m2 h2) (fun q => by cases o with | none => exact absurd rfl q | some z => exact hkf L2 m2 h2)

theorem r_nl_f {j : aJ} {w pc p2 tgt : Nat} {off : Int} {a : aE (Option Nat)} (ha : aEv j w a_rv pc p2 a) (d : decode j.1 p2 = .ok (.ifnonnull off, 3)) (ht : (p2 : Int) + off = (tgt : Int)) : aCd j w pc (p2 + 3) tgt (c_nl a) := by
  intro X r hC kt kf L st m hw he hkt hkf
  refine ha X r hC _ L st m hw he (fun o L2 m2 h2 => ?_)
  exact g_ifnonnull hC ht d (fun q => by cases o with | none => exact absurd rfl q | some z => exact hkf L2 m2 h2) (fun q => by subst q; exact hkt L2 m2 h2)

theorem r_not {j : aJ} {w pc pt pf : Nat} {c : aC} (h : aCd j w pc pf pt c) : aCd j w pc pt pf (c_not c) := by
  intro X r hC kt kf L st m hw he hkt hkf
  exact h X r hC kf kt L st m hw he hkf hkt
theorem r_and {j : aJ} {w pc p1 pt pf : Nat} {c d : aC} (h : aCd j w pc p1 pf c) (g : aCd j w p1 pt pf d) : aCd j w pc pt pf (c_and c d) := by
  intro X r hC kt kf L st m hw he hkt hkf
  exact h X r hC _ _ L st m hw he (fun L1 m1 h1 => g X r hC _ _ L1 st m1 hw h1 hkt hkf) hkf
theorem r_or {j : aJ} {w pc p1 pt pf : Nat} {c d : aC} (h : aCd j w pc pt p1 c) (g : aCd j w p1 pt pf d) : aCd j w pc pt pf (c_or c d) := by
  intro X r hC kt kf L st m hw he hkt hkf
  exact h X r hC _ _ L st m hw he hkt (fun L1 m1 h1 => g X r hC _ _ L1 st m1 hw h1 hkt hkf)

theorem r_sk {j : aJ} {pc : Nat} : aRn j pc pc s_sk := by
  intro X r hC k L m he hk
  exact hk L m he
theorem r_sq {j : aJ} {pc p1 p9 : Nat} {s t : aP} (h : aRn j pc p1 s) (g : aRn j p1 p9 t) : aRn j pc p9 (s_sq s t) := by
  intro X r hC k L m he hk
  exact h X r hC _ L m he (fun L1 m1 h1 => g X r hC _ L1 m1 h1 hk)
theorem r_sif {j : aJ} {pc pa pb p9 : Nat} {c : aC} {s t : aP} (hc : aCd j 0 pc pa pb c) (h : aRn j pa p9 s) (g : aRn j pb p9 t) : aRn j pc p9 (s_if c s t) := by
  intro X r hC k L m he hk
  exact hc X r hC _ _ L [] m (Nat.le_refl 0) he (fun L1 m1 h1 => h X r hC _ L1 m1 h1 hk) (fun L1 m1 h1 => g X r hC _ L1 m1 h1 hk)
theorem r_sg {j : aJ} {pc p1 tgt : Nat} {s : aP} {off : Int} (h : aRn j pc p1 s) (d : decode j.1 p1 = .ok (.goto off, 3)) (ht : (p1 : Int) + off = (tgt : Int)) : aRn j pc tgt s := by
  intro X r hC k L m he hk
  exact h X r hC _ L m he (fun L1 m1 h1 => g_goto hC ht d (hk L1 m1 h1))
theorem r_wh {j : aJ} {pc pb p9 : Nat} {c : aC} {s : aP} (n : Nat) (hc : aCd j 0 pc pb p9 c) (h : aRn j pb pc s) : aRn j pc p9 (s_wh c s n) := by
  induction n with
  | zero =>
    intro X r hC k L m he hk
    cases he
  | succ n ih =>
    intro X r hC k L m he hk
    exact hc X r hC _ _ L [] m (Nat.le_refl 0) he (fun L1 m1 h1 => h X r hC _ L1 m1 h1 (fun L2 m2 h2 => ih X r hC k L2 m2 h2 hk)) (fun L1 m1 h1 => hk L1 m1 h1)

theorem r_istore {j : aJ} {pc p1 i : Nat} {e : aE Int32}  (he0 : aEv j 0 vI pc p1 e) (hn : i < j.2.2.2.2.2.1) (d : decode j.1 p1 = .ok (.istore i, 2)) : aRn j pc (p1 + 2) (s_il i e) := by
  intro X r hC k L m he hk
  exact he0 X r hC _ L [] m (Nat.le_refl 0) he (fun x L1 m1 h1 => g_istore hC hn d (hk _ m1 h1))

theorem r_istore_n {j : aJ} {pc p1 i : Nat} {e : aE Int32} {n : Fin 4} (hi : (n : Nat) = i) (he0 : aEv j 0 vI pc p1 e) (hn : i < j.2.2.2.2.2.1) (d : decode j.1 p1 = .ok (.istore_n n, 1)) : aRn j pc (p1 + 1) (s_il i e) := by
  intro X r hC k L m he hk
  exact he0 X r hC _ L [] m (Nat.le_refl 0) he (fun x L1 m1 h1 => g_istore_n hC hi hn d (hk _ m1 h1))

theorem r_lstore {j : aJ} {pc p1 i : Nat} {e : aE Int64}  (he0 : aEv j 0 vJ pc p1 e) (hn : i + 1 < j.2.2.2.2.2.1) (d : decode j.1 p1 = .ok (.lstore i, 2)) : aRn j pc (p1 + 2) (s_jl i e) := by
  intro X r hC k L m he hk
  exact he0 X r hC _ L [] m (Nat.le_refl 0) he (fun x L1 m1 h1 => g_lstore hC hn d (hk _ m1 h1))

theorem r_lstore_n {j : aJ} {pc p1 i : Nat} {e : aE Int64} {n : Fin 4} (hi : (n : Nat) = i) (he0 : aEv j 0 vJ pc p1 e) (hn : i + 1 < j.2.2.2.2.2.1) (d : decode j.1 p1 = .ok (.lstore_n n, 1)) : aRn j pc (p1 + 1) (s_jl i e) := by
  intro X r hC k L m he hk
  exact he0 X r hC _ L [] m (Nat.le_refl 0) he (fun x L1 m1 h1 => g_lstore_n hC hi hn d (hk _ m1 h1))

theorem r_astore {j : aJ} {pc p1 i : Nat} {e : aE (Option Nat)}  (he0 : aEv j 0 a_rv pc p1 e) (hn : i < j.2.2.2.2.2.1) (d : decode j.1 p1 = .ok (.astore i, 2)) : aRn j pc (p1 + 2) (s_al i e) := by
  intro X r hC k L m he hk
  refine he0 X r hC _ L [] m (Nat.le_refl 0) he (fun o L1 m1 h1 => ?_)
  cases o with
  | none => cases h1
  | some q => exact g_astore hC hn d (hk _ m1 h1)

theorem r_astore_n {j : aJ} {pc p1 i : Nat} {e : aE (Option Nat)} {n : Fin 4} (hi : (n : Nat) = i) (he0 : aEv j 0 a_rv pc p1 e) (hn : i < j.2.2.2.2.2.1) (d : decode j.1 p1 = .ok (.astore_n n, 1)) : aRn j pc (p1 + 1) (s_al i e) := by
  intro X r hC k L m he hk
  refine he0 X r hC _ L [] m (Nat.le_refl 0) he (fun o L1 m1 h1 => ?_)
  cases o with
  | none => cases h1
  | some q => exact g_astore_n hC hi hn d (hk _ m1 h1)

theorem r_iinc {j : aJ} {pc i : Nat} {n : Int} {v : Int32} (hv : Int32.ofInt n = v) (hn : i < j.2.2.2.2.2.1) (d : decode j.1 pc = .ok (.iinc i n, 3)) : aRn j pc (pc + 3) (s_ii i v) := by
  intro X r hC k L m he hk
  unfold s_ii at he
  split at he
  · rename_i x hx
    exact g_iinc hC hx (by rw [hv]) hn d (hk _ m he)
  · cases he
theorem r_fg {j : aJ} {pc : Nat} (n : Nat) : aRn j pc pc (s_fg n) := by
  intro X r hC k L m he hk
  exact g_fg hC n (hk _ m he)
theorem r_pi {j : aJ} {pc p1 : Nat} {e : aE Int32} (he0 : aEv j 0 vI pc p1 e) (d : decode j.1 p1 = .ok (.pop, 1)) : aRn j pc (p1 + 1) (s_pi e) := by
  intro X r hC k L m he hk
  exact he0 X r hC _ L [] m (Nat.le_refl 0) he (fun x L1 m1 h1 => g_pop hC rfl d (hk L1 m1 h1))
theorem r_ri {j : aJ} {pc p1 p9 : Nat} {e : aE Int32} (he0 : aEv j 0 vI pc p1 e) (ht : j.2.2.2.2.2.2.1 = some .int) (d : decode j.1 p1 = .ok (.ireturn, 1)) : aRn j pc p9 (s_ri e) := by
  intro X r hC k L m he hk
  exact he0 X r hC _ L [] m (Nat.le_refl 0) he (fun x L1 m1 h1 => g_iret (st := []) hC (Option.some.inj h1).symm ht rfl d)
theorem r_rz {j : aJ} {pc p1 p9 : Nat} {e : aE Int32} (he0 : aEv j 0 vI pc p1 e) (ht : j.2.2.2.2.2.2.1 = some .boolean) (d : decode j.1 p1 = .ok (.ireturn, 1)) : aRn j pc p9 (s_rz e) := by
  intro X r hC k L m he hk
  refine he0 X r hC _ L [] m (Nat.le_refl 0) he (fun x L1 m1 h1 => ?_)
  by_cases hx : x = 0 ∨ x = 1
  · simp only [hx, if_true] at h1
    exact g_iret (st := []) hC (Option.some.inj h1).symm ht (by rcases hx with e | e <;> (rw [e]; rfl)) d
  · simp [hx] at h1
theorem r_rj {j : aJ} {pc p1 p9 : Nat} {e : aE Int64} (he0 : aEv j 0 vJ pc p1 e) (ht : j.2.2.2.2.2.2.1 = some .long) (d : decode j.1 p1 = .ok (.lreturn, 1)) : aRn j pc p9 (s_rj e) := by
  intro X r hC k L m he hk
  exact he0 X r hC _ L [] m (Nat.le_refl 0) he (fun x L1 m1 h1 => g_lret (st := []) hC (Option.some.inj h1).symm ht d)
theorem r_rv {j : aJ} {pc p9 : Nat} (ht : j.2.2.2.2.2.2.1 = none) (d : decode j.1 pc = .ok (.return_, 1)) : aRn j pc p9 s_rv := by
  intro X r hC k L m he hk
  exact g_vret (st := []) hC (Option.some.inj he).symm ht d
theorem r_obj {j : aJ} {pc p1 index : Nat} {a : aE (Option Nat)} (ha : aEv j 0 a_rv pc p1 a) (hl : Cond.methodLink j.2.1 index objectInit ∈ aG) (hin : Cond.instanceMethod objectInit ∈ aG) (hcd : Cond.code objectInit ⟨#[0xb1]⟩ 1 none ∈ aG) (hf1 : 1 ≤ j.2.2.1) (hl1 : 20 ≤ j.2.2.2.1) (d : decode j.1 p1 = .ok (.invokespecial index, 3)) : aRn j pc (p1 + 3) (s_ob a) := by
  intro X r hC k L m he hk
  refine ha X r hC _ L [] m (Nat.le_refl 0) he (fun o L1 m1 h1 => ?_)
  cases o with
  | none => cases h1
  | some q => exact g_obj hC (Nat.zero_le _) hl hin hcd hf1 hl1 d (hk L1 m1 h1)

theorem r_puti {j : aJ} {pc p1 p2 : Nat} {a : aE (Option Nat)} {e : aE Int32} (ha : aEv j 0 a_rv pc p1 a) (he0 : aEv j 1 vI p1 p2 e) {ci N f index : Nat} {C : String} {T : u_T} (hin : ∀ w ∈ u_ws C T N, w ∈ aG) (hc : vwCl[ci]? = some (C, T, N)) (hci : ci < 10) (hk9 : f < N) (hlink : Cond.fieldLink j.2.1 index (T f).1 (T f).2.1 (T f).2.2.1 ∈ aG) (ty0 : Nat → FieldType) (hty : ∀ k, k < N → parseFieldDescriptor (T k).2.2.1 = some (ty0 k)) (hnm : ∀ a, a < N → ∀ b, b < N → a ≠ b → (T a).2.1 ≠ (T b).2.1) (hfin : (T f).2.2.2 = false) (hi : a_it (a_ty ci f) = true) (hd : parseFieldDescriptor (T f).2.2.1 = some .int) (d : decode j.1 p2 = .ok (.putfield index, 3)) : aRn j pc (p2 + 3) (s_gi ci N f a e) := by
  intro X r hC k L m he hk
  refine ha X r hC _ L [] m (Nat.le_refl 0) he (fun o L1 m1 h1 => ?_)
  refine he0 X r hC _ L1 (a_rv o :: []) m1 (by rw [a_wt_cons, a_pv_cat (a_pv_rv o)]; exact Nat.le_refl 1) h1 (fun x L2 m2 h2 => ?_)
  cases o with
  | none => cases h2
  | some q =>
    by_cases hT : mT m2 q = (ci, N)
    · simp only [hT, if_true] at h2
      exact g_puti hC hin hc hci hT hk9 hlink ty0 hty hnm hfin hi hd rfl rfl d (hk L2 _ h2)
    · simp [hT] at h2

theorem r_putr {j : aJ} {pc p1 p2 : Nat} {a : aE (Option Nat)} {e : aE (Option Nat)} (ha : aEv j 0 a_rv pc p1 a) (he0 : aEv j 1 a_rv p1 p2 e) {ci N f index : Nat} {C : String} {T : u_T} (hin : ∀ w ∈ u_ws C T N, w ∈ aG) (hc : vwCl[ci]? = some (C, T, N)) (hci : ci < 10) (hk9 : f < N) (hlink : Cond.fieldLink j.2.1 index (T f).1 (T f).2.1 (T f).2.2.1 ∈ aG) (ty0 : Nat → FieldType) (hty : ∀ k, k < N → parseFieldDescriptor (T k).2.2.1 = some (ty0 k)) (hnm : ∀ a, a < N → ∀ b, b < N → a ≠ b → (T a).2.1 ≠ (T b).2.1) (hfin : (T f).2.2.2 = false) (hi : a_it (a_ty ci f) = false) {ty : FieldType} (hd : parseFieldDescriptor (T f).2.2.1 = some ty) (hn : ∀ z : Option Nat, narrow ty (va_rf z) = va_rf z) (hfit : ∀ z : Option Nat, fits ty (va_rf z) = true) (d : decode j.1 p2 = .ok (.putfield index, 3)) : aRn j pc (p2 + 3) (s_gr ci N f a e) := by
  intro X r hC k L m he hk
  refine ha X r hC _ L [] m (Nat.le_refl 0) he (fun o L1 m1 h1 => ?_)
  refine he0 X r hC _ L1 (a_rv o :: []) m1 (by rw [a_wt_cons, a_pv_cat (a_pv_rv o)]; exact Nat.le_refl 1) h1 (fun x L2 m2 h2 => ?_)
  cases o with
  | none => cases h2
  | some q =>
    by_cases hT : mT m2 q = (ci, N)
    · simp only [hT, if_true] at h2
      exact g_putr hC hin hc hci hT hk9 hlink ty0 hty hnm hfin hi hd hn hfit d (hk L2 _ h2)
    · simp [hT] at h2

theorem r_putiF {j : aJ} {pc p1 p2 : Nat} {a : aE (Option Nat)} {e : aE Int32} (ha : aEv j 0 a_rv pc p1 a) (he0 : aEv j 1 vI p1 p2 e) {ci N f index : Nat} {C : String} {T : u_T} (hin : ∀ w ∈ u_ws C T N, w ∈ aG) (hc : vwCl[ci]? = some (C, T, N)) (hci : ci < 10) (hk9 : f < N) (hlink : Cond.fieldLink j.2.1 index (T f).1 (T f).2.1 (T f).2.2.1 ∈ aG) (ty0 : Nat → FieldType) (hty : ∀ k, k < N → parseFieldDescriptor (T k).2.2.1 = some (ty0 k)) (hnm : ∀ a, a < N → ∀ b, b < N → a ≠ b → (T a).2.1 ≠ (T b).2.1) (hfin : (T f).2.2.2 = true) (hdecl : (T f).1 = j.2.1) (hk1 : j.2.2.2.2.1 = 1) (hi : a_it (a_ty ci f) = true) (hd : parseFieldDescriptor (T f).2.2.1 = some .int) (d : decode j.1 p2 = .ok (.putfield index, 3)) : aRn j pc (p2 + 3) (s_gi ci N f a e) := by
  intro X r hC k L m he hk
  refine ha X r hC _ L [] m (Nat.le_refl 0) he (fun o L1 m1 h1 => ?_)
  refine he0 X r hC _ L1 (a_rv o :: []) m1 (by rw [a_wt_cons, a_pv_cat (a_pv_rv o)]; exact Nat.le_refl 1) h1 (fun x L2 m2 h2 => ?_)
  cases o with
  | none => cases h2
  | some q =>
    by_cases hT : mT m2 q = (ci, N)
    · simp only [hT, if_true] at h2
      exact g_putiF hC hin hc hci hT hk9 hlink ty0 hty hnm hfin hdecl hk1 hi hd rfl rfl d (hk L2 _ h2)
    · simp [hT] at h2

theorem r_putrF {j : aJ} {pc p1 p2 : Nat} {a : aE (Option Nat)} {e : aE (Option Nat)} (ha : aEv j 0 a_rv pc p1 a) (he0 : aEv j 1 a_rv p1 p2 e) {ci N f index : Nat} {C : String} {T : u_T} (hin : ∀ w ∈ u_ws C T N, w ∈ aG) (hc : vwCl[ci]? = some (C, T, N)) (hci : ci < 10) (hk9 : f < N) (hlink : Cond.fieldLink j.2.1 index (T f).1 (T f).2.1 (T f).2.2.1 ∈ aG) (ty0 : Nat → FieldType) (hty : ∀ k, k < N → parseFieldDescriptor (T k).2.2.1 = some (ty0 k)) (hnm : ∀ a, a < N → ∀ b, b < N → a ≠ b → (T a).2.1 ≠ (T b).2.1) (hfin : (T f).2.2.2 = true) (hdecl : (T f).1 = j.2.1) (hk1 : j.2.2.2.2.1 = 1) (hi : a_it (a_ty ci f) = false) {ty : FieldType} (hd : parseFieldDescriptor (T f).2.2.1 = some ty) (hn : ∀ z : Option Nat, narrow ty (va_rf z) = va_rf z) (hfit : ∀ z : Option Nat, fits ty (va_rf z) = true) (d : decode j.1 p2 = .ok (.putfield index, 3)) : aRn j pc (p2 + 3) (s_gr ci N f a e) := by
  intro X r hC k L m he hk
  refine ha X r hC _ L [] m (Nat.le_refl 0) he (fun o L1 m1 h1 => ?_)
  refine he0 X r hC _ L1 (a_rv o :: []) m1 (by rw [a_wt_cons, a_pv_cat (a_pv_rv o)]; exact Nat.le_refl 1) h1 (fun x L2 m2 h2 => ?_)
  cases o with
  | none => cases h2
  | some q =>
    by_cases hT : mT m2 q = (ci, N)
    · simp only [hT, if_true] at h2
      exact g_putrF hC hin hc hci hT hk9 hlink ty0 hty hnm hfin hdecl hk1 hi hd hn hfit d (hk L2 _ h2)
    · simp [hT] at h2

theorem r_putz {j : aJ} {pc p1 p2 : Nat} {a : aE (Option Nat)} {e : aE Int32} (ha : aEv j 0 a_rv pc p1 a) (he0 : aEv j 1 vI p1 p2 e) {ci N f index : Nat} {C : String} {T : u_T} (hin : ∀ w ∈ u_ws C T N, w ∈ aG) (hc : vwCl[ci]? = some (C, T, N)) (hci : ci < 10) (hk9 : f < N) (hlink : Cond.fieldLink j.2.1 index (T f).1 (T f).2.1 (T f).2.2.1 ∈ aG) (ty0 : Nat → FieldType) (hty : ∀ k, k < N → parseFieldDescriptor (T k).2.2.1 = some (ty0 k)) (hnm : ∀ a, a < N → ∀ b, b < N → a ≠ b → (T a).2.1 ≠ (T b).2.1) (hfin : (T f).2.2.2 = false) (hi : a_it (a_ty ci f) = true) (hd : parseFieldDescriptor (T f).2.2.1 = some .boolean) (d : decode j.1 p2 = .ok (.putfield index, 3)) : aRn j pc (p2 + 3) (s_gz ci N f a e) := by
  intro X r hC k L m he hk
  refine ha X r hC _ L [] m (Nat.le_refl 0) he (fun o L1 m1 h1 => ?_)
  refine he0 X r hC _ L1 (a_rv o :: []) m1 (by rw [a_wt_cons, a_pv_cat (a_pv_rv o)]; exact Nat.le_refl 1) h1 (fun x L2 m2 h2 => ?_)
  cases o with
  | none => cases h2
  | some q =>
    by_cases hT : mT m2 q = (ci, N) ∧ (x = 0 ∨ x = 1)
    · simp only [hT, and_self, if_true] at h2
      exact g_puti hC hin hc hci hT.1 hk9 hlink ty0 hty hnm hfin hi hd (by rcases hT.2 with e | e <;> (rw [e]; rfl)) (by rcases hT.2 with e | e <;> (rw [e]; rfl)) d (hk L2 _ h2)
    · simp [hT] at h2

theorem r_gop_iadd {j : aJ} {pc p1 p2 : Nat} {a : aE (Option Nat)} {e : aE Int32} (ha : aEv j 0 a_rv pc p1 a) {ci N f index : Nat} {C : String} {T : u_T} (hin : ∀ w ∈ u_ws C T N, w ∈ aG) (hc : vwCl[ci]? = some (C, T, N)) (hci : ci < 10) (hk9 : f < N) (hlink : Cond.fieldLink j.2.1 index (T f).1 (T f).2.1 (T f).2.2.1 ∈ aG) (ty0 : Nat → FieldType) (hty : ∀ k, k < N → parseFieldDescriptor (T k).2.2.1 = some (ty0 k)) (hnm : ∀ a, a < N → ∀ b, b < N → a ≠ b → (T a).2.1 ≠ (T b).2.1) (hfin : (T f).2.2.2 = false) (hi : a_it (a_ty ci f) = true) (hd : parseFieldDescriptor (T f).2.2.1 = some .int) (d1 : decode j.1 p1 = .ok (.dup, 1)) (d2 : decode j.1 (p1 + 1) = .ok (.getfield index, 3)) (he0 : aEv j 2 vI (p1 + 1 + 3) p2 e) (d3 : decode j.1 p2 = .ok (.iadd, 1)) (d : decode j.1 (p2 + 1) = .ok (.putfield index, 3)) : aRn j pc (p2 + 1 + 3) (s_go (fun x y => x + y) ci N f a e) := by
  intro X r hC k L m he hk
  refine ha X r hC _ L [] m (Nat.le_refl 0) he (fun o L1 m1 h1 => ?_)
  cases o with
  | none => cases h1
  | some q =>
    by_cases hT : mT m1 q = (ci, N)
    · simp only [hT, if_true] at h1
      refine g_dup hC rfl d1 (g_geti hC hin hc hci hT hk9 hlink hi d2 ?_)
      refine he0 X r hC _ L1 (.int (mI m1 q f) :: .ref q :: []) m1 (by rw [a_wt_cons, a_wt_cons]; exact Nat.le_refl 2) h1 (fun x L2 m2 h2 => ?_)
      by_cases hT2 : mT m2 q = (ci, N)
      · simp only [hT2, if_true] at h2
        refine g_iadd hC d3 ?_
        exact g_puti hC hin hc hci hT2 hk9 hlink ty0 hty hnm hfin hi hd rfl rfl d (hk L2 _ h2)
      · simp [hT2] at h2
    · simp [hT] at h1

theorem r_gop_isub {j : aJ} {pc p1 p2 : Nat} {a : aE (Option Nat)} {e : aE Int32} (ha : aEv j 0 a_rv pc p1 a) {ci N f index : Nat} {C : String} {T : u_T} (hin : ∀ w ∈ u_ws C T N, w ∈ aG) (hc : vwCl[ci]? = some (C, T, N)) (hci : ci < 10) (hk9 : f < N) (hlink : Cond.fieldLink j.2.1 index (T f).1 (T f).2.1 (T f).2.2.1 ∈ aG) (ty0 : Nat → FieldType) (hty : ∀ k, k < N → parseFieldDescriptor (T k).2.2.1 = some (ty0 k)) (hnm : ∀ a, a < N → ∀ b, b < N → a ≠ b → (T a).2.1 ≠ (T b).2.1) (hfin : (T f).2.2.2 = false) (hi : a_it (a_ty ci f) = true) (hd : parseFieldDescriptor (T f).2.2.1 = some .int) (d1 : decode j.1 p1 = .ok (.dup, 1)) (d2 : decode j.1 (p1 + 1) = .ok (.getfield index, 3)) (he0 : aEv j 2 vI (p1 + 1 + 3) p2 e) (d3 : decode j.1 p2 = .ok (.isub, 1)) (d : decode j.1 (p2 + 1) = .ok (.putfield index, 3)) : aRn j pc (p2 + 1 + 3) (s_go (fun x y => x - y) ci N f a e) := by
  intro X r hC k L m he hk
  refine ha X r hC _ L [] m (Nat.le_refl 0) he (fun o L1 m1 h1 => ?_)
  cases o with
  | none => cases h1
  | some q =>
    by_cases hT : mT m1 q = (ci, N)
    · simp only [hT, if_true] at h1
      refine g_dup hC rfl d1 (g_geti hC hin hc hci hT hk9 hlink hi d2 ?_)
      refine he0 X r hC _ L1 (.int (mI m1 q f) :: .ref q :: []) m1 (by rw [a_wt_cons, a_wt_cons]; exact Nat.le_refl 2) h1 (fun x L2 m2 h2 => ?_)
      by_cases hT2 : mT m2 q = (ci, N)
      · simp only [hT2, if_true] at h2
        refine g_isub hC d3 ?_
        exact g_puti hC hin hc hci hT2 hk9 hlink ty0 hty hnm hfin hi hd rfl rfl d (hk L2 _ h2)
      · simp [hT2] at h2
    · simp [hT] at h1

theorem r_gop_iand {j : aJ} {pc p1 p2 : Nat} {a : aE (Option Nat)} {e : aE Int32} (ha : aEv j 0 a_rv pc p1 a) {ci N f index : Nat} {C : String} {T : u_T} (hin : ∀ w ∈ u_ws C T N, w ∈ aG) (hc : vwCl[ci]? = some (C, T, N)) (hci : ci < 10) (hk9 : f < N) (hlink : Cond.fieldLink j.2.1 index (T f).1 (T f).2.1 (T f).2.2.1 ∈ aG) (ty0 : Nat → FieldType) (hty : ∀ k, k < N → parseFieldDescriptor (T k).2.2.1 = some (ty0 k)) (hnm : ∀ a, a < N → ∀ b, b < N → a ≠ b → (T a).2.1 ≠ (T b).2.1) (hfin : (T f).2.2.2 = false) (hi : a_it (a_ty ci f) = true) (hd : parseFieldDescriptor (T f).2.2.1 = some .int) (d1 : decode j.1 p1 = .ok (.dup, 1)) (d2 : decode j.1 (p1 + 1) = .ok (.getfield index, 3)) (he0 : aEv j 2 vI (p1 + 1 + 3) p2 e) (d3 : decode j.1 p2 = .ok (.iand, 1)) (d : decode j.1 (p2 + 1) = .ok (.putfield index, 3)) : aRn j pc (p2 + 1 + 3) (s_go (fun x y => x &&& y) ci N f a e) := by
  intro X r hC k L m he hk
  refine ha X r hC _ L [] m (Nat.le_refl 0) he (fun o L1 m1 h1 => ?_)
  cases o with
  | none => cases h1
  | some q =>
    by_cases hT : mT m1 q = (ci, N)
    · simp only [hT, if_true] at h1
      refine g_dup hC rfl d1 (g_geti hC hin hc hci hT hk9 hlink hi d2 ?_)
      refine he0 X r hC _ L1 (.int (mI m1 q f) :: .ref q :: []) m1 (by rw [a_wt_cons, a_wt_cons]; exact Nat.le_refl 2) h1 (fun x L2 m2 h2 => ?_)
      by_cases hT2 : mT m2 q = (ci, N)
      · simp only [hT2, if_true] at h2
        refine g_iand hC d3 ?_
        exact g_puti hC hin hc hci hT2 hk9 hlink ty0 hty hnm hfin hi hd rfl rfl d (hk L2 _ h2)
      · simp [hT2] at h2
    · simp [hT] at h1

theorem r_gop_ior {j : aJ} {pc p1 p2 : Nat} {a : aE (Option Nat)} {e : aE Int32} (ha : aEv j 0 a_rv pc p1 a) {ci N f index : Nat} {C : String} {T : u_T} (hin : ∀ w ∈ u_ws C T N, w ∈ aG) (hc : vwCl[ci]? = some (C, T, N)) (hci : ci < 10) (hk9 : f < N) (hlink : Cond.fieldLink j.2.1 index (T f).1 (T f).2.1 (T f).2.2.1 ∈ aG) (ty0 : Nat → FieldType) (hty : ∀ k, k < N → parseFieldDescriptor (T k).2.2.1 = some (ty0 k)) (hnm : ∀ a, a < N → ∀ b, b < N → a ≠ b → (T a).2.1 ≠ (T b).2.1) (hfin : (T f).2.2.2 = false) (hi : a_it (a_ty ci f) = true) (hd : parseFieldDescriptor (T f).2.2.1 = some .int) (d1 : decode j.1 p1 = .ok (.dup, 1)) (d2 : decode j.1 (p1 + 1) = .ok (.getfield index, 3)) (he0 : aEv j 2 vI (p1 + 1 + 3) p2 e) (d3 : decode j.1 p2 = .ok (.ior, 1)) (d : decode j.1 (p2 + 1) = .ok (.putfield index, 3)) : aRn j pc (p2 + 1 + 3) (s_go (fun x y => x ||| y) ci N f a e) := by
  intro X r hC k L m he hk
  refine ha X r hC _ L [] m (Nat.le_refl 0) he (fun o L1 m1 h1 => ?_)
  cases o with
  | none => cases h1
  | some q =>
    by_cases hT : mT m1 q = (ci, N)
    · simp only [hT, if_true] at h1
      refine g_dup hC rfl d1 (g_geti hC hin hc hci hT hk9 hlink hi d2 ?_)
      refine he0 X r hC _ L1 (.int (mI m1 q f) :: .ref q :: []) m1 (by rw [a_wt_cons, a_wt_cons]; exact Nat.le_refl 2) h1 (fun x L2 m2 h2 => ?_)
      by_cases hT2 : mT m2 q = (ci, N)
      · simp only [hT2, if_true] at h2
        refine g_ior hC d3 ?_
        exact g_puti hC hin hc hci hT2 hk9 hlink ty0 hty hnm hfin hi hd rfl rfl d (hk L2 _ h2)
      · simp [hT2] at h2
    · simp [hT] at h1

theorem r_gop_ixor {j : aJ} {pc p1 p2 : Nat} {a : aE (Option Nat)} {e : aE Int32} (ha : aEv j 0 a_rv pc p1 a) {ci N f index : Nat} {C : String} {T : u_T} (hin : ∀ w ∈ u_ws C T N, w ∈ aG) (hc : vwCl[ci]? = some (C, T, N)) (hci : ci < 10) (hk9 : f < N) (hlink : Cond.fieldLink j.2.1 index (T f).1 (T f).2.1 (T f).2.2.1 ∈ aG) (ty0 : Nat → FieldType) (hty : ∀ k, k < N → parseFieldDescriptor (T k).2.2.1 = some (ty0 k)) (hnm : ∀ a, a < N → ∀ b, b < N → a ≠ b → (T a).2.1 ≠ (T b).2.1) (hfin : (T f).2.2.2 = false) (hi : a_it (a_ty ci f) = true) (hd : parseFieldDescriptor (T f).2.2.1 = some .int) (d1 : decode j.1 p1 = .ok (.dup, 1)) (d2 : decode j.1 (p1 + 1) = .ok (.getfield index, 3)) (he0 : aEv j 2 vI (p1 + 1 + 3) p2 e) (d3 : decode j.1 p2 = .ok (.ixor, 1)) (d : decode j.1 (p2 + 1) = .ok (.putfield index, 3)) : aRn j pc (p2 + 1 + 3) (s_go (fun x y => x ^^^ y) ci N f a e) := by
  intro X r hC k L m he hk
  refine ha X r hC _ L [] m (Nat.le_refl 0) he (fun o L1 m1 h1 => ?_)
  cases o with
  | none => cases h1
  | some q =>
    by_cases hT : mT m1 q = (ci, N)
    · simp only [hT, if_true] at h1
      refine g_dup hC rfl d1 (g_geti hC hin hc hci hT hk9 hlink hi d2 ?_)
      refine he0 X r hC _ L1 (.int (mI m1 q f) :: .ref q :: []) m1 (by rw [a_wt_cons, a_wt_cons]; exact Nat.le_refl 2) h1 (fun x L2 m2 h2 => ?_)
      by_cases hT2 : mT m2 q = (ci, N)
      · simp only [hT2, if_true] at h2
        refine g_ixor hC d3 ?_
        exact g_puti hC hin hc hci hT2 hk9 hlink ty0 hty hnm hfin hi hd rfl rfl d (hk L2 _ h2)
      · simp [hT2] at h2
    · simp [hT] at h1

theorem r_iast {j : aJ} {pc p1 p2 p3 : Nat} {a : aE (Option Nat)} {i : aE Int32} {e : aE Int32} (ha : aEv j 0 a_rv pc p1 a) (hi : aEv j 1 vI p1 p2 i) (he0 : aEv j 2 vI p2 p3 e) (d : decode j.1 p3 = .ok (.iastore, 1)) : aRn j pc (p3 + 1) (s_ia a i e) := by
  intro X r hC k L m he hk
  refine ha X r hC _ L [] m (Nat.le_refl 0) he (fun o L1 m1 h1 => ?_)
  refine hi X r hC _ L1 (a_rv o :: []) m1 (by rw [a_wt_cons, a_pv_cat (a_pv_rv o)]; exact Nat.le_refl 1) h1 (fun x L2 m2 h2 => ?_)
  refine he0 X r hC _ L2 (.int x :: a_rv o :: []) m2 (by rw [a_wt_cons, a_wt_cons, a_pv_cat (a_pv_rv o)]; exact Nat.le_refl 2) h2 (fun v L3 m3 h3 => ?_)
  cases o with
  | none => cases h3
  | some q =>
    by_cases hT : (mT m3 q).1 = 10 ∧ a_ix x (mT m3 q).2 = true
    · simp only [hT, and_self, if_true] at h3
      exact g_iast hC (n := (mT m3 q).2) (Prod.ext hT.1 rfl) (a_ix_in hT.2) d (hk L3 _ h3)
    · simp [hT] at h3

theorem r_zast {j : aJ} {pc p1 p2 p3 : Nat} {a : aE (Option Nat)} {i : aE Int32} {e : aE Int32} (ha : aEv j 0 a_rv pc p1 a) (hi : aEv j 1 vI p1 p2 i) (he0 : aEv j 2 vI p2 p3 e) (d : decode j.1 p3 = .ok (.bastore, 1)) : aRn j pc (p3 + 1) (s_za a i e) := by
  intro X r hC k L m he hk
  refine ha X r hC _ L [] m (Nat.le_refl 0) he (fun o L1 m1 h1 => ?_)
  refine hi X r hC _ L1 (a_rv o :: []) m1 (by rw [a_wt_cons, a_pv_cat (a_pv_rv o)]; exact Nat.le_refl 1) h1 (fun x L2 m2 h2 => ?_)
  refine he0 X r hC _ L2 (.int x :: a_rv o :: []) m2 (by rw [a_wt_cons, a_wt_cons, a_pv_cat (a_pv_rv o)]; exact Nat.le_refl 2) h2 (fun v L3 m3 h3 => ?_)
  cases o with
  | none => cases h3
  | some q =>
    by_cases hT : (mT m3 q).1 = 12 ∧ a_ix x (mT m3 q).2 = true
    · simp only [hT, and_self, if_true] at h3
      exact g_zast hC (n := (mT m3 q).2) (Prod.ext hT.1 rfl) (a_ix_in hT.2) d (hk L3 _ h3)
    · simp [hT] at h3

theorem r_last {j : aJ} {pc p1 p2 p3 : Nat} {a : aE (Option Nat)} {i : aE Int32} {e : aE Int64} (ha : aEv j 0 a_rv pc p1 a) (hi : aEv j 1 vI p1 p2 i) (he0 : aEv j 2 vJ p2 p3 e) (d : decode j.1 p3 = .ok (.lastore, 1)) : aRn j pc (p3 + 1) (s_ja a i e) := by
  intro X r hC k L m he hk
  refine ha X r hC _ L [] m (Nat.le_refl 0) he (fun o L1 m1 h1 => ?_)
  refine hi X r hC _ L1 (a_rv o :: []) m1 (by rw [a_wt_cons, a_pv_cat (a_pv_rv o)]; exact Nat.le_refl 1) h1 (fun x L2 m2 h2 => ?_)
  refine he0 X r hC _ L2 (.int x :: a_rv o :: []) m2 (by rw [a_wt_cons, a_wt_cons, a_pv_cat (a_pv_rv o)]; exact Nat.le_refl 2) h2 (fun v L3 m3 h3 => ?_)
  cases o with
  | none => cases h3
  | some q =>
    by_cases hT : (mT m3 q).1 = 11 ∧ a_ix x (mT m3 q).2 = true
    · simp only [hT, and_self, if_true] at h3
      exact g_last hC (n := (mT m3 q).2) (Prod.ext hT.1 rfl) (a_ix_in hT.2) d (hk L3 _ h3)
    · simp [hT] at h3

theorem r_aast {j : aJ} {pc p1 p2 p3 : Nat} {a : aE (Option Nat)} {i : aE Int32} {e : aE (Option Nat)} (ha : aEv j 0 a_rv pc p1 a) (hi : aEv j 1 vI p1 p2 i) (he0 : aEv j 2 a_rv p2 p3 e) (d : decode j.1 p3 = .ok (.aastore, 1)) : aRn j pc (p3 + 1) (s_ra a i e) := by
  intro X r hC k L m he hk
  refine ha X r hC _ L [] m (Nat.le_refl 0) he (fun o L1 m1 h1 => ?_)
  refine hi X r hC _ L1 (a_rv o :: []) m1 (by rw [a_wt_cons, a_pv_cat (a_pv_rv o)]; exact Nat.le_refl 1) h1 (fun x L2 m2 h2 => ?_)
  refine he0 X r hC _ L2 (.int x :: a_rv o :: []) m2 (by rw [a_wt_cons, a_wt_cons, a_pv_cat (a_pv_rv o)]; exact Nat.le_refl 2) h2 (fun v L3 m3 h3 => ?_)
  cases o with
  | none =>
    cases v with
    | none => cases h3
    | some z =>
      by_cases hz : mT m3 z = (6, 9)
      · simp [hz] at h3
      · simp [hz] at h3
  | some q =>
    have key : (∀ z, v = some z → mT m3 z = (6, 9)) ∧ (if (mT m3 q).1 = 13 ∧ a_ix x (mT m3 q).2 = true then k L3 (m_sR m3 q x.toNatClampNeg v) else none) = some r := by
      cases v with
      | none => exact ⟨(fun z hz => by cases hz), h3⟩
      | some z =>
        by_cases hz : mT m3 z = (6, 9)
        · simp only [hz, if_true] at h3
          exact ⟨fun z9 h9 => by rw [← Option.some.inj h9]; exact hz, h3⟩
        · simp [hz] at h3
    obtain ⟨hv, h4⟩ := key
    by_cases hT : (mT m3 q).1 = 13 ∧ a_ix x (mT m3 q).2 = true
    · simp only [hT, and_self, if_true] at h4
      exact g_aast hC (n := (mT m3 q).2) (Prod.ext hT.1 rfl) hv (a_ix_in hT.2) d (hk L3 _ h4)
    · simp [hT] at h4

theorem r_aop_iadd {j : aJ} {pc p1 p2 p3 : Nat} {a : aE (Option Nat)} {i e : aE Int32} (ha : aEv j 0 a_rv pc p1 a) (hi : aEv j 1 vI p1 p2 i) (d1 : decode j.1 p2 = .ok (.dup2, 1)) (d2 : decode j.1 (p2 + 1) = .ok (.iaload, 1)) (he0 : aEv j 3 vI (p2 + 1 + 1) p3 e) (d3 : decode j.1 p3 = .ok (.iadd, 1)) (d : decode j.1 (p3 + 1) = .ok (.iastore, 1)) : aRn j pc (p3 + 1 + 1) (s_io (fun x y => x + y) a i e) := by
  intro X r hC k L m he hk
  refine ha X r hC _ L [] m (Nat.le_refl 0) he (fun o L1 m1 h1 => ?_)
  refine hi X r hC _ L1 (a_rv o :: []) m1 (by rw [a_wt_cons, a_pv_cat (a_pv_rv o)]; exact Nat.le_refl 1) h1 (fun x L2 m2 h2 => ?_)
  cases o with
  | none => cases h2
  | some q =>
    by_cases hT : (mT m2 q).1 = 10 ∧ a_ix x (mT m2 q).2 = true
    · simp only [hT, and_self, if_true] at h2
      refine g_dup2 hC rfl rfl d1 (g_iald hC (n := (mT m2 q).2) (Prod.ext hT.1 rfl) (a_ix_in hT.2) d2 ?_)
      refine he0 X r hC _ L2 (.int (mI m2 q x.toNatClampNeg) :: .int x :: .ref q :: []) m2 (by rw [a_wt_cons, a_wt_cons, a_wt_cons]; exact Nat.le_refl 3) h2 (fun v L3 m3 h3 => ?_)
      by_cases hT2 : (mT m3 q).1 = 10 ∧ a_ix x (mT m3 q).2 = true
      · simp only [hT2, and_self, if_true] at h3
        refine g_iadd hC d3 ?_
        exact g_iast hC (n := (mT m3 q).2) (Prod.ext hT2.1 rfl) (a_ix_in hT2.2) d (hk L3 _ h3)
      · simp [hT2] at h3
    · simp [hT] at h2

theorem r_aop_isub {j : aJ} {pc p1 p2 p3 : Nat} {a : aE (Option Nat)} {i e : aE Int32} (ha : aEv j 0 a_rv pc p1 a) (hi : aEv j 1 vI p1 p2 i) (d1 : decode j.1 p2 = .ok (.dup2, 1)) (d2 : decode j.1 (p2 + 1) = .ok (.iaload, 1)) (he0 : aEv j 3 vI (p2 + 1 + 1) p3 e) (d3 : decode j.1 p3 = .ok (.isub, 1)) (d : decode j.1 (p3 + 1) = .ok (.iastore, 1)) : aRn j pc (p3 + 1 + 1) (s_io (fun x y => x - y) a i e) := by
  intro X r hC k L m he hk
  refine ha X r hC _ L [] m (Nat.le_refl 0) he (fun o L1 m1 h1 => ?_)
  refine hi X r hC _ L1 (a_rv o :: []) m1 (by rw [a_wt_cons, a_pv_cat (a_pv_rv o)]; exact Nat.le_refl 1) h1 (fun x L2 m2 h2 => ?_)
  cases o with
  | none => cases h2
  | some q =>
    by_cases hT : (mT m2 q).1 = 10 ∧ a_ix x (mT m2 q).2 = true
    · simp only [hT, and_self, if_true] at h2
      refine g_dup2 hC rfl rfl d1 (g_iald hC (n := (mT m2 q).2) (Prod.ext hT.1 rfl) (a_ix_in hT.2) d2 ?_)
      refine he0 X r hC _ L2 (.int (mI m2 q x.toNatClampNeg) :: .int x :: .ref q :: []) m2 (by rw [a_wt_cons, a_wt_cons, a_wt_cons]; exact Nat.le_refl 3) h2 (fun v L3 m3 h3 => ?_)
      by_cases hT2 : (mT m3 q).1 = 10 ∧ a_ix x (mT m3 q).2 = true
      · simp only [hT2, and_self, if_true] at h3
        refine g_isub hC d3 ?_
        exact g_iast hC (n := (mT m3 q).2) (Prod.ext hT2.1 rfl) (a_ix_in hT2.2) d (hk L3 _ h3)
      · simp [hT2] at h3
    · simp [hT] at h2

theorem r_aop_iand {j : aJ} {pc p1 p2 p3 : Nat} {a : aE (Option Nat)} {i e : aE Int32} (ha : aEv j 0 a_rv pc p1 a) (hi : aEv j 1 vI p1 p2 i) (d1 : decode j.1 p2 = .ok (.dup2, 1)) (d2 : decode j.1 (p2 + 1) = .ok (.iaload, 1)) (he0 : aEv j 3 vI (p2 + 1 + 1) p3 e) (d3 : decode j.1 p3 = .ok (.iand, 1)) (d : decode j.1 (p3 + 1) = .ok (.iastore, 1)) : aRn j pc (p3 + 1 + 1) (s_io (fun x y => x &&& y) a i e) := by
  intro X r hC k L m he hk
  refine ha X r hC _ L [] m (Nat.le_refl 0) he (fun o L1 m1 h1 => ?_)
  refine hi X r hC _ L1 (a_rv o :: []) m1 (by rw [a_wt_cons, a_pv_cat (a_pv_rv o)]; exact Nat.le_refl 1) h1 (fun x L2 m2 h2 => ?_)
  cases o with
  | none => cases h2
  | some q =>
    by_cases hT : (mT m2 q).1 = 10 ∧ a_ix x (mT m2 q).2 = true
    · simp only [hT, and_self, if_true] at h2
      refine g_dup2 hC rfl rfl d1 (g_iald hC (n := (mT m2 q).2) (Prod.ext hT.1 rfl) (a_ix_in hT.2) d2 ?_)
      refine he0 X r hC _ L2 (.int (mI m2 q x.toNatClampNeg) :: .int x :: .ref q :: []) m2 (by rw [a_wt_cons, a_wt_cons, a_wt_cons]; exact Nat.le_refl 3) h2 (fun v L3 m3 h3 => ?_)
      by_cases hT2 : (mT m3 q).1 = 10 ∧ a_ix x (mT m3 q).2 = true
      · simp only [hT2, and_self, if_true] at h3
        refine g_iand hC d3 ?_
        exact g_iast hC (n := (mT m3 q).2) (Prod.ext hT2.1 rfl) (a_ix_in hT2.2) d (hk L3 _ h3)
      · simp [hT2] at h3
    · simp [hT] at h2

theorem r_aop_ior {j : aJ} {pc p1 p2 p3 : Nat} {a : aE (Option Nat)} {i e : aE Int32} (ha : aEv j 0 a_rv pc p1 a) (hi : aEv j 1 vI p1 p2 i) (d1 : decode j.1 p2 = .ok (.dup2, 1)) (d2 : decode j.1 (p2 + 1) = .ok (.iaload, 1)) (he0 : aEv j 3 vI (p2 + 1 + 1) p3 e) (d3 : decode j.1 p3 = .ok (.ior, 1)) (d : decode j.1 (p3 + 1) = .ok (.iastore, 1)) : aRn j pc (p3 + 1 + 1) (s_io (fun x y => x ||| y) a i e) := by
  intro X r hC k L m he hk
  refine ha X r hC _ L [] m (Nat.le_refl 0) he (fun o L1 m1 h1 => ?_)
  refine hi X r hC _ L1 (a_rv o :: []) m1 (by rw [a_wt_cons, a_pv_cat (a_pv_rv o)]; exact Nat.le_refl 1) h1 (fun x L2 m2 h2 => ?_)
  cases o with
  | none => cases h2
  | some q =>
    by_cases hT : (mT m2 q).1 = 10 ∧ a_ix x (mT m2 q).2 = true
    · simp only [hT, and_self, if_true] at h2
      refine g_dup2 hC rfl rfl d1 (g_iald hC (n := (mT m2 q).2) (Prod.ext hT.1 rfl) (a_ix_in hT.2) d2 ?_)
      refine he0 X r hC _ L2 (.int (mI m2 q x.toNatClampNeg) :: .int x :: .ref q :: []) m2 (by rw [a_wt_cons, a_wt_cons, a_wt_cons]; exact Nat.le_refl 3) h2 (fun v L3 m3 h3 => ?_)
      by_cases hT2 : (mT m3 q).1 = 10 ∧ a_ix x (mT m3 q).2 = true
      · simp only [hT2, and_self, if_true] at h3
        refine g_ior hC d3 ?_
        exact g_iast hC (n := (mT m3 q).2) (Prod.ext hT2.1 rfl) (a_ix_in hT2.2) d (hk L3 _ h3)
      · simp [hT2] at h3
    · simp [hT] at h2

theorem r_aop_ixor {j : aJ} {pc p1 p2 p3 : Nat} {a : aE (Option Nat)} {i e : aE Int32} (ha : aEv j 0 a_rv pc p1 a) (hi : aEv j 1 vI p1 p2 i) (d1 : decode j.1 p2 = .ok (.dup2, 1)) (d2 : decode j.1 (p2 + 1) = .ok (.iaload, 1)) (he0 : aEv j 3 vI (p2 + 1 + 1) p3 e) (d3 : decode j.1 p3 = .ok (.ixor, 1)) (d : decode j.1 (p3 + 1) = .ok (.iastore, 1)) : aRn j pc (p3 + 1 + 1) (s_io (fun x y => x ^^^ y) a i e) := by
  intro X r hC k L m he hk
  refine ha X r hC _ L [] m (Nat.le_refl 0) he (fun o L1 m1 h1 => ?_)
  refine hi X r hC _ L1 (a_rv o :: []) m1 (by rw [a_wt_cons, a_pv_cat (a_pv_rv o)]; exact Nat.le_refl 1) h1 (fun x L2 m2 h2 => ?_)
  cases o with
  | none => cases h2
  | some q =>
    by_cases hT : (mT m2 q).1 = 10 ∧ a_ix x (mT m2 q).2 = true
    · simp only [hT, and_self, if_true] at h2
      refine g_dup2 hC rfl rfl d1 (g_iald hC (n := (mT m2 q).2) (Prod.ext hT.1 rfl) (a_ix_in hT.2) d2 ?_)
      refine he0 X r hC _ L2 (.int (mI m2 q x.toNatClampNeg) :: .int x :: .ref q :: []) m2 (by rw [a_wt_cons, a_wt_cons, a_wt_cons]; exact Nat.le_refl 3) h2 (fun v L3 m3 h3 => ?_)
      by_cases hT2 : (mT m3 q).1 = 10 ∧ a_ix x (mT m3 q).2 = true
      · simp only [hT2, and_self, if_true] at h3
        refine g_ixor hC d3 ?_
        exact g_iast hC (n := (mT m3 q).2) (Prod.ext hT2.1 rfl) (a_ix_in hT2.2) d (hk L3 _ h3)
      · simp [hT2] at h3
    · simp [hT] at h2

theorem r_aop_ladd {j : aJ} {pc p1 p2 p3 : Nat} {a : aE (Option Nat)} {i : aE Int32} {e : aE Int64} (ha : aEv j 0 a_rv pc p1 a) (hi : aEv j 1 vI p1 p2 i) (d1 : decode j.1 p2 = .ok (.dup2, 1)) (d2 : decode j.1 (p2 + 1) = .ok (.laload, 1)) (he0 : aEv j 4 vJ (p2 + 1 + 1) p3 e) (d3 : decode j.1 p3 = .ok (.ladd, 1)) (d : decode j.1 (p3 + 1) = .ok (.lastore, 1)) : aRn j pc (p3 + 1 + 1) (s_jo (fun x y => x + y) a i e) := by
  intro X r hC k L m he hk
  refine ha X r hC _ L [] m (Nat.le_refl 0) he (fun o L1 m1 h1 => ?_)
  refine hi X r hC _ L1 (a_rv o :: []) m1 (by rw [a_wt_cons, a_pv_cat (a_pv_rv o)]; exact Nat.le_refl 1) h1 (fun x L2 m2 h2 => ?_)
  cases o with
  | none => cases h2
  | some q =>
    by_cases hT : (mT m2 q).1 = 11 ∧ a_ix x (mT m2 q).2 = true
    · simp only [hT, and_self, if_true] at h2
      refine g_dup2 hC rfl rfl d1 (g_lald hC (n := (mT m2 q).2) (Prod.ext hT.1 rfl) (a_ix_in hT.2) d2 ?_)
      refine he0 X r hC _ L2 (.long (mJ m2 q x.toNatClampNeg) :: .int x :: .ref q :: []) m2 (by rw [a_wt_cons, a_wt_cons, a_wt_cons]; exact Nat.le_refl 4) h2 (fun v L3 m3 h3 => ?_)
      by_cases hT2 : (mT m3 q).1 = 11 ∧ a_ix x (mT m3 q).2 = true
      · simp only [hT2, and_self, if_true] at h3
        refine g_ladd hC d3 ?_
        exact g_last hC (n := (mT m3 q).2) (Prod.ext hT2.1 rfl) (a_ix_in hT2.2) d (hk L3 _ h3)
      · simp [hT2] at h3
    · simp [hT] at h2

theorem r_acopy {j : aJ} {pc p1 p2 p3 p4 p5 index : Nat} {a b : aE (Option Nat)} {sp dp n : aE Int32} (ha : aEv j 0 a_rv pc p1 a) (hs : aEv j 1 vI p1 p2 sp) (hb : aEv j 2 a_rv p2 p3 b) (hd : aEv j 3 vI p3 p4 dp) (hn : aEv j 4 vI p4 p5 n) (hl : Cond.methodLink j.2.1 index arraycopyName ∈ aG) (hna : Cond.native arraycopyName ∈ aG) (hst : Cond.static arraycopyName ∈ aG) (hin : Cond.initialized "java/lang/System" ∈ aG) (hf1 : 1 ≤ j.2.2.1) (hl1 : 8 + (nativeFrameWords "java/lang/System" "arraycopy" 5 + 11) ≤ j.2.2.2.1) (d : decode j.1 p5 = .ok (.invokestatic index, 3)) : aRn j pc (p5 + 3) (s_ac a sp b dp n) := by
  intro X r hC k L m he hk
  refine ha X r hC _ L [] m (Nat.le_refl 0) he (fun o L1 m1 h1 => ?_)
  refine hs X r hC _ L1 (a_rv o :: []) m1 (by rw [a_wt_cons, a_pv_cat (a_pv_rv o)]; exact Nat.le_refl 1) h1 (fun x L2 m2 h2 => ?_)
  refine hb X r hC _ L2 (.int x :: a_rv o :: []) m2 (by rw [a_wt_cons, a_wt_cons, a_pv_cat (a_pv_rv o)]; exact Nat.le_refl 2) h2 (fun o2 L3 m3 h3 => ?_)
  refine hd X r hC _ L3 (a_rv o2 :: .int x :: a_rv o :: []) m3 (by rw [a_wt_cons, a_wt_cons, a_wt_cons, a_pv_cat (a_pv_rv o), a_pv_cat (a_pv_rv o2)]; exact Nat.le_refl 3) h3 (fun y L4 m4 h4 => ?_)
  refine hn X r hC _ L4 (.int y :: a_rv o2 :: .int x :: a_rv o :: []) m4 (by rw [a_wt_cons, a_wt_cons, a_wt_cons, a_wt_cons, a_pv_cat (a_pv_rv o), a_pv_cat (a_pv_rv o2)]; exact Nat.le_refl 4) h4 (fun z L5 m5 h5 => ?_)
  cases o with
  | none => cases h5
  | some q0 =>
    cases o2 with
    | none => cases h5
    | some q1 =>
      by_cases hT : ((mT m5 q0).1 = 10 ∧ (mT m5 q1).1 = 10) ∧ (¬ x < 0 ∧ ¬ y < 0 ∧ ¬ z < 0) ∧ x.toNatClampNeg + z.toNatClampNeg ≤ (mT m5 q0).2 ∧ y.toNatClampNeg + z.toNatClampNeg ≤ (mT m5 q1).2
      · have h6 : k L5 (m_row m5 q1 (va_cpy (mI m5 q0) (mI m5 q1) x.toNatClampNeg y.toNatClampNeg z.toNatClampNeg)) = some r := by
          rw [← h5]
          exact (if_pos hT).symm
        obtain ⟨⟨t1, t2⟩, ⟨t3, t4, t5⟩, t6, t7⟩ := hT
        exact g_acopy hC (l0 := (mT m5 q0).2) (l1 := (mT m5 q1).2) (Prod.ext t1 rfl) (Prod.ext t2 rfl) t3 t4 t5 t6 t7 (Nat.zero_le _) hl hna hst hin hf1 hl1 d (hk L5 _ h6)
      · have h6 : (none : Option aRes) = some r := by
          rw [← h5]
          exact (if_neg hT).symm
        cases h6

/-- the ways of a switch from 0 on -/
def aSw (j : aJ) (p0 p9 : Nat) : List Int → List aP → Prop
  | [], [] => True
  | o :: os, s :: ss => (∃ tgt : Nat, (p0 : Int) + o = (tgt : Int) ∧ aRn j tgt p9 s) ∧ aSw j p0 p9 os ss
  | _, _ => False
theorem aSw_at {j : aJ} {p0 p9 : Nat} : ∀ {os : List Int} {ss : List aP}, aSw j p0 p9 os ss → ∀ (i : Nat), i < ss.length → ∃ (o : Int) (tgt : Nat), os[i]? = some o ∧ (p0 : Int) + o = (tgt : Int) ∧ ∀ d, aRn j tgt p9 (ss.getD i d)
  | [], [], _, i, hi => by simp at hi
  | [], _ :: _, h, _, _ => by cases h
  | _ :: _, [], h, _, _ => by cases h
  | o :: os, s :: ss, h, i, hi => by
    obtain ⟨⟨tgt, h1, h2⟩, h3⟩ := h
    cases i with
    | zero => exact ⟨o, tgt, rfl, h1, fun d => h2⟩
    | succ i =>
      obtain ⟨o2, t2, g1, g2, g3⟩ := aSw_at h3 i (by simp at hi; omega)
      exact ⟨o2, t2, by simpa using g1, g2, fun d => by simpa using g3 d⟩
theorem aSw_len {j : aJ} {p0 p9 : Nat} : ∀ {os : List Int} {ss : List aP}, aSw j p0 p9 os ss → os.length = ss.length
  | [], [], _ => rfl
  | [], _ :: _, h => by cases h
  | _ :: _, [], h => by cases h
  | o :: os, s :: ss, h => by simp [aSw_len h.2]
theorem r_sw {j : aJ} {pc p1 p9 len tgt : Nat} {e : aE Int32} {cs : List aP} {dd : aP} {dflt hi : Int} {os : List Int} (he0 : aEv j 0 vI pc p1 e) (d : decode j.1 p1 = .ok (.tableswitch dflt 0 hi os.toArray, len)) (hhi : hi + 1 = os.length) (hs : aSw j p1 p9 os cs) (ht : (p1 : Int) + dflt = (tgt : Int)) (hdd : aRn j tgt p9 dd) : aRn j pc p9 (s_sw e cs dd) := by
  intro X r hC k L m he hk
  refine he0 X r hC _ L [] m (Nat.le_refl 0) he (fun x L1 m1 h1 => ?_)
  have hl := aSw_len hs
  by_cases hx : 0 ≤ x.toInt ∧ x.toInt < cs.length
  · have h2 : (cs.getD x.toInt.toNat dd) k L1 m1 = some r := by
      rw [← h1]
      exact (if_pos hx).symm
    obtain ⟨o, t, g1, g2, g3⟩ := aSw_at hs x.toInt.toNat (by omega)
    exact g_tableIn hC g2 (by omega) (by omega) (by rw [Int.sub_zero]; simpa using g1) d (g3 dd X r hC k L1 m1 h2 hk)
  · have h2 : dd k L1 m1 = some r := by
      rw [← h1]
      exact (if_neg hx).symm
    exact g_tableOut hC ht (by omega) d (hdd X r hC k L1 m1 h2 hk)

/-- a method, out of the walk of its body -/
theorem aMet_of {y : MethodName} {cc : ByteArray} {fr lo kind nL p9 : Nat} {ret : Option FieldType} {s : aP} (hy : plainName y.cls = true) (hkd : kind = 0 ∨ (kind = 1 ∧ y.name = "<init>")) (hr0 : ret = none ∨ ret = some .int ∨ ret = some .long ∨ ret = some .boolean) (hb0 : aRn (cc, y.cls, fr, lo, kind, nL, ret, 0, fun _ => 0) 0 p9 s) :
    aMet y (.code y cc nL ret) fr lo (fun vs m => if vs.length ≤ nL then s (fun _ _ => none) (a_l0 nL vs) m else none) := by
  intro l base b D cy vs m r hpv hF hmono
  by_cases hlen : vs.length ≤ nL
  · simp only [hlen, if_true] at hF
    have hcat : ∀ v ∈ vs, v.category = 1 := fun v hv => a_pv_cat (hpv v hv)
    have back : ∀ (X : aX), aCx X (cc, y.cls, fr, lo, kind, nL, ret, 0, fun _ => 0) r → aGW X (cc, y.cls, fr, lo, kind, nL, ret, 0, fun _ => 0) r 0 (a_l0 nL vs) [] m := fun X hC => hb0 X r hC _ _ m hF (fun L' m' h => by cases h)
    obtain ⟨hm1, hm2⟩ := hmono
    refine Met.ofW (cc := cc) (maxL := nL) (ret := ret) hy rfl ?_
    intro p e s0 mi args below meth c s1 B hml hv
    obtain ⟨rfl, hsz, hwf, hP, hK, hNe, hAO⟩ := hv
    have hx := B.exec
    have hb := B.bytes
    have hr := B.returns
    have hts0 := atoms_spec (ws := .code y cc nL ret :: aG) B.pre
    have hts : ∀ w ∈ aG, w.before (vs.map (a_em base b)).toArray s0 = true := fun w h => hts0 w (List.mem_cons_of_mem _ h)
    have hown : s0.vm.findClass y.cls = some mi.cls := findClass_of_methodNamed B.named
    have hlocks := B.notSynchronized
    have hnm : meth.name = y.name := (name_of_methodNamed B.named B.method).1
    have hend : ∀ (rv : Option Value) (m2 : aM) (H : Heap) (locs : List Loc), va_S (fun q => base ≤ q) s0.heap H locs → (∀ q ∈ locs, base ≤ q.base) := fun _ _ _ _ hS => hS.2.2
    have hC : aCx (p, l, e, { frames := fr, cells := mN r.2 - mN m, slots := mS r.2 - mS m, locals := lo }, s0, mi, (vs.map (a_em base b)).toArray, below, meth, c, MQ below (aQc base D cy r) (vs.map (a_em base b)).toArray s0 (mN r.2 - mN m) (mS r.2 - mS m) (fun q => base ≤ q), (base, b, D, cy, mN m, mS m)) (cc, y.cls, fr, lo, kind, nL, ret, 0, fun _ => 0) r := by
      refine ⟨hx, hb, hml, hown, hts, hK, hNe, hAO, Nat.le_refl _, Nat.le_refl _, ?_, ?_, hsz, ?_, ?_, ?_, ?_, ?_⟩
      · show mN r.2 ≤ mN m + (mN r.2 - mN m)
        omega
      · show mS r.2 ≤ mS m + (mS r.2 - mS m)
        omega
      · intro hk1
        rcases hkd with h | ⟨-, h⟩
        · omega
        · exact hnm.trans h
      · intro hk2
        rcases hkd with h | ⟨h, -⟩ <;> omega
      · intro v t m2 H locs ls pc e1 e2 e3 d h1 h2 hP2 hS2
        subst e1
        exact W.zret hx hb (hr.trans e2) e3 (fun t9 ht9 _ => ⟨⟨v, (), rfl, rfl, h1.2, by rw [ht9]; exact hP2⟩, hS2.F ht9⟩) hS2.2.2 d
      · intro v m2 H locs ls pc e1 e2 d h1 h2 hP2 hS2
        subst e1
        exact W.lret hx hb (hr.trans e2) (fun t9 ht9 _ => ⟨⟨v, (), rfl, rfl, h1.2, by rw [ht9]; exact hP2⟩, hS2.F ht9⟩) hS2.2.2 d
      · intro m2 H locs ls pc e1 e2 d h1 h2 hP2 hS2
        subst e1
        exact W.vret hx hb (hr.trans e2) (fun t9 ht9 _ => ⟨⟨(), rfl, trivial, h1.2, by rw [ht9]; exact hP2⟩, hS2.F ht9⟩) hS2.2.2 d
    obtain ⟨-, k2⟩ := back _ hC
    rw [lg_entry_eq]
    have k3 := k2 s0.heap [] _ ⟨Nat.le_refl _, hwf⟩ (Nat.le_refl _) hP va_S.rf (a_lr_0 hlen hcat)
    rw [Nat.sub_self, Nat.sub_self] at k3
    exact k3
  · simp only [hlen, if_false] at hF
    cases hF
