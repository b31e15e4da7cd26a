theorem a_fresh {D : va_G} {base q : Nat} {cy : Nat → ClassId} {m : aM} {e : va_E} {H1 : Heap} (hP1 : va_P D vwCl (a_ws base cy m ++ [(q, e)]) H1) (hD1 : va_D (fun q => base ≤ q) (a_ws base cy m ++ [(q, e)])) (hu : H1.size ≤ base + mN m + 1) : q = base + mN m := by
  have hl : (a_ws base cy m).length = mN m := by simp [a_ws]
  have hi : (a_ws base cy m ++ [(q, e)])[mN m]? = some (q, e) := by
    rw [List.getElem?_append_right (by omega), hl, Nat.sub_self]
    rfl
  have h1 : q < H1.size := (hP1 _ _ hi).lt
  have h2 : base ≤ q := hD1.2 _ _ hi
  rcases Nat.lt_or_ge (q - base) (mN m) with g | g
  · have h3 : (a_ws base cy m ++ [(q, e)])[q - base]? = some (base + (q - base), a_cell base cy m (q - base)) := by
      rw [List.getElem?_append_left (by omega), a_ws_at g]
    have := hD1.1 _ _ _ _ h3 hi (show base + (q - base) = q by omega)
    omega
  · omega
theorem aWF_new {m : aM} (h : aWF m) (kind len : Nat) : aWF (m_new m kind len) := by
  intro q hq
  have hq : mN m + 1 ≤ q := hq
  show (va_up m.1 m.2.2.2.2.1 (kind, len) q).1 = 99
  rw [va_up_ne _ _ (show q ≠ mN m by omega)]
  exact h q (by omega)
theorem a_cell_new {base : Nat} {cy : Nat → ClassId} {m : aM} {kind len q : Nat} (h : q < mN m) : a_cell base cy (m_new m kind len) q = a_cell base cy m q := by
  have hn : q ≠ mN m := by omega
  exact a_cell_ne (va_up_ne _ _ hn) (va_up_ne _ _ hn) (va_up_ne _ _ hn) (va_up_ne _ _ hn)
theorem m_new_T (m : aM) (kind len : Nat) : mT (m_new m kind len) (mN m) = (kind, len) := va_up_self _ _ _

theorem g_new {X : aX} {j : aJ} {r : aRes} (hC : aCx X j r) {pc : Nat} {L st : List Value} {m : aM} {ci N index : Nat} {C : String} {T : u_T} (hin : ∀ w ∈ u_ws C T N, w ∈ aG) (hc : vwCl[ci]? = some (C, T, N)) (hci : ci < 10) (ty0 : Nat → FieldType) (hty : ∀ k, k < N → parseFieldDescriptor (T k).2.2.1 = some (ty0 k)) (hdf : ∀ i, i < N → defaultValue (ty0 i) = if a_it (a_ty ci i) = true then .int 0 else .null) (hcl : Cond.classLink j.2.1 index C ∈ aG) (hinst : Cond.instantiable C N ∈ aG) (hini : Cond.initialized C ∈ aG) (d : decode j.1 pc = .ok (.new index, 3)) (k : aGW X j r (pc + 3) L (.ref (mN m) :: st) (m_new m ci N)) : aGW X j r pc L st m := by
  obtain ⟨p, l, e, R, s, mi, args, below, meth, c, Q, ⟨base, b, D, cy, n0, s0⟩⟩ := X
  obtain ⟨cc, own, fr, lo, kind, nL, ret, Lx, xs⟩ := j
  obtain ⟨hx, hb, hml, hown, hts, hK, hNe, hAO, hfr, hlo, hrc, hrs, hsz, hki, hks, hri, hrj, hrv⟩ := hC
  obtain ⟨k1, k2⟩ := k
  have kc : mN m + 1 ≤ mN r.2 := k1.1
  have ks : mS m + N ≤ mS r.2 := k1.2
  refine And.intro ⟨by omega, by omega⟩ (fun H locs ls h1 h2 hP hS hL => ?_)
  have hc1 := h1.1
  refine va_new (A := fun q => base ≤ q) (ci := ci) (fs := (List.range N).map (fun i => if a_it (a_ty ci i) = true then .int 0 else .null)) hx hb hts hin ty0 hty hown (hts _ hcl) (hts _ hinst) (hts _ hini) hK hP a_ws_D hS (fun q h => by show base ≤ q; omega) hc (fun i hi => by rw [hdf i hi, vp_V, List.getD_eq_getElem?_getD, a_fs_at hi]; rfl) (by omega) (by omega) d (fun q H1 hP1 hD1 hS1 => ?_)
  refine W_size (fun hu => ?_)
  have hu : H1.size ≤ s.heap.size + (mN m - n0 + 1) := hu
  have hq : q = base + mN m := a_fresh hP1 hD1 (by omega)
  subst hq
  have e : a_ws base cy m ++ [(base + mN m, .inr (ci, (List.range N).map (fun i => if a_it (a_ty ci i) = true then .int 0 else .null)))] = a_ws base cy (m_new m ci N) := by
    refine a_ws_push rfl ?_ (fun q hq => a_cell_new hq)
    rw [a_cell_o (m_new_T m ci N) hci]
    congr 2
    apply List.map_congr_left
    intro i _
    show (if _ then Value.int (va_up m.2.1 m.2.2.2.2.1 (fun _ => 0) (mN m) i) else va_rf (Option.map _ (va_up m.2.2.2.1 m.2.2.2.2.1 (fun _ => none) (mN m) i))) = _
    rw [va_up_self, va_up_self]
    rfl
  refine W.cs (cells' := mN m + 1 - n0) (slots' := mS m + N - s0) (by omega) (by omega) ?_
  exact k2 H1 locs ls ⟨Nat.le_trans hc1 (Nat.le_succ _), aWF_new h1.2 _ _⟩ (Nat.le_trans h2 (Nat.le_add_right _ _)) (by rw [← e]; exact hP1) hS1 hL

theorem g_newa10 {X : aX} {j : aJ} {r : aRes} (hC : aCx X j r) {pc : Nat} {L st : List Value} {m : aM} {n : Int32} {N : Nat} (hn : ¬ n < 0) (hN : n.toNatClampNeg = N) (hby : N ≤ 60000) (harr : Cond.arrayClass .int ∈ aG) (d : decode j.1 pc = .ok (.newarray .int, 2)) (k : aGW X j r (pc + 2) L (.ref (mN m) :: st) (m_new m 10 N)) : aGW X j r pc L (.int n :: st) m := by
  obtain ⟨p, l, e, R, s, mi, args, below, meth, c, Q, ⟨base, b, D, cy, n0, s0⟩⟩ := X
  obtain ⟨cc, own, fr, lo, kind, nL, ret, Lx, xs⟩ := j
  obtain ⟨hx, hb, hml, hown, hts, hK, hNe, hAO, hfr, hlo, hrc, hrs, hsz, hki, hks, hri, hrj, hrv⟩ := hC
  obtain ⟨k1, k2⟩ := k
  have kc : mN m + 1 ≤ mN r.2 := k1.1
  have ks : mS m + N ≤ mS r.2 := k1.2
  refine And.intro ⟨by omega, by omega⟩ (fun H locs ls h1 h2 hP hS hL => ?_)
  have hc1 := h1.1
  refine va_newa (A := fun q => base ≤ q) hx hb (atype := .int) (hts _ harr) (ty := .int) rfl hK hP a_ws_D hS (fun q h => by show base ≤ q; omega) (a0 := (N, .inl (fun _ => 0))) (fun cA => rfl) hn hN (by simp only [componentBytes]; omega) (by omega) (by omega) d (fun q cA H1 hK1 hP1 hD1 hS1 => ?_)
  have ec : cA = cy 10 := by
    have g1 : s.vm.findClass _ = some cA := (hK1.2 4 (cA, .int) rfl).2
    have g2 : s.vm.findClass _ = some (cy 10) := (hK.2 0 (cy 10, .int) rfl).2
    exact Option.some.inj (g1.symm.trans g2)
  subst ec
  refine W_size (fun hu => ?_)
  have hu : H1.size ≤ s.heap.size + (mN m - n0 + 1) := hu
  have hq : q = base + mN m := a_fresh hP1 hD1 (by omega)
  subst hq
  have e : a_ws base cy m ++ [(base + mN m, .inl (cy 10, N, .inl (fun _ => 0)))] = a_ws base cy (m_new m 10 N) := by
    refine a_ws_push rfl ?_ (fun q hq => a_cell_new hq)
    rw [a_cell_i (m_new_T m 10 N) (Or.inl rfl)]
    show Sum.inl (cy 10, N, Sum.inl (va_up _ _ _ _)) = _
    rw [va_up_self]
  refine W.cs (cells' := mN m + 1 - n0) (slots' := mS m + N - s0) (by omega) (by omega) ?_
  exact k2 H1 locs ls ⟨Nat.le_trans hc1 (Nat.le_succ _), aWF_new h1.2 _ _⟩ (Nat.le_trans h2 (Nat.le_add_right _ _)) (by rw [← e]; exact hP1) hS1 hL

theorem g_newa11 {X : aX} {j : aJ} {r : aRes} (hC : aCx X j r) {pc : Nat} {L st : List Value} {m : aM} {n : Int32} {N : Nat} (hn : ¬ n < 0) (hN : n.toNatClampNeg = N) (hby : N ≤ 60000) (harr : Cond.arrayClass .long ∈ aG) (d : decode j.1 pc = .ok (.newarray .long, 2)) (k : aGW X j r (pc + 2) L (.ref (mN m) :: st) (m_new m 11 N)) : aGW X j r pc L (.int n :: st) m := by
  obtain ⟨p, l, e, R, s, mi, args, below, meth, c, Q, ⟨base, b, D, cy, n0, s0⟩⟩ := X
  obtain ⟨cc, own, fr, lo, kind, nL, ret, Lx, xs⟩ := j
  obtain ⟨hx, hb, hml, hown, hts, hK, hNe, hAO, hfr, hlo, hrc, hrs, hsz, hki, hks, hri, hrj, hrv⟩ := hC
  obtain ⟨k1, k2⟩ := k
  have kc : mN m + 1 ≤ mN r.2 := k1.1
  have ks : mS m + N ≤ mS r.2 := k1.2
  refine And.intro ⟨by omega, by omega⟩ (fun H locs ls h1 h2 hP hS hL => ?_)
  have hc1 := h1.1
  refine va_newa (A := fun q => base ≤ q) hx hb (atype := .long) (hts _ harr) (ty := .long) rfl hK hP a_ws_D hS (fun q h => by show base ≤ q; omega) (a0 := (N, .inr (.inl (fun _ => 0)))) (fun cA => rfl) hn hN (by simp only [componentBytes]; omega) (by omega) (by omega) d (fun q cA H1 hK1 hP1 hD1 hS1 => ?_)
  have ec : cA = cy 11 := by
    have g1 : s.vm.findClass _ = some cA := (hK1.2 4 (cA, .long) rfl).2
    have g2 : s.vm.findClass _ = some (cy 11) := (hK.2 1 (cy 11, .long) rfl).2
    exact Option.some.inj (g1.symm.trans g2)
  subst ec
  refine W_size (fun hu => ?_)
  have hu : H1.size ≤ s.heap.size + (mN m - n0 + 1) := hu
  have hq : q = base + mN m := a_fresh hP1 hD1 (by omega)
  subst hq
  have e : a_ws base cy m ++ [(base + mN m, .inl (cy 11, N, .inr (.inl (fun _ => 0))))] = a_ws base cy (m_new m 11 N) := by
    refine a_ws_push rfl ?_ (fun q hq => a_cell_new hq)
    rw [a_cell_j (m_new_T m 11 N)]
    show Sum.inl (cy 11, N, Sum.inr (Sum.inl (va_up _ _ _ _))) = _
    rw [va_up_self]
  refine W.cs (cells' := mN m + 1 - n0) (slots' := mS m + N - s0) (by omega) (by omega) ?_
  exact k2 H1 locs ls ⟨Nat.le_trans hc1 (Nat.le_succ _), aWF_new h1.2 _ _⟩ (Nat.le_trans h2 (Nat.le_add_right _ _)) (by rw [← e]; exact hP1) hS1 hL

theorem g_newa12 {X : aX} {j : aJ} {r : aRes} (hC : aCx X j r) {pc : Nat} {L st : List Value} {m : aM} {n : Int32} {N : Nat} (hn : ¬ n < 0) (hN : n.toNatClampNeg = N) (hby : N ≤ 60000) (harr : Cond.arrayClass .boolean ∈ aG) (d : decode j.1 pc = .ok (.newarray .boolean, 2)) (k : aGW X j r (pc + 2) L (.ref (mN m) :: st) (m_new m 12 N)) : aGW X j r pc L (.int n :: st) m := by
  obtain ⟨p, l, e, R, s, mi, args, below, meth, c, Q, ⟨base, b, D, cy, n0, s0⟩⟩ := X
  obtain ⟨cc, own, fr, lo, kind, nL, ret, Lx, xs⟩ := j
  obtain ⟨hx, hb, hml, hown, hts, hK, hNe, hAO, hfr, hlo, hrc, hrs, hsz, hki, hks, hri, hrj, hrv⟩ := hC
  obtain ⟨k1, k2⟩ := k
  have kc : mN m + 1 ≤ mN r.2 := k1.1
  have ks : mS m + N ≤ mS r.2 := k1.2
  refine And.intro ⟨by omega, by omega⟩ (fun H locs ls h1 h2 hP hS hL => ?_)
  have hc1 := h1.1
  refine va_newa (A := fun q => base ≤ q) hx hb (atype := .boolean) (hts _ harr) (ty := .boolean) rfl hK hP a_ws_D hS (fun q h => by show base ≤ q; omega) (a0 := (N, .inl (fun _ => 0))) (fun cA => rfl) hn hN (by simp only [componentBytes]; omega) (by omega) (by omega) d (fun q cA H1 hK1 hP1 hD1 hS1 => ?_)
  have ec : cA = cy 12 := by
    have g1 : s.vm.findClass _ = some cA := (hK1.2 4 (cA, .boolean) rfl).2
    have g2 : s.vm.findClass _ = some (cy 12) := (hK.2 2 (cy 12, .boolean) rfl).2
    exact Option.some.inj (g1.symm.trans g2)
  subst ec
  refine W_size (fun hu => ?_)
  have hu : H1.size ≤ s.heap.size + (mN m - n0 + 1) := hu
  have hq : q = base + mN m := a_fresh hP1 hD1 (by omega)
  subst hq
  have e : a_ws base cy m ++ [(base + mN m, .inl (cy 12, N, .inl (fun _ => 0)))] = a_ws base cy (m_new m 12 N) := by
    refine a_ws_push rfl ?_ (fun q hq => a_cell_new hq)
    rw [a_cell_i (m_new_T m 12 N) (Or.inr rfl)]
    show Sum.inl (cy 12, N, Sum.inl (va_up _ _ _ _)) = _
    rw [va_up_self]
  refine W.cs (cells' := mN m + 1 - n0) (slots' := mS m + N - s0) (by omega) (by omega) ?_
  exact k2 H1 locs ls ⟨Nat.le_trans hc1 (Nat.le_succ _), aWF_new h1.2 _ _⟩ (Nat.le_trans h2 (Nat.le_add_right _ _)) (by rw [← e]; exact hP1) hS1 hL

theorem g_newq {X : aX} {j : aJ} {r : aRes} (hC : aCx X j r) {pc : Nat} {L st : List Value} {m : aM} {n : Int32} {N index : Nat} (hn : ¬ n < 0) (hN : n.toNatClampNeg = N) (hby : N ≤ 60000) (hcl : Cond.classLink j.2.1 index "QuietOffice$State" ∈ aG) (d : decode j.1 pc = .ok (.anewarray index, 3)) (k : aGW X j r (pc + 3) L (.ref (mN m) :: st) (m_new m 13 N)) : aGW X j r pc L (.int n :: st) m := by
  obtain ⟨p, l, e, R, s, mi, args, below, meth, c, Q, ⟨base, b, D, cy, n0, s0⟩⟩ := X
  obtain ⟨cc, own, fr, lo, kind, nL, ret, Lx, xs⟩ := j
  obtain ⟨hx, hb, hml, hown, hts, hK, hNe, hAO, hfr, hlo, hrc, hrs, hsz, hki, hks, hri, hrj, hrv⟩ := hC
  obtain ⟨k1, k2⟩ := k
  have kc : mN m + 1 ≤ mN r.2 := k1.1
  have ks : mS m + N ≤ mS r.2 := k1.2
  refine And.intro ⟨by omega, by omega⟩ (fun H locs ls h1 h2 hP hS hL => ?_)
  have hc1 := h1.1
  refine va_newq (A := fun q => base ≤ q) hx hb hown (hts _ hcl) hAO hK hP a_ws_D hS (fun q h => by show base ≤ q; omega) hn hN (by omega) (by omega) (by omega) d (fun q cA H1 hK1 hP1 hD1 hS1 => ?_)
  have ec : cA = cy 13 := by
    obtain ⟨_, _, _, _, _, g1⟩ := (hK1.2 4 (cA, .object "QuietOffice$State") rfl).2
    obtain ⟨_, _, _, _, _, g2⟩ := (hK.2 3 (cy 13, .object "QuietOffice$State") rfl).2
    exact Option.some.inj (g1.symm.trans g2)
  subst ec
  refine W_size (fun hu => ?_)
  have hu : H1.size ≤ s.heap.size + (mN m - n0 + 1) := hu
  have hq : q = base + mN m := a_fresh hP1 hD1 (by omega)
  subst hq
  have e : a_ws base cy m ++ [(base + mN m, .inl (cy 13, N, .inr (.inr (.inr (.inr (fun _ => none))))))] = a_ws base cy (m_new m 13 N) := by
    refine a_ws_push rfl ?_ (fun q hq => a_cell_new hq)
    rw [a_cell_r (m_new_T m 13 N)]
    congr 7
    funext i
    show Option.map _ (va_up m.2.2.2.1 m.2.2.2.2.1 (fun _ => none) (mN m) i) = _
    rw [va_up_self]
    rfl
  refine W.cs (cells' := mN m + 1 - n0) (slots' := mS m + N - s0) (by omega) (by omega) ?_
  exact k2 H1 locs ls ⟨Nat.le_trans hc1 (Nat.le_succ _), aWF_new h1.2 _ _⟩ (Nat.le_trans h2 (Nat.le_add_right _ _)) (by rw [← e]; exact hP1) hS1 hL

theorem g_min {X : aX} {j : aJ} {r : aRes} (hC : aCx X j r) {pc : Nat} {L st : List Value} {m : aM} {x y : Int32} {index : Nat} (hw : (st.map fun v => v.category).sum ≤ 8) (hl : Cond.methodLink j.2.1 index Lib.Math.min.name ∈ aG) (hst : Cond.static Lib.Math.min.name ∈ aG) (hin : Cond.initialized "java/lang/Math" ∈ aG) (hcd : Cond.code Lib.Math.min.name Lib.Math.min.code 2 (some .int) ∈ aG) (hf1 : 1 ≤ j.2.2.1) (hl1 : 21 ≤ j.2.2.2.1) (d : decode j.1 pc = .ok (.invokestatic index, 3)) (k : aGW X j r (pc + 3) L (.int (if y < x then y else x) :: st) m) : aGW X j r pc L (.int y :: .int x :: st) m := by
  obtain ⟨p, l, e, R, s, mi, args, below, meth, c, Q, ⟨base, b, D, cy, n0, s0⟩⟩ := X
  obtain ⟨cc, own, fr, lo, kind, nL, ret, Lx, xs⟩ := j
  obtain ⟨hx, hb, hml, hown, hts, hK, hNe, hAO, hfr, hlo, hrc, hrs, hsz, hki, hks, hri, hrj, hrv⟩ := hC
  obtain ⟨k1, k2⟩ := k
  refine And.intro k1 (fun H locs ls h1 h2 hP hS hL => ?_)
  have hf1 : 1 ≤ fr := hf1
  have hl1 : 21 ≤ lo := hl1
  have hc1 := h1.1
  exact va_mmin hx hb (hml.trans hL.2.1.symm) hown (hts _ hl) (hts _ hst) (hts _ hin) (hts _ hcd) (by omega) (by rw [a_em_wt]; omega) (by omega) (by omega) d (k2 H locs ls h1 h2 hP hS hL)

theorem g_obj {X : aX} {j : aJ} {r : aRes} (hC : aCx X j r) {pc : Nat} {L st : List Value} {m : aM} {q index : Nat} (hw : (st.map fun v => v.category).sum ≤ 8) (hl : Cond.methodLink j.2.1 index objectInit ∈ aG) (hin : Cond.instanceMethod objectInit ∈ aG) (hcd : Cond.code objectInit ⟨#[0xb1]⟩ 1 none ∈ aG) (hf1 : 1 ≤ j.2.2.1) (hl1 : 20 ≤ j.2.2.2.1) (d : decode j.1 pc = .ok (.invokespecial index, 3)) (k : aGW X j r (pc + 3) L st m) : aGW X j r pc L (.ref q :: st) m := by
  obtain ⟨p, l, e, R, s, mi, args, below, meth, c, Q, ⟨base, b, D, cy, n0, s0⟩⟩ := X
  obtain ⟨cc, own, fr, lo, kind, nL, ret, Lx, xs⟩ := j
  obtain ⟨hx, hb, hml, hown, hts, hK, hNe, hAO, hfr, hlo, hrc, hrs, hsz, hki, hks, hri, hrj, hrv⟩ := hC
  obtain ⟨k1, k2⟩ := k
  refine And.intro k1 (fun H locs ls h1 h2 hP hS hL => ?_)
  have hf1 : 1 ≤ fr := hf1
  have hl1 : 20 ≤ lo := hl1
  exact W.objInit hx hb hown (hts _ hl) (hts _ hin) (hts _ hcd) (g := F0 mi pc ls ((Value.ref q :: st).map (a_em base b))) rfl (hL.2.1.trans hml.symm) rfl d (by omega) (by show 2 * 0 + _ + 12 ≤ _; rw [a_em_wt]; omega) (k2 H locs ls h1 h2 hP hS hL)

theorem g_acopy {X : aX} {j : aJ} {r : aRes} (hC : aCx X j r) {pc : Nat} {L st : List Value} {m : aM} {q0 q1 l0 l1 index : Nat} {sp dp n : Int32} (hT0 : mT m q0 = (10, l0)) (hT1 : mT m q1 = (10, l1)) (b1 : ¬ sp < 0) (b2 : ¬ dp < 0) (b3 : ¬ n < 0) (b4 : sp.toNatClampNeg + n.toNatClampNeg ≤ l0) (b5 : dp.toNatClampNeg + n.toNatClampNeg ≤ l1) (hw : (st.map fun v => v.category).sum ≤ 8) (hl : Cond.methodLink j.2.1 index arraycopyName ∈ aG) (hna : Cond.native arraycopyName ∈ aG) (hst : Cond.static arraycopyName ∈ aG) (hin : Cond.initialized "java/lang/System" ∈ aG) (hf1 : 1 ≤ j.2.2.1) (hl1 : 8 + (nativeFrameWords "java/lang/System" "arraycopy" 5 + 11) ≤ j.2.2.2.1) (d : decode j.1 pc = .ok (.invokestatic index, 3)) (k : aGW X j r (pc + 3) L st (m_row m q1 (va_cpy (mI m q0) (mI m q1) sp.toNatClampNeg dp.toNatClampNeg n.toNatClampNeg))) : aGW X j r pc L (.int n :: .int dp :: .ref q1 :: .int sp :: .ref q0 :: st) m := by
  obtain ⟨p, l, e, R, s, mi, args, below, meth, c, Q, ⟨base, b, D, cy, n0, s0⟩⟩ := X
  obtain ⟨cc, own, fr, lo, kind, nL, ret, Lx, xs⟩ := j
  obtain ⟨hx, hb, hml, hown, hts, hK, hNe, hAO, hfr, hlo, hrc, hrs, hsz, hki, hks, hri, hrj, hrv⟩ := hC
  obtain ⟨k1, k2⟩ := k
  refine And.intro k1 (fun H locs ls h1 h2 hP hS hL => ?_)
  have hf1 : 1 ≤ fr := hf1
  have hl1 : 8 + (nativeFrameWords "java/lang/System" "arraycopy" 5 + 11) ≤ lo := hl1
  have hq0 := aWF_lt h1.2 hT0 (by omega)
  have hq1 := aWF_lt h1.2 hT1 (by omega)
  have he0 : (a_ws base cy m)[q0]? = some (base + q0, .inl (cy 10, l0, .inl (mI m q0))) := by rw [a_ws_at hq0, a_cell_i hT0 (Or.inl rfl)]
  have he1 : (a_ws base cy m)[q1]? = some (base + q1, .inl (cy 10, l1, .inl (mI m q1))) := by rw [a_ws_at hq1, a_cell_i hT1 (Or.inl rfl)]
  refine va_copyi hx hb (hml.trans hL.2.1.symm) hown (hts _ hl) (hts _ hna) (hts _ hst) (hts _ hin) hK hP a_ws_D hS q0 q1 0 0 he0 he1 (ty := .int) rfl rfl rfl b1 b2 b3 b4 b5 (fun _ _ => rfl) (by omega) (by rw [a_em_wt]; omega) d (fun H1 locs1 hP1 hD1 hS1 => ?_)
  have e : (a_ws base cy m).set q1 (base + q1, .inl (cy 10, l1, .inl (va_cpy (mI m q0) (mI m q1) sp.toNatClampNeg dp.toNatClampNeg n.toNatClampNeg))) = a_ws base cy (m_row m q1 (va_cpy (mI m q0) (mI m q1) sp.toNatClampNeg dp.toNatClampNeg n.toNatClampNeg)) := by
    refine a_ws_set rfl ?_ (fun q2 h2 => a_cell_ne rfl (va_up_ne _ _ h2) rfl rfl)
    rw [a_cell_i (show mT (m_row m q1 _) q1 = (10, l1) from hT1) (Or.inl rfl)]
    show Sum.inl (cy 10, l1, Sum.inl (va_up _ _ _ _)) = _
    rw [va_up_self]
  exact k2 H1 locs1 ls h1 h2 (by rw [← e]; exact hP1) hS1 hL

/-- a method's start and end -/
def aPre (base : Nat) (D : va_G) (cy : Nat → ClassId) (m : aM) (U : State) : Prop := U.heap.size = base + mN m ∧ aWF m ∧ va_P D vwCl (a_ws base cy m) U.heap ∧ va_K D vwCl (a_tys cy) U ∧ (∀ (o : String) (i : Nat) (y : MethodName), Cond.methodLinkNest o i y "QuietOffice" ∈ lw_tbl → va_Nw (.methodLinkNest o i y "QuietOffice") U) ∧ va_AO "QuietOffice$State" U
def aPost (base : Nat) (D : va_G) (cy : Nat → ClassId) (m : aM) (t : State) : Prop := aWF m ∧ va_P D vwCl (a_ws base cy m) t.heap
def aQc (base : Nat) (D : va_G) (cy : Nat → ClassId) : aRes → Array Value → State → Outcome → State → Prop
  | (some (.int v), m) => va_Qi (fun x (_ : Unit) => x = v) (fun _ t => aPost base D cy m t) (fun q => base ≤ q)
  | (some (.long v), m) => va_Ql (fun x (_ : Unit) => x = v) (fun _ t => aPost base D cy m t) (fun q => base ≤ q)
  | (_, m) => va_Qv (fun (_ : Unit) => True) (fun _ t => aPost base D cy m t) (fun q => base ≤ q)
/-- the machine does what F says: F is total where it answers 'some' -/
def aMet (y : MethodName) (cd : Cond) (fr lo : Nat) (F : List Value → aM → Option aRes) : Prop :=
  ∀ (l : Launch) (base b : Nat) (D : va_G) (cy : Nat → ClassId) (vs : List Value) (m : aM) (r : aRes), (∀ v ∈ vs, a_pv v) → F vs m = some r → (mN m ≤ mN r.2 ∧ mS m ≤ mS r.2) →
    Met l y (cd :: aG) { frames := fr, cells := mN r.2 - mN m, slots := mS r.2 - mS m, locals := lo } (va_Pc (vs.map (a_em base b)) (aPre base D cy m)) (aQc base D cy r) (mN r.2 - mN m) (mS r.2 - mS m) (fun q => base ≤ q)
theorem aPre_blind (vs : List Value) (base : Nat) (D : va_G) (cy : Nat → ClassId) (m : aM) : FrameBlind (va_Pc vs (aPre base D cy m)) := fun a U g mk h => by
  obtain ⟨q0, q1, q2, q3, q4, q5, q6⟩ := h
  exact ⟨q0, q1, q2, q3, va_K.moved (u := U) (U := U.calling g mk a) (Vm.Alike.refl U.vm) q4, fun o i y hy => va_Nw.same rfl rfl (q5 o i y hy), va_AO.moved (u := U) (U := U.calling g mk a) (Vm.Alike.refl U.vm) q6⟩

theorem g_callSi {X : aX} {j : aJ} {r : aRes} (hC : aCx X j r) {pc : Nat} {L st : List Value} {m : aM} {y : MethodName} {bytes : ByteArray} {maxL fr9 lo9 n index : Nat} {rt9 : Option FieldType} {F : List Value → aM → Option aRes} {vs : List Value} (hM : aMet y (.code y bytes maxL rt9) fr9 lo9 F) (hcd : Cond.code y bytes maxL rt9 ∈ aG) (hl : Cond.methodLink j.2.1 index y ∈ aG) (hst : Cond.static y ∈ aG) (hin : Cond.initialized y.cls ∈ aG) (hd : y.cls ≠ "java/lang/invoke/MethodHandle" ∧ y.cls ≠ "java/lang/invoke/VarHandle" ∧ (parseMethodDescriptor y.desc).map (fun d => d.parameters.length) = some n) (hn : vs.length = n) (hpv : ∀ v ∈ vs, a_pv v) (hR1 : fr9 + 1 ≤ j.2.2.1) (hR2 : 8 + (maxL + 11) + lo9 ≤ j.2.2.2.1) (hw : (st.map fun v => v.category).sum ≤ 8) {v : Int32} {m9 : aM} (hF : F vs m = some (some (.int v), m9)) (hmm : mN m ≤ mN m9 ∧ mS m ≤ mS m9) (d : decode j.1 pc = .ok (.invokestatic index, 3)) (k : aGW X j r (pc + 3) L (.int v :: st) m9) : aGW X j r pc L (vs.reverse ++ st) m := by
  obtain ⟨p, l, e, R, s, mi, args, below, meth, c, Q, ⟨base, b, D, cy, n0, s0⟩⟩ := X
  obtain ⟨cc, own, fr, lo, kind, nL, ret, Lx, xs⟩ := j
  obtain ⟨hx, hb, hml, hown, hts, hK, hNe, hAO, hfr, hlo, hrc, hrs, hsz, hki, hks, hri, hrj, hrv⟩ := hC
  obtain ⟨k1, k2⟩ := k
  have hR1 : fr9 + 1 ≤ fr := hR1
  have hR2 : 8 + (maxL + 11) + lo9 ≤ lo := hR2
  have hMet := hM l base b D cy vs m _ hpv hF hmm
  obtain ⟨hm1, hm2⟩ := hmm
  refine And.intro ⟨Nat.le_trans hm1 k1.1, Nat.le_trans hm2 k1.2⟩ (fun H locs ls h1 h2 hP hS hL => W_size (fun hu => ?_))
  have hc1 := h1.1
  have hc2 := k1.1
  have hc3 := k1.2
  have hsz9 := a_size hP hS hsz hc1 hu
  have hMet : Met l y (.code y bytes maxL rt9 :: aG) { frames := fr9, cells := mN m9 - mN m, slots := mS m9 - mS m, locals := lo9 } (va_Pc (vs.map (a_em base b)) (aPre base D cy m)) (va_Qi (fun x (_ : Unit) => x = v) (fun _ t => aPost base D cy m9 t) (fun q => base ≤ q)) (mN m9 - mN m) (mS m9 - mS m) (fun q => base ≤ q) := hMet
  have hrun := va_runS (p := p) (e := e) (below := below) (meth := meth) (H := H) (locs := locs) (cells := mN m - n0) (slots := mS m - s0) (As := vs.map (a_em base b)) (rest := st.map (a_em base b)) (g := F0 mi pc ls ((vs.reverse ++ st).map (a_em base b))) (nL := nL) ⟨hx, hb, hml, hown, hts⟩ hMet ⟨callB_of n hts (aG_good hcd) rfl rfl rfl (hts _ hin) (hts _ hl) hd ⟨by show fr9 + 1 ≤ R.frames; omega, by show 8 + (maxL + 11) + lo9 ≤ R.locals; omega⟩, hts _ hst⟩ ⟨aPre_blind _ base D cy m, fun U hU hW => ⟨rfl, by rw [hU]; exact hsz9, h1.2, by rw [hU]; exact hP, va_K.moved hW.alike hK, fun o i y hy => va_Nw.warmM hW (hNe o i y hy), va_AO.moved hW.alike hAO⟩⟩ rfl (by rw [List.length_map]; exact hn) hL.2.1 (by simp [a_em]) (lv_room (m := mi) (pc := pc) (ls := ls) (rest := []) (by rw [a_em_wt]; exact hw)) d ⟨by omega, by omega⟩
  refine va_calli hrun hS (fun q _ h => h) (fun q h => h) (fun x u t H1 locs1 ht hvm hw9 hB hz1 hk1 hS1 => ?_)
  subst hw9
  obtain ⟨hwf, hP1⟩ := hB
  rw [ht] at hP1
  refine W.cs (cells' := mN m9 - n0) (slots' := mS m9 - s0) (by omega) (by omega) (k2 H1 locs1 ls ⟨Nat.le_trans hc1 hm1, hwf⟩ (Nat.le_trans h2 hm2) hP1 hS1 hL)

theorem g_callSl {X : aX} {j : aJ} {r : aRes} (hC : aCx X j r) {pc : Nat} {L st : List Value} {m : aM} {y : MethodName} {bytes : ByteArray} {maxL fr9 lo9 n index : Nat} {rt9 : Option FieldType} {F : List Value → aM → Option aRes} {vs : List Value} (hM : aMet y (.code y bytes maxL rt9) fr9 lo9 F) (hcd : Cond.code y bytes maxL rt9 ∈ aG) (hl : Cond.methodLink j.2.1 index y ∈ aG) (hst : Cond.static y ∈ aG) (hin : Cond.initialized y.cls ∈ aG) (hd : y.cls ≠ "java/lang/invoke/MethodHandle" ∧ y.cls ≠ "java/lang/invoke/VarHandle" ∧ (parseMethodDescriptor y.desc).map (fun d => d.parameters.length) = some n) (hn : vs.length = n) (hpv : ∀ v ∈ vs, a_pv v) (hR1 : fr9 + 1 ≤ j.2.2.1) (hR2 : 8 + (maxL + 11) + lo9 ≤ j.2.2.2.1) (hw : (st.map fun v => v.category).sum ≤ 8) {v : Int64} {m9 : aM} (hF : F vs m = some (some (.long v), m9)) (hmm : mN m ≤ mN m9 ∧ mS m ≤ mS m9) (d : decode j.1 pc = .ok (.invokestatic index, 3)) (k : aGW X j r (pc + 3) L (.long v :: st) m9) : aGW X j r pc L (vs.reverse ++ st) m := by
  obtain ⟨p, l, e, R, s, mi, args, below, meth, c, Q, ⟨base, b, D, cy, n0, s0⟩⟩ := X
  obtain ⟨cc, own, fr, lo, kind, nL, ret, Lx, xs⟩ := j
  obtain ⟨hx, hb, hml, hown, hts, hK, hNe, hAO, hfr, hlo, hrc, hrs, hsz, hki, hks, hri, hrj, hrv⟩ := hC
  obtain ⟨k1, k2⟩ := k
  have hR1 : fr9 + 1 ≤ fr := hR1
  have hR2 : 8 + (maxL + 11) + lo9 ≤ lo := hR2
  have hMet := hM l base b D cy vs m _ hpv hF hmm
  obtain ⟨hm1, hm2⟩ := hmm
  refine And.intro ⟨Nat.le_trans hm1 k1.1, Nat.le_trans hm2 k1.2⟩ (fun H locs ls h1 h2 hP hS hL => W_size (fun hu => ?_))
  have hc1 := h1.1
  have hc2 := k1.1
  have hc3 := k1.2
  have hsz9 := a_size hP hS hsz hc1 hu
  have hMet : Met l y (.code y bytes maxL rt9 :: aG) { frames := fr9, cells := mN m9 - mN m, slots := mS m9 - mS m, locals := lo9 } (va_Pc (vs.map (a_em base b)) (aPre base D cy m)) (va_Ql (fun x (_ : Unit) => x = v) (fun _ t => aPost base D cy m9 t) (fun q => base ≤ q)) (mN m9 - mN m) (mS m9 - mS m) (fun q => base ≤ q) := hMet
  have hrun := va_runS (p := p) (e := e) (below := below) (meth := meth) (H := H) (locs := locs) (cells := mN m - n0) (slots := mS m - s0) (As := vs.map (a_em base b)) (rest := st.map (a_em base b)) (g := F0 mi pc ls ((vs.reverse ++ st).map (a_em base b))) (nL := nL) ⟨hx, hb, hml, hown, hts⟩ hMet ⟨callB_of n hts (aG_good hcd) rfl rfl rfl (hts _ hin) (hts _ hl) hd ⟨by show fr9 + 1 ≤ R.frames; omega, by show 8 + (maxL + 11) + lo9 ≤ R.locals; omega⟩, hts _ hst⟩ ⟨aPre_blind _ base D cy m, fun U hU hW => ⟨rfl, by rw [hU]; exact hsz9, h1.2, by rw [hU]; exact hP, va_K.moved hW.alike hK, fun o i y hy => va_Nw.warmM hW (hNe o i y hy), va_AO.moved hW.alike hAO⟩⟩ rfl (by rw [List.length_map]; exact hn) hL.2.1 (by simp [a_em]) (lv_room (m := mi) (pc := pc) (ls := ls) (rest := []) (by rw [a_em_wt]; exact hw)) d ⟨by omega, by omega⟩
  refine va_calll hrun hS (fun q _ h => h) (fun q h => h) (fun x u t H1 locs1 ht hvm hw9 hB hz1 hk1 hS1 => ?_)
  subst hw9
  obtain ⟨hwf, hP1⟩ := hB
  rw [ht] at hP1
  refine W.cs (cells' := mN m9 - n0) (slots' := mS m9 - s0) (by omega) (by omega) (k2 H1 locs1 ls ⟨Nat.le_trans hc1 hm1, hwf⟩ (Nat.le_trans h2 hm2) hP1 hS1 hL)

theorem g_callSv {X : aX} {j : aJ} {r : aRes} (hC : aCx X j r) {pc : Nat} {L st : List Value} {m : aM} {y : MethodName} {bytes : ByteArray} {maxL fr9 lo9 n index : Nat} {rt9 : Option FieldType} {F : List Value → aM → Option aRes} {vs : List Value} (hM : aMet y (.code y bytes maxL rt9) fr9 lo9 F) (hcd : Cond.code y bytes maxL rt9 ∈ aG) (hl : Cond.methodLink j.2.1 index y ∈ aG) (hst : Cond.static y ∈ aG) (hin : Cond.initialized y.cls ∈ aG) (hd : y.cls ≠ "java/lang/invoke/MethodHandle" ∧ y.cls ≠ "java/lang/invoke/VarHandle" ∧ (parseMethodDescriptor y.desc).map (fun d => d.parameters.length) = some n) (hn : vs.length = n) (hpv : ∀ v ∈ vs, a_pv v) (hR1 : fr9 + 1 ≤ j.2.2.1) (hR2 : 8 + (maxL + 11) + lo9 ≤ j.2.2.2.1) (hw : (st.map fun v => v.category).sum ≤ 8) {m9 : aM} (hF : F vs m = some (none, m9)) (hmm : mN m ≤ mN m9 ∧ mS m ≤ mS m9) (d : decode j.1 pc = .ok (.invokestatic index, 3)) (k : aGW X j r (pc + 3) L st m9) : aGW X j r pc L (vs.reverse ++ st) m := by
  obtain ⟨p, l, e, R, s, mi, args, below, meth, c, Q, ⟨base, b, D, cy, n0, s0⟩⟩ := X
  obtain ⟨cc, own, fr, lo, kind, nL, ret, Lx, xs⟩ := j
  obtain ⟨hx, hb, hml, hown, hts, hK, hNe, hAO, hfr, hlo, hrc, hrs, hsz, hki, hks, hri, hrj, hrv⟩ := hC
  obtain ⟨k1, k2⟩ := k
  have hR1 : fr9 + 1 ≤ fr := hR1
  have hR2 : 8 + (maxL + 11) + lo9 ≤ lo := hR2
  have hMet := hM l base b D cy vs m _ hpv hF hmm
  obtain ⟨hm1, hm2⟩ := hmm
  refine And.intro ⟨Nat.le_trans hm1 k1.1, Nat.le_trans hm2 k1.2⟩ (fun H locs ls h1 h2 hP hS hL => W_size (fun hu => ?_))
  have hc1 := h1.1
  have hc2 := k1.1
  have hc3 := k1.2
  have hsz9 := a_size hP hS hsz hc1 hu
  have hMet : Met l y (.code y bytes maxL rt9 :: aG) { frames := fr9, cells := mN m9 - mN m, slots := mS m9 - mS m, locals := lo9 } (va_Pc (vs.map (a_em base b)) (aPre base D cy m)) (va_Qv (fun (_ : Unit) => True) (fun _ t => aPost base D cy m9 t) (fun q => base ≤ q)) (mN m9 - mN m) (mS m9 - mS m) (fun q => base ≤ q) := hMet
  have hrun := va_runS (p := p) (e := e) (below := below) (meth := meth) (H := H) (locs := locs) (cells := mN m - n0) (slots := mS m - s0) (As := vs.map (a_em base b)) (rest := st.map (a_em base b)) (g := F0 mi pc ls ((vs.reverse ++ st).map (a_em base b))) (nL := nL) ⟨hx, hb, hml, hown, hts⟩ hMet ⟨callB_of n hts (aG_good hcd) rfl rfl rfl (hts _ hin) (hts _ hl) hd ⟨by show fr9 + 1 ≤ R.frames; omega, by show 8 + (maxL + 11) + lo9 ≤ R.locals; omega⟩, hts _ hst⟩ ⟨aPre_blind _ base D cy m, fun U hU hW => ⟨rfl, by rw [hU]; exact hsz9, h1.2, by rw [hU]; exact hP, va_K.moved hW.alike hK, fun o i y hy => va_Nw.warmM hW (hNe o i y hy), va_AO.moved hW.alike hAO⟩⟩ rfl (by rw [List.length_map]; exact hn) hL.2.1 (by simp [a_em]) (lv_room (m := mi) (pc := pc) (ls := ls) (rest := []) (by rw [a_em_wt]; exact hw)) d ⟨by omega, by omega⟩
  refine va_callv hrun hS (fun q _ h => h) (fun q h => h) (fun u t H1 locs1 ht hvm hw9 hB hz1 hk1 hS1 => ?_)
  have hw9 := hw9
  obtain ⟨hwf, hP1⟩ := hB
  rw [ht] at hP1
  refine W.cs (cells' := mN m9 - n0) (slots' := mS m9 - s0) (by omega) (by omega) (k2 H1 locs1 ls ⟨Nat.le_trans hc1 hm1, hwf⟩ (Nat.le_trans h2 hm2) hP1 hS1 hL)

theorem g_callNi {X : aX} {j : aJ} {r : aRes} (hC : aCx X j r) {pc : Nat} {L st : List Value} {m : aM} {y : MethodName} {bytes : ByteArray} {maxL fr9 lo9 n index : Nat} {rt9 : Option FieldType} {F : List Value → aM → Option aRes} {vs : List Value} (hM : aMet y (.code y bytes maxL rt9) fr9 lo9 F) (hcd : Cond.code y bytes maxL rt9 ∈ aG) (hl : Cond.methodLinkNest j.2.1 index y "QuietOffice" ∈ lw_tbl) (hst : Cond.static y ∈ aG) (hin : Cond.initialized y.cls ∈ aG) (hd : y.cls ≠ "java/lang/invoke/MethodHandle" ∧ y.cls ≠ "java/lang/invoke/VarHandle" ∧ (parseMethodDescriptor y.desc).map (fun d => d.parameters.length) = some n) (hn : vs.length = n) (hpv : ∀ v ∈ vs, a_pv v) (hR1 : fr9 + 1 ≤ j.2.2.1) (hR2 : 8 + (maxL + 11) + lo9 ≤ j.2.2.2.1) (hw : (st.map fun v => v.category).sum ≤ 8) {v : Int32} {m9 : aM} (hF : F vs m = some (some (.int v), m9)) (hmm : mN m ≤ mN m9 ∧ mS m ≤ mS m9) (d : decode j.1 pc = .ok (.invokestatic index, 3)) (k : aGW X j r (pc + 3) L (.int v :: st) m9) : aGW X j r pc L (vs.reverse ++ st) m := by
  obtain ⟨p, l, e, R, s, mi, args, below, meth, c, Q, ⟨base, b, D, cy, n0, s0⟩⟩ := X
  obtain ⟨cc, own, fr, lo, kind, nL, ret, Lx, xs⟩ := j
  obtain ⟨hx, hb, hml, hown, hts, hK, hNe, hAO, hfr, hlo, hrc, hrs, hsz, hki, hks, hri, hrj, hrv⟩ := hC
  obtain ⟨k1, k2⟩ := k
  have hR1 : fr9 + 1 ≤ fr := hR1
  have hR2 : 8 + (maxL + 11) + lo9 ≤ lo := hR2
  have hMet := hM l base b D cy vs m _ hpv hF hmm
  obtain ⟨hm1, hm2⟩ := hmm
  refine And.intro ⟨Nat.le_trans hm1 k1.1, Nat.le_trans hm2 k1.2⟩ (fun H locs ls h1 h2 hP hS hL => W_size (fun hu => ?_))
  have hc1 := h1.1
  have hc2 := k1.1
  have hc3 := k1.2
  have hsz9 := a_size hP hS hsz hc1 hu
  have hMet : Met l y (.code y bytes maxL rt9 :: aG) { frames := fr9, cells := mN m9 - mN m, slots := mS m9 - mS m, locals := lo9 } (va_Pc (vs.map (a_em base b)) (aPre base D cy m)) (va_Qi (fun x (_ : Unit) => x = v) (fun _ t => aPost base D cy m9 t) (fun q => base ≤ q)) (mN m9 - mN m) (mS m9 - mS m) (fun q => base ≤ q) := hMet
  have hrun := va_runSN (p := p) (e := e) (below := below) (meth := meth) (H := H) (locs := locs) (cells := mN m - n0) (slots := mS m - s0) (As := vs.map (a_em base b)) (rest := st.map (a_em base b)) (g := F0 mi pc ls ((vs.reverse ++ st).map (a_em base b))) (nL := nL) ⟨hx, hb, hml, hown, hts⟩ hMet ⟨va_cnB n hts (aG_good hcd) rfl rfl rfl (hNe _ _ _ hl) (hts _ hin) hd ⟨by show fr9 + 1 ≤ R.frames; omega, by show 8 + (maxL + 11) + lo9 ≤ R.locals; omega⟩, hts _ hst, trivial⟩ ⟨aPre_blind _ base D cy m, fun U hU hW => ⟨rfl, by rw [hU]; exact hsz9, h1.2, by rw [hU]; exact hP, va_K.moved hW.alike hK, fun o i y hy => va_Nw.warmM hW (hNe o i y hy), va_AO.moved hW.alike hAO⟩⟩ rfl (by rw [List.length_map]; exact hn) hL.2.1 (by simp [a_em]) (lv_room (m := mi) (pc := pc) (ls := ls) (rest := []) (by rw [a_em_wt]; exact hw)) d ⟨by omega, by omega⟩
  refine va_calli hrun hS (fun q _ h => h) (fun q h => h) (fun x u t H1 locs1 ht hvm hw9 hB hz1 hk1 hS1 => ?_)
  subst hw9
  obtain ⟨hwf, hP1⟩ := hB
  rw [ht] at hP1
  refine W.cs (cells' := mN m9 - n0) (slots' := mS m9 - s0) (by omega) (by omega) (k2 H1 locs1 ls ⟨Nat.le_trans hc1 hm1, hwf⟩ (Nat.le_trans h2 hm2) hP1 hS1 hL)

theorem g_callVi {X : aX} {j : aJ} {r : aRes} (hC : aCx X j r) {pc : Nat} {L st : List Value} {m : aM} {y : MethodName} {bytes : ByteArray} {maxL fr9 lo9 n index : Nat} {rt9 : Option FieldType} {F : List Value → aM → Option aRes} {vs : List Value} {q : Nat} (hM : aMet y (.code y bytes maxL rt9) fr9 lo9 F) (hcd : Cond.code y bytes maxL rt9 ∈ aG) (hl : Cond.methodLink j.2.1 index y ∈ aG) {ci N : Nat} {C : String} {T : u_T} (hc : vwCl[ci]? = some (C, T, N)) (hci : ci < 10) (hT : mT m q = (ci, N)) (hinst : Cond.instanceMethod y ∈ aG) (hsel : Cond.selects C y y ∈ aG) (hin : Cond.initialized y.cls ∈ aG) (hd : y.cls ≠ "java/lang/invoke/MethodHandle" ∧ y.cls ≠ "java/lang/invoke/VarHandle" ∧ (parseMethodDescriptor y.desc).map (fun d => d.parameters.length) = some n) (hn : vs.length = n) (hpv : ∀ v ∈ vs, a_pv v) (hR1 : fr9 + 1 ≤ j.2.2.1) (hR2 : 8 + (maxL + 11) + lo9 ≤ j.2.2.2.1) (hw : (st.map fun v => v.category).sum ≤ 8) {v : Int32} {m9 : aM} (hF : F (.ref q :: vs) m = some (some (.int v), m9)) (hmm : mN m ≤ mN m9 ∧ mS m ≤ mS m9) (d : decode j.1 pc = .ok (.invokevirtual index, 3)) (k : aGW X j r (pc + 3) L (.int v :: st) m9) : aGW X j r pc L (vs.reverse ++ .ref q :: st) m := by
  obtain ⟨p, l, e, R, s, mi, args, below, meth, c, Q, ⟨base, b, D, cy, n0, s0⟩⟩ := X
  obtain ⟨cc, own, fr, lo, kind, nL, ret, Lx, xs⟩ := j
  obtain ⟨hx, hb, hml, hown, hts, hK, hNe, hAO, hfr, hlo, hrc, hrs, hsz, hki, hks, hri, hrj, hrv⟩ := hC
  obtain ⟨k1, k2⟩ := k
  have hR1 : fr9 + 1 ≤ fr := hR1
  have hR2 : 8 + (maxL + 11) + lo9 ≤ lo := hR2
  have hMet := hM l base b D cy (.ref q :: vs) m _ (fun v hv => by rcases List.mem_cons.mp hv with e | e; exact Or.inr (Or.inl ⟨q, e⟩); exact hpv v e) hF hmm
  obtain ⟨hm1, hm2⟩ := hmm
  refine And.intro ⟨Nat.le_trans hm1 k1.1, Nat.le_trans hm2 k1.2⟩ (fun H locs ls h1 h2 hP hS hL => W_size (fun hu => ?_))
  have hc1 := h1.1
  have hc2 := k1.1
  have hc3 := k1.2
  have hsz9 := a_size hP hS hsz hc1 hu
  have hMet : Met l y (.code y bytes maxL rt9 :: aG) { frames := fr9, cells := mN m9 - mN m, slots := mS m9 - mS m, locals := lo9 } (va_Pc ((.ref q :: vs).map (a_em base b)) (aPre base D cy m)) (va_Qi (fun x (_ : Unit) => x = v) (fun _ t => aPost base D cy m9 t) (fun q => base ≤ q)) (mN m9 - mN m) (mS m9 - mS m) (fun q => base ≤ q) := hMet
  have hrun := va_runV (p := p) (e := e) (below := below) (meth := meth) (H := H) (locs := locs) (cells := mN m - n0) (slots := mS m - s0) (As := vs.map (a_em base b)) (rest := st.map (a_em base b)) (g := F0 mi pc ls ((vs.reverse ++ .ref q :: st).map (a_em base b))) (nL := nL) (b := base + q) ⟨hx, hb, hml, hown, hts⟩ hMet ⟨callB_of n hts (aG_good hcd) rfl rfl rfl (hts _ hin) (hts _ hl) hd ⟨by show fr9 + 1 ≤ R.frames; omega, by show 8 + (maxL + 11) + lo9 ≤ R.locals; omega⟩, hts _ hinst, hts _ hsel⟩ ⟨aPre_blind _ base D cy m, va_recv hK hP hc (q0 := q) (by rw [a_ws_at (aWF_lt h1.2 hT (by omega)), a_cell_o hT hci]), fun U hU hW => ⟨rfl, by rw [hU]; exact hsz9, h1.2, by rw [hU]; exact hP, va_K.moved hW.alike hK, fun o i y hy => va_Nw.warmM hW (hNe o i y hy), va_AO.moved hW.alike hAO⟩⟩ rfl (by rw [List.length_map]; exact hn) hL.2.1 (by simp [a_em]) (lv_room (m := mi) (pc := pc) (ls := ls) (rest := []) (by rw [a_em_wt]; exact hw)) d ⟨by omega, by omega⟩
  refine va_calli hrun hS (fun q _ h => h) (fun q h => h) (fun x u t H1 locs1 ht hvm hw9 hB hz1 hk1 hS1 => ?_)
  subst hw9
  obtain ⟨hwf, hP1⟩ := hB
  rw [ht] at hP1
  refine W.cs (cells' := mN m9 - n0) (slots' := mS m9 - s0) (by omega) (by omega) (k2 H1 locs1 ls ⟨Nat.le_trans hc1 hm1, hwf⟩ (Nat.le_trans h2 hm2) hP1 hS1 hL)

theorem g_callVl {X : aX} {j : aJ} {r : aRes} (hC : aCx X j r) {pc : Nat} {L st : List Value} {m : aM} {y : MethodName} {bytes : ByteArray} {maxL fr9 lo9 n index : Nat} {rt9 : Option FieldType} {F : List Value → aM → Option aRes} {vs : List Value} {q : Nat} (hM : aMet y (.code y bytes maxL rt9) fr9 lo9 F) (hcd : Cond.code y bytes maxL rt9 ∈ aG) (hl : Cond.methodLink j.2.1 index y ∈ aG) {ci N : Nat} {C : String} {T : u_T} (hc : vwCl[ci]? = some (C, T, N)) (hci : ci < 10) (hT : mT m q = (ci, N)) (hinst : Cond.instanceMethod y ∈ aG) (hsel : Cond.selects C y y ∈ aG) (hin : Cond.initialized y.cls ∈ aG) (hd : y.cls ≠ "java/lang/invoke/MethodHandle" ∧ y.cls ≠ "java/lang/invoke/VarHandle" ∧ (parseMethodDescriptor y.desc).map (fun d => d.parameters.length) = some n) (hn : vs.length = n) (hpv : ∀ v ∈ vs, a_pv v) (hR1 : fr9 + 1 ≤ j.2.2.1) (hR2 : 8 + (maxL + 11) + lo9 ≤ j.2.2.2.1) (hw : (st.map fun v => v.category).sum ≤ 8) {v : Int64} {m9 : aM} (hF : F (.ref q :: vs) m = some (some (.long v), m9)) (hmm : mN m ≤ mN m9 ∧ mS m ≤ mS m9) (d : decode j.1 pc = .ok (.invokevirtual index, 3)) (k : aGW X j r (pc + 3) L (.long v :: st) m9) : aGW X j r pc L (vs.reverse ++ .ref q :: st) m := by
  obtain ⟨p, l, e, R, s, mi, args, below, meth, c, Q, ⟨base, b, D, cy, n0, s0⟩⟩ := X
  obtain ⟨cc, own, fr, lo, kind, nL, ret, Lx, xs⟩ := j
  obtain ⟨hx, hb, hml, hown, hts, hK, hNe, hAO, hfr, hlo, hrc, hrs, hsz, hki, hks, hri, hrj, hrv⟩ := hC
  obtain ⟨k1, k2⟩ := k
  have hR1 : fr9 + 1 ≤ fr := hR1
  have hR2 : 8 + (maxL + 11) + lo9 ≤ lo := hR2
  have hMet := hM l base b D cy (.ref q :: vs) m _ (fun v hv => by rcases List.mem_cons.mp hv with e | e; exact Or.inr (Or.inl ⟨q, e⟩); exact hpv v e) hF hmm
  obtain ⟨hm1, hm2⟩ := hmm
  refine And.intro ⟨Nat.le_trans hm1 k1.1, Nat.le_trans hm2 k1.2⟩ (fun H locs ls h1 h2 hP hS hL => W_size (fun hu => ?_))
  have hc1 := h1.1
  have hc2 := k1.1
  have hc3 := k1.2
  have hsz9 := a_size hP hS hsz hc1 hu
  have hMet : Met l y (.code y bytes maxL rt9 :: aG) { frames := fr9, cells := mN m9 - mN m, slots := mS m9 - mS m, locals := lo9 } (va_Pc ((.ref q :: vs).map (a_em base b)) (aPre base D cy m)) (va_Ql (fun x (_ : Unit) => x = v) (fun _ t => aPost base D cy m9 t) (fun q => base ≤ q)) (mN m9 - mN m) (mS m9 - mS m) (fun q => base ≤ q) := hMet
  have hrun := va_runV (p := p) (e := e) (below := below) (meth := meth) (H := H) (locs := locs) (cells := mN m - n0) (slots := mS m - s0) (As := vs.map (a_em base b)) (rest := st.map (a_em base b)) (g := F0 mi pc ls ((vs.reverse ++ .ref q :: st).map (a_em base b))) (nL := nL) (b := base + q) ⟨hx, hb, hml, hown, hts⟩ hMet ⟨callB_of n hts (aG_good hcd) rfl rfl rfl (hts _ hin) (hts _ hl) hd ⟨by show fr9 + 1 ≤ R.frames; omega, by show 8 + (maxL + 11) + lo9 ≤ R.locals; omega⟩, hts _ hinst, hts _ hsel⟩ ⟨aPre_blind _ base D cy m, va_recv hK hP hc (q0 := q) (by rw [a_ws_at (aWF_lt h1.2 hT (by omega)), a_cell_o hT hci]), fun U hU hW => ⟨rfl, by rw [hU]; exact hsz9, h1.2, by rw [hU]; exact hP, va_K.moved hW.alike hK, fun o i y hy => va_Nw.warmM hW (hNe o i y hy), va_AO.moved hW.alike hAO⟩⟩ rfl (by rw [List.length_map]; exact hn) hL.2.1 (by simp [a_em]) (lv_room (m := mi) (pc := pc) (ls := ls) (rest := []) (by rw [a_em_wt]; exact hw)) d ⟨by omega, by omega⟩
  refine va_calll hrun hS (fun q _ h => h) (fun q h => h) (fun x u t H1 locs1 ht hvm hw9 hB hz1 hk1 hS1 => ?_)
  subst hw9
  obtain ⟨hwf, hP1⟩ := hB
  rw [ht] at hP1
  refine W.cs (cells' := mN m9 - n0) (slots' := mS m9 - s0) (by omega) (by omega) (k2 H1 locs1 ls ⟨Nat.le_trans hc1 hm1, hwf⟩ (Nat.le_trans h2 hm2) hP1 hS1 hL)

theorem g_callVv {X : aX} {j : aJ} {r : aRes} (hC : aCx X j r) {pc : Nat} {L st : List Value} {m : aM} {y : MethodName} {bytes : ByteArray} {maxL fr9 lo9 n index : Nat} {rt9 : Option FieldType} {F : List Value → aM → Option aRes} {vs : List Value} {q : Nat} (hM : aMet y (.code y bytes maxL rt9) fr9 lo9 F) (hcd : Cond.code y bytes maxL rt9 ∈ aG) (hl : Cond.methodLink j.2.1 index y ∈ aG) {ci N : Nat} {C : String} {T : u_T} (hc : vwCl[ci]? = some (C, T, N)) (hci : ci < 10) (hT : mT m q = (ci, N)) (hinst : Cond.instanceMethod y ∈ aG) (hsel : Cond.selects C y y ∈ aG) (hin : Cond.initialized y.cls ∈ aG) (hd : y.cls ≠ "java/lang/invoke/MethodHandle" ∧ y.cls ≠ "java/lang/invoke/VarHandle" ∧ (parseMethodDescriptor y.desc).map (fun d => d.parameters.length) = some n) (hn : vs.length = n) (hpv : ∀ v ∈ vs, a_pv v) (hR1 : fr9 + 1 ≤ j.2.2.1) (hR2 : 8 + (maxL + 11) + lo9 ≤ j.2.2.2.1) (hw : (st.map fun v => v.category).sum ≤ 8) {m9 : aM} (hF : F (.ref q :: vs) m = some (none, m9)) (hmm : mN m ≤ mN m9 ∧ mS m ≤ mS m9) (d : decode j.1 pc = .ok (.invokevirtual index, 3)) (k : aGW X j r (pc + 3) L st m9) : aGW X j r pc L (vs.reverse ++ .ref q :: st) m := by
  obtain ⟨p, l, e, R, s, mi, args, below, meth, c, Q, ⟨base, b, D, cy, n0, s0⟩⟩ := X
  obtain ⟨cc, own, fr, lo, kind, nL, ret, Lx, xs⟩ := j
  obtain ⟨hx, hb, hml, hown, hts, hK, hNe, hAO, hfr, hlo, hrc, hrs, hsz, hki, hks, hri, hrj, hrv⟩ := hC
  obtain ⟨k1, k2⟩ := k
  have hR1 : fr9 + 1 ≤ fr := hR1
  have hR2 : 8 + (maxL + 11) + lo9 ≤ lo := hR2
  have hMet := hM l base b D cy (.ref q :: vs) m _ (fun v hv => by rcases List.mem_cons.mp hv with e | e; exact Or.inr (Or.inl ⟨q, e⟩); exact hpv v e) hF hmm
  obtain ⟨hm1, hm2⟩ := hmm
  refine And.intro ⟨Nat.le_trans hm1 k1.1, Nat.le_trans hm2 k1.2⟩ (fun H locs ls h1 h2 hP hS hL => W_size (fun hu => ?_))
  have hc1 := h1.1
  have hc2 := k1.1
  have hc3 := k1.2
  have hsz9 := a_size hP hS hsz hc1 hu
  have hMet : Met l y (.code y bytes maxL rt9 :: aG) { frames := fr9, cells := mN m9 - mN m, slots := mS m9 - mS m, locals := lo9 } (va_Pc ((.ref q :: vs).map (a_em base b)) (aPre base D cy m)) (va_Qv (fun (_ : Unit) => True) (fun _ t => aPost base D cy m9 t) (fun q => base ≤ q)) (mN m9 - mN m) (mS m9 - mS m) (fun q => base ≤ q) := hMet
  have hrun := va_runV (p := p) (e := e) (below := below) (meth := meth) (H := H) (locs := locs) (cells := mN m - n0) (slots := mS m - s0) (As := vs.map (a_em base b)) (rest := st.map (a_em base b)) (g := F0 mi pc ls ((vs.reverse ++ .ref q :: st).map (a_em base b))) (nL := nL) (b := base + q) ⟨hx, hb, hml, hown, hts⟩ hMet ⟨callB_of n hts (aG_good hcd) rfl rfl rfl (hts _ hin) (hts _ hl) hd ⟨by show fr9 + 1 ≤ R.frames; omega, by show 8 + (maxL + 11) + lo9 ≤ R.locals; omega⟩, hts _ hinst, hts _ hsel⟩ ⟨aPre_blind _ base D cy m, va_recv hK hP hc (q0 := q) (by rw [a_ws_at (aWF_lt h1.2 hT (by omega)), a_cell_o hT hci]), fun U hU hW => ⟨rfl, by rw [hU]; exact hsz9, h1.2, by rw [hU]; exact hP, va_K.moved hW.alike hK, fun o i y hy => va_Nw.warmM hW (hNe o i y hy), va_AO.moved hW.alike hAO⟩⟩ rfl (by rw [List.length_map]; exact hn) hL.2.1 (by simp [a_em]) (lv_room (m := mi) (pc := pc) (ls := ls) (rest := []) (by rw [a_em_wt]; exact hw)) d ⟨by omega, by omega⟩
  refine va_callv hrun hS (fun q _ h => h) (fun q h => h) (fun u t H1 locs1 ht hvm hw9 hB hz1 hk1 hS1 => ?_)
  have hw9 := hw9
  obtain ⟨hwf, hP1⟩ := hB
  rw [ht] at hP1
  refine W.cs (cells' := mN m9 - n0) (slots' := mS m9 - s0) (by omega) (by omega) (k2 H1 locs1 ls ⟨Nat.le_trans hc1 hm1, hwf⟩ (Nat.le_trans h2 hm2) hP1 hS1 hL)

theorem g_callIv {X : aX} {j : aJ} {r : aRes} (hC : aCx X j r) {pc : Nat} {L st : List Value} {m : aM} {y : MethodName} {bytes : ByteArray} {maxL fr9 lo9 n index : Nat} {F : List Value → aM → Option aRes} {vs : List Value} {q : Nat} (hM : aMet y (.code y bytes maxL none) fr9 lo9 F) (hcd : Cond.code y bytes maxL none ∈ aG) (hl : Cond.methodLink j.2.1 index y ∈ aG) (hy1 : y.name = "<init>") (hinst : Cond.instanceMethod y ∈ aG) (hin : Cond.initialized y.cls ∈ aG) (hd : y.cls ≠ "java/lang/invoke/MethodHandle" ∧ y.cls ≠ "java/lang/invoke/VarHandle" ∧ (parseMethodDescriptor y.desc).map (fun d => d.parameters.length) = some n) (hn : vs.length = n) (hpv : ∀ v ∈ vs, a_pv v) (hR1 : fr9 + 1 ≤ j.2.2.1) (hR2 : 8 + (maxL + 11) + lo9 ≤ j.2.2.2.1) (hw : (st.map fun v => v.category).sum ≤ 8) {m9 : aM} (hF : F (.ref q :: vs) m = some (none, m9)) (hmm : mN m ≤ mN m9 ∧ mS m ≤ mS m9) (d : decode j.1 pc = .ok (.invokespecial index, 3)) (k : aGW X j r (pc + 3) L st m9) : aGW X j r pc L (vs.reverse ++ .ref q :: st) m := by
  obtain ⟨p, l, e, R, s, mi, args, below, meth, c, Q, ⟨base, b, D, cy, n0, s0⟩⟩ := X
  obtain ⟨cc, own, fr, lo, kind, nL, ret, Lx, xs⟩ := j
  obtain ⟨hx, hb, hml, hown, hts, hK, hNe, hAO, hfr, hlo, hrc, hrs, hsz, hki, hks, hri, hrj, hrv⟩ := hC
  obtain ⟨k1, k2⟩ := k
  have hR1 : fr9 + 1 ≤ fr := hR1
  have hR2 : 8 + (maxL + 11) + lo9 ≤ lo := hR2
  have hMet := hM l base b D cy (.ref q :: vs) m _ (fun v hv => by rcases List.mem_cons.mp hv with e | e; exact Or.inr (Or.inl ⟨q, e⟩); exact hpv v e) hF hmm
  obtain ⟨hm1, hm2⟩ := hmm
  refine And.intro ⟨Nat.le_trans hm1 k1.1, Nat.le_trans hm2 k1.2⟩ (fun H locs ls h1 h2 hP hS hL => W_size (fun hu => ?_))
  have hc1 := h1.1
  have hc2 := k1.1
  have hc3 := k1.2
  have hsz9 := a_size hP hS hsz hc1 hu
  have hMet : Met l y (.code y bytes maxL none :: aG) { frames := fr9, cells := mN m9 - mN m, slots := mS m9 - mS m, locals := lo9 } (va_Pc ((.ref q :: vs).map (a_em base b)) (aPre base D cy m)) (va_Qv (fun (_ : Unit) => True) (fun _ t => aPost base D cy m9 t) (fun q => base ≤ q)) (mN m9 - mN m) (mS m9 - mS m) (fun q => base ≤ q) := hMet
  have hrun := va_runI (p := p) (e := e) (below := below) (meth := meth) (H := H) (locs := locs) (cells := mN m - n0) (slots := mS m - s0) (As := vs.map (a_em base b)) (rest := st.map (a_em base b)) (g := F0 mi pc ls ((vs.reverse ++ .ref q :: st).map (a_em base b))) (nL := nL) (b := base + q) ⟨hx, hb, hml, hown, hts⟩ hMet ⟨callB_of n hts (aG_good hcd) rfl rfl rfl (hts _ hin) (hts _ hl) hd ⟨by show fr9 + 1 ≤ R.frames; omega, by show 8 + (maxL + 11) + lo9 ≤ R.locals; omega⟩, hy1, hts _ hinst⟩ ⟨aPre_blind _ base D cy m, fun U hU hW => ⟨rfl, by rw [hU]; exact hsz9, h1.2, by rw [hU]; exact hP, va_K.moved hW.alike hK, fun o i y hy => va_Nw.warmM hW (hNe o i y hy), va_AO.moved hW.alike hAO⟩⟩ rfl (by rw [List.length_map]; exact hn) hL.2.1 (by simp [a_em]) (lv_room (m := mi) (pc := pc) (ls := ls) (rest := []) (by rw [a_em_wt]; exact hw)) d ⟨by omega, by omega⟩
  refine va_callv hrun hS (fun q _ h => h) (fun q h => h) (fun u t H1 locs1 ht hvm hw9 hB hz1 hk1 hS1 => ?_)
  have hw9 := hw9
  obtain ⟨hwf, hP1⟩ := hB
  rw [ht] at hP1
  refine W.cs (cells' := mN m9 - n0) (slots' := mS m9 - s0) (by omega) (by omega) (k2 H1 locs1 ls ⟨Nat.le_trans hc1 hm1, hwf⟩ (Nat.le_trans h2 hm2) hP1 hS1 hL)

theorem g_callINv {X : aX} {j : aJ} {r : aRes} (hC : aCx X j r) {pc : Nat} {L st : List Value} {m : aM} {y : MethodName} {bytes : ByteArray} {maxL fr9 lo9 n index : Nat} {F : List Value → aM → Option aRes} {vs : List Value} {q : Nat} (hM : aMet y (.code y bytes maxL none) fr9 lo9 F) (hcd : Cond.code y bytes maxL none ∈ aG) (hl : Cond.methodLinkNest j.2.1 index y "QuietOffice" ∈ lw_tbl) (hy1 : y.name = "<init>") (hinst : Cond.instanceMethod y ∈ aG) (hin : Cond.initialized y.cls ∈ aG) (hd : y.cls ≠ "java/lang/invoke/MethodHandle" ∧ y.cls ≠ "java/lang/invoke/VarHandle" ∧ (parseMethodDescriptor y.desc).map (fun d => d.parameters.length) = some n) (hn : vs.length = n) (hpv : ∀ v ∈ vs, a_pv v) (hR1 : fr9 + 1 ≤ j.2.2.1) (hR2 : 8 + (maxL + 11) + lo9 ≤ j.2.2.2.1) (hw : (st.map fun v => v.category).sum ≤ 8) {m9 : aM} (hF : F (.ref q :: vs) m = some (none, m9)) (hmm : mN m ≤ mN m9 ∧ mS m ≤ mS m9) (d : decode j.1 pc = .ok (.invokespecial index, 3)) (k : aGW X j r (pc + 3) L st m9) : aGW X j r pc L (vs.reverse ++ .ref q :: st) m := by
  obtain ⟨p, l, e, R, s, mi, args, below, meth, c, Q, ⟨base, b, D, cy, n0, s0⟩⟩ := X
  obtain ⟨cc, own, fr, lo, kind, nL, ret, Lx, xs⟩ := j
  obtain ⟨hx, hb, hml, hown, hts, hK, hNe, hAO, hfr, hlo, hrc, hrs, hsz, hki, hks, hri, hrj, hrv⟩ := hC
  obtain ⟨k1, k2⟩ := k
  have hR1 : fr9 + 1 ≤ fr := hR1
  have hR2 : 8 + (maxL + 11) + lo9 ≤ lo := hR2
  have hMet := hM l base b D cy (.ref q :: vs) m _ (fun v hv => by rcases List.mem_cons.mp hv with e | e; exact Or.inr (Or.inl ⟨q, e⟩); exact hpv v e) hF hmm
  obtain ⟨hm1, hm2⟩ := hmm
  refine And.intro ⟨Nat.le_trans hm1 k1.1, Nat.le_trans hm2 k1.2⟩ (fun H locs ls h1 h2 hP hS hL => W_size (fun hu => ?_))
  have hc1 := h1.1
  have hc2 := k1.1
  have hc3 := k1.2
  have hsz9 := a_size hP hS hsz hc1 hu
  have hMet : Met l y (.code y bytes maxL none :: aG) { frames := fr9, cells := mN m9 - mN m, slots := mS m9 - mS m, locals := lo9 } (va_Pc ((.ref q :: vs).map (a_em base b)) (aPre base D cy m)) (va_Qv (fun (_ : Unit) => True) (fun _ t => aPost base D cy m9 t) (fun q => base ≤ q)) (mN m9 - mN m) (mS m9 - mS m) (fun q => base ≤ q) := hMet
  have hrun := va_runIN (p := p) (e := e) (below := below) (meth := meth) (H := H) (locs := locs) (cells := mN m - n0) (slots := mS m - s0) (As := vs.map (a_em base b)) (rest := st.map (a_em base b)) (g := F0 mi pc ls ((vs.reverse ++ .ref q :: st).map (a_em base b))) (nL := nL) (b := base + q) ⟨hx, hb, hml, hown, hts⟩ hMet ⟨va_cnB n hts (aG_good hcd) rfl rfl rfl (hNe _ _ _ hl) (hts _ hin) hd ⟨by show fr9 + 1 ≤ R.frames; omega, by show 8 + (maxL + 11) + lo9 ≤ R.locals; omega⟩, hy1, hts _ hinst⟩ ⟨aPre_blind _ base D cy m, fun U hU hW => ⟨rfl, by rw [hU]; exact hsz9, h1.2, by rw [hU]; exact hP, va_K.moved hW.alike hK, fun o i y hy => va_Nw.warmM hW (hNe o i y hy), va_AO.moved hW.alike hAO⟩⟩ rfl (by rw [List.length_map]; exact hn) hL.2.1 (by simp [a_em]) (lv_room (m := mi) (pc := pc) (ls := ls) (rest := []) (by rw [a_em_wt]; exact hw)) d ⟨by omega, by omega⟩
  refine va_callv hrun hS (fun q _ h => h) (fun q h => h) (fun u t H1 locs1 ht hvm hw9 hB hz1 hk1 hS1 => ?_)
  have hw9 := hw9
  obtain ⟨hwf, hP1⟩ := hB
  rw [ht] at hP1
  refine W.cs (cells' := mN m9 - n0) (slots' := mS m9 - s0) (by omega) (by omega) (k2 H1 locs1 ls ⟨Nat.le_trans hc1 hm1, hwf⟩ (Nat.le_trans h2 hm2) hP1 hS1 hL)
