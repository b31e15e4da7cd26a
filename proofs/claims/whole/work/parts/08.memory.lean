theorem aWF_lt {m : aM} (h : aWF m) {q kind len : Nat} (hT : mT m q = (kind, len)) (hk : kind ≠ 99) : q < mN m := by
  rcases Nat.lt_or_ge q (mN m) with g | g
  · exact g
  · have := h q g
    rw [hT] at this
    exact absurd this hk
theorem a_cell_o {base : Nat} {cy : Nat → ClassId} {m : aM} {q ci N : Nat} (hT : mT m q = (ci, N)) (hc : ci < 10) : a_cell base cy m q = .inr (ci, (List.range N).map (a_fv base m q ci)) := by
  unfold a_cell
  rw [hT, if_pos hc]
theorem a_cell_i {base : Nat} {cy : Nat → ClassId} {m : aM} {q n kd : Nat} (hT : mT m q = (kd, n)) (hk : kd = 10 ∨ kd = 12) : a_cell base cy m q = .inl (cy kd, n, .inl (mI m q)) := by
  unfold a_cell
  rw [hT, if_neg (by show ¬ kd < 10; omega), if_neg (by show ¬ kd = 11; omega), if_neg (by show ¬ kd = 13; omega)]
theorem a_cell_j {base : Nat} {cy : Nat → ClassId} {m : aM} {q n : Nat} (hT : mT m q = (11, n)) : a_cell base cy m q = .inl (cy 11, n, .inr (.inl (mJ m q))) := by
  unfold a_cell
  rw [hT, if_neg (by show ¬ (11 : Nat) < 10; decide), if_pos rfl]
theorem a_cell_r {base : Nat} {cy : Nat → ClassId} {m : aM} {q n : Nat} (hT : mT m q = (13, n)) : a_cell base cy m q = .inl (cy 13, n, .inr (.inr (.inr (.inr (fun i => (mR m q i).map (base + ·)))))) := by
  unfold a_cell
  rw [hT, if_neg (by show ¬ (13 : Nat) < 10; decide), if_neg (by show ¬ (13 : Nat) = 11; decide), if_pos rfl]
/-- cells of other places stay -/
theorem a_cell_ne {base : Nat} {cy : Nat → ClassId} {m m' : aM} {q : Nat} (h1 : mT m' q = mT m q) (h2 : mI m' q = mI m q) (h3 : mJ m' q = mJ m q) (h4 : mR m' q = mR m q) : a_cell base cy m' q = a_cell base cy m q := by
  unfold a_cell a_fv
  simp only [h1, h2, h3, h4]
theorem a_fs_len {f : Nat → Value} {N : Nat} : ((List.range N).map f).length = N := by simp
theorem a_fs_at {f : Nat → Value} {N k : Nat} (h : k < N) : ((List.range N).map f)[k]? = some (f k) := by
  rw [List.getElem?_map, List.getElem?_range h]
  rfl
theorem a_fs_set {f g : Nat → Value} {N k : Nat} {v : Value} (hg : g k = v) (ho : ∀ i, i ≠ k → g i = f i) : ((List.range N).map f).set k v = (List.range N).map g := by
  apply List.ext_getElem?
  intro i
  by_cases hi : i < N
  · by_cases e : i = k
    · subst e
      rw [List.getElem?_set_self (by simpa using hi), a_fs_at hi, hg]
    · rw [List.getElem?_set_ne (Ne.symm e), a_fs_at hi, a_fs_at hi, ho i e]
  · rw [List.getElem?_eq_none (by simp; omega), List.getElem?_eq_none (by simp; omega)]

theorem g_geti {X : aX} {j : aJ} {r : aRes} (hC : aCx X j r) {pc : Nat} {L st : List Value} {m : aM} {q ci N k index : Nat} {C : String} {T : u_T} (hin : ∀ w ∈ u_ws C T N, w ∈ aG) (hc : vwCl[ci]? = some (C, T, N)) (hci : ci < 10) (hT : mT m q = (ci, N)) (hk : k < N) (hlink : Cond.fieldLink j.2.1 index (T k).1 (T k).2.1 (T k).2.2.1 ∈ aG) (hi : a_it (a_ty ci k) = true) (d : decode j.1 pc = .ok (.getfield index, 3)) (k0 : aGW X j r (pc + 3) L (.int (mI m q k) :: st) m) : aGW X j r pc L (.ref q :: st) m := by
  obtain ⟨p, l, e, R, s, mi, args, below, meth, c, Q, ⟨base, b, D, cy, n0, s0⟩⟩ := X
  obtain ⟨cc, own, fr, lo, kind, nL, ret, Lx, xs⟩ := j
  obtain ⟨hx, hb, hml, hown, hts, hK, hNe, hAO, hfr, hlo, hrc, hrs, hsz, hki, hks, hri, hrj, hrv⟩ := hC
  obtain ⟨k1, k2⟩ := k0
  refine And.intro k1 (fun H locs ls h1 h2 hP hS hL => ?_)
  have hq := aWF_lt h1.2 hT (by omega)
  have he : (a_ws base cy m)[q]? = some (base + q, .inr (ci, (List.range N).map (a_fv base m q ci))) := by rw [a_ws_at hq, a_cell_o hT hci]
  exact va_get hx hb hts hin hown hK hP q he hc k hk (hts _ hlink) (fun _ h9 => h9) (v := .int (mI m q k)) (by rw [a_fs_at hk]; unfold a_fv; rw [if_pos hi]) d (k2 H locs ls h1 h2 hP hS hL)

theorem g_getr {X : aX} {j : aJ} {r : aRes} (hC : aCx X j r) {pc : Nat} {L st : List Value} {m : aM} {q ci N k index : Nat} {C : String} {T : u_T} (hin : ∀ w ∈ u_ws C T N, w ∈ aG) (hc : vwCl[ci]? = some (C, T, N)) (hci : ci < 10) (hT : mT m q = (ci, N)) (hk : k < N) (hlink : Cond.fieldLink j.2.1 index (T k).1 (T k).2.1 (T k).2.2.1 ∈ aG) (hi : a_it (a_ty ci k) = false) (d : decode j.1 pc = .ok (.getfield index, 3)) (k0 : aGW X j r (pc + 3) L (a_rv (mR m q k) :: st) m) : aGW X j r pc L (.ref q :: st) m := by
  obtain ⟨p, l, e, R, s, mi, args, below, meth, c, Q, ⟨base, b, D, cy, n0, s0⟩⟩ := X
  obtain ⟨cc, own, fr, lo, kind, nL, ret, Lx, xs⟩ := j
  obtain ⟨hx, hb, hml, hown, hts, hK, hNe, hAO, hfr, hlo, hrc, hrs, hsz, hki, hks, hri, hrj, hrv⟩ := hC
  obtain ⟨k1, k2⟩ := k0
  refine And.intro k1 (fun H locs ls h1 h2 hP hS hL => ?_)
  have hq := aWF_lt h1.2 hT (by omega)
  have he : (a_ws base cy m)[q]? = some (base + q, .inr (ci, (List.range N).map (a_fv base m q ci))) := by rw [a_ws_at hq, a_cell_o hT hci]
  refine va_get hx hb hts hin hown hK hP q he hc k hk (hts _ hlink) (fun _ h9 => h9) (v := a_em base b (a_rv (mR m q k))) (by rw [a_fs_at hk, a_rv_em]; unfold a_fv; rw [if_neg (by rw [hi]; decide)]) d (k2 H locs ls h1 h2 hP hS hL)

theorem g_puti {X : aX} {j : aJ} {r : aRes} (hC : aCx X j r) {pc : Nat} {L st : List Value} {m : aM} {q ci N k index : Nat} {C : String} {T : u_T} (hin : ∀ w ∈ u_ws C T N, w ∈ aG) (hc : vwCl[ci]? = some (C, T, N)) (hci : ci < 10) (hT : mT m q = (ci, N)) (hk : k < N) (hlink : Cond.fieldLink j.2.1 index (T k).1 (T k).2.1 (T k).2.2.1 ∈ aG) (ty0 : Nat → FieldType) (hty : ∀ k, k < N → parseFieldDescriptor (T k).2.2.1 = some (ty0 k)) (hnm : ∀ a, a < N → ∀ b, b < N → a ≠ b → (T a).2.1 ≠ (T b).2.1) (hfin : (T k).2.2.2 = false) (hi : a_it (a_ty ci k) = true) {ty : FieldType} {x : Int32} (hd : parseFieldDescriptor (T k).2.2.1 = some ty) (hn : narrow ty (.int x) = .int x) (hfit : fits ty (.int x) = true) (d : decode j.1 pc = .ok (.putfield index, 3)) (k0 : aGW X j r (pc + 3) L st (m_sI m q k x)) : aGW X j r pc L (.int x :: .ref q :: st) m := by
  obtain ⟨p, l, e, R, s, mi, args, below, meth, c, Q, ⟨base, b, D, cy, n0, s0⟩⟩ := X
  obtain ⟨cc, own, fr, lo, kind, nL, ret, Lx, xs⟩ := j
  obtain ⟨hx, hb, hml, hown, hts, hK, hNe, hAO, hfr, hlo, hrc, hrs, hsz, hki, hks, hri, hrj, hrv⟩ := hC
  obtain ⟨k1, k2⟩ := k0
  refine And.intro k1 (fun H locs ls h1 h2 hP hS hL => ?_)
  have hq := aWF_lt h1.2 hT (by omega)
  have he : (a_ws base cy m)[q]? = some (base + q, .inr (ci, (List.range N).map (a_fv base m q ci))) := by rw [a_ws_at hq, a_cell_o hT hci]
  refine va_put hx hb hts hin ty0 hty hnm hown hK hP a_ws_D hS q he hc k hk (hts _ hlink) (fun _ h9 => h9) hfin hd hn hfit (by rw [a_fs_len]; exact hk) d (fun H1 locs1 hP1 hD1 hS1 => ?_)
  have e : (a_ws base cy m).set q (base + q, .inr (ci, ((List.range N).map (a_fv base m q ci)).set k (.int x))) = a_ws base cy (m_sI m q k x) := by
    refine a_ws_set rfl ?_ (fun q2 h2 => a_cell_ne rfl (a_up2_ne _ _ _ h2) rfl rfl)
    rw [a_cell_o (show mT (m_sI m q k x) q = (ci, N) from hT) hci]
    congr 2
    refine (a_fs_set ?_ (fun i hik => ?_)).symm
    · show (if _ then _ else _) = _
      rw [if_pos hi]
      show Value.int (a_up2 _ _ _ _ _ _) = _
      rw [a_up2_at, va_up_self]
    · unfold a_fv
      congr 2
      show a_up2 _ _ _ _ _ _ = _
      rw [a_up2_at, va_up_ne _ _ hik]
  exact k2 H1 locs1 ls h1 h2 (by rw [← e]; exact hP1) hS1 hL

theorem g_putiF {X : aX} {j : aJ} {r : aRes} (hC : aCx X j r) {pc : Nat} {L st : List Value} {m : aM} {q ci N k index : Nat} {C : String} {T : u_T} (hin : ∀ w ∈ u_ws C T N, w ∈ aG) (hc : vwCl[ci]? = some (C, T, N)) (hci : ci < 10) (hT : mT m q = (ci, N)) (hk : k < N) (hlink : Cond.fieldLink j.2.1 index (T k).1 (T k).2.1 (T k).2.2.1 ∈ aG) (ty0 : Nat → FieldType) (hty : ∀ k, k < N → parseFieldDescriptor (T k).2.2.1 = some (ty0 k)) (hnm : ∀ a, a < N → ∀ b, b < N → a ≠ b → (T a).2.1 ≠ (T b).2.1) (hfin : (T k).2.2.2 = true) (hdecl : (T k).1 = j.2.1) (hk1 : j.2.2.2.2.1 = 1) (hi : a_it (a_ty ci k) = true) {ty : FieldType} {x : Int32} (hd : parseFieldDescriptor (T k).2.2.1 = some ty) (hn : narrow ty (.int x) = .int x) (hfit : fits ty (.int x) = true) (d : decode j.1 pc = .ok (.putfield index, 3)) (k0 : aGW X j r (pc + 3) L st (m_sI m q k x)) : aGW X j r pc L (.int x :: .ref q :: st) m := by
  obtain ⟨p, l, e, R, s, mi, args, below, meth, c, Q, ⟨base, b, D, cy, n0, s0⟩⟩ := X
  obtain ⟨cc, own, fr, lo, kind, nL, ret, Lx, xs⟩ := j
  obtain ⟨hx, hb, hml, hown, hts, hK, hNe, hAO, hfr, hlo, hrc, hrs, hsz, hki, hks, hri, hrj, hrv⟩ := hC
  obtain ⟨k1, k2⟩ := k0
  refine And.intro k1 (fun H locs ls h1 h2 hP hS hL => ?_)
  have hq := aWF_lt h1.2 hT (by omega)
  have he : (a_ws base cy m)[q]? = some (base + q, .inr (ci, (List.range N).map (a_fv base m q ci))) := by rw [a_ws_at hq, a_cell_o hT hci]
  refine va_putF hx hb hts hin ty0 hty hnm hown hK hP a_ws_D hS q he hc k hk (hts _ hlink) (fun _ h9 => h9) hfin (hki hk1) hdecl hd hn hfit (by rw [a_fs_len]; exact hk) d (fun H1 locs1 hP1 hD1 hS1 => ?_)
  have e : (a_ws base cy m).set q (base + q, .inr (ci, ((List.range N).map (a_fv base m q ci)).set k (.int x))) = a_ws base cy (m_sI m q k x) := by
    refine a_ws_set rfl ?_ (fun q2 h2 => a_cell_ne rfl (a_up2_ne _ _ _ h2) rfl rfl)
    rw [a_cell_o (show mT (m_sI m q k x) q = (ci, N) from hT) hci]
    congr 2
    refine (a_fs_set ?_ (fun i hik => ?_)).symm
    · show (if _ then _ else _) = _
      rw [if_pos hi]
      show Value.int (a_up2 _ _ _ _ _ _) = _
      rw [a_up2_at, va_up_self]
    · unfold a_fv
      congr 2
      show a_up2 _ _ _ _ _ _ = _
      rw [a_up2_at, va_up_ne _ _ hik]
  exact k2 H1 locs1 ls h1 h2 (by rw [← e]; exact hP1) hS1 hL

theorem g_putr {X : aX} {j : aJ} {r : aRes} (hC : aCx X j r) {pc : Nat} {L st : List Value} {m : aM} {q ci N k index : Nat} {C : String} {T : u_T} (hin : ∀ w ∈ u_ws C T N, w ∈ aG) (hc : vwCl[ci]? = some (C, T, N)) (hci : ci < 10) (hT : mT m q = (ci, N)) (hk : k < N) (hlink : Cond.fieldLink j.2.1 index (T k).1 (T k).2.1 (T k).2.2.1 ∈ aG) (ty0 : Nat → FieldType) (hty : ∀ k, k < N → parseFieldDescriptor (T k).2.2.1 = some (ty0 k)) (hnm : ∀ a, a < N → ∀ b, b < N → a ≠ b → (T a).2.1 ≠ (T b).2.1) (hfin : (T k).2.2.2 = false) (hi : a_it (a_ty ci k) = false) {ty : FieldType} {v : Option Nat} (hd : parseFieldDescriptor (T k).2.2.1 = some ty) (hn : ∀ z : Option Nat, narrow ty (va_rf z) = va_rf z) (hfit : ∀ z : Option Nat, fits ty (va_rf z) = true) (d : decode j.1 pc = .ok (.putfield index, 3)) (k0 : aGW X j r (pc + 3) L st (m_sR m q k v)) : aGW X j r pc L (a_rv v :: .ref q :: st) m := by
  obtain ⟨p, l, e, R, s, mi, args, below, meth, c, Q, ⟨base, b, D, cy, n0, s0⟩⟩ := X
  obtain ⟨cc, own, fr, lo, kind, nL, ret, Lx, xs⟩ := j
  obtain ⟨hx, hb, hml, hown, hts, hK, hNe, hAO, hfr, hlo, hrc, hrs, hsz, hki, hks, hri, hrj, hrv⟩ := hC
  obtain ⟨k1, k2⟩ := k0
  refine And.intro k1 (fun H locs ls h1 h2 hP hS hL => ?_)
  have hq := aWF_lt h1.2 hT (by omega)
  have he : (a_ws base cy m)[q]? = some (base + q, .inr (ci, (List.range N).map (a_fv base m q ci))) := by rw [a_ws_at hq, a_cell_o hT hci]
  have ev : a_em base b (a_rv v) = va_rf (v.map (base + ·)) := a_rv_em base b v
  show W p l e R s mi args below meth c H locs (mN m - n0) (mS m - s0) Q (F0 mi pc ls (a_em base b (a_rv v) :: .ref (base + q) :: st.map (a_em base b)))
  rw [ev]
  refine va_put hx hb hts hin ty0 hty hnm hown hK hP a_ws_D hS q he hc k hk (hts _ hlink) (fun _ h9 => h9) hfin hd (hn _) (hfit _) (by rw [a_fs_len]; exact hk) d (fun H1 locs1 hP1 hD1 hS1 => ?_)
  have e : (a_ws base cy m).set q (base + q, .inr (ci, ((List.range N).map (a_fv base m q ci)).set k (va_rf (v.map (base + ·))))) = a_ws base cy (m_sR m q k v) := by
    refine a_ws_set rfl ?_ (fun q2 h2 => a_cell_ne rfl rfl rfl (a_up2_ne _ _ _ h2))
    rw [a_cell_o (show mT (m_sR m q k v) q = (ci, N) from hT) hci]
    congr 2
    refine (a_fs_set ?_ (fun i hik => ?_)).symm
    · show (if _ then _ else _) = _
      rw [if_neg (by rw [hi]; decide)]
      show va_rf (Option.map _ (a_up2 _ _ _ _ _ _)) = _
      rw [a_up2_at, va_up_self]
    · unfold a_fv
      congr 2
      show Option.map _ (a_up2 _ _ _ _ _ _) = Option.map _ _
      rw [a_up2_at, va_up_ne _ _ hik]
  exact k2 H1 locs1 ls h1 h2 (by rw [← e]; exact hP1) hS1 hL

theorem g_putrF {X : aX} {j : aJ} {r : aRes} (hC : aCx X j r) {pc : Nat} {L st : List Value} {m : aM} {q ci N k index : Nat} {C : String} {T : u_T} (hin : ∀ w ∈ u_ws C T N, w ∈ aG) (hc : vwCl[ci]? = some (C, T, N)) (hci : ci < 10) (hT : mT m q = (ci, N)) (hk : k < N) (hlink : Cond.fieldLink j.2.1 index (T k).1 (T k).2.1 (T k).2.2.1 ∈ aG) (ty0 : Nat → FieldType) (hty : ∀ k, k < N → parseFieldDescriptor (T k).2.2.1 = some (ty0 k)) (hnm : ∀ a, a < N → ∀ b, b < N → a ≠ b → (T a).2.1 ≠ (T b).2.1) (hfin : (T k).2.2.2 = true) (hdecl : (T k).1 = j.2.1) (hk1 : j.2.2.2.2.1 = 1) (hi : a_it (a_ty ci k) = false) {ty : FieldType} {v : Option Nat} (hd : parseFieldDescriptor (T k).2.2.1 = some ty) (hn : ∀ z : Option Nat, narrow ty (va_rf z) = va_rf z) (hfit : ∀ z : Option Nat, fits ty (va_rf z) = true) (d : decode j.1 pc = .ok (.putfield index, 3)) (k0 : aGW X j r (pc + 3) L st (m_sR m q k v)) : aGW X j r pc L (a_rv v :: .ref q :: st) m := by
  obtain ⟨p, l, e, R, s, mi, args, below, meth, c, Q, ⟨base, b, D, cy, n0, s0⟩⟩ := X
  obtain ⟨cc, own, fr, lo, kind, nL, ret, Lx, xs⟩ := j
  obtain ⟨hx, hb, hml, hown, hts, hK, hNe, hAO, hfr, hlo, hrc, hrs, hsz, hki, hks, hri, hrj, hrv⟩ := hC
  obtain ⟨k1, k2⟩ := k0
  refine And.intro k1 (fun H locs ls h1 h2 hP hS hL => ?_)
  have hq := aWF_lt h1.2 hT (by omega)
  have he : (a_ws base cy m)[q]? = some (base + q, .inr (ci, (List.range N).map (a_fv base m q ci))) := by rw [a_ws_at hq, a_cell_o hT hci]
  have ev : a_em base b (a_rv v) = va_rf (v.map (base + ·)) := a_rv_em base b v
  show W p l e R s mi args below meth c H locs (mN m - n0) (mS m - s0) Q (F0 mi pc ls (a_em base b (a_rv v) :: .ref (base + q) :: st.map (a_em base b)))
  rw [ev]
  refine va_putF hx hb hts hin ty0 hty hnm hown hK hP a_ws_D hS q he hc k hk (hts _ hlink) (fun _ h9 => h9) hfin (hki hk1) hdecl hd (hn _) (hfit _) (by rw [a_fs_len]; exact hk) d (fun H1 locs1 hP1 hD1 hS1 => ?_)
  have e : (a_ws base cy m).set q (base + q, .inr (ci, ((List.range N).map (a_fv base m q ci)).set k (va_rf (v.map (base + ·))))) = a_ws base cy (m_sR m q k v) := by
    refine a_ws_set rfl ?_ (fun q2 h2 => a_cell_ne rfl rfl rfl (a_up2_ne _ _ _ h2))
    rw [a_cell_o (show mT (m_sR m q k v) q = (ci, N) from hT) hci]
    congr 2
    refine (a_fs_set ?_ (fun i hik => ?_)).symm
    · show (if _ then _ else _) = _
      rw [if_neg (by rw [hi]; decide)]
      show va_rf (Option.map _ (a_up2 _ _ _ _ _ _)) = _
      rw [a_up2_at, va_up_self]
    · unfold a_fv
      congr 2
      show Option.map _ (a_up2 _ _ _ _ _ _) = Option.map _ _
      rw [a_up2_at, va_up_ne _ _ hik]
  exact k2 H1 locs1 ls h1 h2 (by rw [← e]; exact hP1) hS1 hL

theorem g_iald {X : aX} {j : aJ} {r : aRes} (hC : aCx X j r) {pc : Nat} {L st : List Value} {m : aM} {q n : Nat} {i : Int32} (hT : mT m q = (10, n)) (hi : vp_in i n) (d : decode j.1 pc = .ok (.iaload, 1)) (k : aGW X j r (pc + 1) L (.int (mI m q i.toNatClampNeg) :: st) m) : aGW X j r pc L (.int i :: .ref q :: st) m := by
  obtain ⟨p, l, e, R, s, mi, args, below, meth, c, Q, ⟨base, b, D, cy, n0, s0⟩⟩ := X
  obtain ⟨cc, own, fr, lo, kind, nL, ret, Lx, xs⟩ := j
  obtain ⟨hx, hb, hml, hown, hts, hK, hNe, hAO, hfr, hlo, hrc, hrs, hsz, hki, hks, hri, hrj, hrv⟩ := hC
  obtain ⟨k1, k2⟩ := k
  refine And.intro k1 (fun H locs ls h1 h2 hP hS hL => ?_)
  have hq := aWF_lt h1.2 hT (by omega)
  have he : (a_ws base cy m)[q]? = some (base + q, .inl (cy 10, n, .inl (mI m q))) := by rw [a_ws_at hq, a_cell_i hT (Or.inl rfl)]
  exact va_iald hx hb hK hP q 0 he rfl hi d (k2 H locs ls h1 h2 hP hS hL)

theorem g_zald {X : aX} {j : aJ} {r : aRes} (hC : aCx X j r) {pc : Nat} {L st : List Value} {m : aM} {q n : Nat} {i : Int32} (hT : mT m q = (12, n)) (hi : vp_in i n) (d : decode j.1 pc = .ok (.baload, 1)) (k : aGW X j r (pc + 1) L (.int (mI m q i.toNatClampNeg) :: st) m) : aGW X j r pc L (.int i :: .ref q :: st) m := by
  obtain ⟨p, l, e, R, s, mi, args, below, meth, c, Q, ⟨base, b, D, cy, n0, s0⟩⟩ := X
  obtain ⟨cc, own, fr, lo, kind, nL, ret, Lx, xs⟩ := j
  obtain ⟨hx, hb, hml, hown, hts, hK, hNe, hAO, hfr, hlo, hrc, hrs, hsz, hki, hks, hri, hrj, hrv⟩ := hC
  obtain ⟨k1, k2⟩ := k
  refine And.intro k1 (fun H locs ls h1 h2 hP hS hL => ?_)
  have hq := aWF_lt h1.2 hT (by omega)
  have he : (a_ws base cy m)[q]? = some (base + q, .inl (cy 12, n, .inl (mI m q))) := by rw [a_ws_at hq, a_cell_i hT (Or.inr rfl)]
  exact va_zald hx hb hK hP q 2 he rfl hi d (k2 H locs ls h1 h2 hP hS hL)

theorem g_lald {X : aX} {j : aJ} {r : aRes} (hC : aCx X j r) {pc : Nat} {L st : List Value} {m : aM} {q n : Nat} {i : Int32} (hT : mT m q = (11, n)) (hi : vp_in i n) (d : decode j.1 pc = .ok (.laload, 1)) (k : aGW X j r (pc + 1) L (.long (mJ m q i.toNatClampNeg) :: st) m) : aGW X j r pc L (.int i :: .ref q :: st) m := by
  obtain ⟨p, l, e, R, s, mi, args, below, meth, c, Q, ⟨base, b, D, cy, n0, s0⟩⟩ := X
  obtain ⟨cc, own, fr, lo, kind, nL, ret, Lx, xs⟩ := j
  obtain ⟨hx, hb, hml, hown, hts, hK, hNe, hAO, hfr, hlo, hrc, hrs, hsz, hki, hks, hri, hrj, hrv⟩ := hC
  obtain ⟨k1, k2⟩ := k
  refine And.intro k1 (fun H locs ls h1 h2 hP hS hL => ?_)
  have hq := aWF_lt h1.2 hT (by omega)
  have he : (a_ws base cy m)[q]? = some (base + q, .inl (cy 11, n, .inr (.inl (mJ m q)))) := by rw [a_ws_at hq, a_cell_j hT]
  exact va_lald hx hb hK hP q 1 he rfl hi d (k2 H locs ls h1 h2 hP hS hL)

theorem g_aald {X : aX} {j : aJ} {r : aRes} (hC : aCx X j r) {pc : Nat} {L st : List Value} {m : aM} {q n : Nat} {i : Int32} (hT : mT m q = (13, n)) (hi : vp_in i n) (d : decode j.1 pc = .ok (.aaload, 1)) (k : aGW X j r (pc + 1) L (a_rv (mR m q i.toNatClampNeg) :: st) m) : aGW X j r pc L (.int i :: .ref q :: st) m := by
  obtain ⟨p, l, e, R, s, mi, args, below, meth, c, Q, ⟨base, b, D, cy, n0, s0⟩⟩ := X
  obtain ⟨cc, own, fr, lo, kind, nL, ret, Lx, xs⟩ := j
  obtain ⟨hx, hb, hml, hown, hts, hK, hNe, hAO, hfr, hlo, hrc, hrs, hsz, hki, hks, hri, hrj, hrv⟩ := hC
  obtain ⟨k1, k2⟩ := k
  refine And.intro k1 (fun H locs ls h1 h2 hP hS hL => ?_)
  have hq := aWF_lt h1.2 hT (by omega)
  have he : (a_ws base cy m)[q]? = some (base + q, .inl (cy 13, n, .inr (.inr (.inr (.inr (fun i => (mR m q i).map (base + ·))))))) := by rw [a_ws_at hq, a_cell_r hT]
  have k3 := k2 H locs ls h1 h2 hP hS hL
  rw [List.map_cons, a_rv_em] at k3
  exact va_aldq hx hb hK hP q 3 he rfl hi d k3

theorem g_alen {X : aX} {j : aJ} {r : aRes} (hC : aCx X j r) {pc : Nat} {L st : List Value} {m : aM} {q n kd : Nat} (hT : mT m q = (kd, n)) (hk : kd = 10) (d : decode j.1 pc = .ok (.arraylength, 1)) (k : aGW X j r (pc + 1) L (.int (Int32.ofNat n) :: st) m) : aGW X j r pc L (.ref q :: st) m := by
  obtain ⟨p, l, e, R, s, mi, args, below, meth, c, Q, ⟨base, b, D, cy, n0, s0⟩⟩ := X
  obtain ⟨cc, own, fr, lo, kind, nL, ret, Lx, xs⟩ := j
  obtain ⟨hx, hb, hml, hown, hts, hK, hNe, hAO, hfr, hlo, hrc, hrs, hsz, hki, hks, hri, hrj, hrv⟩ := hC
  obtain ⟨k1, k2⟩ := k
  refine And.intro k1 (fun H locs ls h1 h2 hP hS hL => ?_)
  subst hk
  have hq := aWF_lt h1.2 hT (by omega)
  have he : (a_ws base cy m)[q]? = some (base + q, .inl (cy 10, n, .inl (mI m q))) := by rw [a_ws_at hq, a_cell_i hT (Or.inl rfl)]
  exact va_alen hx hb hK hP q 0 he (ty := .int) rfl rfl d (k2 H locs ls h1 h2 hP hS hL)

theorem g_iast {X : aX} {j : aJ} {r : aRes} (hC : aCx X j r) {pc : Nat} {L st : List Value} {m : aM} {q n : Nat} {i x : Int32} (hT : mT m q = (10, n)) (hi : vp_in i n) (d : decode j.1 pc = .ok (.iastore, 1)) (k : aGW X j r (pc + 1) L st (m_sI m q i.toNatClampNeg x)) : aGW X j r pc L (.int x :: .int i :: .ref q :: st) m := by
  obtain ⟨p, l, e, R, s, mi, args, below, meth, c, Q, ⟨base, b, D, cy, n0, s0⟩⟩ := X
  obtain ⟨cc, own, fr, lo, kind, nL, ret, Lx, xs⟩ := j
  obtain ⟨hx, hb, hml, hown, hts, hK, hNe, hAO, hfr, hlo, hrc, hrs, hsz, hki, hks, hri, hrj, hrv⟩ := hC
  obtain ⟨k1, k2⟩ := k
  refine And.intro k1 (fun H locs ls h1 h2 hP hS hL => ?_)
  have hq := aWF_lt h1.2 hT (by omega)
  have he : (a_ws base cy m)[q]? = some (base + q, .inl (cy 10, n, .inl (mI m q))) := by rw [a_ws_at hq, a_cell_i hT (Or.inl rfl)]
  refine va_iast hx hb hK hP a_ws_D hS q 0 he rfl hi d (fun H1 locs1 hP1 hD1 hS1 => ?_)
  have e : (a_ws base cy m).set q (base + q, .inl (cy 10, n, .inl (upd (mI m q) i.toNatClampNeg x))) = a_ws base cy (m_sI m q i.toNatClampNeg x) := by
    refine a_ws_set rfl ?_ (fun q2 h2 => a_cell_ne rfl (a_up2_ne _ _ _ h2) rfl rfl)
    rw [a_cell_i (show mT (m_sI m q i.toNatClampNeg x) q = (10, n) from hT) (Or.inl rfl)]
    show Sum.inl (cy 10, n, Sum.inl (a_up2 _ _ _ _ _)) = _
    rw [a_up2_at]
    rfl
  exact k2 H1 locs1 ls h1 h2 (by rw [← e]; exact hP1) hS1 hL

theorem g_zast {X : aX} {j : aJ} {r : aRes} (hC : aCx X j r) {pc : Nat} {L st : List Value} {m : aM} {q n : Nat} {i x : Int32} (hT : mT m q = (12, n)) (hi : vp_in i n) (d : decode j.1 pc = .ok (.bastore, 1)) (k : aGW X j r (pc + 1) L st (m_sI m q i.toNatClampNeg (vp_nar .boolean x))) : aGW X j r pc L (.int x :: .int i :: .ref q :: st) m := by
  obtain ⟨p, l, e, R, s, mi, args, below, meth, c, Q, ⟨base, b, D, cy, n0, s0⟩⟩ := X
  obtain ⟨cc, own, fr, lo, kind, nL, ret, Lx, xs⟩ := j
  obtain ⟨hx, hb, hml, hown, hts, hK, hNe, hAO, hfr, hlo, hrc, hrs, hsz, hki, hks, hri, hrj, hrv⟩ := hC
  obtain ⟨k1, k2⟩ := k
  refine And.intro k1 (fun H locs ls h1 h2 hP hS hL => ?_)
  have hq := aWF_lt h1.2 hT (by omega)
  have he : (a_ws base cy m)[q]? = some (base + q, .inl (cy 12, n, .inl (mI m q))) := by rw [a_ws_at hq, a_cell_i hT (Or.inr rfl)]
  refine va_zast hx hb hK hP a_ws_D hS q 2 he rfl hi d (fun H1 locs1 hP1 hD1 hS1 => ?_)
  have e : (a_ws base cy m).set q (base + q, .inl (cy 12, n, .inl (upd (mI m q) i.toNatClampNeg (vp_nar .boolean x)))) = a_ws base cy (m_sI m q i.toNatClampNeg (vp_nar .boolean x)) := by
    refine a_ws_set rfl ?_ (fun q2 h2 => a_cell_ne rfl (a_up2_ne _ _ _ h2) rfl rfl)
    rw [a_cell_i (show mT (m_sI m q i.toNatClampNeg (vp_nar .boolean x)) q = (12, n) from hT) (Or.inr rfl)]
    show Sum.inl (cy 12, n, Sum.inl (a_up2 _ _ _ _ _)) = _
    rw [a_up2_at]
    rfl
  exact k2 H1 locs1 ls h1 h2 (by rw [← e]; exact hP1) hS1 hL

theorem g_last {X : aX} {j : aJ} {r : aRes} (hC : aCx X j r) {pc : Nat} {L st : List Value} {m : aM} {q n : Nat} {i : Int32} {x : Int64} (hT : mT m q = (11, n)) (hi : vp_in i n) (d : decode j.1 pc = .ok (.lastore, 1)) (k : aGW X j r (pc + 1) L st (m_sJ m q i.toNatClampNeg x)) : aGW X j r pc L (.long x :: .int i :: .ref q :: st) m := by
  obtain ⟨p, l, e, R, s, mi, args, below, meth, c, Q, ⟨base, b, D, cy, n0, s0⟩⟩ := X
  obtain ⟨cc, own, fr, lo, kind, nL, ret, Lx, xs⟩ := j
  obtain ⟨hx, hb, hml, hown, hts, hK, hNe, hAO, hfr, hlo, hrc, hrs, hsz, hki, hks, hri, hrj, hrv⟩ := hC
  obtain ⟨k1, k2⟩ := k
  refine And.intro k1 (fun H locs ls h1 h2 hP hS hL => ?_)
  have hq := aWF_lt h1.2 hT (by omega)
  have he : (a_ws base cy m)[q]? = some (base + q, .inl (cy 11, n, .inr (.inl (mJ m q)))) := by rw [a_ws_at hq, a_cell_j hT]
  refine va_last hx hb hK hP a_ws_D hS q 1 he rfl hi d (fun H1 locs1 hP1 hD1 hS1 => ?_)
  have e : (a_ws base cy m).set q (base + q, .inl (cy 11, n, .inr (.inl (vp_updL (mJ m q) i.toNatClampNeg x)))) = a_ws base cy (m_sJ m q i.toNatClampNeg x) := by
    refine a_ws_set rfl ?_ (fun q2 h2 => a_cell_ne rfl rfl (a_up2_ne _ _ _ h2) rfl)
    rw [a_cell_j (show mT (m_sJ m q i.toNatClampNeg x) q = (11, n) from hT)]
    show Sum.inl (cy 11, n, Sum.inr (Sum.inl (a_up2 _ _ _ _ _))) = _
    rw [a_up2_at]
    rfl
  exact k2 H1 locs1 ls h1 h2 (by rw [← e]; exact hP1) hS1 hL

theorem g_aast {X : aX} {j : aJ} {r : aRes} (hC : aCx X j r) {pc : Nat} {L st : List Value} {m : aM} {q n : Nat} {i : Int32} {v : Option Nat} (hT : mT m q = (13, n)) (hv : ∀ z, v = some z → mT m z = (6, 9)) (hi : vp_in i n) (d : decode j.1 pc = .ok (.aastore, 1)) (k : aGW X j r (pc + 1) L st (m_sR m q i.toNatClampNeg v)) : aGW X j r pc L (a_rv v :: .int i :: .ref q :: st) m := by
  obtain ⟨p, l, e, R, s, mi, args, below, meth, c, Q, ⟨base, b, D, cy, n0, s0⟩⟩ := X
  obtain ⟨cc, own, fr, lo, kind, nL, ret, Lx, xs⟩ := j
  obtain ⟨hx, hb, hml, hown, hts, hK, hNe, hAO, hfr, hlo, hrc, hrs, hsz, hki, hks, hri, hrj, hrv⟩ := hC
  obtain ⟨k1, k2⟩ := k
  refine And.intro k1 (fun H locs ls h1 h2 hP hS hL => ?_)
  have hq := aWF_lt h1.2 hT (by omega)
  have he : (a_ws base cy m)[q]? = some (base + q, .inl (cy 13, n, .inr (.inr (.inr (.inr (fun i => (mR m q i).map (base + ·))))))) := by rw [a_ws_at hq, a_cell_r hT]
  have e : (a_ws base cy m).set q (base + q, .inl (cy 13, n, .inr (.inr (.inr (.inr (va_up (fun i => (mR m q i).map (base + ·)) i.toNatClampNeg (v.map (base + ·)))))))) = a_ws base cy (m_sR m q i.toNatClampNeg v) := by
    refine a_ws_set rfl ?_ (fun q2 h2 => a_cell_ne rfl rfl rfl (a_up2_ne _ _ _ h2))
    rw [a_cell_r (show mT (m_sR m q i.toNatClampNeg v) q = (13, n) from hT)]
    congr 7
    funext z
    show Option.map _ (a_up2 _ _ _ _ _ _) = _
    rw [a_up2_at]
    by_cases hz : z = i.toNatClampNeg
    · subst hz
      rw [va_up_self, va_up_self]
    · rw [va_up_ne _ _ hz, va_up_ne _ _ hz]
  cases v with
  | none =>
    refine va_astqN hx hb hK hP a_ws_D hS q 3 he rfl hi d (fun H1 locs1 hP1 hD1 hS1 => ?_)
    have hP1 : va_P D vwCl ((a_ws base cy m).set q (base + q, .inl (cy 13, n, .inr (.inr (.inr (.inr (va_up (fun i => (mR m q i).map (base + ·)) i.toNatClampNeg (none.map (base + ·))))))))) H1 := hP1
    rw [e] at hP1
    exact k2 H1 locs1 ls h1 h2 hP1 hS1 hL
  | some z =>
    have hTz := hv z rfl
    have hz := aWF_lt h1.2 hTz (by omega)
    have hez : (a_ws base cy m)[z]? = some (base + z, .inr (6, (List.range 9).map (a_fv base m z 6))) := by rw [a_ws_at hz, a_cell_o hTz (by omega)]
    refine va_astq hx hb hK hP a_ws_D hS q 3 z 6 he (r := (RX6, TX6, 9)) rfl hez rfl hi d (fun H1 locs1 hP1 hD1 hS1 => ?_)
    have hP1 : va_P D vwCl ((a_ws base cy m).set q (base + q, .inl (cy 13, n, .inr (.inr (.inr (.inr (va_up (fun i => (mR m q i).map (base + ·)) i.toNatClampNeg ((some z).map (base + ·))))))))) H1 := hP1
    rw [e] at hP1
    exact k2 H1 locs1 ls h1 h2 hP1 hS1 hL

theorem g_scr {X : aX} {j : aJ} {r : aRes} (hC : aCx X j r) {pc : Nat} {L st : List Value} {m : aM} (hk2 : j.2.2.2.2.1 = 2) {i : Int32} (hi : vp_in i j.2.2.2.2.2.2.2.1) (d : decode j.1 pc = .ok (.iaload, 1)) (k : aGW X j r (pc + 1) L (.int (j.2.2.2.2.2.2.2.2 i.toNatClampNeg) :: st) m) : aGW X j r pc L (.int i :: .retAddr 1 :: st) m := by
  obtain ⟨p, l, e, R, s, mi, args, below, meth, c, Q, ⟨base, b, D, cy, n0, s0⟩⟩ := X
  obtain ⟨cc, own, fr, lo, kind, nL, ret, Lx, xs⟩ := j
  obtain ⟨hx, hb, hml, hown, hts, hK, hNe, hAO, hfr, hlo, hrc, hrs, hsz, hki, hks, hri, hrj, hrv⟩ := hC
  obtain ⟨k1, k2⟩ := k
  refine And.intro k1 (fun H locs ls h1 h2 hP hS hL => ?_)
  obtain ⟨hX, hbs, hbb⟩ := hks hk2
  exact va_sld (A := fun q => base ≤ q) hx hb hX hbs (Nat.not_le.mpr hbb) hS hi d (k2 H locs ls h1 h2 hP hS hL)

theorem g_scl {X : aX} {j : aJ} {r : aRes} (hC : aCx X j r) {pc : Nat} {L st : List Value} {m : aM} (hk2 : j.2.2.2.2.1 = 2) (d : decode j.1 pc = .ok (.arraylength, 1)) (k : aGW X j r (pc + 1) L (.int (Int32.ofNat j.2.2.2.2.2.2.2.1) :: st) m) : aGW X j r pc L (.retAddr 1 :: st) m := by
  obtain ⟨p, l, e, R, s, mi, args, below, meth, c, Q, ⟨base, b, D, cy, n0, s0⟩⟩ := X
  obtain ⟨cc, own, fr, lo, kind, nL, ret, Lx, xs⟩ := j
  obtain ⟨hx, hb, hml, hown, hts, hK, hNe, hAO, hfr, hlo, hrc, hrs, hsz, hki, hks, hri, hrj, hrv⟩ := hC
  obtain ⟨k1, k2⟩ := k
  refine And.intro k1 (fun H locs ls h1 h2 hP hS hL => ?_)
  obtain ⟨hX, hbs, hbb⟩ := hks hk2
  exact va_slen (A := fun q => base ≤ q) hx hb hX hbs (Nat.not_le.mpr hbb) hS d (k2 H locs ls h1 h2 hP hS hL)
