/-! THE LAYER: an abstract memory with small places for addresses, programs as functions over it (continuations), and the judgement that the machine does what such a function says -/
/-- the words that every method rests on: the good ones of the tables -/
def aG : List Cond := lw_tbl.filter goodWord
theorem aG_in {w : Cond} (h : w ∈ lw_tbl) (hg : goodWord w = true) : w ∈ aG := List.mem_filter.mpr ⟨h, hg⟩
theorem aG_good {cd : Cond} (h : cd ∈ aG) : GoodIn aG (cd :: aG) := fun w hw => by
  have hm : w ∈ aG := by
    rcases List.mem_cons.mp hw with e | e
    · rw [e]; exact h
    · exact e
  exact ⟨hm, good_of_word (List.mem_filter.mp hm).2⟩
/-- a memory: of a place its kind (below 10 a class's number, 10 ints, 11 longs, 12 booleans, 13 States) and its length; ints; longs; references; how many places; how many slots -/
abbrev aM : Type := (Nat → Nat × Nat) × (Nat → Nat → Int32) × (Nat → Nat → Int64) × (Nat → Nat → Option Nat) × Nat × Nat
abbrev mT (m : aM) : Nat → Nat × Nat := m.1
abbrev mI (m : aM) : Nat → Nat → Int32 := m.2.1
abbrev mJ (m : aM) : Nat → Nat → Int64 := m.2.2.1
abbrev mR (m : aM) : Nat → Nat → Option Nat := m.2.2.2.1
abbrev mN (m : aM) : Nat := m.2.2.2.2.1
abbrev mS (m : aM) : Nat := m.2.2.2.2.2
def a_up2 {α : Type} (f : Nat → Nat → α) (p k : Nat) (v : α) : Nat → Nat → α := va_up f p (va_up (f p) k v)
theorem a_up2_at {α : Type} (f : Nat → Nat → α) (p k : Nat) (v : α) : a_up2 f p k v p = va_up (f p) k v := va_up_self _ _ _
theorem a_up2_ne {α : Type} (f : Nat → Nat → α) {p q : Nat} (k : Nat) (v : α) (h : q ≠ p) : a_up2 f p k v q = f q := va_up_ne _ _ h
def m_sI (m : aM) (p k : Nat) (v : Int32) : aM := (m.1, a_up2 m.2.1 p k v, m.2.2.1, m.2.2.2.1, m.2.2.2.2.1, m.2.2.2.2.2)
def m_sJ (m : aM) (p k : Nat) (v : Int64) : aM := (m.1, m.2.1, a_up2 m.2.2.1 p k v, m.2.2.2.1, m.2.2.2.2.1, m.2.2.2.2.2)
def m_sR (m : aM) (p k : Nat) (v : Option Nat) : aM := (m.1, m.2.1, m.2.2.1, a_up2 m.2.2.2.1 p k v, m.2.2.2.2.1, m.2.2.2.2.2)
def m_row (m : aM) (p : Nat) (f : Nat → Int32) : aM := (m.1, va_up m.2.1 p f, m.2.2.1, m.2.2.2.1, m.2.2.2.2.1, m.2.2.2.2.2)
def m_new (m : aM) (kind len : Nat) : aM := (va_up m.1 m.2.2.2.2.1 (kind, len), va_up m.2.1 m.2.2.2.2.1 (fun _ => 0), va_up m.2.2.1 m.2.2.2.2.1 (fun _ => 0), va_up m.2.2.2.1 m.2.2.2.2.1 (fun _ => none), m.2.2.2.2.1 + 1, m.2.2.2.2.2 + len)
/-- the type of a class's field -/
def a_ty (ci k : Nat) : FieldType := match ci with
  | 0 => tyX0 k
  | 1 => tyX1 k
  | 2 => tyX2 k
  | 3 => tyX3 k
  | 4 => tyX4 k
  | 5 => tyX5 k
  | 6 => tyX6 k
  | 7 => tyX7 k
  | 8 => tyX8 k
  | _ => tyX9 k
def a_it (t : FieldType) : Bool := match t with
  | .int => true
  | .boolean => true
  | _ => false
def a_fv (base : Nat) (m : aM) (p ci k : Nat) : Value := if a_it (a_ty ci k) = true then .int (mI m p k) else va_rf ((mR m p k).map (base + ·))
/-- the cell of a place -/
def a_cell (base : Nat) (cy : Nat → ClassId) (m : aM) (p : Nat) : va_E :=
  if (mT m p).1 < 10 then .inr ((mT m p).1, (List.range (mT m p).2).map (a_fv base m p (mT m p).1))
  else if (mT m p).1 = 11 then .inl (cy 11, (mT m p).2, .inr (.inl (mJ m p)))
  else if (mT m p).1 = 13 then .inl (cy 13, (mT m p).2, .inr (.inr (.inr (.inr (fun j => (mR m p j).map (base + ·))))))
  else .inl (cy (mT m p).1, (mT m p).2, .inl (mI m p))
def a_ws (base : Nat) (cy : Nat → ClassId) (m : aM) : va_W := (List.range (mN m)).map (fun p => (base + p, a_cell base cy m p))
theorem a_ws_at {base : Nat} {cy : Nat → ClassId} {m : aM} {p : Nat} (h : p < mN m) : (a_ws base cy m)[p]? = some (base + p, a_cell base cy m p) := by
  simp [a_ws, List.getElem?_map, List.getElem?_range h]
theorem a_ws_of {base : Nat} {cy : Nat → ClassId} {m : aM} {k : Nat} {q : Nat × va_E} (h : (a_ws base cy m)[k]? = some q) : k < mN m ∧ q = (base + k, a_cell base cy m k) := by
  have hl : k < mN m := by
    have := (List.getElem?_eq_some_iff.mp h).1
    simpa [a_ws] using this
  rw [a_ws_at hl] at h
  exact ⟨hl, (Option.some.inj h).symm⟩
theorem a_ws_D {base : Nat} {cy : Nat → ClassId} {m : aM} : va_D (fun q => base ≤ q) (a_ws base cy m) := by
  refine ⟨fun i j x y hx hy hxy => ?_, fun k q hq => ?_⟩
  · obtain ⟨-, rfl⟩ := a_ws_of hx
    obtain ⟨-, rfl⟩ := a_ws_of hy
    have h : base + i = base + j := hxy
    omega
  · obtain ⟨-, rfl⟩ := a_ws_of hq
    exact Nat.le_add_right _ _
theorem a_ws_set {base : Nat} {cy : Nat → ClassId} {m m' : aM} {p : Nat} {e : va_E} (hn : mN m' = mN m) (he : a_cell base cy m' p = e) (ho : ∀ q, q ≠ p → a_cell base cy m' q = a_cell base cy m q) : (a_ws base cy m).set p (base + p, e) = a_ws base cy m' := by
  apply List.ext_getElem?
  intro k
  by_cases hk : k < mN m
  · by_cases hkp : k = p
    · subst hkp
      rw [List.getElem?_set_self (by simpa [a_ws] using hk), a_ws_at (by omega), he]
    · rw [List.getElem?_set_ne (Ne.symm hkp), a_ws_at hk, a_ws_at (by omega), ho k hkp]
  · rw [List.getElem?_eq_none (by simp [a_ws]; omega), List.getElem?_eq_none (by simp [a_ws]; omega)]
theorem a_ws_push {base : Nat} {cy : Nat → ClassId} {m m' : aM} {e : va_E} (hn : mN m' = mN m + 1) (he : a_cell base cy m' (mN m) = e) (ho : ∀ q, q < mN m → a_cell base cy m' q = a_cell base cy m q) : a_ws base cy m ++ [(base + mN m, e)] = a_ws base cy m' := by
  apply List.ext_getElem?
  intro k
  by_cases hk : k < mN m
  · rw [List.getElem?_append_left (by simpa [a_ws] using hk), a_ws_at hk, a_ws_at (by omega), ho k hk]
  · by_cases hk2 : k = mN m
    · subst hk2
      rw [List.getElem?_append_right (by simp [a_ws]), a_ws_at (by omega), he]
      simp [a_ws]
    · rw [List.getElem?_eq_none (by simp [a_ws]; omega), List.getElem?_eq_none (by simp [a_ws]; omega)]
/-- a value of the abstract side as the machine has it: places become addresses; retAddr 1 is the script, retAddr 0 nothing -/
def a_em (base b : Nat) : Value → Value
  | .ref q => .ref (base + q)
  | .retAddr _ => .ref b
  | v => v
theorem a_em_cat (base b : Nat) (v : Value) : (a_em base b v).category = v.category := by cases v <;> rfl
theorem a_em_wt (base b : Nat) (st : List Value) : ((st.map (a_em base b)).map fun v => v.category).sum = (st.map fun v => v.category).sum := by
  rw [List.map_map]
  congr 1
  apply List.map_congr_left
  intro v _
  exact a_em_cat base b v
def a_rv : Option Nat → Value
  | none => .null
  | some q => .ref q
theorem a_rv_em (base b : Nat) (q : Option Nat) : a_em base b (a_rv q) = va_rf (q.map (base + ·)) := by cases q <;> rfl
abbrev a_jk : Value := .retAddr 0
/-- locals -/
def a_lr (base b nL : Nat) (L : List Value) (ls : Array Slot) : Prop := L.length = nL ∧ ls.size = nL ∧ lv_wf ls ∧ ∀ (i : Nat) (v : Value), L[i]? = some v → v ≠ a_jk → ls[i]? = some (.val (a_em base b v))
def a_ki (L : List Value) (i : Nat) : List Value := match i with
  | 0 => L
  | j + 1 => if (L.getD j a_jk).category = 2 then L.set j a_jk else L
def a_s1 (L : List Value) (i : Nat) (v : Value) : List Value := (a_ki L i).set i v
def a_s2 (L : List Value) (i : Nat) (v : Value) : List Value := ((a_ki L i).set (i + 1) a_jk).set i v
def a_prs (base b : Nat) (L : List Value) : List (Nat × Value) := (List.range L.length).filterMap (fun i => if L.getD i a_jk = a_jk then none else some (i, a_em base b (L.getD i a_jk)))
theorem a_prs_mem {base b : Nat} {L : List Value} {i : Nat} {w : Value} : (i, w) ∈ a_prs base b L ↔ ∃ v, L[i]? = some v ∧ v ≠ a_jk ∧ w = a_em base b v := by
  simp only [a_prs, List.mem_filterMap, List.mem_range]
  constructor
  · rintro ⟨j, hj, h⟩
    by_cases e : L.getD j a_jk = a_jk
    · rw [if_pos e] at h
      cases h
    · rw [if_neg e] at h
      have h2 := Option.some.inj h
      have h3 : j = i := congrArg Prod.fst h2
      have h4 : a_em base b (L.getD j a_jk) = w := congrArg Prod.snd h2
      subst h3
      refine ⟨L.getD j a_jk, ?_, e, h4.symm⟩
      rw [List.getD_eq_getElem?_getD, List.getElem?_eq_getElem hj]
      rfl
  · rintro ⟨v, h1, h2, h3⟩
    have hj := (List.getElem?_eq_some_iff.mp h1).1
    have e : L.getD i a_jk = v := by rw [List.getD_eq_getElem?_getD, h1]; rfl
    exact ⟨i, hj, by rw [e, if_neg h2, h3]⟩
theorem a_lr_has {base b nL : Nat} {L : List Value} {ls : Array Slot} (h : a_lr base b nL L ls) : lv_has ls nL (a_prs base b L) := by
  refine ⟨h.2.1, h.2.2.1, fun q hq => ?_⟩
  obtain ⟨v, h1, h2, h3⟩ := a_prs_mem.mp (show (q.1, q.2) ∈ a_prs base b L from hq)
  rw [h3]
  exact h.2.2.2 _ v h1 h2
theorem a_lr_at {base b nL : Nat} {L : List Value} {ls : Array Slot} (h : a_lr base b nL L ls) {i : Nat} {v : Value} (hv : L.getD i a_jk = v) (hj : v ≠ a_jk) : ls[i]? = some (.val (a_em base b v)) := by
  refine h.2.2.2 i v ?_ hj
  rw [List.getD_eq_getElem?_getD] at hv
  cases e : L[i]? with
  | none => rw [e] at hv; exact absurd hv.symm hj
  | some w => rw [e] at hv; rw [show w = v from hv]
theorem a_ki_len (L : List Value) (i : Nat) : (a_ki L i).length = L.length := by
  unfold a_ki
  split
  · rfl
  · split
    · simp
    · rfl
theorem a_ki_at {L : List Value} {i j : Nat} {v : Value} (h : (a_ki L i)[j]? = some v) (hj : v ≠ a_jk) : L[j]? = some v ∧ ¬ (j + 1 = i ∧ v.category = 2) := by
  unfold a_ki at h
  split at h
  · exact ⟨h, fun q => by omega⟩
  · rename_i n
    split at h
    · rename_i hx
      by_cases e : j = n
      · subst e
        by_cases hl : j < L.length
        · rw [List.getElem?_set_self hl] at h
          exact absurd (Option.some.inj h).symm hj
        · rw [List.getElem?_eq_none (by simp; omega)] at h
          cases h
      · rw [List.getElem?_set_ne (Ne.symm e)] at h
        exact ⟨h, fun q => e (by omega)⟩
    · rename_i hx
      refine ⟨h, fun q => ?_⟩
      have e : j = n := by omega
      subst e
      have h2 : L.getD j a_jk = v := by rw [List.getD_eq_getElem?_getD, h]; rfl
      exact hx (by rw [h2]; exact q.2)
theorem a_lr_s1 {base b nL : Nat} {L : List Value} {i : Nat} {v : Value} {ls' : Array Slot} (hL : L.length = nL) (hi : i < nL) (h : lv_has ls' nL ((i, a_em base b v) :: (a_prs base b L).filter (fun q => !(q.1 == i) && !(q.1 + 1 == i && q.2.category == 2)))) : a_lr base b nL (a_s1 L i v) ls' := by
  refine ⟨by simp [a_s1, a_ki_len, hL], h.1, h.2.1, fun j w hj hw => ?_⟩
  by_cases e : j = i
  · subst e
    rw [a_s1, List.getElem?_set_self (by rw [a_ki_len, hL]; exact hi)] at hj
    rw [← Option.some.inj hj]
    exact h.2.2 (j, a_em base b v) List.mem_cons_self
  · rw [a_s1, List.getElem?_set_ne (Ne.symm e)] at hj
    obtain ⟨h1, h2⟩ := a_ki_at hj hw
    refine h.2.2 (j, a_em base b w) (List.mem_cons_of_mem _ (List.mem_filter.mpr ⟨a_prs_mem.mpr ⟨w, h1, hw, rfl⟩, ?_⟩))
    have h3 : ¬ (j + 1 = i ∧ (a_em base b w).category = 2) := by rw [a_em_cat]; exact h2
    simp only [Bool.and_eq_true, Bool.not_eq_true', beq_eq_false_iff_ne, ne_eq, Bool.and_eq_false_iff]
    refine ⟨e, ?_⟩
    by_cases h4 : j + 1 = i
    · exact Or.inr (fun q => h3 ⟨h4, q⟩)
    · exact Or.inl h4
theorem a_lr_s2 {base b nL : Nat} {L : List Value} {i : Nat} {v : Value} {ls' : Array Slot} (hL : L.length = nL) (hi : i + 1 < nL) (h : lv_has ls' nL ((i, a_em base b v) :: (a_prs base b L).filter (fun q => !(q.1 == i) && (!(q.1 == i + 1) && !(q.1 + 1 == i && q.2.category == 2))))) : a_lr base b nL (a_s2 L i v) ls' := by
  refine ⟨by simp [a_s2, a_ki_len, hL], h.1, h.2.1, fun j w hj hw => ?_⟩
  by_cases e : j = i
  · subst e
    rw [a_s2, List.getElem?_set_self (by rw [List.length_set, a_ki_len, hL]; omega)] at hj
    rw [← Option.some.inj hj]
    exact h.2.2 (j, a_em base b v) List.mem_cons_self
  · rw [a_s2, List.getElem?_set_ne (Ne.symm e)] at hj
    by_cases e2 : j = i + 1
    · subst e2
      rw [List.getElem?_set_self (by rw [a_ki_len, hL]; exact hi)] at hj
      exact absurd (Option.some.inj hj).symm hw
    · rw [List.getElem?_set_ne (Ne.symm e2)] at hj
      obtain ⟨h1, h2⟩ := a_ki_at hj hw
      refine h.2.2 (j, a_em base b w) (List.mem_cons_of_mem _ (List.mem_filter.mpr ⟨a_prs_mem.mpr ⟨w, h1, hw, rfl⟩, ?_⟩))
      have h3 : ¬ (j + 1 = i ∧ (a_em base b w).category = 2) := by rw [a_em_cat]; exact h2
      simp only [Bool.and_eq_true, Bool.not_eq_true', beq_eq_false_iff_ne, ne_eq, Bool.and_eq_false_iff]
      refine ⟨e, e2, ?_⟩
      by_cases h4 : j + 1 = i
      · exact Or.inr (fun q => h3 ⟨h4, q⟩)
      · exact Or.inl h4
/-- fewer locals are known -/
def a_fg (n : Nat) (L : List Value) : List Value := L.take n ++ List.replicate (L.length - n) a_jk
theorem a_lr_fg {base b nL : Nat} {L : List Value} {ls : Array Slot} (n : Nat) (h : a_lr base b nL L ls) : a_lr base b nL (a_fg n L) ls := by
  refine ⟨by simp only [a_fg, List.length_append, List.length_take, List.length_replicate]; have := h.1; omega, h.2.1, h.2.2.1, fun i v hi hv => ?_⟩
  unfold a_fg at hi
  by_cases hl : i < (L.take n).length
  · rw [List.getElem?_append_left hl] at hi
    rw [List.getElem?_take_of_lt (by simp at hl; omega)] at hi
    exact h.2.2.2 i v hi hv
  · rw [List.getElem?_append_right (by omega)] at hi
    have := List.mem_of_getElem? hi
    exact absurd (List.eq_of_mem_replicate this) hv
/-- a value that may be handed to a method -/
def a_pv (v : Value) : Prop := (∃ x, v = .int x) ∨ (∃ q, v = .ref q) ∨ v = .null
theorem a_pv_cat {v : Value} (h : a_pv v) : v.category = 1 := by
  rcases h with ⟨x, rfl⟩ | ⟨q, rfl⟩ | rfl <;> rfl
theorem a_pv_rv (q : Option Nat) : a_pv (a_rv q) := by
  cases q with
  | none => exact Or.inr (Or.inr rfl)
  | some q => exact Or.inr (Or.inl ⟨q, rfl⟩)
/-- the locals at a method's entry -/
def a_l0 (nL : Nat) (vs : List Value) : List Value := vs ++ List.replicate (nL - vs.length) a_jk
theorem a_args (f : Value → Value) : ∀ (vs : List Value) (k i : Nat) (v : Value), (∀ v ∈ vs, (f v).category = 1) → vs[i]? = some v → (k + i, f v) ∈ lv_args k (vs.map f)
  | [], _, _, _, _, h => by simp at h
  | w :: vs, k, i, v, hc, h => by
    have h1 : ¬ (f w).category = 2 := by rw [hc w List.mem_cons_self]; decide
    simp only [List.map_cons, lv_args, if_neg h1]
    cases i with
    | zero =>
      rw [List.getElem?_cons_zero] at h
      rw [← Option.some.inj h]
      exact List.mem_cons_self
    | succ i =>
      rw [List.getElem?_cons_succ] at h
      refine List.mem_cons_of_mem _ ?_
      have := a_args f vs (k + 1) i v (fun v hv => hc v (List.mem_cons_of_mem _ hv)) h
      rw [show k + (i + 1) = k + 1 + i by omega]
      exact this
theorem a_sl : ∀ (vs : List Value), (∀ v ∈ vs, v.category = 1) → (lg_sl vs).length = vs.length
  | [], _ => by simp [lg_sl]
  | w :: vs, hc => by
    have h1 : w.category = 1 := hc w List.mem_cons_self
    have ih := a_sl vs (fun v hv => hc v (List.mem_cons_of_mem _ hv))
    have h2 : lg_sl (w :: vs) = Slot.val w :: lg_sl vs := by simp [lg_sl, h1]
    rw [h2, List.length_cons, List.length_cons, ih]
theorem a_lr_0 {base b nL : Nat} {vs : List Value} (hn : vs.length ≤ nL) (hp : ∀ v ∈ vs, v.category = 1) : a_lr base b nL (a_l0 nL vs) ((lg_sl (vs.map (a_em base b)) ++ List.replicate (nL - (lg_sl (vs.map (a_em base b))).length) Slot.unset).toArray) := by
  have hc : ∀ v ∈ vs, (a_em base b v).category = 1 := fun v hv => by rw [a_em_cat]; exact hp v hv
  have hl : (lg_sl (vs.map (a_em base b))).length = vs.length := by
    rw [a_sl _ (fun v hv => by obtain ⟨w, h1, h2⟩ := List.mem_map.mp hv; rw [← h2]; exact hc w h1), List.length_map]
  have he := lv_entry (vs.map (a_em base b)) (n := nL) (by omega)
  refine ⟨by simp only [a_l0, List.length_append, List.length_replicate]; omega, he.1, he.2.1, fun i v hi hv => ?_⟩
  unfold a_l0 at hi
  by_cases h : i < vs.length
  · rw [List.getElem?_append_left h] at hi
    have := he.2.2 _ (a_args (a_em base b) vs 0 i v hc hi)
    simpa using this
  · rw [List.getElem?_append_right (by omega)] at hi
    exact absurd (List.eq_of_mem_replicate (List.mem_of_getElem? hi)) hv
