/-! the text, as a function -/
def skf (t : Nat → Int32) : Nat → Nat → Nat
  | 0, i => i
  | d + 1, i => if t i = 32 then skf t d (i + 1) else i
def sk (t : Nat → Int32) (n i : Nat) : Nat := skf t (n - i) i
theorem skf_bd {t : Nat → Int32} : ∀ d i, i ≤ skf t d i ∧ skf t d i ≤ i + d := by
  intro d
  induction d with
  | zero => intro i; exact ⟨Nat.le_refl _, Nat.le_refl _⟩
  | succ d ih =>
    intro i
    simp only [skf]
    split
    · have := ih (i + 1); omega
    · omega
theorem sk_bd {t : Nat → Int32} {n i : Nat} (h : i ≤ n) : i ≤ sk t n i ∧ sk t n i ≤ n := by
  have := skf_bd (t := t) (n - i) i
  unfold sk
  omega
theorem skf_nb {t : Nat → Int32} : ∀ d i, skf t d i < i + d → ¬ t (skf t d i) = 32 := by
  intro d
  induction d with
  | zero => intro i h; simp only [skf] at h; omega
  | succ d ih =>
    intro i h
    simp only [skf] at h ⊢
    by_cases hb : t i = 32
    · rw [if_pos hb] at h ⊢
      exact ih (i + 1) (by omega)
    · rw [if_neg hb]
      exact hb
theorem sk_idem {t : Nat → Int32} {n i : Nat} (h : i ≤ n) : sk t n (sk t n i) = sk t n i := by
  have hb := sk_bd (t := t) h
  by_cases he : sk t n i = n
  · rw [he]
    unfold sk
    rw [Nat.sub_self]
    rfl
  · have hnb : ¬ t (sk t n i) = 32 := skf_nb (t := t) (n - i) i (by unfold sk at he hb; omega)
    have e : n - sk t n i = (n - sk t n i - 1) + 1 := by omega
    generalize sk t n i = j at hnb e
    unfold sk
    rw [e]
    simp only [skf]
    rw [if_neg hnb]
def dgf (t : Nat → Int32) (st : Nat) : Nat → Nat → Int32 → Nat × Int32
  | 0, i, v => (i, v)
  | d + 1, i, v => if d_in (t i) 48 57 = 0 then (i, v) else dgf t st d (i + 1) (if i - st < 3 then 10 * v + t i - 48 else v)
theorem dgf_bd {t : Nat → Int32} {st : Nat} : ∀ d i v, i ≤ (dgf t st d i v).1 ∧ (dgf t st d i v).1 ≤ i + d := by
  intro d
  induction d with
  | zero => intro i v; exact ⟨Nat.le_refl _, Nat.le_refl _⟩
  | succ d ih =>
    intro i v
    simp only [dgf]
    split
    · exact ⟨Nat.le_refl _, by omega⟩
    · have := ih (i + 1) (if i - st < 3 then 10 * v + t i - 48 else v); omega
abbrev pS : Type := Sum (Nat × Nat) Nat
def dg0 (t : Nat → Int32) (n a : Nat) : Nat × Int32 := dgf t (sk t n a) (n - sk t n a) (sk t n a) 0
/-- a number: the state behind it, its value -/
def nxs (t : Nat → Int32) (n : Nat) (lo hi : Int32) (s : pS) : pS × Int32 := match s with
  | .inl f => (.inl f, 0)
  | .inr a => if sk t n a < n ∧ ¬ d_in (t (sk t n a)) 48 57 = 0 then (if 3 < (dg0 t n a).1 - sk t n a ∨ d_in (dg0 t n a).2 lo hi = 0 then (.inl (2, sk t n a), 0) else (.inr (dg0 t n a).1, (dg0 t n a).2)) else (.inl (1, sk t n a), 0)
/-- the end of a clause -/
def nst (t : Nat → Int32) (n : Nat) (s : pS) : pS := match s with
  | .inl f => .inl f
  | .inr a => if sk t n a < n ∧ t (sk t n a) = 59 then .inr (sk t n a + 1) else .inl (1, sk t n a)
def pOk (n : Nat) (s : pS) : Prop := match s with
  | .inl f => 0 < f.1 ∧ f.1 ≤ 3 ∧ f.2 ≤ 250
  | .inr a => a ≤ n
theorem nxs_ok {t : Nat → Int32} {n : Nat} {lo hi : Int32} {s : pS} (hn : n ≤ 250) (h : pOk n s) : pOk n (nxs t n lo hi s).1 := by
  cases s with
  | inl f => exact h
  | inr a =>
    have ha : a ≤ n := h
    have hb := sk_bd (t := t) ha
    have hd := dgf_bd (t := t) (st := sk t n a) (n - sk t n a) (sk t n a) 0
    unfold nxs
    dsimp only
    split
    · split
      · exact ⟨(by decide : 0 < 2), (by decide : 2 ≤ 3), by show sk t n a ≤ 250; omega⟩
      · show (dg0 t n a).1 ≤ n
        unfold dg0
        omega
    · exact ⟨(by decide : 0 < 1), (by decide : 1 ≤ 3), by show sk t n a ≤ 250; omega⟩
theorem nst_ok {t : Nat → Int32} {n : Nat} {s : pS} (hn : n ≤ 250) (h : pOk n s) : pOk n (nst t n s) := by
  cases s with
  | inl f => exact h
  | inr a =>
    have ha : a ≤ n := h
    have hb := sk_bd (t := t) ha
    unfold nst
    dsimp only
    split
    · show sk t n a + 1 ≤ n
      omega
    · exact ⟨(by decide : 0 < 1), (by decide : 1 ≤ 3), by show sk t n a ≤ 250; omega⟩
theorem nxs_r {t : Nat → Int32} {n a : Nat} {lo hi : Int32} {s : pS} (h : (nxs t n lo hi s).1 = .inr a) : (∃ a0, s = .inr a0 ∧ (a0 ≤ n → a0 < a)) ∧ ¬ d_in (nxs t n lo hi s).2 lo hi = 0 := by
  cases s with
  | inl f => cases h
  | inr a0 =>
    unfold nxs at h ⊢
    dsimp only at h ⊢
    split at h
    · rename_i h1
      split at h
      · cases h
      · rename_i h2
        rw [if_pos h1, if_neg h2]
        refine ⟨⟨a0, rfl, fun h0 => ?_⟩, fun hh => h2 (Or.inr hh)⟩
        have e : (dg0 t n a0).1 = a := by injection h
        have hb := sk_bd (t := t) h0
        have e1 : n - sk t n a0 = (n - sk t n a0 - 1) + 1 := by omega
        unfold dg0 at e
        rw [e1] at e
        simp only [dgf] at e
        rw [if_neg h1.2] at e
        have := dgf_bd (t := t) (st := sk t n a0) (n - sk t n a0 - 1) (sk t n a0 + 1) (if sk t n a0 - sk t n a0 < 3 then 10 * 0 + t (sk t n a0) - 48 else 0)
        omega
    · cases h
theorem nst_r {t : Nat → Int32} {n a : Nat} {s : pS} (h : nst t n s = .inr a) : ∃ a0, s = .inr a0 ∧ (a0 ≤ n → a0 < a) := by
  cases s with
  | inl f => cases h
  | inr a0 =>
    unfold nst at h
    dsimp only at h
    split at h
    · refine ⟨a0, rfl, fun h0 => ?_⟩
      have hb := sk_bd (t := t) h0
      have e : sk t n a0 + 1 = a := by injection h
      omega
    · cases h
