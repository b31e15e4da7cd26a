/-! programs as functions: an expression hands its value on, a statement goes on, a condition has two ways -/
abbrev aK : Type := List Value → aM → Option aRes
abbrev aE (α : Type) : Type := (α → aK) → aK
abbrev aC : Type := aK → aK → aK
abbrev aP : Type := aK → aK
def a_wt (st : List Value) : Nat := (st.map fun v => v.category).sum
theorem a_wt_cons (v : Value) (st : List Value) : a_wt (v :: st) = v.category + a_wt st := by simp [a_wt]
/-- the machine goes from pc to pc' and pushes what e hands on -/
def aEv (j : aJ) (w : Nat) {α : Type} (f : α → Value) (pc pc' : Nat) (e : aE α) : Prop :=
  ∀ (X : aX) (r : aRes), aCx X j r → ∀ (k : α → aK) (L st : List Value) (m : aM), a_wt st ≤ w → e k L m = some r → (∀ (x : α) (L' : List Value) (m' : aM), k x L' m' = some r → aGW X j r pc' L' (f x :: st) m') → aGW X j r pc L st m
abbrev vI : Int32 → Value := Value.int
abbrev vJ : Int64 → Value := Value.long
/-- several values, for a call -/
def aAs (j : aJ) (w : Nat) (n : Nat) (pc pc' : Nat) (e : aE (List Value)) : Prop :=
  ∀ (X : aX) (r : aRes), aCx X j r → ∀ (k : List Value → aK) (L st : List Value) (m : aM), a_wt st ≤ w → e k L m = some r → (∀ (vs : List Value) (L' : List Value) (m' : aM), vs.length = n → (∀ v ∈ vs, a_pv v) → k vs L' m' = some r → aGW X j r pc' L' (vs.reverse ++ st) m') → aGW X j r pc L st m
/-- goes to pc' where c goes its first way, to tgt where it goes the other: a jump if false, a jump if true -/
def aCd (j : aJ) (w : Nat) (pc pt pf : Nat) (c : aC) : Prop :=
  ∀ (X : aX) (r : aRes), aCx X j r → ∀ (kt kf : aK) (L st : List Value) (m : aM), a_wt st ≤ w → c kt kf L m = some r → (∀ (L' : List Value) (m' : aM), kt L' m' = some r → aGW X j r pt L' st m') → (∀ (L' : List Value) (m' : aM), kf L' m' = some r → aGW X j r pf L' st m') → aGW X j r pc L st m
def aRn (j : aJ) (pc pc' : Nat) (s : aP) : Prop :=
  ∀ (X : aX) (r : aRes), aCx X j r → ∀ (k : aK) (L : List Value) (m : aM), s k L m = some r → (∀ (L' : List Value) (m' : aM), k L' m' = some r → aGW X j r pc' L' [] m') → aGW X j r pc L [] m

def e_ic (v : Int32) : aE Int32 := fun k => k v
def e_jc (v : Int64) : aE Int64 := fun k => k v
def e_nl : aE (Option Nat) := fun k => k none
def e_il (i : Nat) : aE Int32 := fun k L m => match L.getD i a_jk with
  | .int x => k x L m
  | _ => none
def e_jl (i : Nat) : aE Int64 := fun k L m => match L.getD i a_jk with
  | .long x => k x L m
  | _ => none
def e_al (i : Nat) : aE (Option Nat) := fun k L m => match L.getD i a_jk with
  | .ref q => k (some q) L m
  | .null => k none L m
  | _ => none
def e_i2 (f : Int32 → Int32 → Int32) (a b : aE Int32) : aE Int32 := fun k => a (fun x => b (fun y => k (f x y)))
def e_j2 (f : Int64 → Int64 → Int64) (a b : aE Int64) : aE Int64 := fun k => a (fun x => b (fun y => k (f x y)))
def e_id (a b : aE Int32) : aE Int32 := fun k => a (fun x => b (fun y L m => if y = 0 then none else k (x / y) L m))
def e_ir (a b : aE Int32) : aE Int32 := fun k => a (fun x => b (fun y L m => if y = 0 then none else k (x - x / y * y) L m))
def e_jd (a b : aE Int64) : aE Int64 := fun k => a (fun x => b (fun y L m => if y = 0 then none else k (x / y) L m))
def e_jr (a b : aE Int64) : aE Int64 := fun k => a (fun x => b (fun y L m => if y = 0 then none else k (x - x / y * y) L m))
def e_w (a : aE Int32) : aE Int64 := fun k => a (fun x => k x.toInt64)
def e_n (a : aE Int64) : aE Int32 := fun k => a (fun x => k x.toInt32)
def e_gi (ci N f : Nat) (a : aE (Option Nat)) : aE Int32 := fun k => a (fun o L m => match o with
  | some q => if mT m q = (ci, N) then k (mI m q f) L m else none
  | none => none)
def e_gr (ci N f : Nat) (a : aE (Option Nat)) : aE (Option Nat) := fun k => a (fun o L m => match o with
  | some q => if mT m q = (ci, N) then k (mR m q f) L m else none
  | none => none)
/-- an index within n -/
def a_ix (i : Int32) (n : Nat) : Bool := decide (0 ≤ i.toInt) && decide (i.toInt < n)
theorem a_ix_in {i : Int32} {n : Nat} (h : a_ix i n = true) : vp_in i n := by
  simp only [a_ix, Bool.and_eq_true, decide_eq_true_eq] at h
  exact vp_in_iff.mpr h
/-- the element of an array: kd its kind -/
def a_rd {α : Type} (kd : Nat) (g : aM → Nat → Nat → α) (a : aE (Option Nat)) (i : aE Int32) : aE α := fun k => a (fun o => i (fun x L m => match o with
  | some q => if (mT m q).1 = kd ∧ a_ix x (mT m q).2 = true then k (g m q x.toNatClampNeg) L m else none
  | none => none))
def e_ia : aE (Option Nat) → aE Int32 → aE Int32 := a_rd 10 mI
def e_za : aE (Option Nat) → aE Int32 → aE Int32 := a_rd 12 mI
def e_ja : aE (Option Nat) → aE Int32 → aE Int64 := a_rd 11 mJ
def e_ra : aE (Option Nat) → aE Int32 → aE (Option Nat) := a_rd 13 mR
def e_len (a : aE (Option Nat)) : aE Int32 := fun k => a (fun o L m => match o with
  | some q => if (mT m q).1 = 10 then k (Int32.ofNat (mT m q).2) L m else none
  | none => none)
def e_sc (Lx : Nat) (xs : Nat → Int32) (l : Nat) (i : aE Int32) : aE Int32 := fun k L m => match L.getD l a_jk with
  | .retAddr 1 => i (fun x L m => if a_ix x Lx = true then k (xs x.toNatClampNeg) L m else none) L m
  | _ => none
def e_sl (Lx l : Nat) : aE Int32 := fun k L m => match L.getD l a_jk with
  | .retAddr 1 => k (Int32.ofNat Lx) L m
  | _ => none
def v_nil : aE (List Value) := fun k => k []
def v_i (a : aE Int32) (r : aE (List Value)) : aE (List Value) := fun k => a (fun x => r (fun vs => k (.int x :: vs)))
def v_r (a : aE (Option Nat)) (r : aE (List Value)) : aE (List Value) := fun k => a (fun x => r (fun vs => k (a_rv x :: vs)))
abbrev aF : Type := List Value → aM → Option aRes
def a_ci (m0 : aM) (o : Option aRes) (k : Int32 → aM → Option aRes) : Option aRes := match o with
  | some (some (.int v), m) => if mN m0 ≤ mN m ∧ mS m0 ≤ mS m then k v m else none
  | _ => none
def a_cj (m0 : aM) (o : Option aRes) (k : Int64 → aM → Option aRes) : Option aRes := match o with
  | some (some (.long v), m) => if mN m0 ≤ mN m ∧ mS m0 ≤ mS m then k v m else none
  | _ => none
def a_cv (m0 : aM) (o : Option aRes) (k : aM → Option aRes) : Option aRes := match o with
  | some (none, m) => if mN m0 ≤ mN m ∧ mS m0 ≤ mS m then k m else none
  | _ => none
def e_ci (F : aF) (a : aE (List Value)) : aE Int32 := fun k => a (fun vs L m => a_ci m (F vs m) (fun v => k v L))
def e_cj (F : aF) (a : aE (List Value)) : aE Int64 := fun k => a (fun vs L m => a_cj m (F vs m) (fun v => k v L))
def s_cv (F : aF) (a : aE (List Value)) : aP := fun k => a (fun vs L m => a_cv m (F vs m) (fun m => k L m))
def e_vi (ci N : Nat) (F : aF) (o : aE (Option Nat)) (a : aE (List Value)) : aE Int32 := fun k => o (fun q => a (fun vs L m => match q with
  | some q => if mT m q = (ci, N) then a_ci m (F (.ref q :: vs) m) (fun v => k v L) else none
  | none => none))
def e_vj (ci N : Nat) (F : aF) (o : aE (Option Nat)) (a : aE (List Value)) : aE Int64 := fun k => o (fun q => a (fun vs L m => match q with
  | some q => if mT m q = (ci, N) then a_cj m (F (.ref q :: vs) m) (fun v => k v L) else none
  | none => none))
def s_vv (ci N : Nat) (F : aF) (o : aE (Option Nat)) (a : aE (List Value)) : aP := fun k => o (fun q => a (fun vs L m => match q with
  | some q => if mT m q = (ci, N) then a_cv m (F (.ref q :: vs) m) (fun m => k L m) else none
  | none => none))
/-- a new object, its constructor called -/
def e_new (ci N : Nat) (F : aF) : aE (Option Nat) := fun k L m => a_cv (m_new m ci N) (F [.ref (mN m)] (m_new m ci N)) (fun m9 => k (some (mN m)) L m9)
def e_na (kd : Nat) (n : aE Int32) : aE (Option Nat) := fun k => n (fun x L m => if 0 ≤ x.toInt ∧ x.toInt ≤ 60000 then k (some (mN m)) L (m_new m kd x.toNatClampNeg) else none)
def e_min (a b : aE Int32) : aE Int32 := fun k => a (fun x => b (fun y => k (if y < x then y else x)))
def e_if {α : Type} (c : aC) (a b : aE α) : aE α := fun k => c (a k) (b k)
def c_lt (a b : aE Int32) : aC := fun kt kf => a (fun x => b (fun y L m => if x < y then kt L m else kf L m))
def c_le (a b : aE Int32) : aC := fun kt kf => a (fun x => b (fun y L m => if x ≤ y then kt L m else kf L m))
def c_eq (a b : aE Int32) : aC := fun kt kf => a (fun x => b (fun y L m => if x = y then kt L m else kf L m))
def c_lt0 (a : aE Int32) : aC := fun kt kf => a (fun x L m => if x < 0 then kt L m else kf L m)
def c_le0 (a : aE Int32) : aC := fun kt kf => a (fun x L m => if x ≤ 0 then kt L m else kf L m)
def c_eq0 (a : aE Int32) : aC := fun kt kf => a (fun x L m => if x = 0 then kt L m else kf L m)
def c_jlt (a b : aE Int64) : aC := fun kt kf => a (fun x => b (fun y L m => if x < y then kt L m else kf L m))
def c_jle (a b : aE Int64) : aC := fun kt kf => a (fun x => b (fun y L m => if x ≤ y then kt L m else kf L m))
def c_jeq (a b : aE Int64) : aC := fun kt kf => a (fun x => b (fun y L m => if x = y then kt L m else kf L m))
def c_nl (a : aE (Option Nat)) : aC := fun kt kf => a (fun o L m => match o with
  | none => kt L m
  | some _ => kf L m)
def c_not (c : aC) : aC := fun kt kf => c kf kt
def c_and (c d : aC) : aC := fun kt kf => c (d kt kf) kf
def c_or (c d : aC) : aC := fun kt kf => c kt (d kt kf)
def s_sk : aP := fun k => k
def s_sq (s t : aP) : aP := fun k => s (t k)
def s_if (c : aC) (s t : aP) : aP := fun k => c (s k) (t k)
def s_wh (c : aC) (s : aP) : Nat → aP
  | 0 => fun _ _ _ => none
  | n + 1 => fun k => c (s (s_wh c s n k)) k
def s_il (i : Nat) (e : aE Int32) : aP := fun k => e (fun x L m => k (a_s1 L i (.int x)) m)
def s_jl (i : Nat) (e : aE Int64) : aP := fun k => e (fun x L m => k (a_s2 L i (.long x)) m)
def s_al (i : Nat) (e : aE (Option Nat)) : aP := fun k => e (fun o L m => match o with
  | some q => k (a_s1 L i (.ref q)) m
  | none => none)
def s_ii (i : Nat) (n : Int32) : aP := fun k L m => match L.getD i a_jk with
  | .int x => k (a_s1 L i (.int (x + n))) m
  | _ => none
def s_fg (n : Nat) : aP := fun k L m => k (a_fg n L) m
def s_gi (ci N f : Nat) (a : aE (Option Nat)) (e : aE Int32) : aP := fun k => a (fun o => e (fun x L m => match o with
  | some q => if mT m q = (ci, N) then k L (m_sI m q f x) else none
  | none => none))
def s_gz (ci N f : Nat) (a : aE (Option Nat)) (e : aE Int32) : aP := fun k => a (fun o => e (fun x L m => match o with
  | some q => if mT m q = (ci, N) ∧ (x = 0 ∨ x = 1) then k L (m_sI m q f x) else none
  | none => none))
def s_gr (ci N f : Nat) (a : aE (Option Nat)) (e : aE (Option Nat)) : aP := fun k => a (fun o => e (fun x L m => match o with
  | some q => if mT m q = (ci, N) then k L (m_sR m q f x) else none
  | none => none))
/-- a field changed by what it held -/
def s_go (g : Int32 → Int32 → Int32) (ci N f : Nat) (a : aE (Option Nat)) (e : aE Int32) : aP := fun k => a (fun o L m => match o with
  | some q => if mT m q = (ci, N) then e (fun x L m' => if mT m' q = (ci, N) then k L (m_sI m' q f (g (mI m q f) x)) else none) L m else none
  | none => none)
/-- an element is written -/
def a_wr {α : Type} (kd : Nat) (g : aM → Nat → Nat → α → aM) (a : aE (Option Nat)) (i : aE Int32) (e : aE α) : aP := fun k => a (fun o => i (fun x => e (fun v L m => match o with
  | some q => if (mT m q).1 = kd ∧ a_ix x (mT m q).2 = true then k L (g m q x.toNatClampNeg v) else none
  | none => none)))
def m_sZ (m : aM) (p k : Nat) (v : Int32) : aM := m_sI m p k (vp_nar .boolean v)
def s_ia : aE (Option Nat) → aE Int32 → aE Int32 → aP := a_wr 10 m_sI
def s_za : aE (Option Nat) → aE Int32 → aE Int32 → aP := a_wr 12 m_sZ
def s_ja : aE (Option Nat) → aE Int32 → aE Int64 → aP := a_wr 11 m_sJ
def s_ra (a : aE (Option Nat)) (i : aE Int32) (e : aE (Option Nat)) : aP := a_wr 13 m_sR a i (fun k => e (fun v L m => match v with
  | some z => if mT m z = (6, 9) then k v L m else none
  | none => k v L m))
/-- an element changed by what it held -/
def a_op {α : Type} (kd : Nat) (rd : aM → Nat → Nat → α) (g : aM → Nat → Nat → α → aM) (h : α → α → α) (a : aE (Option Nat)) (i : aE Int32) (e : aE α) : aP := fun k => a (fun o => i (fun x L m => match o with
  | some q => if (mT m q).1 = kd ∧ a_ix x (mT m q).2 = true then e (fun v L m' => if (mT m' q).1 = kd ∧ a_ix x (mT m' q).2 = true then k L (g m' q x.toNatClampNeg (h (rd m q x.toNatClampNeg) v)) else none) L m else none
  | none => none))
def s_io (h : Int32 → Int32 → Int32) : aE (Option Nat) → aE Int32 → aE Int32 → aP := a_op 10 mI m_sI h
def s_jo (h : Int64 → Int64 → Int64) : aE (Option Nat) → aE Int32 → aE Int64 → aP := a_op 11 mJ m_sJ h
def s_pi (e : aE Int32) : aP := fun k => e (fun _ => k)
def s_ri (e : aE Int32) : aP := fun _ => e (fun v _ m => some (some (.int v), m))
def s_rz (e : aE Int32) : aP := fun _ => e (fun v _ m => if v = 0 ∨ v = 1 then some (some (.int v), m) else none)
def s_rj (e : aE Int64) : aP := fun _ => e (fun v _ m => some (some (.long v), m))
def s_rv : aP := fun _ _ m => some (none, m)
def s_ob (a : aE (Option Nat)) : aP := fun k => a (fun o L m => match o with
  | some _ => k L m
  | none => none)
/-- how often a loop may go round -/
noncomputable def aN : Nat := Classical.choose (⟨100000, Nat.le_refl _⟩ : ∃ n : Nat, 100000 ≤ n)
theorem aN_ge : 100000 ≤ aN := Classical.choose_spec (⟨100000, Nat.le_refl _⟩ : ∃ n : Nat, 100000 ≤ n)
def s_ac (a : aE (Option Nat)) (sp : aE Int32) (b : aE (Option Nat)) (dp n : aE Int32) : aP := fun k => a (fun o => sp (fun x => b (fun o2 => dp (fun y => n (fun z L m => match o, o2 with
  | some q0, some q1 => if ((mT m q0).1 = 10 ∧ (mT m q1).1 = 10) ∧ (¬ x < 0 ∧ ¬ y < 0 ∧ ¬ z < 0) ∧ x.toNatClampNeg + z.toNatClampNeg ≤ (mT m q0).2 ∧ y.toNatClampNeg + z.toNatClampNeg ≤ (mT m q1).2 then k L (m_row m q1 (va_cpy (mI m q0) (mI m q1) x.toNatClampNeg y.toNatClampNeg z.toNatClampNeg)) else none
  | _, _ => none)))))
def s_sw (e : aE Int32) (cs : List aP) (d : aP) : aP := fun k => e (fun x L m => if 0 ≤ x.toInt ∧ x.toInt < cs.length then (cs.getD x.toInt.toNat d) k L m else d k L m)
