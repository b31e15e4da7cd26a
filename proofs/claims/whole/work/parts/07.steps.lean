/-! the judgement: from a place of a method, with locals L, stack st and memory m, the machine comes to the end r -/
abbrev aRes : Type := Option Value × aM
abbrev aX : Type := Program × Launch × Env × Room × State × MethodId × Array Value × List Frame × Method × Code × (State → Prop) × (Nat × Nat × va_G × (Nat → ClassId) × Nat × Nat)
/-- of a method: code, its class, frames, locals' words, what it is (1 a constructor, 2 the law), its locals, what it answers, the script -/
abbrev aJ : Type := ByteArray × String × Nat × Nat × Nat × Nat × Option FieldType × Nat × (Nat → Int32)
/-- behind the last place there is nothing -/
def aWF (m : aM) : Prop := ∀ q, mN m ≤ q → (mT m q).1 = 99
def a_tys (cy : Nat → ClassId) : List (ClassId × FieldType) := [(cy 10, .int), (cy 11, .long), (cy 12, .boolean), (cy 13, .object "QuietOffice$State")]
def aGW : aX → aJ → aRes → Nat → List Value → List Value → aM → Prop := fun ⟨p, l, e, R, s, mi, args, below, meth, c, Q, ⟨base, b, D, cy, n0, s0⟩⟩ j r pc L st m =>
  (mN m ≤ mN r.2 ∧ mS m ≤ mS r.2) ∧ ∀ (H : Heap) (locs : List Loc) (ls : Array Slot), (n0 ≤ mN m ∧ aWF m) → s0 ≤ mS m → va_P D vwCl (a_ws base cy m) H → va_S (fun q => base ≤ q) s.heap H locs → a_lr base b j.2.2.2.2.2.1 L ls →
    W p l e R s mi args below meth c H locs (mN m - n0) (mS m - s0) Q (F0 mi pc ls (st.map (a_em base b)))
def aCx : aX → aJ → aRes → Prop := fun ⟨p, l, e, R, s, mi, args, below, meth, c, Q, ⟨base, b, D, cy, n0, s0⟩⟩ ⟨cc, own, fr, lo, kind, nL, ret, Lx, xs⟩ r =>
  p.tables.exec = Jvm.exec ∧ c.code = cc ∧ c.maxLocals = nL ∧ s.vm.findClass own = some mi.cls ∧ (∀ w ∈ aG, w.before args s = true) ∧ va_K D vwCl (a_tys cy) s ∧
  (∀ (o : String) (i : Nat) (y : MethodName), Cond.methodLinkNest o i y "QuietOffice" ∈ lw_tbl → va_Nw (.methodLinkNest o i y "QuietOffice") s) ∧ va_AO "QuietOffice$State" s ∧
  fr ≤ R.frames ∧ lo ≤ R.locals ∧ mN r.2 ≤ n0 + R.cells ∧ mS r.2 ≤ s0 + R.slots ∧ s.heap.size = base + n0 ∧ (kind = 1 → meth.name = "<init>") ∧ (kind = 2 → va_X b Lx xs s s.heap ∧ b < s.heap.size ∧ b < base) ∧
  (∀ (v : Int32) (t : FieldType) (m : aM) (H : Heap) (locs : List Loc) (ls : Array Slot) (pc : Nat), r = (some (.int v), m) → ret = some t → narrow t (.int v) = .int v → decode cc pc = .ok (.ireturn, 1) → (n0 ≤ mN m ∧ aWF m) → s0 ≤ mS m → va_P D vwCl (a_ws base cy m) H → va_S (fun q => base ≤ q) s.heap H locs → W p l e R s mi args below meth c H locs (mN m - n0) (mS m - s0) Q (F0 mi pc ls [.int v])) ∧
  (∀ (v : Int64) (m : aM) (H : Heap) (locs : List Loc) (ls : Array Slot) (pc : Nat), r = (some (.long v), m) → ret = some .long → decode cc pc = .ok (.lreturn, 1) → (n0 ≤ mN m ∧ aWF m) → s0 ≤ mS m → va_P D vwCl (a_ws base cy m) H → va_S (fun q => base ≤ q) s.heap H locs → W p l e R s mi args below meth c H locs (mN m - n0) (mS m - s0) Q (F0 mi pc ls [.long v])) ∧
  (∀ (m : aM) (H : Heap) (locs : List Loc) (ls : Array Slot) (pc : Nat), r = (none, m) → ret = none → decode cc pc = .ok (.return_, 1) → (n0 ≤ mN m ∧ aWF m) → s0 ≤ mS m → va_P D vwCl (a_ws base cy m) H → va_S (fun q => base ≤ q) s.heap H locs → W p l e R s mi args below meth c H locs (mN m - n0) (mS m - s0) Q (F0 mi pc ls []))
/-- how large the heap is: what the frame says -/
theorem W_size {p : Program} {l : Launch} {e : Env} {R : Room} {s : State} {m : MethodId} {args : Array Value} {below : List Frame} {meth : Method} {c : Code} {H : Heap} {locs : List Loc} {cells slots : Nat} {Q : State → Prop} {g : JFrame} (h : H.size ≤ s.heap.size + cells → W p l e R s m args below meth c H locs cells slots Q g) : W p l e R s m args below meth c H locs cells slots Q g :=
  fun T hT X => h (by rw [← hT]; exact X.same.2.2.1) T hT X
theorem a_size {D : va_G} {base n0 : Nat} {cy : Nat → ClassId} {m : aM} {H H0 : Heap} {locs : List Loc} {A : Nat → Prop} (hP : va_P D vwCl (a_ws base cy m) H) (hS : va_S A H0 H locs) (hsz : H0.size = base + n0) (h1 : n0 ≤ mN m) (hu : H.size ≤ H0.size + (mN m - n0)) : H.size = base + mN m := by
  by_cases h : mN m = 0
  · have := hS.1
    omega
  · have hl := (hP (mN m - 1) _ (a_ws_at (by omega))).lt
    have hl : base + (mN m - 1) < H.size := hl
    omega

theorem g_iconst {X : aX} {j : aJ} {r : aRes} (hC : aCx X j r) {pc : Nat} {L st : List Value} {m : aM} {n : Int} {v : Int32} (hv : Int32.ofInt n = v) (d : decode j.1 pc = .ok (.iconst n, 1)) (k : aGW X j r (pc + 1) L (.int v :: st) m) : aGW X j r pc L st m := by
  obtain ⟨p, l, e, R, s, mi, args, below, meth, c, Q, ⟨base, b, D, cy, n0, s0⟩⟩ := X
  obtain ⟨cc, own, fr, lo, kind, nL, ret, Lx, xs⟩ := j
  obtain ⟨hx, hb, hml, hown, hts, hK, hNe, hAO, hfr, hlo, hrc, hrs, hsz, hki, hks, hri, hrj, hrv⟩ := hC
  obtain ⟨k1, k2⟩ := k
  refine And.intro k1 (fun H locs ls h1 h2 hP hS hL => ?_)
  exact lv_iconst hx hb d hv (k2 H locs ls h1 h2 hP hS hL)

theorem g_bipush {X : aX} {j : aJ} {r : aRes} (hC : aCx X j r) {pc : Nat} {L st : List Value} {m : aM} {n : Int} {v : Int32} (hv : (Int8.ofInt n).toInt32 = v) (d : decode j.1 pc = .ok (.bipush n, 2)) (k : aGW X j r (pc + 2) L (.int v :: st) m) : aGW X j r pc L st m := by
  obtain ⟨p, l, e, R, s, mi, args, below, meth, c, Q, ⟨base, b, D, cy, n0, s0⟩⟩ := X
  obtain ⟨cc, own, fr, lo, kind, nL, ret, Lx, xs⟩ := j
  obtain ⟨hx, hb, hml, hown, hts, hK, hNe, hAO, hfr, hlo, hrc, hrs, hsz, hki, hks, hri, hrj, hrv⟩ := hC
  obtain ⟨k1, k2⟩ := k
  refine And.intro k1 (fun H locs ls h1 h2 hP hS hL => ?_)
  exact lv_bipush hx hb d hv (k2 H locs ls h1 h2 hP hS hL)

theorem g_sipush {X : aX} {j : aJ} {r : aRes} (hC : aCx X j r) {pc : Nat} {L st : List Value} {m : aM} {n : Int} {v : Int32} (hv : (Int16.ofInt n).toInt32 = v) (d : decode j.1 pc = .ok (.sipush n, 3)) (k : aGW X j r (pc + 3) L (.int v :: st) m) : aGW X j r pc L st m := by
  obtain ⟨p, l, e, R, s, mi, args, below, meth, c, Q, ⟨base, b, D, cy, n0, s0⟩⟩ := X
  obtain ⟨cc, own, fr, lo, kind, nL, ret, Lx, xs⟩ := j
  obtain ⟨hx, hb, hml, hown, hts, hK, hNe, hAO, hfr, hlo, hrc, hrs, hsz, hki, hks, hri, hrj, hrv⟩ := hC
  obtain ⟨k1, k2⟩ := k
  refine And.intro k1 (fun H locs ls h1 h2 hP hS hL => ?_)
  exact lv_sipush hx hb d hv (k2 H locs ls h1 h2 hP hS hL)

theorem g_lconst {X : aX} {j : aJ} {r : aRes} (hC : aCx X j r) {pc : Nat} {L st : List Value} {m : aM} {n : Fin 2} {v : Int64} (hv : Int64.ofNat (n : Nat) = v) (d : decode j.1 pc = .ok (.lconst n, 1)) (k : aGW X j r (pc + 1) L (.long v :: st) m) : aGW X j r pc L st m := by
  obtain ⟨p, l, e, R, s, mi, args, below, meth, c, Q, ⟨base, b, D, cy, n0, s0⟩⟩ := X
  obtain ⟨cc, own, fr, lo, kind, nL, ret, Lx, xs⟩ := j
  obtain ⟨hx, hb, hml, hown, hts, hK, hNe, hAO, hfr, hlo, hrc, hrs, hsz, hki, hks, hri, hrj, hrv⟩ := hC
  obtain ⟨k1, k2⟩ := k
  refine And.intro k1 (fun H locs ls h1 h2 hP hS hL => ?_)
  exact lv_lconst hx hb d hv (k2 H locs ls h1 h2 hP hS hL)

theorem g_null {X : aX} {j : aJ} {r : aRes} (hC : aCx X j r) {pc : Nat} {L st : List Value} {m : aM}  (d : decode j.1 pc = .ok (.aconst_null, 1)) (k : aGW X j r (pc + 1) L (.null :: st) m) : aGW X j r pc L st m := by
  obtain ⟨p, l, e, R, s, mi, args, below, meth, c, Q, ⟨base, b, D, cy, n0, s0⟩⟩ := X
  obtain ⟨cc, own, fr, lo, kind, nL, ret, Lx, xs⟩ := j
  obtain ⟨hx, hb, hml, hown, hts, hK, hNe, hAO, hfr, hlo, hrc, hrs, hsz, hki, hks, hri, hrj, hrv⟩ := hC
  obtain ⟨k1, k2⟩ := k
  refine And.intro k1 (fun H locs ls h1 h2 hP hS hL => ?_)
  exact lv_null hx hb d (k2 H locs ls h1 h2 hP hS hL)

theorem g_ldc {X : aX} {j : aJ} {r : aRes} (hC : aCx X j r) {pc : Nat} {L st : List Value} {m : aM} {index : Nat} {v : Int32} (hc : Cond.constant j.2.1 index v ∈ aG) (d : decode j.1 pc = .ok (.ldc index, 2)) (k : aGW X j r (pc + 2) L (.int v :: st) m) : aGW X j r pc L st m := by
  obtain ⟨p, l, e, R, s, mi, args, below, meth, c, Q, ⟨base, b, D, cy, n0, s0⟩⟩ := X
  obtain ⟨cc, own, fr, lo, kind, nL, ret, Lx, xs⟩ := j
  obtain ⟨hx, hb, hml, hown, hts, hK, hNe, hAO, hfr, hlo, hrc, hrs, hsz, hki, hks, hri, hrj, hrv⟩ := hC
  obtain ⟨k1, k2⟩ := k
  refine And.intro k1 (fun H locs ls h1 h2 hP hS hL => ?_)
  exact lv_ldc hx hb hown (hts _ hc) d (k2 H locs ls h1 h2 hP hS hL)

theorem g_ldcw {X : aX} {j : aJ} {r : aRes} (hC : aCx X j r) {pc : Nat} {L st : List Value} {m : aM} {index : Nat} {v : Int32} (hc : Cond.constant j.2.1 index v ∈ aG) (d : decode j.1 pc = .ok (.ldc_w index, 3)) (k : aGW X j r (pc + 3) L (.int v :: st) m) : aGW X j r pc L st m := by
  obtain ⟨p, l, e, R, s, mi, args, below, meth, c, Q, ⟨base, b, D, cy, n0, s0⟩⟩ := X
  obtain ⟨cc, own, fr, lo, kind, nL, ret, Lx, xs⟩ := j
  obtain ⟨hx, hb, hml, hown, hts, hK, hNe, hAO, hfr, hlo, hrc, hrs, hsz, hki, hks, hri, hrj, hrv⟩ := hC
  obtain ⟨k1, k2⟩ := k
  refine And.intro k1 (fun H locs ls h1 h2 hP hS hL => ?_)
  exact lv_ldcw hx hb hown (hts _ hc) d (k2 H locs ls h1 h2 hP hS hL)

theorem g_ldc2 {X : aX} {j : aJ} {r : aRes} (hC : aCx X j r) {pc : Nat} {L st : List Value} {m : aM} {index : Nat} {v : Int64} (hc : Cond.constantLong j.2.1 index v ∈ aG) (d : decode j.1 pc = .ok (.ldc2_w index, 3)) (k : aGW X j r (pc + 3) L (.long v :: st) m) : aGW X j r pc L st m := by
  obtain ⟨p, l, e, R, s, mi, args, below, meth, c, Q, ⟨base, b, D, cy, n0, s0⟩⟩ := X
  obtain ⟨cc, own, fr, lo, kind, nL, ret, Lx, xs⟩ := j
  obtain ⟨hx, hb, hml, hown, hts, hK, hNe, hAO, hfr, hlo, hrc, hrs, hsz, hki, hks, hri, hrj, hrv⟩ := hC
  obtain ⟨k1, k2⟩ := k
  refine And.intro k1 (fun H locs ls h1 h2 hP hS hL => ?_)
  exact lv_ldc2 hx hb hown (hts _ hc) d (k2 H locs ls h1 h2 hP hS hL)

theorem g_iload {X : aX} {j : aJ} {r : aRes} (hC : aCx X j r) {pc : Nat} {L st : List Value} {m : aM} {i : Nat} {x : Int32} (hl : L.getD i a_jk = .int x) (d : decode j.1 pc = .ok (.iload i, 2)) (k : aGW X j r (pc + 2) L (.int x :: st) m) : aGW X j r pc L st m := by
  obtain ⟨p, l, e, R, s, mi, args, below, meth, c, Q, ⟨base, b, D, cy, n0, s0⟩⟩ := X
  obtain ⟨cc, own, fr, lo, kind, nL, ret, Lx, xs⟩ := j
  obtain ⟨hx, hb, hml, hown, hts, hK, hNe, hAO, hfr, hlo, hrc, hrs, hsz, hki, hks, hri, hrj, hrv⟩ := hC
  obtain ⟨k1, k2⟩ := k
  refine And.intro k1 (fun H locs ls h1 h2 hP hS hL => ?_)
  exact lv_iload hx hb d (a_lr_at hL hl (by simp)) (k2 H locs ls h1 h2 hP hS hL)

theorem g_iload_n {X : aX} {j : aJ} {r : aRes} (hC : aCx X j r) {pc : Nat} {L st : List Value} {m : aM} {n : Fin 4} {i : Nat} {x : Int32} (hi : (n : Nat) = i) (hl : L.getD i a_jk = .int x) (d : decode j.1 pc = .ok (.iload_n n, 1)) (k : aGW X j r (pc + 1) L (.int x :: st) m) : aGW X j r pc L st m := by
  obtain ⟨p, l, e, R, s, mi, args, below, meth, c, Q, ⟨base, b, D, cy, n0, s0⟩⟩ := X
  obtain ⟨cc, own, fr, lo, kind, nL, ret, Lx, xs⟩ := j
  obtain ⟨hx, hb, hml, hown, hts, hK, hNe, hAO, hfr, hlo, hrc, hrs, hsz, hki, hks, hri, hrj, hrv⟩ := hC
  obtain ⟨k1, k2⟩ := k
  refine And.intro k1 (fun H locs ls h1 h2 hP hS hL => ?_)
  exact lv_iload_n hx hb d hi (a_lr_at hL hl (by simp)) (k2 H locs ls h1 h2 hP hS hL)

theorem g_lload {X : aX} {j : aJ} {r : aRes} (hC : aCx X j r) {pc : Nat} {L st : List Value} {m : aM} {i : Nat} {x : Int64} (hl : L.getD i a_jk = .long x) (d : decode j.1 pc = .ok (.lload i, 2)) (k : aGW X j r (pc + 2) L (.long x :: st) m) : aGW X j r pc L st m := by
  obtain ⟨p, l, e, R, s, mi, args, below, meth, c, Q, ⟨base, b, D, cy, n0, s0⟩⟩ := X
  obtain ⟨cc, own, fr, lo, kind, nL, ret, Lx, xs⟩ := j
  obtain ⟨hx, hb, hml, hown, hts, hK, hNe, hAO, hfr, hlo, hrc, hrs, hsz, hki, hks, hri, hrj, hrv⟩ := hC
  obtain ⟨k1, k2⟩ := k
  refine And.intro k1 (fun H locs ls h1 h2 hP hS hL => ?_)
  exact lv_lload hx hb d (a_lr_at hL hl (by simp)) (k2 H locs ls h1 h2 hP hS hL)

theorem g_lload_n {X : aX} {j : aJ} {r : aRes} (hC : aCx X j r) {pc : Nat} {L st : List Value} {m : aM} {n : Fin 4} {i : Nat} {x : Int64} (hi : (n : Nat) = i) (hl : L.getD i a_jk = .long x) (d : decode j.1 pc = .ok (.lload_n n, 1)) (k : aGW X j r (pc + 1) L (.long x :: st) m) : aGW X j r pc L st m := by
  obtain ⟨p, l, e, R, s, mi, args, below, meth, c, Q, ⟨base, b, D, cy, n0, s0⟩⟩ := X
  obtain ⟨cc, own, fr, lo, kind, nL, ret, Lx, xs⟩ := j
  obtain ⟨hx, hb, hml, hown, hts, hK, hNe, hAO, hfr, hlo, hrc, hrs, hsz, hki, hks, hri, hrj, hrv⟩ := hC
  obtain ⟨k1, k2⟩ := k
  refine And.intro k1 (fun H locs ls h1 h2 hP hS hL => ?_)
  exact lv_lload_n hx hb d hi (a_lr_at hL hl (by simp)) (k2 H locs ls h1 h2 hP hS hL)

theorem g_aload {X : aX} {j : aJ} {r : aRes} (hC : aCx X j r) {pc : Nat} {L st : List Value} {m : aM} {i : Nat} {x : Nat} (hl : L.getD i a_jk = .ref x) (d : decode j.1 pc = .ok (.aload i, 2)) (k : aGW X j r (pc + 2) L (.ref x :: st) m) : aGW X j r pc L st m := by
  obtain ⟨p, l, e, R, s, mi, args, below, meth, c, Q, ⟨base, b, D, cy, n0, s0⟩⟩ := X
  obtain ⟨cc, own, fr, lo, kind, nL, ret, Lx, xs⟩ := j
  obtain ⟨hx, hb, hml, hown, hts, hK, hNe, hAO, hfr, hlo, hrc, hrs, hsz, hki, hks, hri, hrj, hrv⟩ := hC
  obtain ⟨k1, k2⟩ := k
  refine And.intro k1 (fun H locs ls h1 h2 hP hS hL => ?_)
  exact lv_aload hx hb d (a_lr_at hL hl (by simp)) (k2 H locs ls h1 h2 hP hS hL)

theorem g_aload_n {X : aX} {j : aJ} {r : aRes} (hC : aCx X j r) {pc : Nat} {L st : List Value} {m : aM} {n : Fin 4} {i : Nat} {x : Nat} (hi : (n : Nat) = i) (hl : L.getD i a_jk = .ref x) (d : decode j.1 pc = .ok (.aload_n n, 1)) (k : aGW X j r (pc + 1) L (.ref x :: st) m) : aGW X j r pc L st m := by
  obtain ⟨p, l, e, R, s, mi, args, below, meth, c, Q, ⟨base, b, D, cy, n0, s0⟩⟩ := X
  obtain ⟨cc, own, fr, lo, kind, nL, ret, Lx, xs⟩ := j
  obtain ⟨hx, hb, hml, hown, hts, hK, hNe, hAO, hfr, hlo, hrc, hrs, hsz, hki, hks, hri, hrj, hrv⟩ := hC
  obtain ⟨k1, k2⟩ := k
  refine And.intro k1 (fun H locs ls h1 h2 hP hS hL => ?_)
  exact lv_aload_n hx hb d hi (a_lr_at hL hl (by simp)) (k2 H locs ls h1 h2 hP hS hL)

theorem g_aloadN {X : aX} {j : aJ} {r : aRes} (hC : aCx X j r) {pc : Nat} {L st : List Value} {m : aM} {i : Nat} (hl : L.getD i a_jk = .null) (d : decode j.1 pc = .ok (.aload i, 2)) (k : aGW X j r (pc + 2) L (.null :: st) m) : aGW X j r pc L st m := by
  obtain ⟨p, l, e, R, s, mi, args, below, meth, c, Q, ⟨base, b, D, cy, n0, s0⟩⟩ := X
  obtain ⟨cc, own, fr, lo, kind, nL, ret, Lx, xs⟩ := j
  obtain ⟨hx, hb, hml, hown, hts, hK, hNe, hAO, hfr, hlo, hrc, hrs, hsz, hki, hks, hri, hrj, hrv⟩ := hC
  obtain ⟨k1, k2⟩ := k
  refine And.intro k1 (fun H locs ls h1 h2 hP hS hL => ?_)
  exact lv_aloadN hx hb d (a_lr_at hL hl (by simp)) (k2 H locs ls h1 h2 hP hS hL)

theorem g_aload_nN {X : aX} {j : aJ} {r : aRes} (hC : aCx X j r) {pc : Nat} {L st : List Value} {m : aM} {n : Fin 4} {i : Nat} (hi : (n : Nat) = i) (hl : L.getD i a_jk = .null) (d : decode j.1 pc = .ok (.aload_n n, 1)) (k : aGW X j r (pc + 1) L (.null :: st) m) : aGW X j r pc L st m := by
  obtain ⟨p, l, e, R, s, mi, args, below, meth, c, Q, ⟨base, b, D, cy, n0, s0⟩⟩ := X
  obtain ⟨cc, own, fr, lo, kind, nL, ret, Lx, xs⟩ := j
  obtain ⟨hx, hb, hml, hown, hts, hK, hNe, hAO, hfr, hlo, hrc, hrs, hsz, hki, hks, hri, hrj, hrv⟩ := hC
  obtain ⟨k1, k2⟩ := k
  refine And.intro k1 (fun H locs ls h1 h2 hP hS hL => ?_)
  exact lv_aload_nN hx hb d hi (a_lr_at hL hl (by simp)) (k2 H locs ls h1 h2 hP hS hL)

theorem g_sload_n {X : aX} {j : aJ} {r : aRes} (hC : aCx X j r) {pc : Nat} {L st : List Value} {m : aM} {n : Fin 4} {i : Nat} (hi : (n : Nat) = i) (hl : L.getD i a_jk = .retAddr 1) (d : decode j.1 pc = .ok (.aload_n n, 1)) (k : aGW X j r (pc + 1) L (.retAddr 1 :: st) m) : aGW X j r pc L st m := by
  obtain ⟨p, l, e, R, s, mi, args, below, meth, c, Q, ⟨base, b, D, cy, n0, s0⟩⟩ := X
  obtain ⟨cc, own, fr, lo, kind, nL, ret, Lx, xs⟩ := j
  obtain ⟨hx, hb, hml, hown, hts, hK, hNe, hAO, hfr, hlo, hrc, hrs, hsz, hki, hks, hri, hrj, hrv⟩ := hC
  obtain ⟨k1, k2⟩ := k
  refine And.intro k1 (fun H locs ls h1 h2 hP hS hL => ?_)
  exact lv_aload_n hx hb d hi (a_lr_at hL hl (by simp)) (k2 H locs ls h1 h2 hP hS hL)

theorem g_istore {X : aX} {j : aJ} {r : aRes} (hC : aCx X j r) {pc : Nat} {L st : List Value} {m : aM} {i : Nat}  {x : Int32} (hn : i < j.2.2.2.2.2.1) (d : decode j.1 pc = .ok (.istore i, 2)) (k : aGW X j r (pc + 2) (a_s1 L i (.int x)) st m) : aGW X j r pc L (.int x :: st) m := by
  obtain ⟨p, l, e, R, s, mi, args, below, meth, c, Q, ⟨base, b, D, cy, n0, s0⟩⟩ := X
  obtain ⟨cc, own, fr, lo, kind, nL, ret, Lx, xs⟩ := j
  obtain ⟨hx, hb, hml, hown, hts, hK, hNe, hAO, hfr, hlo, hrc, hrs, hsz, hki, hks, hri, hrj, hrv⟩ := hC
  obtain ⟨k1, k2⟩ := k
  refine And.intro k1 (fun H locs ls h1 h2 hP hS hL => ?_)
  exact lv_istore hx hb d (a_lr_has hL) hn rfl (fun ls' hl' => k2 H locs ls' h1 h2 hP hS (a_lr_s1 hL.1 hn hl'))

theorem g_istore_n {X : aX} {j : aJ} {r : aRes} (hC : aCx X j r) {pc : Nat} {L st : List Value} {m : aM} {i : Nat} {n : Fin 4} (hi : (n : Nat) = i) {x : Int32} (hn : i < j.2.2.2.2.2.1) (d : decode j.1 pc = .ok (.istore_n n, 1)) (k : aGW X j r (pc + 1) (a_s1 L i (.int x)) st m) : aGW X j r pc L (.int x :: st) m := by
  obtain ⟨p, l, e, R, s, mi, args, below, meth, c, Q, ⟨base, b, D, cy, n0, s0⟩⟩ := X
  obtain ⟨cc, own, fr, lo, kind, nL, ret, Lx, xs⟩ := j
  obtain ⟨hx, hb, hml, hown, hts, hK, hNe, hAO, hfr, hlo, hrc, hrs, hsz, hki, hks, hri, hrj, hrv⟩ := hC
  obtain ⟨k1, k2⟩ := k
  refine And.intro k1 (fun H locs ls h1 h2 hP hS hL => ?_)
  exact lv_istore_n hx hb d hi (a_lr_has hL) hn rfl (fun ls' hl' => k2 H locs ls' h1 h2 hP hS (a_lr_s1 hL.1 hn hl'))

theorem g_lstore {X : aX} {j : aJ} {r : aRes} (hC : aCx X j r) {pc : Nat} {L st : List Value} {m : aM} {i : Nat}  {x : Int64} (hn : i + 1 < j.2.2.2.2.2.1) (d : decode j.1 pc = .ok (.lstore i, 2)) (k : aGW X j r (pc + 2) (a_s2 L i (.long x)) st m) : aGW X j r pc L (.long x :: st) m := by
  obtain ⟨p, l, e, R, s, mi, args, below, meth, c, Q, ⟨base, b, D, cy, n0, s0⟩⟩ := X
  obtain ⟨cc, own, fr, lo, kind, nL, ret, Lx, xs⟩ := j
  obtain ⟨hx, hb, hml, hown, hts, hK, hNe, hAO, hfr, hlo, hrc, hrs, hsz, hki, hks, hri, hrj, hrv⟩ := hC
  obtain ⟨k1, k2⟩ := k
  refine And.intro k1 (fun H locs ls h1 h2 hP hS hL => ?_)
  exact lv_lstore hx hb d (a_lr_has hL) hn rfl (fun ls' hl' => k2 H locs ls' h1 h2 hP hS (a_lr_s2 hL.1 hn hl'))

theorem g_lstore_n {X : aX} {j : aJ} {r : aRes} (hC : aCx X j r) {pc : Nat} {L st : List Value} {m : aM} {i : Nat} {n : Fin 4} (hi : (n : Nat) = i) {x : Int64} (hn : i + 1 < j.2.2.2.2.2.1) (d : decode j.1 pc = .ok (.lstore_n n, 1)) (k : aGW X j r (pc + 1) (a_s2 L i (.long x)) st m) : aGW X j r pc L (.long x :: st) m := by
  obtain ⟨p, l, e, R, s, mi, args, below, meth, c, Q, ⟨base, b, D, cy, n0, s0⟩⟩ := X
  obtain ⟨cc, own, fr, lo, kind, nL, ret, Lx, xs⟩ := j
  obtain ⟨hx, hb, hml, hown, hts, hK, hNe, hAO, hfr, hlo, hrc, hrs, hsz, hki, hks, hri, hrj, hrv⟩ := hC
  obtain ⟨k1, k2⟩ := k
  refine And.intro k1 (fun H locs ls h1 h2 hP hS hL => ?_)
  exact lv_lstore_n hx hb d hi (a_lr_has hL) hn rfl (fun ls' hl' => k2 H locs ls' h1 h2 hP hS (a_lr_s2 hL.1 hn hl'))

theorem g_astore {X : aX} {j : aJ} {r : aRes} (hC : aCx X j r) {pc : Nat} {L st : List Value} {m : aM} {i : Nat}  {x : Nat} (hn : i < j.2.2.2.2.2.1) (d : decode j.1 pc = .ok (.astore i, 2)) (k : aGW X j r (pc + 2) (a_s1 L i (.ref x)) st m) : aGW X j r pc L (.ref x :: st) m := by
  obtain ⟨p, l, e, R, s, mi, args, below, meth, c, Q, ⟨base, b, D, cy, n0, s0⟩⟩ := X
  obtain ⟨cc, own, fr, lo, kind, nL, ret, Lx, xs⟩ := j
  obtain ⟨hx, hb, hml, hown, hts, hK, hNe, hAO, hfr, hlo, hrc, hrs, hsz, hki, hks, hri, hrj, hrv⟩ := hC
  obtain ⟨k1, k2⟩ := k
  refine And.intro k1 (fun H locs ls h1 h2 hP hS hL => ?_)
  exact lv_astore hx hb d (a_lr_has hL) hn rfl (fun ls' hl' => k2 H locs ls' h1 h2 hP hS (a_lr_s1 hL.1 hn hl'))

theorem g_astore_n {X : aX} {j : aJ} {r : aRes} (hC : aCx X j r) {pc : Nat} {L st : List Value} {m : aM} {i : Nat} {n : Fin 4} (hi : (n : Nat) = i) {x : Nat} (hn : i < j.2.2.2.2.2.1) (d : decode j.1 pc = .ok (.astore_n n, 1)) (k : aGW X j r (pc + 1) (a_s1 L i (.ref x)) st m) : aGW X j r pc L (.ref x :: st) m := by
  obtain ⟨p, l, e, R, s, mi, args, below, meth, c, Q, ⟨base, b, D, cy, n0, s0⟩⟩ := X
  obtain ⟨cc, own, fr, lo, kind, nL, ret, Lx, xs⟩ := j
  obtain ⟨hx, hb, hml, hown, hts, hK, hNe, hAO, hfr, hlo, hrc, hrs, hsz, hki, hks, hri, hrj, hrv⟩ := hC
  obtain ⟨k1, k2⟩ := k
  refine And.intro k1 (fun H locs ls h1 h2 hP hS hL => ?_)
  exact lv_astore_n hx hb d hi (a_lr_has hL) hn rfl (fun ls' hl' => k2 H locs ls' h1 h2 hP hS (a_lr_s1 hL.1 hn hl'))

theorem g_iinc {X : aX} {j : aJ} {r : aRes} (hC : aCx X j r) {pc : Nat} {L st : List Value} {m : aM} {i : Nat} {n : Int} {x v : Int32} (hl : L.getD i a_jk = .int x) (hv : x + Int32.ofInt n = v) (hn : i < j.2.2.2.2.2.1) (d : decode j.1 pc = .ok (.iinc i n, 3)) (k : aGW X j r (pc + 3) (a_s1 L i (.int v)) st m) : aGW X j r pc L st m := by
  obtain ⟨p, l, e, R, s, mi, args, below, meth, c, Q, ⟨base, b, D, cy, n0, s0⟩⟩ := X
  obtain ⟨cc, own, fr, lo, kind, nL, ret, Lx, xs⟩ := j
  obtain ⟨hx, hb, hml, hown, hts, hK, hNe, hAO, hfr, hlo, hrc, hrs, hsz, hki, hks, hri, hrj, hrv⟩ := hC
  obtain ⟨k1, k2⟩ := k
  refine And.intro k1 (fun H locs ls h1 h2 hP hS hL => ?_)
  have hm : (i, Value.int x) ∈ a_prs base b L := by
    refine a_prs_mem.mpr ⟨.int x, ?_, by simp, rfl⟩
    rw [List.getD_eq_getElem?_getD] at hl
    cases e : L[i]? with
    | none => rw [e] at hl; cases hl
    | some w => rw [e] at hl; rw [show w = Value.int x from hl]
  obtain ⟨kk, hkk⟩ := List.getElem?_of_mem hm
  exact lv_iinc hx hb d (a_lr_has hL) hkk hv hn rfl (fun ls' hl' => k2 H locs ls' h1 h2 hP hS (a_lr_s1 hL.1 hn hl'))

theorem g_iadd {X : aX} {j : aJ} {r : aRes} (hC : aCx X j r) {pc : Nat} {L st : List Value} {m : aM} {x y : Int32}  (d : decode j.1 pc = .ok (.iadd, 1)) (k : aGW X j r (pc + 1) L (.int (x + y) :: st) m) : aGW X j r pc L (.int y :: .int x :: st) m := by
  obtain ⟨p, l, e, R, s, mi, args, below, meth, c, Q, ⟨base, b, D, cy, n0, s0⟩⟩ := X
  obtain ⟨cc, own, fr, lo, kind, nL, ret, Lx, xs⟩ := j
  obtain ⟨hx, hb, hml, hown, hts, hK, hNe, hAO, hfr, hlo, hrc, hrs, hsz, hki, hks, hri, hrj, hrv⟩ := hC
  obtain ⟨k1, k2⟩ := k
  refine And.intro k1 (fun H locs ls h1 h2 hP hS hL => ?_)
  exact lv_iadd hx hb d (k2 H locs ls h1 h2 hP hS hL)

theorem g_isub {X : aX} {j : aJ} {r : aRes} (hC : aCx X j r) {pc : Nat} {L st : List Value} {m : aM} {x y : Int32}  (d : decode j.1 pc = .ok (.isub, 1)) (k : aGW X j r (pc + 1) L (.int (x - y) :: st) m) : aGW X j r pc L (.int y :: .int x :: st) m := by
  obtain ⟨p, l, e, R, s, mi, args, below, meth, c, Q, ⟨base, b, D, cy, n0, s0⟩⟩ := X
  obtain ⟨cc, own, fr, lo, kind, nL, ret, Lx, xs⟩ := j
  obtain ⟨hx, hb, hml, hown, hts, hK, hNe, hAO, hfr, hlo, hrc, hrs, hsz, hki, hks, hri, hrj, hrv⟩ := hC
  obtain ⟨k1, k2⟩ := k
  refine And.intro k1 (fun H locs ls h1 h2 hP hS hL => ?_)
  exact lv_isub hx hb d (k2 H locs ls h1 h2 hP hS hL)

theorem g_imul {X : aX} {j : aJ} {r : aRes} (hC : aCx X j r) {pc : Nat} {L st : List Value} {m : aM} {x y : Int32}  (d : decode j.1 pc = .ok (.imul, 1)) (k : aGW X j r (pc + 1) L (.int (x * y) :: st) m) : aGW X j r pc L (.int y :: .int x :: st) m := by
  obtain ⟨p, l, e, R, s, mi, args, below, meth, c, Q, ⟨base, b, D, cy, n0, s0⟩⟩ := X
  obtain ⟨cc, own, fr, lo, kind, nL, ret, Lx, xs⟩ := j
  obtain ⟨hx, hb, hml, hown, hts, hK, hNe, hAO, hfr, hlo, hrc, hrs, hsz, hki, hks, hri, hrj, hrv⟩ := hC
  obtain ⟨k1, k2⟩ := k
  refine And.intro k1 (fun H locs ls h1 h2 hP hS hL => ?_)
  exact lv_imul hx hb d (k2 H locs ls h1 h2 hP hS hL)

theorem g_iand {X : aX} {j : aJ} {r : aRes} (hC : aCx X j r) {pc : Nat} {L st : List Value} {m : aM} {x y : Int32}  (d : decode j.1 pc = .ok (.iand, 1)) (k : aGW X j r (pc + 1) L (.int (x &&& y) :: st) m) : aGW X j r pc L (.int y :: .int x :: st) m := by
  obtain ⟨p, l, e, R, s, mi, args, below, meth, c, Q, ⟨base, b, D, cy, n0, s0⟩⟩ := X
  obtain ⟨cc, own, fr, lo, kind, nL, ret, Lx, xs⟩ := j
  obtain ⟨hx, hb, hml, hown, hts, hK, hNe, hAO, hfr, hlo, hrc, hrs, hsz, hki, hks, hri, hrj, hrv⟩ := hC
  obtain ⟨k1, k2⟩ := k
  refine And.intro k1 (fun H locs ls h1 h2 hP hS hL => ?_)
  exact lv_iand hx hb d (k2 H locs ls h1 h2 hP hS hL)

theorem g_ior {X : aX} {j : aJ} {r : aRes} (hC : aCx X j r) {pc : Nat} {L st : List Value} {m : aM} {x y : Int32}  (d : decode j.1 pc = .ok (.ior, 1)) (k : aGW X j r (pc + 1) L (.int (x ||| y) :: st) m) : aGW X j r pc L (.int y :: .int x :: st) m := by
  obtain ⟨p, l, e, R, s, mi, args, below, meth, c, Q, ⟨base, b, D, cy, n0, s0⟩⟩ := X
  obtain ⟨cc, own, fr, lo, kind, nL, ret, Lx, xs⟩ := j
  obtain ⟨hx, hb, hml, hown, hts, hK, hNe, hAO, hfr, hlo, hrc, hrs, hsz, hki, hks, hri, hrj, hrv⟩ := hC
  obtain ⟨k1, k2⟩ := k
  refine And.intro k1 (fun H locs ls h1 h2 hP hS hL => ?_)
  exact lv_ior hx hb d (k2 H locs ls h1 h2 hP hS hL)

theorem g_ixor {X : aX} {j : aJ} {r : aRes} (hC : aCx X j r) {pc : Nat} {L st : List Value} {m : aM} {x y : Int32}  (d : decode j.1 pc = .ok (.ixor, 1)) (k : aGW X j r (pc + 1) L (.int (x ^^^ y) :: st) m) : aGW X j r pc L (.int y :: .int x :: st) m := by
  obtain ⟨p, l, e, R, s, mi, args, below, meth, c, Q, ⟨base, b, D, cy, n0, s0⟩⟩ := X
  obtain ⟨cc, own, fr, lo, kind, nL, ret, Lx, xs⟩ := j
  obtain ⟨hx, hb, hml, hown, hts, hK, hNe, hAO, hfr, hlo, hrc, hrs, hsz, hki, hks, hri, hrj, hrv⟩ := hC
  obtain ⟨k1, k2⟩ := k
  refine And.intro k1 (fun H locs ls h1 h2 hP hS hL => ?_)
  exact lv_ixor hx hb d (k2 H locs ls h1 h2 hP hS hL)

theorem g_ishl {X : aX} {j : aJ} {r : aRes} (hC : aCx X j r) {pc : Nat} {L st : List Value} {m : aM} {x y : Int32}  (d : decode j.1 pc = .ok (.ishl, 1)) (k : aGW X j r (pc + 1) L (.int (x <<< (y &&& 31)) :: st) m) : aGW X j r pc L (.int y :: .int x :: st) m := by
  obtain ⟨p, l, e, R, s, mi, args, below, meth, c, Q, ⟨base, b, D, cy, n0, s0⟩⟩ := X
  obtain ⟨cc, own, fr, lo, kind, nL, ret, Lx, xs⟩ := j
  obtain ⟨hx, hb, hml, hown, hts, hK, hNe, hAO, hfr, hlo, hrc, hrs, hsz, hki, hks, hri, hrj, hrv⟩ := hC
  obtain ⟨k1, k2⟩ := k
  refine And.intro k1 (fun H locs ls h1 h2 hP hS hL => ?_)
  exact lv_ishl hx hb d (k2 H locs ls h1 h2 hP hS hL)

theorem g_ishr {X : aX} {j : aJ} {r : aRes} (hC : aCx X j r) {pc : Nat} {L st : List Value} {m : aM} {x y : Int32}  (d : decode j.1 pc = .ok (.ishr, 1)) (k : aGW X j r (pc + 1) L (.int (x >>> (y &&& 31)) :: st) m) : aGW X j r pc L (.int y :: .int x :: st) m := by
  obtain ⟨p, l, e, R, s, mi, args, below, meth, c, Q, ⟨base, b, D, cy, n0, s0⟩⟩ := X
  obtain ⟨cc, own, fr, lo, kind, nL, ret, Lx, xs⟩ := j
  obtain ⟨hx, hb, hml, hown, hts, hK, hNe, hAO, hfr, hlo, hrc, hrs, hsz, hki, hks, hri, hrj, hrv⟩ := hC
  obtain ⟨k1, k2⟩ := k
  refine And.intro k1 (fun H locs ls h1 h2 hP hS hL => ?_)
  exact lv_ishr hx hb d (k2 H locs ls h1 h2 hP hS hL)

theorem g_iushr {X : aX} {j : aJ} {r : aRes} (hC : aCx X j r) {pc : Nat} {L st : List Value} {m : aM} {x y : Int32}  (d : decode j.1 pc = .ok (.iushr, 1)) (k : aGW X j r (pc + 1) L (.int ((x.toUInt32 >>> (y.toUInt32 &&& Int32.toUInt32 31)).toInt32) :: st) m) : aGW X j r pc L (.int y :: .int x :: st) m := by
  obtain ⟨p, l, e, R, s, mi, args, below, meth, c, Q, ⟨base, b, D, cy, n0, s0⟩⟩ := X
  obtain ⟨cc, own, fr, lo, kind, nL, ret, Lx, xs⟩ := j
  obtain ⟨hx, hb, hml, hown, hts, hK, hNe, hAO, hfr, hlo, hrc, hrs, hsz, hki, hks, hri, hrj, hrv⟩ := hC
  obtain ⟨k1, k2⟩ := k
  refine And.intro k1 (fun H locs ls h1 h2 hP hS hL => ?_)
  exact lv_iushr hx hb d rfl (k2 H locs ls h1 h2 hP hS hL)

theorem g_idiv {X : aX} {j : aJ} {r : aRes} (hC : aCx X j r) {pc : Nat} {L st : List Value} {m : aM} {x y : Int32} (hne : ¬ y = 0) (d : decode j.1 pc = .ok (.idiv, 1)) (k : aGW X j r (pc + 1) L (.int (x / y) :: st) m) : aGW X j r pc L (.int y :: .int x :: st) m := by
  obtain ⟨p, l, e, R, s, mi, args, below, meth, c, Q, ⟨base, b, D, cy, n0, s0⟩⟩ := X
  obtain ⟨cc, own, fr, lo, kind, nL, ret, Lx, xs⟩ := j
  obtain ⟨hx, hb, hml, hown, hts, hK, hNe, hAO, hfr, hlo, hrc, hrs, hsz, hki, hks, hri, hrj, hrv⟩ := hC
  obtain ⟨k1, k2⟩ := k
  refine And.intro k1 (fun H locs ls h1 h2 hP hS hL => ?_)
  exact lv_idiv hx hb d hne (k2 H locs ls h1 h2 hP hS hL)

theorem g_irem {X : aX} {j : aJ} {r : aRes} (hC : aCx X j r) {pc : Nat} {L st : List Value} {m : aM} {x y : Int32} (hne : ¬ y = 0) (d : decode j.1 pc = .ok (.irem, 1)) (k : aGW X j r (pc + 1) L (.int (x - x / y * y) :: st) m) : aGW X j r pc L (.int y :: .int x :: st) m := by
  obtain ⟨p, l, e, R, s, mi, args, below, meth, c, Q, ⟨base, b, D, cy, n0, s0⟩⟩ := X
  obtain ⟨cc, own, fr, lo, kind, nL, ret, Lx, xs⟩ := j
  obtain ⟨hx, hb, hml, hown, hts, hK, hNe, hAO, hfr, hlo, hrc, hrs, hsz, hki, hks, hri, hrj, hrv⟩ := hC
  obtain ⟨k1, k2⟩ := k
  refine And.intro k1 (fun H locs ls h1 h2 hP hS hL => ?_)
  exact lv_irem hx hb d hne (k2 H locs ls h1 h2 hP hS hL)

theorem g_ladd {X : aX} {j : aJ} {r : aRes} (hC : aCx X j r) {pc : Nat} {L st : List Value} {m : aM} {x y : Int64}  (d : decode j.1 pc = .ok (.ladd, 1)) (k : aGW X j r (pc + 1) L (.long (x + y) :: st) m) : aGW X j r pc L (.long y :: .long x :: st) m := by
  obtain ⟨p, l, e, R, s, mi, args, below, meth, c, Q, ⟨base, b, D, cy, n0, s0⟩⟩ := X
  obtain ⟨cc, own, fr, lo, kind, nL, ret, Lx, xs⟩ := j
  obtain ⟨hx, hb, hml, hown, hts, hK, hNe, hAO, hfr, hlo, hrc, hrs, hsz, hki, hks, hri, hrj, hrv⟩ := hC
  obtain ⟨k1, k2⟩ := k
  refine And.intro k1 (fun H locs ls h1 h2 hP hS hL => ?_)
  exact lv_ladd hx hb d (k2 H locs ls h1 h2 hP hS hL)

theorem g_lsub {X : aX} {j : aJ} {r : aRes} (hC : aCx X j r) {pc : Nat} {L st : List Value} {m : aM} {x y : Int64}  (d : decode j.1 pc = .ok (.lsub, 1)) (k : aGW X j r (pc + 1) L (.long (x - y) :: st) m) : aGW X j r pc L (.long y :: .long x :: st) m := by
  obtain ⟨p, l, e, R, s, mi, args, below, meth, c, Q, ⟨base, b, D, cy, n0, s0⟩⟩ := X
  obtain ⟨cc, own, fr, lo, kind, nL, ret, Lx, xs⟩ := j
  obtain ⟨hx, hb, hml, hown, hts, hK, hNe, hAO, hfr, hlo, hrc, hrs, hsz, hki, hks, hri, hrj, hrv⟩ := hC
  obtain ⟨k1, k2⟩ := k
  refine And.intro k1 (fun H locs ls h1 h2 hP hS hL => ?_)
  exact lv_lsub hx hb d (k2 H locs ls h1 h2 hP hS hL)

theorem g_lmul {X : aX} {j : aJ} {r : aRes} (hC : aCx X j r) {pc : Nat} {L st : List Value} {m : aM} {x y : Int64}  (d : decode j.1 pc = .ok (.lmul, 1)) (k : aGW X j r (pc + 1) L (.long (x * y) :: st) m) : aGW X j r pc L (.long y :: .long x :: st) m := by
  obtain ⟨p, l, e, R, s, mi, args, below, meth, c, Q, ⟨base, b, D, cy, n0, s0⟩⟩ := X
  obtain ⟨cc, own, fr, lo, kind, nL, ret, Lx, xs⟩ := j
  obtain ⟨hx, hb, hml, hown, hts, hK, hNe, hAO, hfr, hlo, hrc, hrs, hsz, hki, hks, hri, hrj, hrv⟩ := hC
  obtain ⟨k1, k2⟩ := k
  refine And.intro k1 (fun H locs ls h1 h2 hP hS hL => ?_)
  exact lv_lmul hx hb d (k2 H locs ls h1 h2 hP hS hL)

theorem g_land {X : aX} {j : aJ} {r : aRes} (hC : aCx X j r) {pc : Nat} {L st : List Value} {m : aM} {x y : Int64}  (d : decode j.1 pc = .ok (.land, 1)) (k : aGW X j r (pc + 1) L (.long (x &&& y) :: st) m) : aGW X j r pc L (.long y :: .long x :: st) m := by
  obtain ⟨p, l, e, R, s, mi, args, below, meth, c, Q, ⟨base, b, D, cy, n0, s0⟩⟩ := X
  obtain ⟨cc, own, fr, lo, kind, nL, ret, Lx, xs⟩ := j
  obtain ⟨hx, hb, hml, hown, hts, hK, hNe, hAO, hfr, hlo, hrc, hrs, hsz, hki, hks, hri, hrj, hrv⟩ := hC
  obtain ⟨k1, k2⟩ := k
  refine And.intro k1 (fun H locs ls h1 h2 hP hS hL => ?_)
  exact lv_land hx hb d (k2 H locs ls h1 h2 hP hS hL)

theorem g_ldiv {X : aX} {j : aJ} {r : aRes} (hC : aCx X j r) {pc : Nat} {L st : List Value} {m : aM} {x y : Int64} (hne : ¬ y = 0) (d : decode j.1 pc = .ok (.ldiv, 1)) (k : aGW X j r (pc + 1) L (.long (x / y) :: st) m) : aGW X j r pc L (.long y :: .long x :: st) m := by
  obtain ⟨p, l, e, R, s, mi, args, below, meth, c, Q, ⟨base, b, D, cy, n0, s0⟩⟩ := X
  obtain ⟨cc, own, fr, lo, kind, nL, ret, Lx, xs⟩ := j
  obtain ⟨hx, hb, hml, hown, hts, hK, hNe, hAO, hfr, hlo, hrc, hrs, hsz, hki, hks, hri, hrj, hrv⟩ := hC
  obtain ⟨k1, k2⟩ := k
  refine And.intro k1 (fun H locs ls h1 h2 hP hS hL => ?_)
  exact lv_ldiv hx hb d hne (k2 H locs ls h1 h2 hP hS hL)

theorem g_lrem {X : aX} {j : aJ} {r : aRes} (hC : aCx X j r) {pc : Nat} {L st : List Value} {m : aM} {x y : Int64} (hne : ¬ y = 0) (d : decode j.1 pc = .ok (.lrem, 1)) (k : aGW X j r (pc + 1) L (.long (x - x / y * y) :: st) m) : aGW X j r pc L (.long y :: .long x :: st) m := by
  obtain ⟨p, l, e, R, s, mi, args, below, meth, c, Q, ⟨base, b, D, cy, n0, s0⟩⟩ := X
  obtain ⟨cc, own, fr, lo, kind, nL, ret, Lx, xs⟩ := j
  obtain ⟨hx, hb, hml, hown, hts, hK, hNe, hAO, hfr, hlo, hrc, hrs, hsz, hki, hks, hri, hrj, hrv⟩ := hC
  obtain ⟨k1, k2⟩ := k
  refine And.intro k1 (fun H locs ls h1 h2 hP hS hL => ?_)
  exact lv_lrem hx hb d hne (k2 H locs ls h1 h2 hP hS hL)

theorem g_i2l {X : aX} {j : aJ} {r : aRes} (hC : aCx X j r) {pc : Nat} {L st : List Value} {m : aM} {x : Int32} (d : decode j.1 pc = .ok (.i2l, 1)) (k : aGW X j r (pc + 1) L (.long x.toInt64 :: st) m) : aGW X j r pc L (.int x :: st) m := by
  obtain ⟨p, l, e, R, s, mi, args, below, meth, c, Q, ⟨base, b, D, cy, n0, s0⟩⟩ := X
  obtain ⟨cc, own, fr, lo, kind, nL, ret, Lx, xs⟩ := j
  obtain ⟨hx, hb, hml, hown, hts, hK, hNe, hAO, hfr, hlo, hrc, hrs, hsz, hki, hks, hri, hrj, hrv⟩ := hC
  obtain ⟨k1, k2⟩ := k
  refine And.intro k1 (fun H locs ls h1 h2 hP hS hL => ?_)
  exact lv_i2l hx hb d rfl (k2 H locs ls h1 h2 hP hS hL)

theorem g_l2i {X : aX} {j : aJ} {r : aRes} (hC : aCx X j r) {pc : Nat} {L st : List Value} {m : aM} {x : Int64} (d : decode j.1 pc = .ok (.l2i, 1)) (k : aGW X j r (pc + 1) L (.int x.toInt32 :: st) m) : aGW X j r pc L (.long x :: st) m := by
  obtain ⟨p, l, e, R, s, mi, args, below, meth, c, Q, ⟨base, b, D, cy, n0, s0⟩⟩ := X
  obtain ⟨cc, own, fr, lo, kind, nL, ret, Lx, xs⟩ := j
  obtain ⟨hx, hb, hml, hown, hts, hK, hNe, hAO, hfr, hlo, hrc, hrs, hsz, hki, hks, hri, hrj, hrv⟩ := hC
  obtain ⟨k1, k2⟩ := k
  refine And.intro k1 (fun H locs ls h1 h2 hP hS hL => ?_)
  exact lv_l2i hx hb d rfl (k2 H locs ls h1 h2 hP hS hL)

theorem g_lcmp {X : aX} {j : aJ} {r : aRes} (hC : aCx X j r) {pc : Nat} {L st : List Value} {m : aM} {x y : Int64} (d : decode j.1 pc = .ok (.lcmp, 1)) (k : aGW X j r (pc + 1) L (.int (lg_cmp x y) :: st) m) : aGW X j r pc L (.long y :: .long x :: st) m := by
  obtain ⟨p, l, e, R, s, mi, args, below, meth, c, Q, ⟨base, b, D, cy, n0, s0⟩⟩ := X
  obtain ⟨cc, own, fr, lo, kind, nL, ret, Lx, xs⟩ := j
  obtain ⟨hx, hb, hml, hown, hts, hK, hNe, hAO, hfr, hlo, hrc, hrs, hsz, hki, hks, hri, hrj, hrv⟩ := hC
  obtain ⟨k1, k2⟩ := k
  refine And.intro k1 (fun H locs ls h1 h2 hP hS hL => ?_)
  exact W.lcmp hx hb d (k2 H locs ls h1 h2 hP hS hL)

theorem g_dup {X : aX} {j : aJ} {r : aRes} (hC : aCx X j r) {pc : Nat} {L st : List Value} {m : aM} {v : Value} (hv : v.category = 1) (d : decode j.1 pc = .ok (.dup, 1)) (k : aGW X j r (pc + 1) L (v :: v :: st) m) : aGW X j r pc L (v :: st) m := by
  obtain ⟨p, l, e, R, s, mi, args, below, meth, c, Q, ⟨base, b, D, cy, n0, s0⟩⟩ := X
  obtain ⟨cc, own, fr, lo, kind, nL, ret, Lx, xs⟩ := j
  obtain ⟨hx, hb, hml, hown, hts, hK, hNe, hAO, hfr, hlo, hrc, hrs, hsz, hki, hks, hri, hrj, hrv⟩ := hC
  obtain ⟨k1, k2⟩ := k
  refine And.intro k1 (fun H locs ls h1 h2 hP hS hL => ?_)
  exact lv_dup hx hb d ((a_em_cat base b v).trans hv) (k2 H locs ls h1 h2 hP hS hL)

theorem g_pop {X : aX} {j : aJ} {r : aRes} (hC : aCx X j r) {pc : Nat} {L st : List Value} {m : aM} {v : Value} (hv : v.category = 1) (d : decode j.1 pc = .ok (.pop, 1)) (k : aGW X j r (pc + 1) L st m) : aGW X j r pc L (v :: st) m := by
  obtain ⟨p, l, e, R, s, mi, args, below, meth, c, Q, ⟨base, b, D, cy, n0, s0⟩⟩ := X
  obtain ⟨cc, own, fr, lo, kind, nL, ret, Lx, xs⟩ := j
  obtain ⟨hx, hb, hml, hown, hts, hK, hNe, hAO, hfr, hlo, hrc, hrs, hsz, hki, hks, hri, hrj, hrv⟩ := hC
  obtain ⟨k1, k2⟩ := k
  refine And.intro k1 (fun H locs ls h1 h2 hP hS hL => ?_)
  exact lv_pop hx hb d ((a_em_cat base b v).trans hv) (k2 H locs ls h1 h2 hP hS hL)

theorem g_dup2 {X : aX} {j : aJ} {r : aRes} (hC : aCx X j r) {pc : Nat} {L st : List Value} {m : aM} {v u : Value} (hv : v.category = 1) (hu : u.category = 1) (d : decode j.1 pc = .ok (.dup2, 1)) (k : aGW X j r (pc + 1) L (v :: u :: v :: u :: st) m) : aGW X j r pc L (v :: u :: st) m := by
  obtain ⟨p, l, e, R, s, mi, args, below, meth, c, Q, ⟨base, b, D, cy, n0, s0⟩⟩ := X
  obtain ⟨cc, own, fr, lo, kind, nL, ret, Lx, xs⟩ := j
  obtain ⟨hx, hb, hml, hown, hts, hK, hNe, hAO, hfr, hlo, hrc, hrs, hsz, hki, hks, hri, hrj, hrv⟩ := hC
  obtain ⟨k1, k2⟩ := k
  refine And.intro k1 (fun H locs ls h1 h2 hP hS hL => ?_)
  exact lv_dup2_11 hx hb d ((a_em_cat base b v).trans hv) ((a_em_cat base b u).trans hu) (k2 H locs ls h1 h2 hP hS hL)

theorem g_goto {X : aX} {j : aJ} {r : aRes} (hC : aCx X j r) {pc : Nat} {L st : List Value} {m : aM} {off : Int} {tgt : Nat} (ht : (pc : Int) + off = (tgt : Int)) (d : decode j.1 pc = .ok (.goto off, 3)) (k : aGW X j r tgt L st m) : aGW X j r pc L st m := by
  obtain ⟨p, l, e, R, s, mi, args, below, meth, c, Q, ⟨base, b, D, cy, n0, s0⟩⟩ := X
  obtain ⟨cc, own, fr, lo, kind, nL, ret, Lx, xs⟩ := j
  obtain ⟨hx, hb, hml, hown, hts, hK, hNe, hAO, hfr, hlo, hrc, hrs, hsz, hki, hks, hri, hrj, hrv⟩ := hC
  obtain ⟨k1, k2⟩ := k
  refine And.intro k1 (fun H locs ls h1 h2 hP hS hL => ?_)
  exact lv_goto hx hb d ht (k2 H locs ls h1 h2 hP hS hL)

theorem g_icmp_lt {X : aX} {j : aJ} {r : aRes} (hC : aCx X j r) {pc : Nat} {L st : List Value} {m : aM} {x y : Int32} {off : Int} {tgt : Nat} (ht : (pc : Int) + off = (tgt : Int)) (d : decode j.1 pc = .ok (.if_icmp .lt off, 3)) (kt : x < y → aGW X j r tgt L st m) (kf : ¬ x < y → aGW X j r (pc + 3) L st m) : aGW X j r pc L (.int y :: .int x :: st) m := by
  obtain ⟨p, l, e, R, s, mi, args, below, meth, c, Q, ⟨base, b, D, cy, n0, s0⟩⟩ := X
  obtain ⟨cc, own, fr, lo, kind, nL, ret, Lx, xs⟩ := j
  obtain ⟨hx, hb, hml, hown, hts, hK, hNe, hAO, hfr, hlo, hrc, hrs, hsz, hki, hks, hri, hrj, hrv⟩ := hC
  refine And.intro (by
    by_cases hq : x < y
    · exact (kt hq).1
    · exact (kf hq).1) (fun H locs ls h1 h2 hP hS hL => ?_)
  exact lv_icmp_lt hx hb d ht (fun q => (kt q).2 H locs ls h1 h2 hP hS hL) (fun q => (kf q).2 H locs ls h1 h2 hP hS hL)

theorem g_icmp_ge {X : aX} {j : aJ} {r : aRes} (hC : aCx X j r) {pc : Nat} {L st : List Value} {m : aM} {x y : Int32} {off : Int} {tgt : Nat} (ht : (pc : Int) + off = (tgt : Int)) (d : decode j.1 pc = .ok (.if_icmp .ge off, 3)) (kt : ¬ x < y → aGW X j r tgt L st m) (kf : x < y → aGW X j r (pc + 3) L st m) : aGW X j r pc L (.int y :: .int x :: st) m := by
  obtain ⟨p, l, e, R, s, mi, args, below, meth, c, Q, ⟨base, b, D, cy, n0, s0⟩⟩ := X
  obtain ⟨cc, own, fr, lo, kind, nL, ret, Lx, xs⟩ := j
  obtain ⟨hx, hb, hml, hown, hts, hK, hNe, hAO, hfr, hlo, hrc, hrs, hsz, hki, hks, hri, hrj, hrv⟩ := hC
  refine And.intro (by
    by_cases hq : x < y
    · exact (kf hq).1
    · exact (kt hq).1) (fun H locs ls h1 h2 hP hS hL => ?_)
  exact lv_icmp_ge hx hb d ht (fun q => (kt (Int32.not_lt.mpr q)).2 H locs ls h1 h2 hP hS hL) (fun q => (kf (Decidable.not_not.mp (fun z => q (Int32.not_lt.mp z)))).2 H locs ls h1 h2 hP hS hL)

theorem g_if_lt {X : aX} {j : aJ} {r : aRes} (hC : aCx X j r) {pc : Nat} {L st : List Value} {m : aM} {x : Int32} {off : Int} {tgt : Nat} (ht : (pc : Int) + off = (tgt : Int)) (d : decode j.1 pc = .ok (.ifCond .lt off, 3)) (kt : x < 0 → aGW X j r tgt L st m) (kf : ¬ x < 0 → aGW X j r (pc + 3) L st m) : aGW X j r pc L (.int x :: st) m := by
  obtain ⟨p, l, e, R, s, mi, args, below, meth, c, Q, ⟨base, b, D, cy, n0, s0⟩⟩ := X
  obtain ⟨cc, own, fr, lo, kind, nL, ret, Lx, xs⟩ := j
  obtain ⟨hx, hb, hml, hown, hts, hK, hNe, hAO, hfr, hlo, hrc, hrs, hsz, hki, hks, hri, hrj, hrv⟩ := hC
  refine And.intro (by
    by_cases hq : x < 0
    · exact (kt hq).1
    · exact (kf hq).1) (fun H locs ls h1 h2 hP hS hL => ?_)
  exact lv_if_lt hx hb d ht (fun q => (kt q).2 H locs ls h1 h2 hP hS hL) (fun q => (kf q).2 H locs ls h1 h2 hP hS hL)

theorem g_if_ge {X : aX} {j : aJ} {r : aRes} (hC : aCx X j r) {pc : Nat} {L st : List Value} {m : aM} {x : Int32} {off : Int} {tgt : Nat} (ht : (pc : Int) + off = (tgt : Int)) (d : decode j.1 pc = .ok (.ifCond .ge off, 3)) (kt : ¬ x < 0 → aGW X j r tgt L st m) (kf : x < 0 → aGW X j r (pc + 3) L st m) : aGW X j r pc L (.int x :: st) m := by
  obtain ⟨p, l, e, R, s, mi, args, below, meth, c, Q, ⟨base, b, D, cy, n0, s0⟩⟩ := X
  obtain ⟨cc, own, fr, lo, kind, nL, ret, Lx, xs⟩ := j
  obtain ⟨hx, hb, hml, hown, hts, hK, hNe, hAO, hfr, hlo, hrc, hrs, hsz, hki, hks, hri, hrj, hrv⟩ := hC
  refine And.intro (by
    by_cases hq : x < 0
    · exact (kf hq).1
    · exact (kt hq).1) (fun H locs ls h1 h2 hP hS hL => ?_)
  exact lv_if_ge hx hb d ht (fun q => (kt (Int32.not_lt.mpr q)).2 H locs ls h1 h2 hP hS hL) (fun q => (kf (Decidable.not_not.mp (fun z => q (Int32.not_lt.mp z)))).2 H locs ls h1 h2 hP hS hL)

theorem g_icmp_le {X : aX} {j : aJ} {r : aRes} (hC : aCx X j r) {pc : Nat} {L st : List Value} {m : aM} {x y : Int32} {off : Int} {tgt : Nat} (ht : (pc : Int) + off = (tgt : Int)) (d : decode j.1 pc = .ok (.if_icmp .le off, 3)) (kt : x ≤ y → aGW X j r tgt L st m) (kf : ¬ x ≤ y → aGW X j r (pc + 3) L st m) : aGW X j r pc L (.int y :: .int x :: st) m := by
  obtain ⟨p, l, e, R, s, mi, args, below, meth, c, Q, ⟨base, b, D, cy, n0, s0⟩⟩ := X
  obtain ⟨cc, own, fr, lo, kind, nL, ret, Lx, xs⟩ := j
  obtain ⟨hx, hb, hml, hown, hts, hK, hNe, hAO, hfr, hlo, hrc, hrs, hsz, hki, hks, hri, hrj, hrv⟩ := hC
  refine And.intro (by
    by_cases hq : x ≤ y
    · exact (kt hq).1
    · exact (kf hq).1) (fun H locs ls h1 h2 hP hS hL => ?_)
  exact lv_icmp_le hx hb d ht (fun q => (kt q).2 H locs ls h1 h2 hP hS hL) (fun q => (kf q).2 H locs ls h1 h2 hP hS hL)

theorem g_icmp_gt {X : aX} {j : aJ} {r : aRes} (hC : aCx X j r) {pc : Nat} {L st : List Value} {m : aM} {x y : Int32} {off : Int} {tgt : Nat} (ht : (pc : Int) + off = (tgt : Int)) (d : decode j.1 pc = .ok (.if_icmp .gt off, 3)) (kt : ¬ x ≤ y → aGW X j r tgt L st m) (kf : x ≤ y → aGW X j r (pc + 3) L st m) : aGW X j r pc L (.int y :: .int x :: st) m := by
  obtain ⟨p, l, e, R, s, mi, args, below, meth, c, Q, ⟨base, b, D, cy, n0, s0⟩⟩ := X
  obtain ⟨cc, own, fr, lo, kind, nL, ret, Lx, xs⟩ := j
  obtain ⟨hx, hb, hml, hown, hts, hK, hNe, hAO, hfr, hlo, hrc, hrs, hsz, hki, hks, hri, hrj, hrv⟩ := hC
  refine And.intro (by
    by_cases hq : x ≤ y
    · exact (kf hq).1
    · exact (kt hq).1) (fun H locs ls h1 h2 hP hS hL => ?_)
  exact lv_icmp_gt hx hb d ht (fun q => (kt (Int32.not_le.mpr q)).2 H locs ls h1 h2 hP hS hL) (fun q => (kf (Decidable.not_not.mp (fun z => q (Int32.not_le.mp z)))).2 H locs ls h1 h2 hP hS hL)

theorem g_if_le {X : aX} {j : aJ} {r : aRes} (hC : aCx X j r) {pc : Nat} {L st : List Value} {m : aM} {x : Int32} {off : Int} {tgt : Nat} (ht : (pc : Int) + off = (tgt : Int)) (d : decode j.1 pc = .ok (.ifCond .le off, 3)) (kt : x ≤ 0 → aGW X j r tgt L st m) (kf : ¬ x ≤ 0 → aGW X j r (pc + 3) L st m) : aGW X j r pc L (.int x :: st) m := by
  obtain ⟨p, l, e, R, s, mi, args, below, meth, c, Q, ⟨base, b, D, cy, n0, s0⟩⟩ := X
  obtain ⟨cc, own, fr, lo, kind, nL, ret, Lx, xs⟩ := j
  obtain ⟨hx, hb, hml, hown, hts, hK, hNe, hAO, hfr, hlo, hrc, hrs, hsz, hki, hks, hri, hrj, hrv⟩ := hC
  refine And.intro (by
    by_cases hq : x ≤ 0
    · exact (kt hq).1
    · exact (kf hq).1) (fun H locs ls h1 h2 hP hS hL => ?_)
  exact lv_if_le hx hb d ht (fun q => (kt q).2 H locs ls h1 h2 hP hS hL) (fun q => (kf q).2 H locs ls h1 h2 hP hS hL)

theorem g_if_gt {X : aX} {j : aJ} {r : aRes} (hC : aCx X j r) {pc : Nat} {L st : List Value} {m : aM} {x : Int32} {off : Int} {tgt : Nat} (ht : (pc : Int) + off = (tgt : Int)) (d : decode j.1 pc = .ok (.ifCond .gt off, 3)) (kt : ¬ x ≤ 0 → aGW X j r tgt L st m) (kf : x ≤ 0 → aGW X j r (pc + 3) L st m) : aGW X j r pc L (.int x :: st) m := by
  obtain ⟨p, l, e, R, s, mi, args, below, meth, c, Q, ⟨base, b, D, cy, n0, s0⟩⟩ := X
  obtain ⟨cc, own, fr, lo, kind, nL, ret, Lx, xs⟩ := j
  obtain ⟨hx, hb, hml, hown, hts, hK, hNe, hAO, hfr, hlo, hrc, hrs, hsz, hki, hks, hri, hrj, hrv⟩ := hC
  refine And.intro (by
    by_cases hq : x ≤ 0
    · exact (kf hq).1
    · exact (kt hq).1) (fun H locs ls h1 h2 hP hS hL => ?_)
  exact lv_if_gt hx hb d ht (fun q => (kt (Int32.not_le.mpr q)).2 H locs ls h1 h2 hP hS hL) (fun q => (kf (Decidable.not_not.mp (fun z => q (Int32.not_le.mp z)))).2 H locs ls h1 h2 hP hS hL)

theorem g_icmp_eq {X : aX} {j : aJ} {r : aRes} (hC : aCx X j r) {pc : Nat} {L st : List Value} {m : aM} {x y : Int32} {off : Int} {tgt : Nat} (ht : (pc : Int) + off = (tgt : Int)) (d : decode j.1 pc = .ok (.if_icmp .eq off, 3)) (kt : x = y → aGW X j r tgt L st m) (kf : ¬ x = y → aGW X j r (pc + 3) L st m) : aGW X j r pc L (.int y :: .int x :: st) m := by
  obtain ⟨p, l, e, R, s, mi, args, below, meth, c, Q, ⟨base, b, D, cy, n0, s0⟩⟩ := X
  obtain ⟨cc, own, fr, lo, kind, nL, ret, Lx, xs⟩ := j
  obtain ⟨hx, hb, hml, hown, hts, hK, hNe, hAO, hfr, hlo, hrc, hrs, hsz, hki, hks, hri, hrj, hrv⟩ := hC
  refine And.intro (by
    by_cases hq : x = y
    · exact (kt hq).1
    · exact (kf hq).1) (fun H locs ls h1 h2 hP hS hL => ?_)
  exact lv_icmp_eq hx hb d ht (fun q => (kt q).2 H locs ls h1 h2 hP hS hL) (fun q => (kf q).2 H locs ls h1 h2 hP hS hL)

theorem g_icmp_ne {X : aX} {j : aJ} {r : aRes} (hC : aCx X j r) {pc : Nat} {L st : List Value} {m : aM} {x y : Int32} {off : Int} {tgt : Nat} (ht : (pc : Int) + off = (tgt : Int)) (d : decode j.1 pc = .ok (.if_icmp .ne off, 3)) (kt : ¬ x = y → aGW X j r tgt L st m) (kf : x = y → aGW X j r (pc + 3) L st m) : aGW X j r pc L (.int y :: .int x :: st) m := by
  obtain ⟨p, l, e, R, s, mi, args, below, meth, c, Q, ⟨base, b, D, cy, n0, s0⟩⟩ := X
  obtain ⟨cc, own, fr, lo, kind, nL, ret, Lx, xs⟩ := j
  obtain ⟨hx, hb, hml, hown, hts, hK, hNe, hAO, hfr, hlo, hrc, hrs, hsz, hki, hks, hri, hrj, hrv⟩ := hC
  refine And.intro (by
    by_cases hq : x = y
    · exact (kf hq).1
    · exact (kt hq).1) (fun H locs ls h1 h2 hP hS hL => ?_)
  exact lv_icmp_ne hx hb d ht (fun q => (kt q).2 H locs ls h1 h2 hP hS hL) (fun q => (kf q).2 H locs ls h1 h2 hP hS hL)

theorem g_if_eq {X : aX} {j : aJ} {r : aRes} (hC : aCx X j r) {pc : Nat} {L st : List Value} {m : aM} {x : Int32} {off : Int} {tgt : Nat} (ht : (pc : Int) + off = (tgt : Int)) (d : decode j.1 pc = .ok (.ifCond .eq off, 3)) (kt : x = 0 → aGW X j r tgt L st m) (kf : ¬ x = 0 → aGW X j r (pc + 3) L st m) : aGW X j r pc L (.int x :: st) m := by
  obtain ⟨p, l, e, R, s, mi, args, below, meth, c, Q, ⟨base, b, D, cy, n0, s0⟩⟩ := X
  obtain ⟨cc, own, fr, lo, kind, nL, ret, Lx, xs⟩ := j
  obtain ⟨hx, hb, hml, hown, hts, hK, hNe, hAO, hfr, hlo, hrc, hrs, hsz, hki, hks, hri, hrj, hrv⟩ := hC
  refine And.intro (by
    by_cases hq : x = 0
    · exact (kt hq).1
    · exact (kf hq).1) (fun H locs ls h1 h2 hP hS hL => ?_)
  exact lv_if_eq hx hb d ht (fun q => (kt q).2 H locs ls h1 h2 hP hS hL) (fun q => (kf q).2 H locs ls h1 h2 hP hS hL)

theorem g_if_ne {X : aX} {j : aJ} {r : aRes} (hC : aCx X j r) {pc : Nat} {L st : List Value} {m : aM} {x : Int32} {off : Int} {tgt : Nat} (ht : (pc : Int) + off = (tgt : Int)) (d : decode j.1 pc = .ok (.ifCond .ne off, 3)) (kt : ¬ x = 0 → aGW X j r tgt L st m) (kf : x = 0 → aGW X j r (pc + 3) L st m) : aGW X j r pc L (.int x :: st) m := by
  obtain ⟨p, l, e, R, s, mi, args, below, meth, c, Q, ⟨base, b, D, cy, n0, s0⟩⟩ := X
  obtain ⟨cc, own, fr, lo, kind, nL, ret, Lx, xs⟩ := j
  obtain ⟨hx, hb, hml, hown, hts, hK, hNe, hAO, hfr, hlo, hrc, hrs, hsz, hki, hks, hri, hrj, hrv⟩ := hC
  refine And.intro (by
    by_cases hq : x = 0
    · exact (kf hq).1
    · exact (kt hq).1) (fun H locs ls h1 h2 hP hS hL => ?_)
  exact lv_if_ne hx hb d ht (fun q => (kt q).2 H locs ls h1 h2 hP hS hL) (fun q => (kf q).2 H locs ls h1 h2 hP hS hL)

theorem g_ifnull {X : aX} {j : aJ} {r : aRes} (hC : aCx X j r) {pc : Nat} {L st : List Value} {m : aM} {q : Option Nat} {off : Int} {tgt : Nat} (ht : (pc : Int) + off = (tgt : Int)) (d : decode j.1 pc = .ok (.ifnull off, 3)) (kt : q = none → aGW X j r tgt L st m) (kf : ¬ q = none → aGW X j r (pc + 3) L st m) : aGW X j r pc L (a_rv q :: st) m := by
  obtain ⟨p, l, e, R, s, mi, args, below, meth, c, Q, ⟨base, b, D, cy, n0, s0⟩⟩ := X
  obtain ⟨cc, own, fr, lo, kind, nL, ret, Lx, xs⟩ := j
  obtain ⟨hx, hb, hml, hown, hts, hK, hNe, hAO, hfr, hlo, hrc, hrs, hsz, hki, hks, hri, hrj, hrv⟩ := hC
  cases q with
  | none =>
    obtain ⟨k1, k2⟩ := kt rfl
    exact And.intro k1 (fun H locs ls h1 h2 hP hS hL => lv_ifnullN hx hb d ht (k2 H locs ls h1 h2 hP hS hL))
  | some a =>
    obtain ⟨k1, k2⟩ := kf (by simp)
    exact And.intro k1 (fun H locs ls h1 h2 hP hS hL => lv_ifnull hx hb d (k2 H locs ls h1 h2 hP hS hL))

theorem g_ifnonnull {X : aX} {j : aJ} {r : aRes} (hC : aCx X j r) {pc : Nat} {L st : List Value} {m : aM} {q : Option Nat} {off : Int} {tgt : Nat} (ht : (pc : Int) + off = (tgt : Int)) (d : decode j.1 pc = .ok (.ifnonnull off, 3)) (kt : ¬ q = none → aGW X j r tgt L st m) (kf : q = none → aGW X j r (pc + 3) L st m) : aGW X j r pc L (a_rv q :: st) m := by
  obtain ⟨p, l, e, R, s, mi, args, below, meth, c, Q, ⟨base, b, D, cy, n0, s0⟩⟩ := X
  obtain ⟨cc, own, fr, lo, kind, nL, ret, Lx, xs⟩ := j
  obtain ⟨hx, hb, hml, hown, hts, hK, hNe, hAO, hfr, hlo, hrc, hrs, hsz, hki, hks, hri, hrj, hrv⟩ := hC
  cases q with
  | none =>
    obtain ⟨k1, k2⟩ := kf rfl
    exact And.intro k1 (fun H locs ls h1 h2 hP hS hL => lv_ifnonnullN hx hb d (k2 H locs ls h1 h2 hP hS hL))
  | some a =>
    obtain ⟨k1, k2⟩ := kt (by simp)
    exact And.intro k1 (fun H locs ls h1 h2 hP hS hL => lv_ifnonnull hx hb d ht (k2 H locs ls h1 h2 hP hS hL))

theorem g_tableOut {X : aX} {j : aJ} {r : aRes} (hC : aCx X j r) {pc : Nat} {L st : List Value} {m : aM} {x : Int32} {dflt lo hi : Int} {offs : Array Int} {len tgt : Nat} (ht : (pc : Int) + dflt = (tgt : Int)) (h : x.toInt < lo ∨ hi < x.toInt) (d : decode j.1 pc = .ok (.tableswitch dflt lo hi offs, len)) (k : aGW X j r tgt L st m) : aGW X j r pc L (.int x :: st) m := by
  obtain ⟨p, l, e, R, s, mi, args, below, meth, c, Q, ⟨base, b, D, cy, n0, s0⟩⟩ := X
  obtain ⟨cc, own, fr, lo, kind, nL, ret, Lx, xs⟩ := j
  obtain ⟨hx, hb, hml, hown, hts, hK, hNe, hAO, hfr, hlo, hrc, hrs, hsz, hki, hks, hri, hrj, hrv⟩ := hC
  obtain ⟨k1, k2⟩ := k
  refine And.intro k1 (fun H locs ls h1 h2 hP hS hL => ?_)
  exact lv_tableOut hx hb d h ht (k2 H locs ls h1 h2 hP hS hL)

theorem g_tableIn {X : aX} {j : aJ} {r : aRes} (hC : aCx X j r) {pc : Nat} {L st : List Value} {m : aM} {x : Int32} {dflt lo hi off : Int} {offs : Array Int} {len tgt : Nat} (ht : (pc : Int) + off = (tgt : Int)) (ha : ¬ x.toInt < lo) (hc : ¬ hi < x.toInt) (ho : offs[(x.toInt - lo).toNat]? = some off) (d : decode j.1 pc = .ok (.tableswitch dflt lo hi offs, len)) (k : aGW X j r tgt L st m) : aGW X j r pc L (.int x :: st) m := by
  obtain ⟨p, l, e, R, s, mi, args, below, meth, c, Q, ⟨base, b, D, cy, n0, s0⟩⟩ := X
  obtain ⟨cc, own, fr, lo, kind, nL, ret, Lx, xs⟩ := j
  obtain ⟨hx, hb, hml, hown, hts, hK, hNe, hAO, hfr, hlo, hrc, hrs, hsz, hki, hks, hri, hrj, hrv⟩ := hC
  obtain ⟨k1, k2⟩ := k
  refine And.intro k1 (fun H locs ls h1 h2 hP hS hL => ?_)
  exact lv_tableIn hx hb d ha hc ho ht (k2 H locs ls h1 h2 hP hS hL)

theorem g_iret {X : aX} {j : aJ} {r : aRes} (hC : aCx X j r) {pc : Nat} {L st : List Value} {m : aM} {v : Int32} {t : FieldType} (hr : r = (some (.int v), m)) (ht : j.2.2.2.2.2.2.1 = some t) (hn : narrow t (.int v) = .int v) (d : decode j.1 pc = .ok (.ireturn, 1)) : aGW X j r pc L [.int v] m := by
  obtain ⟨p, l, e, R, s, mi, args, below, meth, c, Q, ⟨base, b, D, cy, n0, s0⟩⟩ := X
  obtain ⟨cc, own, fr, lo, kind, nL, ret, Lx, xs⟩ := j
  obtain ⟨hx, hb, hml, hown, hts, hK, hNe, hAO, hfr, hlo, hrc, hrs, hsz, hki, hks, hri, hrj, hrv⟩ := hC
  refine And.intro ⟨by rw [hr]; exact Nat.le_refl _, by rw [hr]; exact Nat.le_refl _⟩ (fun H locs ls h1 h2 hP hS hL => ?_)
  exact hri v t m H locs ls pc hr ht hn d h1 h2 hP hS

theorem g_lret {X : aX} {j : aJ} {r : aRes} (hC : aCx X j r) {pc : Nat} {L st : List Value} {m : aM} {v : Int64} (hr : r = (some (.long v), m)) (ht : j.2.2.2.2.2.2.1 = some .long) (d : decode j.1 pc = .ok (.lreturn, 1)) : aGW X j r pc L [.long v] m := by
  obtain ⟨p, l, e, R, s, mi, args, below, meth, c, Q, ⟨base, b, D, cy, n0, s0⟩⟩ := X
  obtain ⟨cc, own, fr, lo, kind, nL, ret, Lx, xs⟩ := j
  obtain ⟨hx, hb, hml, hown, hts, hK, hNe, hAO, hfr, hlo, hrc, hrs, hsz, hki, hks, hri, hrj, hrv⟩ := hC
  refine And.intro ⟨by rw [hr]; exact Nat.le_refl _, by rw [hr]; exact Nat.le_refl _⟩ (fun H locs ls h1 h2 hP hS hL => ?_)
  exact hrj v m H locs ls pc hr ht d h1 h2 hP hS

theorem g_vret {X : aX} {j : aJ} {r : aRes} (hC : aCx X j r) {pc : Nat} {L st : List Value} {m : aM} (hr : r = (none, m)) (ht : j.2.2.2.2.2.2.1 = none) (d : decode j.1 pc = .ok (.return_, 1)) : aGW X j r pc L [] m := by
  obtain ⟨p, l, e, R, s, mi, args, below, meth, c, Q, ⟨base, b, D, cy, n0, s0⟩⟩ := X
  obtain ⟨cc, own, fr, lo, kind, nL, ret, Lx, xs⟩ := j
  obtain ⟨hx, hb, hml, hown, hts, hK, hNe, hAO, hfr, hlo, hrc, hrs, hsz, hki, hks, hri, hrj, hrv⟩ := hC
  refine And.intro ⟨by rw [hr]; exact Nat.le_refl _, by rw [hr]; exact Nat.le_refl _⟩ (fun H locs ls h1 h2 hP hS hL => ?_)
  exact hrv m H locs ls pc hr ht d h1 h2 hP hS

theorem g_fg {X : aX} {j : aJ} {r : aRes} (hC : aCx X j r) {pc : Nat} {L st : List Value} {m : aM} (n : Nat) (k : aGW X j r pc (a_fg n L) st m) : aGW X j r pc L st m := by
  obtain ⟨p, l, e, R, s, mi, args, below, meth, c, Q, ⟨base, b, D, cy, n0, s0⟩⟩ := X
  obtain ⟨cc, own, fr, lo, kind, nL, ret, Lx, xs⟩ := j
  obtain ⟨hx, hb, hml, hown, hts, hK, hNe, hAO, hfr, hlo, hrc, hrs, hsz, hki, hks, hri, hrj, hrv⟩ := hC
  obtain ⟨k1, k2⟩ := k
  refine And.intro k1 (fun H locs ls h1 h2 hP hS hL => ?_)
  exact k2 H locs ls h1 h2 hP hS (a_lr_fg n hL)
