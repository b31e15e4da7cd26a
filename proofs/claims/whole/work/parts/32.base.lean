/-! numbers, indices, memory -/
theorem lt31 (n : Nat) : (OfNat.ofNat n : Int32) = nI n := rfl
theorem a_ixn {a N : Nat} (h : a < N) (hN : N < 2147483648) : a_ix (nI a) N = true := by
  have e := nI_toInt (n := a) (by omega)
  simp only [a_ix, e, Bool.and_eq_true, decide_eq_true_eq]
  omega
theorem a_ixl {b N : Nat} (h : b < N) (hN : N < 2147483648) : a_ix (OfNat.ofNat b) N = true := a_ixn h hN
theorem a_cln {a : Nat} (h : a < 2147483648) : (nI a).toNatClampNeg = a := nI_clamp h
theorem a_cll {b : Nat} (h : b < 2147483648) : (OfNat.ofNat b : Int32).toNatClampNeg = b := nI_clamp h
theorem nI_addl (a b : Nat) : nI a + (OfNat.ofNat b : Int32) = nI (a + b) := nI_add a b
theorem nI_addr (a b : Nat) : (OfNat.ofNat b : Int32) + nI a = nI (b + a) := nI_add b a
theorem nI_mulr (a b : Nat) : (OfNat.ofNat b : Int32) * nI a = nI (b * a) := pk_mul b a
theorem nI_mull (a b : Nat) : nI a * (OfNat.ofNat b : Int32) = nI (a * b) := pk_mul a b
theorem ix0 {N : Nat} (h : 0 < N) (hN : N < 2147483648) : a_ix 0 N = true := a_ixn h hN
theorem tc0 : (0 : Int32).toNatClampNeg = 0 := nI_clamp (by decide)
theorem ix1 {N : Nat} (h : 1 < N) (hN : N < 2147483648) : a_ix 1 N = true := a_ixn h hN
theorem tc1 : (1 : Int32).toNatClampNeg = 1 := nI_clamp (by decide)
theorem ix2 {N : Nat} (h : 2 < N) (hN : N < 2147483648) : a_ix 2 N = true := a_ixn h hN
theorem tc2 : (2 : Int32).toNatClampNeg = 2 := nI_clamp (by decide)
theorem ix3 {N : Nat} (h : 3 < N) (hN : N < 2147483648) : a_ix 3 N = true := a_ixn h hN
theorem tc3 : (3 : Int32).toNatClampNeg = 3 := nI_clamp (by decide)
theorem ix4 {N : Nat} (h : 4 < N) (hN : N < 2147483648) : a_ix 4 N = true := a_ixn h hN
theorem tc4 : (4 : Int32).toNatClampNeg = 4 := nI_clamp (by decide)
theorem ix5 {N : Nat} (h : 5 < N) (hN : N < 2147483648) : a_ix 5 N = true := a_ixn h hN
theorem tc5 : (5 : Int32).toNatClampNeg = 5 := nI_clamp (by decide)
theorem ix6 {N : Nat} (h : 6 < N) (hN : N < 2147483648) : a_ix 6 N = true := a_ixn h hN
theorem tc6 : (6 : Int32).toNatClampNeg = 6 := nI_clamp (by decide)
theorem ix7 {N : Nat} (h : 7 < N) (hN : N < 2147483648) : a_ix 7 N = true := a_ixn h hN
theorem tc7 : (7 : Int32).toNatClampNeg = 7 := nI_clamp (by decide)
theorem ix8 {N : Nat} (h : 8 < N) (hN : N < 2147483648) : a_ix 8 N = true := a_ixn h hN
theorem tc8 : (8 : Int32).toNatClampNeg = 8 := nI_clamp (by decide)
theorem ix9 {N : Nat} (h : 9 < N) (hN : N < 2147483648) : a_ix 9 N = true := a_ixn h hN
theorem tc9 : (9 : Int32).toNatClampNeg = 9 := nI_clamp (by decide)
theorem ix10 {N : Nat} (h : 10 < N) (hN : N < 2147483648) : a_ix 10 N = true := a_ixn h hN
theorem tc10 : (10 : Int32).toNatClampNeg = 10 := nI_clamp (by decide)
theorem ix11 {N : Nat} (h : 11 < N) (hN : N < 2147483648) : a_ix 11 N = true := a_ixn h hN
theorem tc11 : (11 : Int32).toNatClampNeg = 11 := nI_clamp (by decide)
theorem ix12 {N : Nat} (h : 12 < N) (hN : N < 2147483648) : a_ix 12 N = true := a_ixn h hN
theorem tc12 : (12 : Int32).toNatClampNeg = 12 := nI_clamp (by decide)
theorem ix13 {N : Nat} (h : 13 < N) (hN : N < 2147483648) : a_ix 13 N = true := a_ixn h hN
theorem tc13 : (13 : Int32).toNatClampNeg = 13 := nI_clamp (by decide)
theorem ix14 {N : Nat} (h : 14 < N) (hN : N < 2147483648) : a_ix 14 N = true := a_ixn h hN
theorem tc14 : (14 : Int32).toNatClampNeg = 14 := nI_clamp (by decide)
theorem ix15 {N : Nat} (h : 15 < N) (hN : N < 2147483648) : a_ix 15 N = true := a_ixn h hN
theorem tc15 : (15 : Int32).toNatClampNeg = 15 := nI_clamp (by decide)
theorem ix16 {N : Nat} (h : 16 < N) (hN : N < 2147483648) : a_ix 16 N = true := a_ixn h hN
theorem tc16 : (16 : Int32).toNatClampNeg = 16 := nI_clamp (by decide)
theorem ix30 {N : Nat} (h : 30 < N) (hN : N < 2147483648) : a_ix 30 N = true := a_ixn h hN
theorem tc30 : (30 : Int32).toNatClampNeg = 30 := nI_clamp (by decide)
theorem ix31 {N : Nat} (h : 31 < N) (hN : N < 2147483648) : a_ix 31 N = true := a_ixn h hN
theorem tc31 : (31 : Int32).toNatClampNeg = 31 := nI_clamp (by decide)
theorem ix32 {N : Nat} (h : 32 < N) (hN : N < 2147483648) : a_ix 32 N = true := a_ixn h hN
theorem tc32 : (32 : Int32).toNatClampNeg = 32 := nI_clamp (by decide)
theorem ix74 {N : Nat} (h : 74 < N) (hN : N < 2147483648) : a_ix 74 N = true := a_ixn h hN
theorem tc74 : (74 : Int32).toNatClampNeg = 74 := nI_clamp (by decide)
theorem al0 (a : Nat) : nI a + 0 = nI (a + 0) := nI_add a 0
theorem ar0 (a : Nat) : 0 + nI a = nI (0 + a) := nI_add 0 a
theorem al1 (a : Nat) : nI a + 1 = nI (a + 1) := nI_add a 1
theorem ar1 (a : Nat) : 1 + nI a = nI (1 + a) := nI_add 1 a
theorem al2 (a : Nat) : nI a + 2 = nI (a + 2) := nI_add a 2
theorem ar2 (a : Nat) : 2 + nI a = nI (2 + a) := nI_add 2 a
theorem al3 (a : Nat) : nI a + 3 = nI (a + 3) := nI_add a 3
theorem ar3 (a : Nat) : 3 + nI a = nI (3 + a) := nI_add 3 a
theorem al4 (a : Nat) : nI a + 4 = nI (a + 4) := nI_add a 4
theorem ar4 (a : Nat) : 4 + nI a = nI (4 + a) := nI_add 4 a
theorem al5 (a : Nat) : nI a + 5 = nI (a + 5) := nI_add a 5
theorem ar5 (a : Nat) : 5 + nI a = nI (5 + a) := nI_add 5 a
theorem al6 (a : Nat) : nI a + 6 = nI (a + 6) := nI_add a 6
theorem ar6 (a : Nat) : 6 + nI a = nI (6 + a) := nI_add 6 a
theorem al7 (a : Nat) : nI a + 7 = nI (a + 7) := nI_add a 7
theorem ar7 (a : Nat) : 7 + nI a = nI (7 + a) := nI_add 7 a
theorem al8 (a : Nat) : nI a + 8 = nI (a + 8) := nI_add a 8
theorem ar8 (a : Nat) : 8 + nI a = nI (8 + a) := nI_add 8 a
theorem al9 (a : Nat) : nI a + 9 = nI (a + 9) := nI_add a 9
theorem ar9 (a : Nat) : 9 + nI a = nI (9 + a) := nI_add 9 a
theorem al10 (a : Nat) : nI a + 10 = nI (a + 10) := nI_add a 10
theorem ar10 (a : Nat) : 10 + nI a = nI (10 + a) := nI_add 10 a
theorem al11 (a : Nat) : nI a + 11 = nI (a + 11) := nI_add a 11
theorem ar11 (a : Nat) : 11 + nI a = nI (11 + a) := nI_add 11 a
theorem al12 (a : Nat) : nI a + 12 = nI (a + 12) := nI_add a 12
theorem ar12 (a : Nat) : 12 + nI a = nI (12 + a) := nI_add 12 a
theorem al13 (a : Nat) : nI a + 13 = nI (a + 13) := nI_add a 13
theorem ar13 (a : Nat) : 13 + nI a = nI (13 + a) := nI_add 13 a
theorem al14 (a : Nat) : nI a + 14 = nI (a + 14) := nI_add a 14
theorem ar14 (a : Nat) : 14 + nI a = nI (14 + a) := nI_add 14 a
theorem al15 (a : Nat) : nI a + 15 = nI (a + 15) := nI_add a 15
theorem ar15 (a : Nat) : 15 + nI a = nI (15 + a) := nI_add 15 a
theorem al16 (a : Nat) : nI a + 16 = nI (a + 16) := nI_add a 16
theorem ar16 (a : Nat) : 16 + nI a = nI (16 + a) := nI_add 16 a
theorem al32 (a : Nat) : nI a + 32 = nI (a + 32) := nI_add a 32
theorem ar32 (a : Nat) : 32 + nI a = nI (32 + a) := nI_add 32 a
theorem al74 (a : Nat) : nI a + 74 = nI (a + 74) := nI_add a 74
theorem ar74 (a : Nat) : 74 + nI a = nI (74 + a) := nI_add 74 a
theorem ml4 (a : Nat) : nI a * 4 = nI (a * 4) := pk_mul a 4
theorem mr4 (a : Nat) : 4 * nI a = nI (4 * a) := pk_mul 4 a
theorem ml6 (a : Nat) : nI a * 6 = nI (a * 6) := pk_mul a 6
theorem mr6 (a : Nat) : 6 * nI a = nI (6 * a) := pk_mul 6 a
theorem ml7 (a : Nat) : nI a * 7 = nI (a * 7) := pk_mul a 7
theorem mr7 (a : Nat) : 7 * nI a = nI (7 * a) := pk_mul 7 a
theorem ml10 (a : Nat) : nI a * 10 = nI (a * 10) := pk_mul a 10
theorem mr10 (a : Nat) : 10 * nI a = nI (10 * a) := pk_mul 10 a
theorem ml74 (a : Nat) : nI a * 74 = nI (a * 74) := pk_mul a 74
theorem mr74 (a : Nat) : 74 * nI a = nI (74 * a) := pk_mul 74 a
theorem up2_va {α : Type} (I : Nat → Nat → α) (q : Nat) (c : Nat → α) (k : Nat) (v : α) : a_up2 (va_up I q c) q k v = va_up I q (va_up c k v) := by
  funext p
  by_cases h : p = q
  · subst h
    rw [a_up2_at, va_up_self, va_up_self]
  · rw [a_up2_ne _ _ _ h, va_up_ne _ _ h, va_up_ne _ _ h]
theorem va_twice {α : Type} (I : Nat → α) (q : Nat) (c d : α) : va_up (va_up I q c) q d = va_up I q d := by
  funext p
  by_cases h : p = q
  · subst h
    rw [va_up_self, va_up_self]
  · rw [va_up_ne _ _ h, va_up_ne _ _ h, va_up_ne _ _ h]
theorem va_same {α : Type} (I : Nat → α) (q : Nat) : va_up I q (I q) = I := by
  funext p
  by_cases h : p = q
  · subst h
    rw [va_up_self]
  · rw [va_up_ne _ _ h]
theorem up2_row {α : Type} (I : Nat → Nat → α) (q k : Nat) (v : α) : a_up2 I q k v = va_up I q (va_up (I q) k v) := rfl
theorem i10 : ((1 : Int32) = 0) = False := eq_false (by decide)
theorem i01 : ((0 : Int32) = 1) = False := eq_false (by decide)
theorem ltn {a b : Nat} (ha : a < 2147483648) (hb : b < 2147483648) : (nI a < nI b) = (a < b) := propext (nI_ltI ha hb)
theorem len {a b : Nat} (ha : a < 2147483648) (hb : b < 2147483648) : (nI a ≤ nI b) = (a ≤ b) := propext (nI_leI ha hb)
theorem eqn {a b : Nat} (ha : a < 2147483648) (hb : b < 2147483648) : (nI a = nI b) = (a = b) := propext (nI_eq ha hb)
theorem wh_s {c : aC} {b : aP} {n : Nat} {k : aK} {L : List Value} {m : aM} : s_wh c b (n + 1) k L m = c (b (s_wh c b n k)) k L m := rfl
/-- d steps from j on -/
def itr {σ : Type} (f : Nat → σ → σ) : Nat → Nat → σ → σ
  | 0, _, x => x
  | d + 1, j, x => itr f d (j + 1) (f j x)
