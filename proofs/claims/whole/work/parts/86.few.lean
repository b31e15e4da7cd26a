def k_sh (x : Int32) (y : Int32) : Int32 := (x.toUInt32 >>> (y.toUInt32 &&& Int32.toUInt32 31)).toInt32
def k_bc1 (x : Int32) : Int32 := x - (k_sh x 1 &&& 1431655765)
def k_bc2 (x : Int32) : Int32 := (x &&& 858993459) + (k_sh x 2 &&& 858993459)
def k_bc3 (x : Int32) : Int32 := (x + k_sh x 4) &&& 252645135
def k_bc4 (x : Int32) : Int32 := x + k_sh x 8
def k_bc5 (x : Int32) : Int32 := (x + k_sh x 16) &&& 63
def k_bc (x : Int32) : Int32 := k_bc5 (k_bc4 (k_bc3 (k_bc2 (k_bc1 x))))
noncomputable def bbc (a b c d : Int32) : aP := (s_sq (s_il 0 (e_i2 (fun x y => x - y) (e_il 0) (e_i2 (fun x y => x &&& y) (e_i2 (fun x y => (x.toUInt32 >>> (y.toUInt32 &&& Int32.toUInt32 31)).toInt32) (e_il 0) (e_ic 1)) (e_ic a)))) (s_sq (s_il 0 (e_i2 (fun x y => x + y) (e_i2 (fun x y => x &&& y) (e_il 0) (e_ic b)) (e_i2 (fun x y => x &&& y) (e_i2 (fun x y => (x.toUInt32 >>> (y.toUInt32 &&& Int32.toUInt32 31)).toInt32) (e_il 0) (e_ic 2)) (e_ic b)))) (s_sq (s_il 0 (e_i2 (fun x y => x &&& y) (e_i2 (fun x y => x + y) (e_il 0) (e_i2 (fun x y => (x.toUInt32 >>> (y.toUInt32 &&& Int32.toUInt32 31)).toInt32) (e_il 0) (e_ic 4))) (e_ic c))) (s_sq (s_il 0 (e_i2 (fun x y => x + y) (e_il 0) (e_i2 (fun x y => (x.toUInt32 >>> (y.toUInt32 &&& Int32.toUInt32 31)).toInt32) (e_il 0) (e_ic 8)))) (s_sq (s_il 0 (e_i2 (fun x y => x + y) (e_il 0) (e_i2 (fun x y => (x.toUInt32 >>> (y.toUInt32 &&& Int32.toUInt32 31)).toInt32) (e_il 0) (e_ic 16)))) (s_ri (e_i2 (fun x y => x &&& y) (e_il 0) (e_ic d))))))))
theorem bbc_eq : bJ6_bitCount_0f7a4 = bbc 1431655765 858993459 252645135 63 := rfl
theorem ek_bc (x : Int32) (m : aM) : fJ6_bitCount_0f7a4 [.int x] m = some (some (.int (k_bc x)), m) := by
  rw [enJ6_bitCount_0f7a4, bbc_eq]
  unfold k_bc
  rfl
theorem k_bc_ones : ∀ j, j < 256 → k_bc (nI j) = d_ones (nI j) := by decide +kernel
