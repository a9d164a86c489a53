-- ===== numbers: zI of Int, nI of Nat =====
def zI (z : Int) : Int32 := Int32.ofInt z
theorem zI_nI (n : Nat) : zI (n : Int) = nI n := by
  unfold zI nI
  rfl
theorem nI_zI (n : Nat) : nI n = zI (n : Int) := (zI_nI n).symm
theorem zI_add (a b : Int) : zI a + zI b = zI (a + b) := (Int32.ofInt_add a b).symm
theorem zI_sub (a b : Int) : zI a - zI b = zI (a - b) := (Int32.ofInt_sub a b).symm
theorem zI_mul (a b : Int) : zI a * zI b = zI (a * b) := (Int32.ofInt_mul a b).symm
theorem zI_neg (a : Int) : 0 - zI a = zI (-a) := by
  rw [show (0 : Int32) = zI 0 from rfl, zI_sub]; congr 1; omega
def zR (z : Int) : Prop := -2147483648 ≤ z ∧ z < 2147483648
theorem zI_toInt {z : Int} (h : zR z) : (zI z).toInt = z := by
  unfold zI
  rw [Int32.toInt_ofInt]
  unfold zR at h
  rw [Int.bmod_eq_of_le] <;> simp <;> omega
theorem zI_of (x : Int32) : ∃ z : Int, zR z ∧ x = zI z := by
  refine ⟨x.toInt, ?_, ?_⟩
  · have h1 := x.le_toInt
    have h2 := x.toInt_lt
    unfold zR; simp at h1 h2; omega
  · exact (Int32.ofInt_toInt x).symm
theorem zI_lt {a b : Int} (ha : zR a) (hb : zR b) : zI a < zI b ↔ a < b := by
  rw [Int32.lt_iff_toInt_lt, zI_toInt ha, zI_toInt hb]
theorem zI_le {a b : Int} (ha : zR a) (hb : zR b) : zI a ≤ zI b ↔ a ≤ b := by
  rw [Int32.le_iff_toInt_le, zI_toInt ha, zI_toInt hb]
theorem zI_eq {a b : Int} (ha : zR a) (hb : zR b) : zI a = zI b ↔ a = b := by
  rw [← Int32.toInt_inj, zI_toInt ha, zI_toInt hb]
theorem zR_n {n : Nat} (h : n < 2147483648) : zR (n : Int) := by unfold zR; omega
theorem zn_add (a : Int) (b : Nat) : zI a + nI b = zI (a + b) := by rw [nI_zI, zI_add]
theorem nz_add (a : Nat) (b : Int) : nI a + zI b = zI (a + b) := by rw [nI_zI, zI_add]
theorem zn_sub (a : Int) (b : Nat) : zI a - nI b = zI (a - b) := by rw [nI_zI, zI_sub]
theorem nz_sub (a : Nat) (b : Int) : nI a - zI b = zI (a - b) := by rw [nI_zI, zI_sub]
theorem nn_sub (a b : Nat) : nI a - nI b = zI ((a : Int) - b) := by rw [nI_zI, nI_zI, zI_sub]
theorem zn_mul (a : Int) (b : Nat) : zI a * nI b = zI (a * b) := by rw [nI_zI, zI_mul]
theorem nz_mul (a : Nat) (b : Int) : nI a * zI b = zI (a * b) := by rw [nI_zI, zI_mul]
theorem zn_of {z : Int} {n : Nat} (h : z = n) : zI z = nI n := by rw [h, zI_nI]
theorem n_add (a b : Nat) : nI a + nI b = nI (a + b) := nI_add a b
theorem n_mul (a b : Nat) : nI a * nI b = nI (a * b) := pk_mul a b
theorem n_sub {a b : Nat} (h : b ≤ a) : nI a - nI b = nI (a - b) := pk_sub h
theorem n_div {a d : Nat} (ha : a < 2147483648) (h0 : 0 < d) (hd : d < 2147483648) : nI a / nI d = nI (a / d) := pk_div ha h0 hd
theorem n_rem {a d : Nat} (ha : a < 2147483648) (h0 : 0 < d) (hd : d < 2147483648) : nI a - nI a / nI d * nI d = nI (a % d) := pk_rem ha h0 hd
theorem n_and (a b : Nat) : nI a &&& nI b = nI (a &&& b) := by
  apply Int32.toBitVec_inj.mp
  simp [nI, BitVec.ofNat_and]
theorem n_or (a b : Nat) : nI a ||| nI b = nI (a ||| b) := by
  apply Int32.toBitVec_inj.mp
  simp [nI, BitVec.ofNat_or]
theorem n_xor (a b : Nat) : nI a ^^^ nI b = nI (a ^^^ b) := by
  apply Int32.toBitVec_inj.mp
  simp [nI, BitVec.ofNat_xor]
theorem n_31 : ∀ k, k < 32 → ((nI k &&& 31).toBitVec.smod 32).toNat = k := by decide +kernel
theorem n_shl {a k : Nat} (hk : k < 31) (h : a * 2 ^ k < 2147483648) : nI a <<< (nI k &&& 31) = nI (a * 2 ^ k) := by
  exact pk_shlN (nI k &&& 31) k (n_31 k (by omega)) (by omega)
theorem n_shr {a k : Nat} (ha : a < 2147483648) (hk : k < 31) : nI a >>> (nI k &&& 31) = nI (a / 2 ^ k) := by
  exact pk_shrN (by omega) (nI k &&& 31) k (n_31 k (by omega))
theorem n_toNat {n : Nat} (h : n < 2147483648) : (nI n).toNatClampNeg = n := nI_clamp (by omega)
theorem n_in {n N : Nat} (h : n < N) (hN : N < 2147483648) : vp_in (nI n) N := vp_in_nI h (by omega)
theorem n_lt {a b : Nat} (ha : a < 2147483648) (hb : b < 2147483648) : nI a < nI b ↔ a < b := nI_ltI (by omega) (by omega)
theorem n_le {a b : Nat} (ha : a < 2147483648) (hb : b < 2147483648) : nI a ≤ nI b ↔ a ≤ b := nI_leI (by omega) (by omega)
theorem n_eq {a b : Nat} (ha : a < 2147483648) (hb : b < 2147483648) : nI a = nI b ↔ a = b := nI_eq (by omega) (by omega)
def zB (P : Prop) [Decidable P] : Nat := if P then 1 else 0
theorem zB_t {P : Prop} [Decidable P] (h : P) : zB P = 1 := if_pos h
theorem zB_f {P : Prop} [Decidable P] (h : ¬ P) : zB P = 0 := if_neg h
theorem zB_le (P : Prop) [Decidable P] : zB P ≤ 1 := by unfold zB; split <;> omega
theorem zB_z {P : Prop} [Decidable P] : nI (zB P) = 0 ↔ ¬ P := by
  unfold zB
  by_cases h : P
  · rw [if_pos h]; simp [h]; decide
  · rw [if_neg h]; simp [h]; rfl
theorem zB_n {P : Prop} [Decidable P] : ¬ nI (zB P) = 0 ↔ P := by
  rw [zB_z]; exact Decidable.not_not
theorem zB_nar (P : Prop) [Decidable P] : narrow .boolean (.int (nI (zB P))) = .int (nI (zB P)) := by
  unfold zB
  by_cases h : P
  · rw [if_pos h]; decide
  · rw [if_neg h]; decide
theorem z_probe (a b : Int) : (if a < b then a else b) ≤ a := by omega
theorem z_probe2 (a : Int) (h : 0 ≤ a) : a / 2 ≤ a ∧ a % 2 < 2 ∧ (a.natAbs : Int) = a ∧ max a 3 ≥ 3 := by omega
