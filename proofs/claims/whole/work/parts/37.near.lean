/-- the reference's set along the nearest plan -/
def tnq (P X Y : Nat → Nat) (C n k : Nat) : Nat := cpl n (nst P X Y C n k).1
theorem nst_le (P X Y : Nat → Nat) (C n : Nat) : ∀ k, (nst P X Y C n k).1 ≤ 2 ^ n - 1
  | 0 => Nat.le_refl _
  | k + 1 => Nat.le_trans (clb_le _ _) (nst_le P X Y C n k)
theorem tnq_c (P X Y : Nat → Nat) (C n k : Nat) : cpl n (tnq P X Y C n k) = (nst P X Y C n k).1 := by
  have h := nst_le P X Y C n k
  unfold tnq cpl
  omega
theorem tnq_lt (P X Y : Nat → Nat) (C n k : Nat) : tnq P X Y C n k < 2 ^ n := by
  have h : 0 < 2 ^ n := Nat.pow_pos (by decide)
  unfold tnq cpl
  omega
theorem tnq_0 (P X Y : Nat → Nat) (C n : Nat) : tnq P X Y C n 0 = 0 := Nat.sub_self _
theorem nst_z {P X Y : Nat → Nat} {C n k : Nat} (hn : n ≤ 8) (hk : k < n) : 0 ≤ (nst P X Y C n (k + 1)).2 ∧ (nst P X Y C n (k + 1)).2 < 2 * (n : Int) ∧ inS (nst P X Y C n k).1 (nst P X Y C n (k + 1)).2.toNat := by
  have h := nst_ok P X Y C n hn k (by omega)
  have hg : 0 ≤ (nst P X Y C n (k + 1)).2 := amf_ge (g := fun j => stp P X Y C (nst P X Y C n k).2 j) (by omega)
  have hb := nst_ok P X Y C n hn (k + 1) (by omega)
  have hi : inS (nst P X Y C n k).1 (nst P X Y C n (k + 1)).2.toNat := amf_in (Q := fun j => inS (nst P X Y C n k).1 j) (g := fun j => stp P X Y C (nst P X Y C n k).2 j) (k := 2 * n) (by
    show ¬ (nst P X Y C n (k + 1)).2 = -1
    omega)
  exact ⟨hg, hb.2.2.2, hi⟩
theorem tnq_s {P X Y : Nat → Nat} {C n k : Nat} (hn : n ≤ 8) (hk : k < n) : tnq P X Y C n k ||| 2 ^ ((nst P X Y C n (k + 1)).2.toNat / 2) = tnq P X Y C n (k + 1) := by
  have hz := nst_z (P := P) (X := X) (Y := Y) (C := C) hn hk
  have hb : ¬ tnq P X Y C n k / 2 ^ ((nst P X Y C n (k + 1)).2.toNat / 2) % 2 = 1 := by
    refine (cpl_bit n (by omega) _ (tnq_lt P X Y C n k) _ (by omega)).mp ?_
    rw [tnq_c]; exact hz.2.2
  have ho := cpl_or n (by omega) _ (tnq_lt P X Y C n k) ((nst P X Y C n (k + 1)).2.toNat / 2) (by omega) hb
  have e : (nst P X Y C n (k + 1)).1 = clb (nst P X Y C n k).1 ((nst P X Y C n (k + 1)).2.toNat / 2) := rfl
  have e2 : tnq P X Y C n (k + 1) = cpl n (cpl n (tnq P X Y C n k ||| 2 ^ ((nst P X Y C n (k + 1)).2.toNat / 2))) := by
    rw [ho.1, tnq_c, ← e]; rfl
  rw [e2]
  have h2 := ho.2.1
  unfold cpl
  omega
