/-- the reference's set along the nearest plan -/
def tnq (P X Y : Nat → Nat) (C n k : Nat) : Nat := cpl n (nst P X Y C n k).1
theorem nst_le (P X Y : Nat → Nat) (C n : Nat) : ∀ k, (nst P X Y C n k).1 ≤ 2 ^ n - 1
  | 0 => Nat.le_refl _
  | k + 1 => Nat.le_trans (clb_le _ _) (nst_le P X Y C n k)
theorem tnq_c (P X Y : Nat → Nat) (C n k : Nat) : cpl n (tnq P X Y C n k) = (nst P X Y C n k).1 := by
  have h := nst_le P X Y C n k
  unfold tnq cpl
  omega
theorem tnq_lt (P X Y : Nat → Nat) (C n k : Nat) : tnq P X Y C n k < 2 ^ n := by
  have h : 0 < 2 ^ n := Nat.pow_pos (by decide)
  unfold tnq cpl
  omega
theorem tnq_0 (P X Y : Nat → Nat) (C n : Nat) : tnq P X Y C n 0 = 0 := Nat.sub_self _
theorem nst_z {P X Y : Nat → Nat} {C n k : Nat} (hn : n ≤ 8) (hk : k < n) : 0 ≤ (nst P X Y C n (k + 1)).2 ∧ (nst P X Y C n (k + 1)).2 < 2 * (n : Int) ∧ inS (nst P X Y C n k).1 (nst P X Y C n (k + 1)).2.toNat := by
  have h := nst_ok P X Y C n hn k (by omega)
  have hg : 0 ≤ (nst P X Y C n (k + 1)).2 := amf_ge (g := fun j => stp P X Y C (nst P X Y C n k).2 j) (by omega)
  have hb := nst_ok P X Y C n hn (k + 1) (by omega)
  have hi : inS (nst P X Y C n k).1 (nst P X Y C n (k + 1)).2.toNat := amf_in (Q := fun j => inS (nst P X Y C n k).1 j) (g := fun j => stp P X Y C (nst P X Y C n k).2 j) (k := 2 * n) (by
    show ¬ (nst P X Y C n (k + 1)).2 = -1
    omega)
  exact ⟨hg, hb.2.2.2, hi⟩
theorem tnq_s {P X Y : Nat → Nat} {C n k : Nat} (hn : n ≤ 8) (hk : k < n) : tnq P X Y C n k ||| 2 ^ ((nst P X Y C n (k + 1)).2.toNat / 2) = tnq P X Y C n (k + 1) := by
  have hz := nst_z (P := P) (X := X) (Y := Y) (C := C) hn hk
  have hb : ¬ tnq P X Y C n k / 2 ^ ((nst P X Y C n (k + 1)).2.toNat / 2) % 2 = 1 := by
    refine (cpl_bit n (by omega) _ (tnq_lt P X Y C n k) _ (by omega)).mp ?_
    rw [tnq_c]; exact hz.2.2
  have ho := cpl_or n (by omega) _ (tnq_lt P X Y C n k) ((nst P X Y C n (k + 1)).2.toNat / 2) (by omega) hb
  have e : (nst P X Y C n (k + 1)).1 = clb (nst P X Y C n k).1 ((nst P X Y C n (k + 1)).2.toNat / 2) := rfl
  have e2 : tnq P X Y C n (k + 1) = cpl n (cpl n (tnq P X Y C n k ||| 2 ^ ((nst P X Y C n (k + 1)).2.toNat / 2))) := by
    rw [ho.1, tnq_c, ← e]; rfl
  rw [e2]
  have h2 := ho.2.1
  unfold cpl
  omega
theorem plw_rlk {w : Nat → Nat} {n k : Nat} {P X Y L L2 : Nat → Nat} (h : zRl w n P X Y L) (hk : k ≤ n) (hn : n ≤ 8) : zRl (plw w L2 k) n P X Y (fun j => if j < k then L2 j else L j) := by
  refine rl_plan h hn (fun j hj => ?_) (fun i hi => ?_)
  · unfold plw hcp; rw [if_neg (by omega)]
  · unfold plw hcp
    by_cases q : i < k
    · rw [if_pos (by omega), show 40 + i - 40 = i by omega]; exact (if_pos q).symm
    · rw [if_neg (by omega), h.2.2.2 i hi]; exact (if_neg q).symm
theorem led_kp {Q : Nat → Prop} [DecidablePred Q] {g : Nat → Nat} {st k : Nat} (_hQ : Q k) (h : ¬ g k < led Q g st k) (hb : g k < st) : amf Q g (k + 1) = amf Q g k := by
  by_cases z : amf Q g k = -1
  · unfold led at h
    rw [if_pos z] at h
    exact absurd hb h
  · unfold led at h
    rw [if_neg z] at h
    exact (amf_keep z h).1
theorem led_tk {Q : Nat → Prop} [DecidablePred Q] {g : Nat → Nat} {st k : Nat} (hQ : Q k) (h : g k < led Q g st k) : amf Q g (k + 1) = (k : Int) := by
  refine (amf_take hQ ?_).1
  by_cases z : amf Q g k = -1
  · exact Or.inl z
  · unfold led at h
    rw [if_neg z] at h
    exact Or.inr h
theorem ntot_le {P X Y : Nat → Nat} {C n k : Nat} (hn : n ≤ 8) (hC : C ≤ 500) (hXY : ∀ c, c < 2 * n → X c ≤ 99 ∧ Y c ≤ 99) (hk : k ≤ n) : ntot P X Y C n k ≤ 5000 := by
  have h := zs_le (f := fun j => stp P X Y C (nst P X Y C n j).2 (nst P X Y C n (j + 1)).2.toNat) (m := 599) (n := k) (fun j hj => by
    have h1 := nst_ok P X Y C n hn j (by omega)
    have h2 := nst_ok P X Y C n hn (j + 1) (by omega)
    have h3 := stp_le (P := P) (X := X) (Y := Y) (C := C) (a := (nst P X Y C n j).2) (b := (nst P X Y C n (j + 1)).2.toNat) (n := n) hXY (by omega) (by omega)
    show stp P X Y C (nst P X Y C n j).2 (nst P X Y C n (j + 1)).2.toNat ≤ 599
    omega)
  have e : ntot P X Y C n k = zs (fun j => stp P X Y C (nst P X Y C n j).2 (nst P X Y C n (j + 1)).2.toNat) k := rfl
  have h2 : k * 599 ≤ 8 * 599 := Nat.mul_le_mul_right _ (by omega)
  omega
theorem ntot_s {P X Y : Nat → Nat} {C n k i : Nat} (hn : n ≤ 8) (hk : k < n) (hi : i = 2 * n) : ntot P X Y C n k + led (fun j => inS (nst P X Y C n k).1 j) (fun j => stp P X Y C (nst P X Y C n k).2 j) 1000000 i = ntot P X Y C n (k + 1) := by
  have hz := nst_z (P := P) (X := X) (Y := Y) (C := C) hn hk
  have e1 : ntot P X Y C n (k + 1) = ntot P X Y C n k + stp P X Y C (nst P X Y C n k).2 (nst P X Y C n (k + 1)).2.toNat := rfl
  have e2 : (nst P X Y C n (k + 1)).2 = amf (fun j => inS (nst P X Y C n k).1 j) (fun j => stp P X Y C (nst P X Y C n k).2 j) (2 * n) := rfl
  have hne : ¬ amf (fun j => inS (nst P X Y C n k).1 j) (fun j => stp P X Y C (nst P X Y C n k).2 j) (2 * n) = -1 := by rw [← e2]; omega
  rw [e1, hi]
  unfold led
  rw [if_neg hne, amv_val hne, ← e2]
