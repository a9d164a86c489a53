/-- the row of rests, above a set and in the set's own part up to a code -/
def rsP (P X Y : Nat → Nat) (C n : Nat) (rt : Nat → Nat) (T k : Nat) : Prop := ∀ U one, U < 2 ^ n → one < 2 * n → U / 2 ^ (one / 2) % 2 = 1 → (T < U ∨ (U = T ∧ one < k)) → rt (16 * U + one) = vl P X Y C n (cpl n U) (one : Int)
theorem rsP_o {P X Y : Nat → Nat} {C n : Nat} {rt : Nat → Nat} {T k : Nat} (h : rsP P X Y C n rt T k) : rsO P X Y C n rt T := fun U one h1 h2 h3 h4 => h U one h1 h2 h3 (Or.inl h4)
theorem rsP_0 {P X Y : Nat → Nat} {C n : Nat} {rt : Nat → Nat} {T : Nat} (h : rsO P X Y C n rt T) : rsP P X Y C n rt T 0 := fun U one h1 h2 h3 h4 => h U one h1 h2 h3 (by omega)
theorem rsP_k {P X Y : Nat → Nat} {C n : Nat} {rt : Nat → Nat} {T k : Nat} (h : rsP P X Y C n rt T k) (q : ¬ T / 2 ^ (k / 2) % 2 = 1) : rsP P X Y C n rt T (k + 1) := by
  intro U one h1 h2 h3 h4
  by_cases e : U = T ∧ one = k
  · rw [e.1, e.2] at h3; exact absurd h3 q
  · exact h U one h1 h2 h3 (by omega)
theorem rsP_s {P X Y : Nat → Nat} {C n : Nat} {rt : Nat → Nat} {T k v : Nat} (hn : n ≤ 8) (hk : k < 2 * n) (h : rsP P X Y C n rt T k) (hv : v = vl P X Y C n (cpl n T) (k : Int)) : rsP P X Y C n (va_up rt (16 * T + k) v) T (k + 1) := by
  intro U one h1 h2 h3 h4
  unfold va_up
  by_cases e : U = T ∧ one = k
  · rw [if_pos (by rw [e.1, e.2]), hv, e.1, e.2]
  · rw [if_neg (by omega)]
    exact h U one h1 h2 h3 (by omega)
theorem rsP_n {P X Y : Nat → Nat} {C n : Nat} {rt : Nat → Nat} {T k : Nat} (h : rsP P X Y C n rt T k) (hk : 2 * n ≤ k) : rsO P X Y C n rt (T - 1) := fun U one h1 h2 h3 h4 => h U one h1 h2 h3 (by omega)
theorem rsO_f (P X Y : Nat → Nat) (C n : Nat) (rt : Nat → Nat) : rsO P X Y C n rt (2 ^ n - 1) := fun U one h1 h2 h3 h4 => by omega
/-- what is chosen is the first of the least -/
theorem amf_min {Q : Nat → Prop} [DecidablePred Q] {g : Nat → Nat} : ∀ {k : Nat}, ∀ j, j < k → Q j → 0 ≤ amf Q g k ∧ g (amf Q g k).toNat ≤ g j ∧ ((j : Int) < amf Q g k → g (amf Q g k).toNat < g j)
  | 0, j, hj, _ => absurd hj (Nat.not_lt_zero j)
  | k + 1, j, hj, hq => by
    have hr := amf_rng Q g k
    by_cases z : Q k ∧ (amf Q g k = -1 ∨ g k < g (amf Q g k).toNat)
    · have e : amf Q g (k + 1) = (k : Int) := by simp only [amf]; exact if_pos z
      rw [e, show ((k : Nat) : Int).toNat = k by omega]
      by_cases w : j = k
      · rw [w]; exact ⟨by omega, Nat.le_refl _, fun h => by omega⟩
      · have ih := amf_min (g := g) (k := k) j (by omega) hq
        have zz := z.2
        refine ⟨by omega, by omega, fun _ => by omega⟩
    · have e : amf Q g (k + 1) = amf Q g k := by simp only [amf]; exact if_neg z
      rw [e]
      by_cases w : j = k
      · rw [w] at hq ⊢
        have z1 : ¬ amf Q g k = -1 := fun y => z ⟨hq, Or.inl y⟩
        have z2 : ¬ g k < g (amf Q g k).toNat := fun y => z ⟨hq, Or.inr y⟩
        refine ⟨by omega, by omega, fun _ => by omega⟩
      · exact amf_min (g := g) (k := k) j (by omega) hq
/-- the reference's set along the best plan -/
def tsq (P X Y : Nat → Nat) (C n k : Nat) : Nat := cpl n (bsq P X Y C n k).1
theorem tsq_c (P X Y : Nat → Nat) (C n k : Nat) : cpl n (tsq P X Y C n k) = (bsq P X Y C n k).1 := by
  have h := bsq_le P X Y C n k
  unfold tsq cpl
  omega
theorem tsq_lt (P X Y : Nat → Nat) (C n k : Nat) : tsq P X Y C n k < 2 ^ n := by
  have h : 0 < 2 ^ n := Nat.pow_pos (by decide)
  unfold tsq cpl
  omega
theorem tsq_0 (P X Y : Nat → Nat) (C n : Nat) : tsq P X Y C n 0 = 0 := Nat.sub_self _
theorem tsq_s {P X Y : Nat → Nat} {C n k : Nat} (hn : n ≤ 8) (hk : k < n) : tsq P X Y C n k ||| 2 ^ (bcd P X Y C n k / 2) = tsq P X Y C n (k + 1) := by
  have hz := bcd_z (P := P) (X := X) (Y := Y) (C := C) hn hk
  have hb : ¬ tsq P X Y C n k / 2 ^ (bcd P X Y C n k / 2) % 2 = 1 := by
    refine (cpl_bit n (by omega) _ (tsq_lt P X Y C n k) _ (by omega)).mp ?_
    rw [tsq_c]; exact hz.2.2
  have ho := cpl_or n (by omega) _ (tsq_lt P X Y C n k) (bcd P X Y C n k / 2) (by omega) hb
  have e : (bsq P X Y C n (k + 1)).1 = clb (bsq P X Y C n k).1 (bcd P X Y C n k / 2) := rfl
  have e2 : tsq P X Y C n (k + 1) = cpl n (cpl n (tsq P X Y C n k ||| 2 ^ (bcd P X Y C n k / 2))) := by
    rw [ho.1, tsq_c, ← e]; rfl
  rw [e2]
  have h2 := ho.2.1
  unfold cpl
  omega
/-- the cost at a step of the best plan -/
theorem vl_step {P X Y : Nat → Nat} {C n k : Nat} (hn : n ≤ 8) (hk : k < n) : vl P X Y C n (bsq P X Y C n k).1 (bsq P X Y C n k).2 = stp P X Y C (bsq P X Y C n k).2 (bcd P X Y C n k) + vl P X Y C n (bsq P X Y C n (k + 1)).1 (bsq P X Y C n (k + 1)).2 := by
  have hz := bcd_z (P := P) (X := X) (Y := Y) (C := C) hn hk
  have hg : bgo P X Y C n (bsq P X Y C n k).1 (bsq P X Y C n k).2 = ((bcd P X Y C n k : Nat) : Int) := hz.1
  rw [vl_un]
  have hne : ¬ amf (fun j => inS (bsq P X Y C n k).1 j) (fun j => stp P X Y C (bsq P X Y C n k).2 j + vl P X Y C n (clb (bsq P X Y C n k).1 (j / 2)) (j : Int)) (2 * n) = -1 := by
    show ¬ bgo P X Y C n (bsq P X Y C n k).1 (bsq P X Y C n k).2 = -1
    rw [hg]; omega
  rw [amv_val hne]
  have e3 : (amf (fun j => inS (bsq P X Y C n k).1 j) (fun j => stp P X Y C (bsq P X Y C n k).2 j + vl P X Y C n (clb (bsq P X Y C n k).1 (j / 2)) (j : Int)) (2 * n)).toNat = bcd P X Y C n k := rfl
  rw [e3, hz.1]
  rfl
theorem vl_tot {P X Y : Nat → Nat} {C n : Nat} (hn : n ≤ 8) : ∀ k, k ≤ n → vl P X Y C n (2 ^ n - 1) (-1) = btot P X Y C n k + vl P X Y C n (bsq P X Y C n k).1 (bsq P X Y C n k).2
  | 0, _ => by
    show vl P X Y C n (2 ^ n - 1) (-1) = 0 + vl P X Y C n (2 ^ n - 1) (-1)
    omega
  | k + 1, hk => by
    have h1 := vl_tot (P := P) (X := X) (Y := Y) (C := C) hn k (by omega)
    have h2 := vl_step (P := P) (X := X) (Y := Y) (C := C) hn (show k < n by omega)
    have h3 : btot P X Y C n (k + 1) = btot P X Y C n k + stp P X Y C (bsq P X Y C n k).2 (bcd P X Y C n k) := rfl
    omega
theorem rsO_m {P X Y : Nat → Nat} {C n : Nat} {rt : Nat → Nat} {T U : Nat} (h : rsO P X Y C n rt T) (hT : T ≤ U) : rsO P X Y C n rt U := fun Z one h1 h2 h3 h4 => h Z one h1 h2 h3 (by omega)
theorem vl_end {P X Y : Nat → Nat} {C n : Nat} (hn : n ≤ 8) : vl P X Y C n (bsq P X Y C n n).1 (bsq P X Y C n n).2 = 0 := by
  have h := bsq_ok P X Y C n hn n (Nat.le_refl n)
  rw [vl_un]
  refine amv_nil ?_
  by_cases z : amf (fun j => inS (bsq P X Y C n n).1 j) (fun j => stp P X Y C (bsq P X Y C n n).2 j + vl P X Y C n (clb (bsq P X Y C n n).1 (j / 2)) (j : Int)) (2 * n) = -1
  · exact z
  · have hi := amf_in z
    have hr := amf_rng (fun j => inS (bsq P X Y C n n).1 j) (fun j => stp P X Y C (bsq P X Y C n n).2 j + vl P X Y C n (clb (bsq P X Y C n n).1 (j / 2)) (j : Int)) (2 * n)
    obtain ⟨k, hk⟩ : ∃ k : Nat, (amf (fun j => inS (bsq P X Y C n n).1 j) (fun j => stp P X Y C (bsq P X Y C n n).2 j + vl P X Y C n (clb (bsq P X Y C n n).1 (j / 2)) (j : Int)) (2 * n)).toNat = k := ⟨_, rfl⟩
    rw [hk] at hi
    have hc := crd_clb (S := (bsq P X Y C n n).1) (n := n) h.1 hn (k := k / 2) (by omega) hi
    have h2 := h.2.1
    omega
theorem vl_btot {P X Y : Nat → Nat} {C n : Nat} (hn : n ≤ 8) : vl P X Y C n (cpl n 0) (-1) = btot P X Y C n n := by
  have h := vl_tot (P := P) (X := X) (Y := Y) (C := C) hn n (Nat.le_refl n)
  rw [vl_end hn] at h
  exact h
theorem fnd_ne1 {P X Y : Nat → Nat} {C n k i : Nat} (hn : n ≤ 8) (hk : k < n) (h : tsq P X Y C n k / 2 ^ (i / 2) % 2 = 1) : ¬ i = bcd P X Y C n k := by
  intro e
  rw [e] at h
  have hz := bcd_z (P := P) (X := X) (Y := Y) (C := C) hn hk
  exact (cpl_bit n (by omega) _ (tsq_lt P X Y C n k) (bcd P X Y C n k / 2) (by omega)).mp (by rw [tsq_c]; exact hz.2.2) h
theorem fnd_ne2 {P X Y : Nat → Nat} {C n k i : Nat} (hn : n ≤ 8) (hk : k < n) (h : ¬ stp P X Y C (bsq P X Y C n k).2 i + vl P X Y C n (clb (bsq P X Y C n k).1 (i / 2)) (i : Int) = vl P X Y C n (bsq P X Y C n k).1 (bsq P X Y C n k).2) : ¬ i = bcd P X Y C n k := by
  intro e
  apply h
  rw [vl_step hn hk, (bcd_z hn hk).1, e]
  rfl
theorem fnd_in {P X Y : Nat → Nat} {C n k i : Nat} (hn : n ≤ 8) (hi : i < 2 * n) (h : ¬ tsq P X Y C n k / 2 ^ (i / 2) % 2 = 1) : inS (bsq P X Y C n k).1 i := by
  have h1 := (cpl_bit n (by omega) _ (tsq_lt P X Y C n k) (i / 2) (by omega)).mpr h
  rw [tsq_c] at h1
  exact h1
theorem fnd_eq {P X Y : Nat → Nat} {C n k i : Nat} (hn : n ≤ 8) (hk : k < n) (hi : i ≤ bcd P X Y C n k) (hq : inS (bsq P X Y C n k).1 i) (h : stp P X Y C (bsq P X Y C n k).2 i + vl P X Y C n (clb (bsq P X Y C n k).1 (i / 2)) (i : Int) = vl P X Y C n (bsq P X Y C n k).1 (bsq P X Y C n k).2) : i = bcd P X Y C n k := by
  have hz := bcd_z (P := P) (X := X) (Y := Y) (C := C) hn hk
  have hm := amf_min (Q := fun j => inS (bsq P X Y C n k).1 j) (g := fun j => stp P X Y C (bsq P X Y C n k).2 j + vl P X Y C n (clb (bsq P X Y C n k).1 (j / 2)) (j : Int)) (k := 2 * n) i (by omega) hq
  have hg : amf (fun j => inS (bsq P X Y C n k).1 j) (fun j => stp P X Y C (bsq P X Y C n k).2 j + vl P X Y C n (clb (bsq P X Y C n k).1 (j / 2)) (j : Int)) (2 * n) = ((bcd P X Y C n k : Nat) : Int) := hz.1
  rw [hg] at hm
  rw [vl_step hn hk, hz.1] at h
  have h3 := hm.2.2
  rw [show ((bcd P X Y C n k : Nat) : Int).toNat = bcd P X Y C n k by omega] at h3
  by_cases e : i = bcd P X Y C n k
  · exact e
  · have h4 := h3 (by omega)
    have h5 : stp P X Y C (bsq P X Y C n k).2 (bcd P X Y C n k) + vl P X Y C n (clb (bsq P X Y C n k).1 (bcd P X Y C n k / 2)) ((bcd P X Y C n k : Nat) : Int) < stp P X Y C (bsq P X Y C n k).2 i + vl P X Y C n (clb (bsq P X Y C n k).1 (i / 2)) (i : Int) := h4
    rw [h] at h5
    exact absurd h5 (Nat.lt_irrefl _)
