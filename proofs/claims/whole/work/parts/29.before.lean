/-- the reference's square at the beginning of a position -/
def bfo (n : Nat) (P X Y L en : Nat → Nat) (a : Nat) : Nat := if 0 < a ∧ lnk n P X Y L (a - 1) then en (a - 1) else 0
theorem bfo_p {n : Nat} {P X Y L en : Nat → Nat} {a : Nat} (h1 : 0 < a) (h2 : lnk n P X Y L (a - 1)) : bfo n P X Y L en a = en (a - 1) := if_pos ⟨h1, h2⟩
theorem bfo_n {n : Nat} {P X Y L en : Nat → Nat} {a : Nat} (h : ¬ (0 < a ∧ lnk n P X Y L (a - 1))) : bfo n P X Y L en a = 0 := if_neg h
theorem bfo_f {n : Nat} {P X Y L en : Nat → Nat} {V Ac a : Nat} (h : ∀ j, j < a → en j = fwd n P X Y L V Ac j) : bfo n P X Y L en a = fwp n P X Y L V Ac a := by
  unfold fwp
  by_cases q : a = 0
  · rw [if_pos q]; exact bfo_n (fun z => by omega)
  · rw [if_neg q]
    by_cases z : lnk n P X Y L (a - 1)
    · rw [bfo_p (by omega) z]; exact h _ (by omega)
    · rw [bfo_n (fun y => z y.2), fwd_f z]
theorem eds_0 {n : Nat} {P X Y L : Nat → Nat} {V Ac a : Nat} (ha : a < n) (z : ¬ lnk n P X Y L a) : eds n P X Y L V Ac a = 0 := by
  by_cases q : a + 1 < n
  · have h := eds_s (n := n) (P := P) (X := X) (Y := Y) (L := L) (V := V) (Ac := Ac) (k := a + 1) (by omega) q
    rw [Nat.add_sub_cancel] at h
    rw [h, fwd_f z]; exact Nat.zero_min _
  · rw [show a = n - 1 by omega, eds_l, ← show a = n - 1 by omega]; exact fwd_f z
theorem bfo_d {n : Nat} {P X Y L en : Nat → Nat} {V Ac a : Nat} (h : ∀ j, j < n → en j = eds n P X Y L V Ac j) (ha : a ≤ n) : bfo n P X Y L en a = edp n P X Y L V Ac a := by
  unfold edp
  by_cases q : a = 0
  · rw [if_pos q]; exact bfo_n (fun z => by omega)
  · rw [if_neg q]
    by_cases z : lnk n P X Y L (a - 1)
    · rw [bfo_p (by omega) z]; exact h _ (by omega)
    · rw [bfo_n (fun y => z y.2), eds_0 (by omega) z]
theorem bfo_i {n : Nat} {P X Y L en : Nat → Nat} {a : Nat} (c : 0 ≤ ((a : Nat) : Int) - 1 ∧ lnk n P X Y L (((a : Nat) : Int) - 1).toNat) : en (a - 1) = bfo n P X Y L en a := by
  have h := c.2
  rw [show (((a : Nat) : Int) - 1).toNat = a - 1 by omega] at h
  exact (bfo_p (by omega) h).symm
theorem bfo_j {n : Nat} {P X Y L en : Nat → Nat} {a : Nat} (c : ¬ (0 ≤ ((a : Nat) : Int) - 1 ∧ lnk n P X Y L (((a : Nat) : Int) - 1).toNat)) : 0 = bfo n P X Y L en a := by
  refine (bfo_n (fun z => c ⟨by omega, ?_⟩)).symm
  rw [show (((a : Nat) : Int) - 1).toNat = a - 1 by omega]
  exact z.2
