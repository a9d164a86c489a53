def enAt (en : Nat → Nat) (a : Int) : Nat := if a < 0 then 0 else en a.toNat
theorem enAt_p {en : Nat → Nat} {a : Int} (h : ¬ a < 0) : enAt en a = en a.toNat := if_neg h
theorem enAt_n {en : Nat → Nat} {a : Int} (h : a < 0) : enAt en a = 0 := if_pos h
theorem enAt_f {n : Nat} {P X Y L : Nat → Nat} {V Ac k : Nat} {en : Nat → Nat} (h : ∀ j, j < k → en j = fwd n P X Y L V Ac j) (v : Nat) : enAt (va_up en k v) (((k : Nat) : Int) - 1) = fwp n P X Y L V Ac k := by
  unfold enAt fwp
  by_cases q : k = 0
  · rw [if_pos (by omega), if_pos q]
  · rw [if_neg (by omega), if_neg q, show (((k : Nat) : Int) - 1).toNat = k - 1 by omega]
    unfold va_up
    rw [if_neg (by omega)]
    exact h (k - 1) (by omega)
theorem fwp_le (n : Nat) (P X Y L : Nat → Nat) (V Ac k : Nat) : fwp n P X Y L V Ac k ≤ V := by
  unfold fwp
  split
  · omega
  · exact fwd_le n P X Y L V Ac _
theorem fw_s {n : Nat} {P X Y L : Nat → Nat} {V Ac k v : Nat} {en : Nat → Nat} (h : ∀ j, j < k → en j = fwd n P X Y L V Ac j) (hv : v = fwd n P X Y L V Ac k) : ∀ j, j < k + 1 → va_up en k v j = fwd n P X Y L V Ac j := by
  intro j hj
  unfold va_up
  by_cases q : j = k
  · rw [if_pos q, hv, q]
  · rw [if_neg q]; exact h j (by omega)
theorem fw_w {n : Nat} {P X Y L : Nat → Nat} {V Ac k v w : Nat} {en : Nat → Nat} (h : ∀ j, j < k → en j = fwd n P X Y L V Ac j) (hv : v = fwd n P X Y L V Ac k) : ∀ j, j < k + 1 → va_up (va_up en k w) k v j = fwd n P X Y L V Ac j := by
  refine fw_s (fun j hj => ?_) hv
  unfold va_up
  rw [if_neg (by omega)]
  exact h j hj
def bwO (n : Nat) (P X Y L : Nat → Nat) (V Ac : Nat) (en : Nat → Nat) (k : Nat) : Prop := (∀ j, j < k → en j = fwd n P X Y L V Ac j) ∧ ∀ j, k ≤ j → j < n → en j = eds n P X Y L V Ac j
theorem bwO_0 {n : Nat} {P X Y L : Nat → Nat} {V Ac : Nat} {en : Nat → Nat} (hn : 1 ≤ n) (h : ∀ j, j < n → en j = fwd n P X Y L V Ac j) : bwO n P X Y L V Ac en (n - 1) := by
  refine ⟨fun j hj => h j (by omega), fun j h1 h2 => ?_⟩
  rw [show j = n - 1 by omega, eds_l]
  exact h _ (by omega)
theorem bwO_s {n : Nat} {P X Y L : Nat → Nat} {V Ac : Nat} {en : Nat → Nat} {k v : Nat} (h : bwO n P X Y L V Ac en k) (hk : 1 ≤ k) (hv : v = eds n P X Y L V Ac (k - 1)) : bwO n P X Y L V Ac (va_up en (k - 1) v) (k - 1) := by
  refine ⟨fun j hj => ?_, fun j h1 h2 => ?_⟩
  · unfold va_up; rw [if_neg (by omega)]; exact h.1 j (by omega)
  · unfold va_up
    by_cases q : j = k - 1
    · rw [if_pos q, hv, q]
    · rw [if_neg q]; exact h.2 j (by omega) h2
/-- where the row is right already nothing is written -/
theorem bwO_k {n : Nat} {P X Y L : Nat → Nat} {V Ac : Nat} {en : Nat → Nat} {k : Nat} (h : bwO n P X Y L V Ac en k) (hk : 1 ≤ k) (hkn : k ≤ n) (hv : en (k - 1) = eds n P X Y L V Ac (k - 1)) : bwO n P X Y L V Ac en (k - 1) := by
  refine ⟨fun j hj => h.1 j (by omega), fun j h1 h2 => ?_⟩
  by_cases q : j = k - 1
  · rw [q]; exact hv
  · exact h.2 j (by omega) h2
def an_end (n : Nat) (P X Y L : Nat → Nat) (V Ac : Nat) (a : Int) : Int := if 0 ≤ a ∧ a < (n : Int) then ((eds n P X Y L V Ac a.toNat : Nat) : Int) else -1
def edp (n : Nat) (P X Y L : Nat → Nat) (V Ac k : Nat) : Nat := if k = 0 then 0 else eds n P X Y L V Ac (k - 1)
def an_peak (n : Nat) (P X Y L : Nat → Nat) (V Ac : Nat) (a : Int) : Int := if 0 ≤ a ∧ a < (n : Int) then ((min V ((edp n P X Y L V Ac a.toNat + eds n P X Y L V Ac a.toNat + 2 * Ac * lng X Y (L a.toNat)) / 2) : Nat) : Int) else -1
theorem edp_le (n : Nat) (P X Y L : Nat → Nat) (V Ac k : Nat) : edp n P X Y L V Ac k ≤ V := by
  unfold edp
  split
  · omega
  · exact eds_le n P X Y L V Ac _
theorem enAt_d {n : Nat} {P X Y L : Nat → Nat} {V Ac : Nat} {en : Nat → Nat} (h : ∀ j, j < n → en j = eds n P X Y L V Ac j) {k : Nat} (hk : k ≤ n) : enAt en (((k : Nat) : Int) - 1) = edp n P X Y L V Ac k := by
  unfold enAt edp
  by_cases q : k = 0
  · rw [if_pos (by omega), if_pos q]
  · rw [if_neg (by omega), if_neg q, show (((k : Nat) : Int) - 1).toNat = k - 1 by omega]
    exact h _ (by omega)
def an_bestAt (n : Nat) (P X Y : Nat → Nat) (C : Nat) (a : Int) : Int := if a < 0 then -1 else if a < (n : Int) then ((bcd P X Y C n a.toNat : Nat) : Int) else -3
def an_code (n : Nat) (L : Nat → Nat) (a : Int) : Int := if a < 0 then -1 else if a < (n : Int) then ((L a.toNat : Nat) : Int) else -3
theorem an_code_rng {n : Nat} {L : Nat → Nat} (hn : n ≤ 8) (h : ∀ k, k < n → L k < 2 * n) (a : Int) : -3 ≤ an_code n L a ∧ an_code n L a < 16 := by
  unfold an_code
  split
  · omega
  · split
    · have := h a.toNat (by omega); omega
    · omega
theorem an_st {n : Nat} {L : Nat → Nat} {a : Int} (h : 0 ≤ an_code n L a) : (((an_code n L a).toNat / 2 : Nat) : Int) = an_stroke n L a := by
  unfold an_code at h ⊢
  unfold an_stroke
  by_cases h1 : a < 0
  · rw [if_pos h1] at h; omega
  · rw [if_neg h1] at h ⊢
    rw [if_neg h1]
    by_cases h2 : a < (n : Int)
    · rw [if_pos h2, if_pos h2]; simp
    · rw [if_neg h2] at h; omega
theorem an_st' {n : Nat} {L : Nat → Nat} {a : Int} (h : ¬ 0 ≤ an_code n L a) : an_code n L a = an_stroke n L a := by
  unfold an_code at h ⊢
  unfold an_stroke
  by_cases h1 : a < 0
  · rw [if_pos h1, if_pos h1]
  · rw [if_neg h1] at h ⊢
    rw [if_neg h1]
    by_cases h2 : a < (n : Int)
    · rw [if_pos h2] at h; omega
    · rw [if_neg h2, if_neg h2]
theorem an_di {n : Nat} {L : Nat → Nat} {a : Int} (h : 0 ≤ an_code n L a) : (((an_code n L a).toNat % 2 : Nat) : Int) = an_dir n L a := by
  unfold an_code at h ⊢
  unfold an_dir
  by_cases h1 : a < 0
  · rw [if_pos h1] at h; omega
  · rw [if_neg h1] at h ⊢
    rw [if_neg h1]
    by_cases h2 : a < (n : Int)
    · rw [if_pos h2, if_pos h2]; simp
    · rw [if_neg h2] at h; omega
theorem an_di' {n : Nat} {L : Nat → Nat} {a : Int} (h : ¬ 0 ≤ an_code n L a) : an_code n L a = an_dir n L a := by
  unfold an_code at h ⊢
  unfold an_dir
  by_cases h1 : a < 0
  · rw [if_pos h1, if_pos h1]
  · rw [if_neg h1] at h ⊢
    rw [if_neg h1]
    by_cases h2 : a < (n : Int)
    · rw [if_pos h2] at h; omega
    · rw [if_neg h2, if_neg h2]
theorem zOk_up {n : Nat} {P X Y L L2 : Nat → Nat} (h : zGe n P X Y) (h1 : ∀ k, k < n → L2 k < 2 * n) (h2 : ∀ i j, i < n → j < n → L2 i / 2 = L2 j / 2 → i = j) : zOk n P X Y L2 := ⟨h, h1, h2⟩
def bstL (P X Y : Nat → Nat) (C n : Nat) (L : Nat → Nat) (k : Nat) : Nat → Nat := fun j => if j < k then bcd P X Y C n j else L j
theorem bstL_s (P X Y : Nat → Nat) (C n : Nat) (L : Nat → Nat) (k j v : Nat) (hv : v = bcd P X Y C n k) : va_up (bstL P X Y C n L k) k v j = bstL P X Y C n L (k + 1) j := by
  rw [hv]; exact bcL_s P X Y C n L k j
/-- along the way the later codes' strokes are still in the set -/
theorem bsq_mem {P X Y : Nat → Nat} {C n : Nat} (hn : n ≤ 8) : ∀ (d i : Nat), i + d < n → inS (bsq P X Y C n i).1 (bcd P X Y C n (i + d))
  | 0, i, h => (bcd_z hn h).2.2
  | d + 1, i, h => by
    have h1 := bsq_mem (P := P) (X := X) (Y := Y) (C := C) hn d (i + 1) (by omega)
    rw [show i + 1 + d = i + (d + 1) by omega] at h1
    have hz := bcd_z (P := P) (X := X) (Y := Y) (C := C) hn (show i + (d + 1) < n by omega)
    have hb := bsq_ok P X Y C n hn i (by omega)
    have hy := bcd_z (P := P) (X := X) (Y := Y) (C := C) hn (show i < n by omega)
    have e : (bsq P X Y C n (i + 1)).1 = clb (bsq P X Y C n i).1 (bcd P X Y C n i / 2) := rfl
    have h2 : clb (bsq P X Y C n i).1 (bcd P X Y C n i / 2) / 2 ^ (bcd P X Y C n (i + (d + 1)) / 2) % 2 = 1 := by rw [← e]; exact h1
    rw [clb_bit _ hb.1 _ (by omega) _ (by omega)] at h2
    split at h2
    · omega
    · exact h2
theorem best_ok {n : Nat} {P X Y L : Nat → Nat} (C : Nat) (h : zGe n P X Y) : zOk n P X Y (bstL P X Y C n L n) := by
  have hn := h.1
  refine ⟨h, fun k hk => ?_, ?_⟩
  · unfold bstL; rw [if_pos hk]; exact (bcd_z hn hk).2.1
  · have key : ∀ i d, i + (d + 1) < n → bcd P X Y C n i / 2 ≠ bcd P X Y C n (i + (d + 1)) / 2 := by
      intro i d hd q
      have h1 := bsq_mem (P := P) (X := X) (Y := Y) (C := C) hn d (i + 1) (by omega)
      rw [show i + 1 + d = i + (d + 1) by omega] at h1
      have hb := bsq_ok P X Y C n hn i (by omega)
      have hy := bcd_z (P := P) (X := X) (Y := Y) (C := C) hn (show i < n by omega)
      have h2 : clb (bsq P X Y C n i).1 (bcd P X Y C n i / 2) / 2 ^ (bcd P X Y C n (i + (d + 1)) / 2) % 2 = 1 := h1
      rw [← q] at h2
      exact clb_not hb.1 (by omega) h2
    intro i j hi hj hij
    unfold bstL at hij
    rw [if_pos hi, if_pos hj] at hij
    rcases Nat.lt_trichotomy i j with q | q | q
    · obtain ⟨d, rfl⟩ : ∃ d, j = i + (d + 1) := ⟨j - i - 1, by omega⟩
      exact absurd hij (key i d hj)
    · exact q
    · obtain ⟨d, rfl⟩ : ∃ d, i = j + (d + 1) := ⟨i - j - 1, by omega⟩
      exact absurd hij.symm (key j d hi)
theorem nst_mem {P X Y : Nat → Nat} {C n : Nat} (hn : n ≤ 8) : ∀ (d i : Nat), i + d < n → (nst P X Y C n i).1 / 2 ^ ((nst P X Y C n (i + d + 1)).2.toNat / 2) % 2 = 1 ∧ 0 ≤ (nst P X Y C n (i + d + 1)).2
  | 0, i, h => by
    obtain ⟨h1, h2, h3, h4⟩ := nst_ok P X Y C n hn i (by omega)
    have hg := amf_ge (S := (nst P X Y C n i).1) (n := n) (g := fun j => stp P X Y C (nst P X Y C n i).2 j) (by omega)
    exact ⟨amf_in (Q := fun j => inS (nst P X Y C n i).1 j) (g := fun j => stp P X Y C (nst P X Y C n i).2 j) (k := 2 * n) (by omega), hg⟩
  | d + 1, i, h => by
    have h1 := nst_mem (P := P) (X := X) (Y := Y) (C := C) hn d (i + 1) (by omega)
    rw [show i + 1 + d + 1 = i + (d + 1) + 1 by omega] at h1
    obtain ⟨b1, b2, b3, b4⟩ := nst_ok P X Y C n hn i (by omega)
    obtain ⟨q1, q2, q3, q4⟩ := nst_ok P X Y C n hn (i + 1) (by omega)
    obtain ⟨r1, r2, r3, r4⟩ := nst_ok P X Y C n hn (i + (d + 1) + 1) (by omega)
    have hg := nst_mem (P := P) (X := X) (Y := Y) (C := C) hn 0 i (by omega)
    have h2 : clb (nst P X Y C n i).1 ((nst P X Y C n (i + 1)).2.toNat / 2) / 2 ^ ((nst P X Y C n (i + (d + 1) + 1)).2.toNat / 2) % 2 = 1 := h1.1
    rw [clb_bit _ b1 _ (by omega) _ (by omega)] at h2
    split at h2
    · omega
    · exact ⟨h2, h1.2⟩
theorem near_ok {n : Nat} {P X Y L : Nat → Nat} (C : Nat) (h : zGe n P X Y) : zOk n P X Y (nearL P X Y C n L n) := by
  have hn := h.1
  have hlt : ∀ k, k < n → (nst P X Y C n (k + 1)).2.toNat < 2 * n := fun k hk => by
    have := (nst_ok P X Y C n hn (k + 1) (by omega)).2.2
    omega
  refine ⟨h, fun k hk => ?_, ?_⟩
  · unfold nearL; rw [if_pos hk]; exact hlt k hk
  · have key : ∀ i d, i + (d + 1) < n → (nst P X Y C n (i + 1)).2.toNat / 2 ≠ (nst P X Y C n (i + (d + 1) + 1)).2.toNat / 2 := by
      intro i d hd q
      have h1 := (nst_mem (P := P) (X := X) (Y := Y) (C := C) hn d (i + 1) (by omega)).1
      rw [show i + 1 + d + 1 = i + (d + 1) + 1 by omega, ← q] at h1
      have hb := nst_ok P X Y C n hn i (by omega)
      have hl := hlt i (by omega)
      have h2 : clb (nst P X Y C n i).1 ((nst P X Y C n (i + 1)).2.toNat / 2) / 2 ^ ((nst P X Y C n (i + 1)).2.toNat / 2) % 2 = 1 := h1
      exact clb_not hb.1 (by omega) h2
    intro i j hi hj hij
    unfold nearL at hij
    rw [if_pos hi, if_pos hj] at hij
    rcases Nat.lt_trichotomy i j with q | q | q
    · obtain ⟨d, rfl⟩ : ∃ d, j = i + (d + 1) := ⟨j - i - 1, by omega⟩
      exact absurd hij (key i d hj)
    · exact q
    · obtain ⟨d, rfl⟩ : ∃ d, i = j + (d + 1) := ⟨i - j - 1, by omega⟩
      exact absurd hij.symm (key j d hi)
theorem turn_ok {n : Nat} {P X Y L : Nat → Nat} (h : zOk n P X Y L) {a : Nat} (ha : a < n) : zOk n P X Y (va_up L a (sw (L a))) := by
  obtain ⟨hg, hL, hi⟩ := h
  have e : ∀ k, va_up L a (sw (L a)) k / 2 = L k / 2 := by
    intro k
    unfold va_up
    by_cases q : k = a
    · rw [if_pos q, sw_half, q]
    · rw [if_neg q]
  refine ⟨hg, fun k hk => ?_, fun i j h1 h2 h3 => hi i j h1 h2 (by rw [← e i, ← e j]; exact h3)⟩
  have := e k
  have := hL k hk
  omega
theorem mvp_as (L : Nat → Nat) (a b k : Nat) : mvp L a b k = L (if k = b then a else if a < b then (if a ≤ k ∧ k < b then k + 1 else k) else (if b < k ∧ k ≤ a then k - 1 else k)) := by
  unfold mvp va_up
  by_cases h : k = b
  · rw [if_pos h, if_pos h]
  · rw [if_neg h, if_neg h]
    unfold m2
    by_cases q : a < b
    · rw [if_pos q, if_pos q]
      unfold shl
      by_cases z : a ≤ k ∧ k < b
      · rw [if_pos z, if_pos z]
      · rw [if_neg z, if_neg z]
    · rw [if_neg q, if_neg q]
      unfold shr
      by_cases z : b < k ∧ k ≤ a
      · rw [if_pos z, if_pos z]
      · rw [if_neg z, if_neg z]
theorem move_ok {n : Nat} {P X Y L : Nat → Nat} (h : zOk n P X Y L) {a b : Nat} (ha : a < n) (hb : b < n) : zOk n P X Y (mvp L a b) := by
  obtain ⟨hg, hL, hi⟩ := h
  refine ⟨hg, fun k hk => ?_, fun i j h1 h2 h3 => ?_⟩
  · rw [mvp_as]
    refine hL _ ?_
    split
    · exact ha
    · split <;> split <;> omega
  · rw [mvp_as, mvp_as] at h3
    have h4 := hi _ _ (by split <;> (try split) <;> (try split) <;> omega) (by split <;> (try split) <;> (try split) <;> omega) h3
    split at h4 <;> split at h4 <;> (try split at h4) <;> (try split at h4) <;> (try split at h4) <;> omega
