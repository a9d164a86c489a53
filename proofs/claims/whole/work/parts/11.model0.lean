-- ===== the reference's row of numbers, read as the same strokes and plan =====
def bg (c : Nat) : Nat := 5 * (c / 2) + 2 * (c % 2)
theorem bg_lt {c n : Nat} (h : c < 2 * n) (hn : n ≤ 8) : bg c + 1 < 40 := by unfold bg; omega
def zRl (w : Nat → Nat) (n : Nat) (P X Y L : Nat → Nat) : Prop := w 48 = n ∧ (∀ c, c < 2 * n → w (bg c) = X c ∧ w (bg c + 1) = Y c) ∧ (∀ s, s < n → w (5 * s + 4) = P s) ∧ (∀ k, k < n → w (40 + k) = L k)
theorem zRl.x0 {w : Nat → Nat} {n : Nat} {P X Y L : Nat → Nat} (h : zRl w n P X Y L) {s : Nat} (hs : s < n) : w (5 * s) = X (2 * s) := by
  have := (h.2.1 (2 * s) (by omega)).1
  rwa [show bg (2 * s) = 5 * s by unfold bg; omega] at this
theorem zRl.y0 {w : Nat → Nat} {n : Nat} {P X Y L : Nat → Nat} (h : zRl w n P X Y L) {s : Nat} (hs : s < n) : w (5 * s + 1) = Y (2 * s) := by
  have := (h.2.1 (2 * s) (by omega)).2
  rwa [show bg (2 * s) = 5 * s by unfold bg; omega] at this
theorem zRl.x1 {w : Nat → Nat} {n : Nat} {P X Y L : Nat → Nat} (h : zRl w n P X Y L) {s : Nat} (hs : s < n) : w (5 * s + 2) = X (2 * s + 1) := by
  have := (h.2.1 (2 * s + 1) (by omega)).1
  rwa [show bg (2 * s + 1) = 5 * s + 2 by unfold bg; omega] at this
theorem zRl.y1 {w : Nat → Nat} {n : Nat} {P X Y L : Nat → Nat} (h : zRl w n P X Y L) {s : Nat} (hs : s < n) : w (5 * s + 3) = Y (2 * s + 1) := by
  have := (h.2.1 (2 * s + 1) (by omega)).2
  rwa [show bg (2 * s + 1) + 1 = 5 * s + 3 by unfold bg; omega] at this
abbrev lonxy (X Y : Nat → Nat) (x y t : Nat) : Prop := ((X (2 * t + 1) : Int) - X (2 * t)) * ((y : Int) - Y (2 * t)) = ((Y (2 * t + 1) : Int) - Y (2 * t)) * ((x : Int) - X (2 * t)) ∧ (min (X (2 * t)) (X (2 * t + 1)) ≤ x ∧ x ≤ max (X (2 * t)) (X (2 * t + 1))) ∧ (min (Y (2 * t)) (Y (2 * t + 1)) ≤ y ∧ y ≤ max (Y (2 * t)) (Y (2 * t + 1)))
theorem prv_e {L : Nat → Nat} {k : Nat} (h : ¬ k = 0) : prv L k = (L (k - 1) : Int) := by
  cases k with
  | zero => exact absurd rfl h
  | succ k => rfl
theorem oP_prv0 {P L : Nat → Nat} {k : Nat} (h : k = 0) : ¬ oP P (prv L k) = oP P ((L k : Nat) : Int) := by
  subst h
  rw [oP_n]
  show ¬ (-1 : Int) = _
  omega
def rst (n : Nat) (P X Y L : Nat → Nat) : Nat → Nat
  | 0 => 0
  | k + 1 => rnk n P X Y L k + 1
theorem rst_t {n : Nat} {P X Y L : Nat → Nat} {k : Nat} (h : 0 ≤ (k : Int) - 1 ∧ lnk n P X Y L ((k : Int) - 1).toNat) : rst n P X Y L (k + 1) = rst n P X Y L k := by
  obtain ⟨h1, h2⟩ := h
  obtain ⟨j, rfl⟩ : ∃ j, k = j + 1 := ⟨k - 1, by omega⟩
  rw [show (((j + 1 : Nat) : Int) - 1).toNat = j by omega] at h2
  show rnk n P X Y L (j + 1) + 1 = rnk n P X Y L j + 1
  rw [rnk_t h2]
theorem rst_f {n : Nat} {P X Y L : Nat → Nat} {k : Nat} (h : ¬ (0 ≤ (k : Int) - 1 ∧ lnk n P X Y L ((k : Int) - 1).toNat)) : rst n P X Y L (k + 1) = rst n P X Y L k + 1 := by
  cases k with
  | zero => rfl
  | succ j =>
    rw [show (((j + 1 : Nat) : Int) - 1).toNat = j by omega] at h
    show rnk n P X Y L (j + 1) + 1 = rnk n P X Y L j + 1 + 1
    rw [rnk_f (fun q => h ⟨by omega, q⟩)]
theorem rst_n (n : Nat) (P X Y L : Nat → Nat) : rst n P X Y L n = rnk n P X Y L n := by
  cases n with
  | zero => rfl
  | succ j =>
    show rnk (j + 1) P X Y L j + 1 = _
    rw [rnk_f (fun q => absurd q.1 (by omega))]
theorem rst_le (n : Nat) (P X Y L : Nat → Nat) (k : Nat) : rst n P X Y L k ≤ k := by
  cases k with
  | zero => exact Nat.le_refl 0
  | succ j => exact Nat.succ_le_succ (rnk_le n P X Y L j)
theorem dxx_rng {X : Nat → Nat} {n c : Nat} (h : ∀ c, c < 2 * n → X c ≤ 99) (hc : c < 2 * n) : -99 ≤ dxx X c ∧ dxx X c ≤ 99 := by
  have h1 := h c hc
  have h2 := h (sw c) (sw_lt hc)
  unfold dxx; omega
theorem alk_sy {P X Y : Nat → Nat} {s t : Nat} : alk P X Y s t ↔ alk P X Y t s := by
  constructor <;> (intro h; obtain ⟨h1, h2 | h2⟩ := h) <;> refine ⟨h1.symm, ?_⟩
  · exact Or.inl ⟨h2.1.symm, h2.2.1.symm, h2.2.2.1.symm, h2.2.2.2.symm⟩
  · exact Or.inr ⟨h2.2.2.1.symm, h2.2.2.2.symm, h2.1.symm, h2.2.1.symm⟩
  · exact Or.inl ⟨h2.1.symm, h2.2.1.symm, h2.2.2.1.symm, h2.2.2.2.symm⟩
  · exact Or.inr ⟨h2.2.2.1.symm, h2.2.2.2.symm, h2.1.symm, h2.2.1.symm⟩
theorem alk_rf (P X Y : Nat → Nat) (s : Nat) : alk P X Y s s := ⟨rfl, Or.inl ⟨rfl, rfl, rfl, rfl⟩⟩
-- what the calls answer, in these words
def an_penOf (n : Nat) (P : Nat → Nat) (a : Int) : Int := if 0 ≤ a ∧ a < (n : Int) then (P a.toNat : Int) else -1
def an_alike (n : Nat) (P X Y : Nat → Nat) (a : Int) : Int := if 0 ≤ a ∧ a < (n : Int) then ffn (fun j => ¬ j = a.toNat ∧ alk P X Y a.toNat j) n 0 else -1
def an_cover (n : Nat) (P X Y : Nat → Nat) (a : Int) : Int := if 0 ≤ a ∧ a < (n : Int) then ffn (fun j => cov P X Y j a.toNat) n 0 else -1
def an_stroke (n : Nat) (L : Nat → Nat) (a : Int) : Int := if a < 0 then -1 else if a < (n : Int) then ((L a.toNat / 2 : Nat) : Int) else -3
def an_dir (n : Nat) (L : Nat → Nat) (a : Int) : Int := if a < 0 then -1 else if a < (n : Int) then ((L a.toNat % 2 : Nat) : Int) else -3
def an_runLen (n : Nat) (P X Y L : Nat → Nat) (a : Int) : Int := if a < 0 then -1 else if zs (fun j => zB (((rnk n P X Y L j : Nat) : Int) = a)) n = 0 then -3 else ((zs (fun j => zB (((rnk n P X Y L j : Nat) : Int) = a)) n : Nat) : Int)
def an_corner (n : Nat) (P X Y L : Nat → Nat) (V : Nat) (a : Int) : Int := if 0 ≤ a ∧ a < (n : Int) then (if lnk n P X Y L a.toNat then ((crn X Y V (L a.toNat) (L (a.toNat + 1)) : Nat) : Int) else -3) else -1
theorem an_cornerT {n : Nat} {P X Y L : Nat → Nat} {V : Nat} {a : Int} (h : 0 ≤ a ∧ a < (n : Int)) (q : lnk n P X Y L a.toNat) : an_corner n P X Y L V a = ((crn X Y V (L a.toNat) (L (a.toNat + 1)) : Nat) : Int) := (if_pos h).trans (if_pos q)
theorem an_cornerF {n : Nat} {P X Y L : Nat → Nat} {V : Nat} {a : Int} (h : 0 ≤ a ∧ a < (n : Int)) (q : ¬ lnk n P X Y L a.toNat) : an_corner n P X Y L V a = -3 := (if_pos h).trans (if_neg q)
theorem an_cornerN {n : Nat} {P X Y L : Nat → Nat} {V : Nat} {a : Int} (h : ¬ (0 ≤ a ∧ a < (n : Int))) : an_corner n P X Y L V a = -1 := if_neg h
/-- the settings -/
def zSt (C V Ac : Nat) : Prop := C ≤ 500 ∧ (1 ≤ V ∧ V ≤ 9999) ∧ (1 ≤ Ac ∧ Ac ≤ 99)
theorem zfar_bd {a b : Int} (ha : -1000 ≤ a ∧ a ≤ 1000) (hb : -1000 ≤ b ∧ b ≤ 1000) : zfar a b ≤ 1000 := by unfold zfar; omega
theorem gn_le {Ac : Nat} {X Y : Nat → Nat} {n c : Nat} (h : ∀ c, c < 2 * n → X c ≤ 99 ∧ Y c ≤ 99) (hA : Ac ≤ 99) (hc : c < 2 * n) : 2 * Ac * lng X Y c ≤ 19602 := by
  have h1 := lng_le h hc
  have h2 : 2 * Ac * lng X Y c ≤ 198 * 99 := Nat.mul_le_mul (by omega) h1
  omega
theorem an_runL {n : Nat} {P X Y L : Nat → Nat} {a : Int} {k : Nat} {v : Int} (h : ¬ a < 0) (hk : k = n) (hv : (v = -3 ∧ zs (fun j => zB (((rnk n P X Y L j : Nat) : Int) = a)) k = 0) ∨ (¬ zs (fun j => zB (((rnk n P X Y L j : Nat) : Int) = a)) k = 0 ∧ v = ((zs (fun j => zB (((rnk n P X Y L j : Nat) : Int) = a)) k : Nat) : Int))) : an_runLen n P X Y L a = v := by
  subst hk
  refine (if_neg h).trans ?_
  rcases hv with ⟨h1, h2⟩ | ⟨h1, h2⟩
  · rw [if_pos h2, h1]
  · rw [if_neg h1, h2]
theorem bg16 {a : Nat} (h : a < 16) : bg a + 1 < 40 := by unfold bg; omega
theorem oP_neg (P : Nat → Nat) (a : Int) : a < 0 → oP P a = -1 := fun h => if_pos h
theorem oP_pos (P : Nat → Nat) (a : Int) : 0 ≤ a → oP P a = (P (a.toNat / 2) : Int) := fun h => if_neg (by omega)
