-- ===== speeds =====
/-- the squares after the way forward: at the end of position k -/
def fwd (n : Nat) (P X Y L : Nat → Nat) (V Ac : Nat) : Nat → Nat
  | 0 => if lnk n P X Y L 0 then min (crn X Y V (L 0) (L 1)) (0 + 2 * Ac * lng X Y (L 0)) else 0
  | k + 1 => if lnk n P X Y L (k + 1) then min (crn X Y V (L (k + 1)) (L (k + 2))) (fwd n P X Y L V Ac k + 2 * Ac * lng X Y (L (k + 1))) else 0
def fwp (n : Nat) (P X Y L : Nat → Nat) (V Ac : Nat) (k : Nat) : Nat := if k = 0 then 0 else fwd n P X Y L V Ac (k - 1)
theorem fwd_t {n : Nat} {P X Y L : Nat → Nat} {V Ac k : Nat} (h : lnk n P X Y L k) : fwd n P X Y L V Ac k = min (crn X Y V (L k) (L (k + 1))) (fwp n P X Y L V Ac k + 2 * Ac * lng X Y (L k)) := by
  cases k with
  | zero => exact if_pos h
  | succ k => exact if_pos h
theorem fwd_f {n : Nat} {P X Y L : Nat → Nat} {V Ac k : Nat} (h : ¬ lnk n P X Y L k) : fwd n P X Y L V Ac k = 0 := by
  cases k with
  | zero => exact if_neg h
  | succ k => exact if_neg h
theorem fwd_le (n : Nat) (P X Y L : Nat → Nat) (V Ac k : Nat) : fwd n P X Y L V Ac k ≤ V := by
  by_cases h : lnk n P X Y L k
  · rw [fwd_t h]; have := crn_le X Y V (L k) (L (k + 1)); omega
  · rw [fwd_f h]; omega
/-- the squares after the way back: d positions before the last one -/
def bwd (n : Nat) (P X Y L : Nat → Nat) (V Ac : Nat) : Nat → Nat
  | 0 => fwd n P X Y L V Ac (n - 1)
  | d + 1 => min (fwd n P X Y L V Ac (n - 1 - (d + 1))) (bwd n P X Y L V Ac d + 2 * Ac * lng X Y (L (n - 1 - d)))
def eds (n : Nat) (P X Y L : Nat → Nat) (V Ac k : Nat) : Nat := bwd n P X Y L V Ac (n - 1 - k)
theorem eds_s {n : Nat} {P X Y L : Nat → Nat} {V Ac k : Nat} (hk : 1 ≤ k) (hkn : k < n) : eds n P X Y L V Ac (k - 1) = min (fwd n P X Y L V Ac (k - 1)) (eds n P X Y L V Ac k + 2 * Ac * lng X Y (L k)) := by
  unfold eds
  obtain ⟨d, hd⟩ : ∃ d, n - 1 - k = d := ⟨_, rfl⟩
  rw [show n - 1 - (k - 1) = d + 1 by omega, hd]
  simp only [bwd]
  rw [show n - 1 - (d + 1) = k - 1 by omega, show n - 1 - d = k by omega]
theorem eds_l {n : Nat} {P X Y L : Nat → Nat} {V Ac : Nat} : eds n P X Y L V Ac (n - 1) = fwd n P X Y L V Ac (n - 1) := by
  unfold eds; rw [Nat.sub_self]; rfl
theorem eds_le (n : Nat) (P X Y L : Nat → Nat) (V Ac k : Nat) : eds n P X Y L V Ac k ≤ V := by
  unfold eds
  cases n - 1 - k with
  | zero => exact fwd_le n P X Y L V Ac _
  | succ d => simp only [bwd]; have := fwd_le n P X Y L V Ac (n - 1 - (d + 1)); omega
-- ===== the best plan =====
theorem amv_congr {Q : Nat → Prop} [DecidablePred Q] {g g' : Nat → Nat} : ∀ {m : Nat}, (∀ j, j < m → Q j → g j = g' j) → amf Q g m = amf Q g' m ∧ amv Q g m = amv Q g' m := by
  intro m h
  have h1 : ∀ k, k ≤ m → amf Q g k = amf Q g' k := by
    intro k
    induction k with
    | zero => intro _; rfl
    | succ k ih =>
      intro hk
      have e := ih (by omega)
      simp only [amf]
      rw [e]
      by_cases q : Q k
      · by_cases z : amf Q g' k = -1
        · rw [if_pos ⟨q, Or.inl z⟩, if_pos ⟨q, Or.inl z⟩]
        · have hr := amf_rng Q g' k
          have hi := amf_in (Q := Q) (g := g') (k := k) z
          have e1 := h k (by omega) q
          have e2 := h (amf Q g' k).toNat (by omega) hi
          rw [e1, e2]
      · rw [if_neg (fun x => q x.1), if_neg (fun x => q x.1)]
  have e := h1 m (Nat.le_refl m)
  refine ⟨e, ?_⟩
  unfold amv
  rw [e]
  by_cases z : amf Q g' m = -1
  · rw [if_pos z, if_pos z]
  · rw [if_neg z, if_neg z]
    have hr := amf_rng Q g' m
    exact h _ (by omega) (amf_in z)
def vlf (P X Y : Nat → Nat) (C n : Nat) : Nat → Nat → Int → Nat
  | 0, _, _ => 0
  | f + 1, S, a => amv (fun j => inS S j) (fun j => stp P X Y C a j + vlf P X Y C n f (clb S (j / 2)) (j : Int)) (2 * n)
theorem vlf_st (P X Y : Nat → Nat) (C n : Nat) : ∀ (m f S : Nat) (a : Int), f ≤ m → S < f → vlf P X Y C n f S a = vlf P X Y C n (S + 1) S a := by
  intro m
  induction m with
  | zero => intro f S a h1 h2; omega
  | succ m ih =>
    intro f S a h1 h2
    obtain ⟨f, rfl⟩ : ∃ f', f = f' + 1 := ⟨f - 1, by omega⟩
    by_cases e : f = S
    · rw [e]
    · simp only [vlf]
      refine (amv_congr (fun j hj q => ?_)).2
      have hc := clb_lt q
      rw [ih f (clb S (j / 2)) j (by omega) (by omega), ih S (clb S (j / 2)) j (by omega) hc]
/-- the least cost of drawing the strokes of a set behind a code -/
def vl (P X Y : Nat → Nat) (C n S : Nat) (a : Int) : Nat := vlf P X Y C n (S + 1) S a
theorem vl_un (P X Y : Nat → Nat) (C n S : Nat) (a : Int) : vl P X Y C n S a = amv (fun j => inS S j) (fun j => stp P X Y C a j + vl P X Y C n (clb S (j / 2)) (j : Int)) (2 * n) := by
  show amv (fun j => inS S j) (fun j => stp P X Y C a j + vlf P X Y C n S (clb S (j / 2)) (j : Int)) (2 * n) = _
  refine (amv_congr (fun j hj q => ?_)).2
  show _ + _ = _ + vlf P X Y C n (clb S (j / 2) + 1) (clb S (j / 2)) (j : Int)
  rw [vlf_st P X Y C n S S (clb S (j / 2)) j (Nat.le_refl S) (clb_lt q)]
theorem amv_val {Q : Nat → Prop} [DecidablePred Q] {g : Nat → Nat} {m : Nat} (h : ¬ amf Q g m = -1) : amv Q g m = g (amf Q g m).toNat := if_neg h
theorem amv_nil {Q : Nat → Prop} [DecidablePred Q] {g : Nat → Nat} {m : Nat} (h : amf Q g m = -1) : amv Q g m = 0 := if_pos h
theorem vl_le {P X Y : Nat → Nat} {C n : Nat} (hn : n ≤ 8) (hXY : ∀ c, c < 2 * n → X c ≤ 99 ∧ Y c ≤ 99) (hC : C ≤ 500) : ∀ (m S : Nat) (a : Int), S ≤ m → S < 256 → -1 ≤ a ∧ a < 2 * (n : Int) → vl P X Y C n S a ≤ 599 * crd S n := by
  intro m
  induction m with
  | zero =>
    intro S a h1 h2 h3
    rw [vl_un]
    rcases Decidable.em (amf (fun j => inS S j) (fun j => stp P X Y C a j + vl P X Y C n (clb S (j / 2)) (j : Int)) (2 * n) = -1) with q | q
    · rw [amv_nil q]; omega
    · have hi := amf_in q
      have hc := clb_lt hi
      omega
  | succ m ih =>
    intro S a h1 h2 h3
    rw [vl_un]
    rcases Decidable.em (amf (fun j => inS S j) (fun j => stp P X Y C a j + vl P X Y C n (clb S (j / 2)) (j : Int)) (2 * n) = -1) with q | q
    · rw [amv_nil q]; omega
    · have hi := amf_in q
      have hr := amf_rng (fun j => inS S j) (fun j => stp P X Y C a j + vl P X Y C n (clb S (j / 2)) (j : Int)) (2 * n)
      rw [amv_val q]
      obtain ⟨k, hk⟩ : ∃ k : Nat, (amf (fun j => inS S j) (fun j => stp P X Y C a j + vl P X Y C n (clb S (j / 2)) (j : Int)) (2 * n)).toNat = k := ⟨_, rfl⟩
      rw [hk] at hi ⊢
      have hk2 : k < 2 * n := by omega
      have hs := stp_le (P := P) (X := X) (Y := Y) (C := C) (a := a) (b := k) (n := n) hXY h3 hk2
      have hc := clb_lt hi
      have hv := ih (clb S (k / 2)) k (by omega) (by omega) (by omega)
      have hcr := crd_clb (S := S) (n := n) h2 hn (k := k / 2) (by omega) hi
      show stp P X Y C a k + vl P X Y C n (clb S (k / 2)) k ≤ _
      rw [← hcr, Nat.mul_add]
      omega
theorem crd_le (S n : Nat) : crd S n ≤ n := by
  have := zs_le (f := fun s => S / 2 ^ s % 2) (m := 1) (n := n) (fun k _ => by omega)
  unfold crd; omega
theorem vl_bd {P X Y : Nat → Nat} {C n S : Nat} {a : Int} (hn : n ≤ 8) (hXY : ∀ c, c < 2 * n → X c ≤ 99 ∧ Y c ≤ 99) (hC : C ≤ 500) (hS : S < 256) (ha : -1 ≤ a ∧ a < 2 * (n : Int)) : vl P X Y C n S a ≤ 4792 := by
  have h1 := vl_le (P := P) hn hXY hC S S a (Nat.le_refl S) hS ha
  have h2 := crd_le S n
  have h3 : 599 * crd S n ≤ 599 * 8 := Nat.mul_le_mul (Nat.le_refl _) (by omega)
  omega
/-- the sets and the last codes of the best plan, stroke by stroke -/
def bgo (P X Y : Nat → Nat) (C n S : Nat) (a : Int) : Int := amf (fun j => inS S j) (fun j => stp P X Y C a j + vl P X Y C n (clb S (j / 2)) (j : Int)) (2 * n)
def bsq (P X Y : Nat → Nat) (C n : Nat) : Nat → Nat × Int
  | 0 => (2 ^ n - 1, -1)
  | k + 1 => (clb (bsq P X Y C n k).1 ((bgo P X Y C n (bsq P X Y C n k).1 (bsq P X Y C n k).2).toNat / 2), bgo P X Y C n (bsq P X Y C n k).1 (bsq P X Y C n k).2)
def bcd (P X Y : Nat → Nat) (C n k : Nat) : Nat := (bsq P X Y C n (k + 1)).2.toNat
def btot (P X Y : Nat → Nat) (C n : Nat) : Nat → Nat := zs (fun j => stp P X Y C (bsq P X Y C n j).2 (bcd P X Y C n j))
theorem bsq_ok (P X Y : Nat → Nat) (C n : Nat) (hn : n ≤ 8) : ∀ k, k ≤ n → (bsq P X Y C n k).1 < 256 ∧ crd (bsq P X Y C n k).1 n = n - k ∧ (-1 ≤ (bsq P X Y C n k).2 ∧ (bsq P X Y C n k).2 < 2 * (n : Int)) ∧ (0 < k → 0 ≤ (bsq P X Y C n k).2)
  | 0, _ => by
    have := crd_full n hn
    exact ⟨this.2, this.1, ⟨by show (-1 : Int) ≤ -1; omega, by show (-1 : Int) < _; omega⟩, fun h => by omega⟩
  | k + 1, hk => by
    obtain ⟨h1, h2, ⟨h3, h4⟩, -⟩ := bsq_ok P X Y C n hn k (by omega)
    have hg : 0 ≤ bgo P X Y C n (bsq P X Y C n k).1 (bsq P X Y C n k).2 := amf_ge (by omega)
    have hr : -1 ≤ bgo P X Y C n (bsq P X Y C n k).1 (bsq P X Y C n k).2 ∧ bgo P X Y C n (bsq P X Y C n k).1 (bsq P X Y C n k).2 < ((2 * n : Nat) : Int) := amf_rng _ _ _
    have hi : inS (bsq P X Y C n k).1 (bgo P X Y C n (bsq P X Y C n k).1 (bsq P X Y C n k).2).toNat := amf_in (Q := fun j => inS (bsq P X Y C n k).1 j) (by show ¬ bgo _ _ _ _ _ _ _ = -1; omega)
    have hc := crd_clb (S := (bsq P X Y C n k).1) (n := n) h1 hn (k := (bgo P X Y C n (bsq P X Y C n k).1 (bsq P X Y C n k).2).toNat / 2) (by omega) hi
    have hl := clb_le (bsq P X Y C n k).1 ((bgo P X Y C n (bsq P X Y C n k).1 (bsq P X Y C n k).2).toNat / 2)
    refine ⟨?_, ?_, ⟨?_, ?_⟩, fun _ => ?_⟩
    · show clb _ _ < 256; omega
    · show crd (clb _ _) n = _; omega
    · show -1 ≤ bgo _ _ _ _ _ _ _; omega
    · show bgo _ _ _ _ _ _ _ < _; omega
    · exact hg
/-- what the rows of the best plan hold -/
def bpI (P X Y : Nat → Nat) (C n : Nat) (sg rs cd : Nat → Nat) (tt kk : Nat) : Prop := (∀ j, sg j ≤ 599) ∧ (∀ j, rs j ≤ 5000) ∧ kk ≤ 1 ∧ (kk = 1 → tt = btot P X Y C n n ∧ ∀ k, k < n → cd k = bcd P X Y C n k)
def fsO (P X Y : Nat → Nat) (C n : Nat) (sg : Nat → Nat) (i j : Nat) : Prop := ∀ i' j', (i' < i ∧ j' < 2 * n) ∨ (i' = i ∧ j' < j) → sg (i' * 16 + j') = stp P X Y C ((i' : Int) - 1) j'
theorem fsO_s {P X Y : Nat → Nat} {C n : Nat} {sg : Nat → Nat} {i j v : Nat} (hn : n ≤ 8) (h : fsO P X Y C n sg i j) (hj : j < 2 * n) (hv : v = stp P X Y C ((i : Int) - 1) j) : fsO P X Y C n (va_up sg (i * 16 + j) v) i (j + 1) := by
  intro i' j' hij
  unfold va_up
  by_cases e : i' = i ∧ j' = j
  · rw [if_pos (by rw [e.1, e.2]), hv, e.1, e.2]
  · rw [if_neg (by omega)]
    exact h i' j' (by omega)
theorem fsO_n {P X Y : Nat → Nat} {C n : Nat} {sg : Nat → Nat} {i j : Nat} (h : fsO P X Y C n sg i j) (hj : 2 * n ≤ j) : fsO P X Y C n sg (i + 1) 0 := by
  intro i' j' hij
  exact h i' j' (by omega)
def frO (P X Y : Nat → Nat) (C n : Nat) (rs : Nat → Nat) (i j : Nat) : Prop := ∀ i' j', (i' < i ∧ j' < 2 * n) ∨ (i' = i ∧ j' < j ∧ j' < 2 * n) → ¬ inS i' j' → rs (i' * 16 + j') = vl P X Y C n i' (j' : Int)
theorem frO_s {P X Y : Nat → Nat} {C n : Nat} {rs : Nat → Nat} {i j v : Nat} (hn : n ≤ 8) (h : frO P X Y C n rs i j) (hj : j < 2 * n) (hv : v = vl P X Y C n i (j : Int)) : frO P X Y C n (va_up rs (i * 16 + j) v) i (j + 1) := by
  intro i' j' hij hq
  unfold va_up
  by_cases e : i' = i ∧ j' = j
  · rw [if_pos (by rw [e.1, e.2]), hv, e.1, e.2]
  · rw [if_neg (by omega)]
    exact h i' j' (by omega) hq
theorem frO_k {P X Y : Nat → Nat} {C n : Nat} {rs : Nat → Nat} {i j : Nat} (h : frO P X Y C n rs i j) (q : inS i j) : frO P X Y C n rs i (j + 1) := by
  intro i' j' hij hq
  by_cases e : i' = i ∧ j' = j
  · rw [e.1, e.2] at hq; exact absurd q hq
  · exact h i' j' (by omega) hq
theorem frO_n {P X Y : Nat → Nat} {C n : Nat} {rs : Nat → Nat} {i j : Nat} (h : frO P X Y C n rs i j) (hj : 2 * n ≤ j) : frO P X Y C n rs (i + 1) 0 := by
  intro i' j' hij hq
  exact h i' j' (by omega) hq
theorem clb_not {S k : Nat} (hS : S < 256) (hk : k < 8) : ¬ clb S k / 2 ^ k % 2 = 1 := by
  rw [clb_bit S hS k hk k hk, if_pos rfl]; omega
/-- the choice by the rows is the choice by the costs -/
theorem bgo_eq {P X Y : Nat → Nat} {C n : Nat} {sg rs : Nat → Nat} {S i : Nat} {a : Int} (hn : n ≤ 8) (hS : S < 256) (ha : -1 ≤ a ∧ a < 2 * (n : Int)) (hs : fsO P X Y C n sg (2 * n + 1) 0) (hr : frO P X Y C n rs i 0) (hi : S ≤ i) : (amf (fun j => inS S j) (fun j => sg ((a + 1).toNat * 16 + j) + rs (clb S (j / 2) * 16 + j)) (2 * n) = bgo P X Y C n S a) ∧ amv (fun j => inS S j) (fun j => sg ((a + 1).toNat * 16 + j) + rs (clb S (j / 2) * 16 + j)) (2 * n) = vl P X Y C n S a := by
  have h := amv_congr (Q := fun j => inS S j) (g := fun j => sg ((a + 1).toNat * 16 + j) + rs (clb S (j / 2) * 16 + j)) (g' := fun j => stp P X Y C a j + vl P X Y C n (clb S (j / 2)) (j : Int)) (m := 2 * n) (fun j hj q => by
    have h1 := hs (a + 1).toNat j (by omega)
    rw [show (((a + 1).toNat : Nat) : Int) - 1 = a by omega] at h1
    have hc := clb_lt q
    have h2 := hr (clb S (j / 2)) j (by omega) (clb_not hS (by omega))
    show sg _ + rs _ = _
    rw [h1, h2])
  exact ⟨h.1, by rw [h.2, ← vl_un]⟩
theorem up_le {f : Nat → Nat} {k v m : Nat} (h : ∀ j, f j ≤ m) (hv : v ≤ m) : ∀ j, va_up f k v j ≤ m := by
  intro j
  unfold va_up
  split
  · exact hv
  · exact h j
def bcL (P X Y : Nat → Nat) (C n : Nat) (cd : Nat → Nat) (k : Nat) : Nat → Nat := fun j => if j < k then bcd P X Y C n j else cd j
theorem bcL_s (P X Y : Nat → Nat) (C n : Nat) (cd : Nat → Nat) (k j : Nat) : va_up (bcL P X Y C n cd k) k (bcd P X Y C n k) j = bcL P X Y C n cd (k + 1) j := by
  unfold va_up bcL
  by_cases h : j = k
  · rw [if_pos h, if_pos (show j < k + 1 by omega), h]
  · rw [if_neg h]
    by_cases h2 : j < k
    · rw [if_pos h2, if_pos (show j < k + 1 by omega)]
    · rw [if_neg h2, if_neg (show ¬ j < k + 1 by omega)]
theorem bcd_z {P X Y : Nat → Nat} {C n k : Nat} (hn : n ≤ 8) (hk : k < n) : (bsq P X Y C n (k + 1)).2 = ((bcd P X Y C n k : Nat) : Int) ∧ bcd P X Y C n k < 2 * n ∧ inS (bsq P X Y C n k).1 (bcd P X Y C n k) := by
  have h := bsq_ok P X Y C n hn (k + 1) (by omega)
  have h2 := bsq_ok P X Y C n hn k (by omega)
  have h0 := h.2.2.2 (by omega)
  have h3 := h.2.2.1
  have e : (bsq P X Y C n (k + 1)).2 = ((bcd P X Y C n k : Nat) : Int) := by unfold bcd; omega
  refine ⟨e, by unfold bcd; omega, ?_⟩
  have hi : inS (bsq P X Y C n k).1 (bgo P X Y C n (bsq P X Y C n k).1 (bsq P X Y C n k).2).toNat := amf_in (Q := fun j => inS (bsq P X Y C n k).1 j) (by
    show ¬ bgo _ _ _ _ _ _ _ = -1
    intro q
    have : (bsq P X Y C n (k + 1)).2 = -1 := q
    omega)
  exact hi
theorem bsq_le (P X Y : Nat → Nat) (C n : Nat) : ∀ k, (bsq P X Y C n k).1 ≤ 2 ^ n - 1
  | 0 => Nat.le_refl _
  | k + 1 => Nat.le_trans (clb_le _ _) (bsq_le P X Y C n k)
