theorem zfar_le {x1 x2 y1 y2 : Nat} (h : x1 ≤ 99 ∧ y1 ≤ 99 ∧ x2 ≤ 99 ∧ y2 ≤ 99) : zfar ((x1 : Int) - (x2 : Int)) ((y1 : Int) - (y2 : Int)) ≤ 99 := by unfold zfar; omega
theorem oX_le {a : Int} {X : Nat → Nat} {n : Nat} (h : ∀ c, c < 2 * n → X c ≤ 99) (ha : -1 ≤ a ∧ a < 2 * (n : Int)) : oX X a ≤ 99 := by
  unfold oX
  split
  · omega
  · exact h _ (sw_lt (by omega))
theorem oP_le {a : Int} {P : Nat → Nat} {n : Nat} (h : ∀ s, s < n → P s ≤ 3) (ha : -1 ≤ a ∧ a < 2 * (n : Int)) : -1 ≤ oP P a ∧ oP P a ≤ 3 := by
  unfold oP
  split
  · omega
  · have := h (a.toNat / 2) (by omega)
    omega
theorem stp_le {P X Y : Nat → Nat} {C : Nat} {a : Int} {b n : Nat} (h : ∀ c, c < 2 * n → X c ≤ 99 ∧ Y c ≤ 99) (ha : -1 ≤ a ∧ a < 2 * (n : Int)) (hb : b < 2 * n) : stp P X Y C a b ≤ 99 + C := by
  have h1 := oX_le (a := a) (fun c q => (h c q).1) ha
  have h2 := oX_le (a := a) (fun c q => (h c q).2) ha
  have h3 := h b hb
  have h4 := zfar_le (x1 := oX X a) (x2 := X b) (y1 := oX Y a) (y2 := Y b) (by omega)
  unfold stp
  split <;> omega
theorem lng_le {X Y : Nat → Nat} {c n : Nat} (h : ∀ c, c < 2 * n → X c ≤ 99 ∧ Y c ≤ 99) (hc : c < 2 * n) : lng X Y c ≤ 99 := by
  have h1 := h c hc
  have h2 := h (sw c) (sw_lt hc)
  unfold lng dxx
  exact zfar_le (by omega)
theorem crn_le (X Y : Nat → Nat) (V a b : Nat) : crn X Y V a b ≤ V := by
  unfold crn
  split
  · omega
  · split <;> omega
theorem rnk_le (n : Nat) (P X Y L : Nat → Nat) (k : Nat) : rnk n P X Y L k ≤ k := by
  have := zs_le (f := fun j => 1 - zB (lnk n P X Y L j)) (m := 1) (n := k) (fun _ _ => by omega)
  unfold rnk; omega
theorem rnk_t {n : Nat} {P X Y L : Nat → Nat} {k : Nat} (h : lnk n P X Y L k) : rnk n P X Y L (k + 1) = rnk n P X Y L k := by
  show zs _ k + (1 - zB (lnk n P X Y L k)) = zs _ k
  rw [zB_t h]; rfl
theorem rnk_f {n : Nat} {P X Y L : Nat → Nat} {k : Nat} (h : ¬ lnk n P X Y L k) : rnk n P X Y L (k + 1) = rnk n P X Y L k + 1 := by
  show zs _ k + (1 - zB (lnk n P X Y L k)) = zs _ k + 1
  rw [zB_f h]
def amv (Q : Nat → Prop) [DecidablePred Q] (g : Nat → Nat) (k : Nat) : Nat := if amf Q g k = -1 then 0 else g (amf Q g k).toNat
theorem amf_rng (Q : Nat → Prop) [DecidablePred Q] (g : Nat → Nat) : ∀ k : Nat, -1 ≤ amf Q g k ∧ amf Q g k < (k : Int)
  | 0 => by simp [amf]
  | k + 1 => by
    have h := amf_rng Q g k
    simp only [amf]
    split <;> omega
theorem amv_le {Q : Nat → Prop} [DecidablePred Q] {g : Nat → Nat} {k m : Nat} (h : ∀ j, j < k → g j ≤ m) : amv Q g k ≤ m := by
  have h1 := amf_rng Q g k
  unfold amv
  split
  · omega
  · exact h _ (by omega)
theorem amf_skip {Q : Nat → Prop} [DecidablePred Q] {g : Nat → Nat} {k : Nat} (h : ¬ Q k) : amf Q g (k + 1) = amf Q g k ∧ amv Q g (k + 1) = amv Q g k := by
  have h1 : amf Q g (k + 1) = amf Q g k := by simp only [amf]; rw [if_neg (fun q => h q.1)]
  exact ⟨h1, by unfold amv; rw [h1]⟩
theorem amf_keep {Q : Nat → Prop} [DecidablePred Q] {g : Nat → Nat} {k : Nat} (h0 : ¬ amf Q g k = -1) (h : ¬ g k < amv Q g k) : amf Q g (k + 1) = amf Q g k ∧ amv Q g (k + 1) = amv Q g k := by
  have h1 : amf Q g (k + 1) = amf Q g k := by
    simp only [amf]
    rw [if_neg]
    intro q
    rcases q.2 with e | e
    · exact h0 e
    · apply h; unfold amv; rw [if_neg h0]; exact e
  exact ⟨h1, by unfold amv; rw [h1]⟩
theorem amf_take {Q : Nat → Prop} [DecidablePred Q] {g : Nat → Nat} {k : Nat} (hQ : Q k) (h : amf Q g k = -1 ∨ g k < amv Q g k) : amf Q g (k + 1) = (k : Int) ∧ amv Q g (k + 1) = g k := by
  have h1 : amf Q g (k + 1) = (k : Int) := by
    simp only [amf]
    rw [if_pos]
    refine ⟨hQ, ?_⟩
    by_cases h0 : amf Q g k = -1
    · exact Or.inl h0
    · rcases h with e | e
      · exact absurd e h0
      · unfold amv at e; rw [if_neg h0] at e; exact Or.inr e
  refine ⟨h1, ?_⟩
  unfold amv; rw [h1, if_neg (by omega)]; rfl
theorem zs_t {P : Nat → Prop} [DecidablePred P] {k : Nat} (h : P k) : zs (fun j => zB (P j)) (k + 1) = zs (fun j => zB (P j)) k + 1 := by
  show zs _ k + zB (P k) = _
  rw [zB_t h]
theorem zs_f {P : Nat → Prop} [DecidablePred P] {k : Nat} (h : ¬ P k) : zs (fun j => zB (P j)) (k + 1) = zs (fun j => zB (P j)) k := by
  show zs _ k + zB (P k) = _
  rw [zB_f h]; rfl
theorem prv_rng {L : Nat → Nat} {n : Nat} (h : ∀ k, k < n → L k < 2 * n) : ∀ {k : Nat}, k ≤ n → -1 ≤ prv L k ∧ prv L k < 2 * (n : Int)
  | 0, _ => by simp only [prv]; omega
  | k + 1, hk => by
    have := h k (by omega)
    simp only [prv]; omega
theorem cst_le {P X Y L : Nat → Nat} {C n k : Nat} (h : ∀ c, c < 2 * n → X c ≤ 99 ∧ Y c ≤ 99) (hL : ∀ k, k < n → L k < 2 * n) (hC : C ≤ 500) (hk : k < n) : stp P X Y C (prv L k) (L k) ≤ 599 := by
  have := stp_le (P := P) (X := X) (Y := Y) (C := C) (a := prv L k) (b := L k) h (prv_rng hL (by omega)) (hL k hk)
  omega
theorem ffn_rng' (Q : Nat → Prop) [DecidablePred Q] : ∀ (f k : Nat), ffn Q f k = -3 ∨ ((k : Int) ≤ ffn Q f k ∧ ffn Q f k < ((k + f : Nat) : Int) ∧ Q (ffn Q f k).toNat)
  | 0, k => Or.inl rfl
  | f + 1, k => by
    simp only [ffn]
    by_cases q : Q k
    · rw [if_pos q]; exact Or.inr ⟨by omega, by omega, by simpa using q⟩
    · rw [if_neg q]
      rcases ffn_rng' Q f (k + 1) with h | ⟨h1, h2, h3⟩
      · exact Or.inl h
      · exact Or.inr ⟨by omega, by omega, h3⟩
theorem ffn_rng (Q : Nat → Prop) [DecidablePred Q] (n : Nat) : -3 ≤ ffn Q n 0 ∧ ffn Q n 0 < (n : Int) := by
  rcases ffn_rng' Q n 0 with h | ⟨h1, h2, h3⟩ <;> omega
theorem crn_0 {X Y : Nat → Nat} {V a b : Nat} (h : dxx X a * dxx X b + dxx Y a * dxx Y b ≤ 0) : crn X Y V a b = 0 := if_pos h
theorem crn_1 {X Y : Nat → Nat} {V a b : Nat} (h : ¬ dxx X a * dxx X b + dxx Y a * dxx Y b ≤ 0) (h2 : dxx X a * dxx Y b = dxx Y a * dxx X b) : crn X Y V a b = V := (if_neg h).trans (if_pos h2)
theorem crn_4 {X Y : Nat → Nat} {V a b : Nat} (h : ¬ dxx X a * dxx X b + dxx Y a * dxx Y b ≤ 0) (h2 : ¬ dxx X a * dxx Y b = dxx Y a * dxx X b) : crn X Y V a b = V / 4 := (if_neg h).trans (if_neg h2)
