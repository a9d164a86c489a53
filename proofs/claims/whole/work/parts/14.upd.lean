-- ===== what the edits do to the numbers =====
def shl (f : Nat → Nat) (d lo hi : Nat) : Nat → Nat := fun j => if lo ≤ j ∧ j < hi then f (j + d) else f j
def shr (f : Nat → Nat) (a k : Nat) : Nat → Nat := fun j => if k < j ∧ j ≤ a then f (j - 1) else f j
def adj (a c : Nat) : Nat := if a < c / 2 then c - 2 else c
def kpt (t k : Nat) : Nat := if k ≤ t then k else k - 1
def dpl (L : Nat → Nat) (a t k : Nat) : Nat → Nat := fun j => if j < k ∧ j < t then adj a (L j) else if t ≤ j ∧ j + 1 < k then adj a (L (j + 1)) else L j
def m2 (L : Nat → Nat) (a b k : Nat) : Nat → Nat := if a < b then shl L 1 a b else shr L a k
def mvp (L : Nat → Nat) (a b : Nat) : Nat → Nat := va_up (m2 L a b b) b (L a)
theorem shl_0 (f : Nat → Nat) (d lo hi j : Nat) (h : hi ≤ lo) : f j = shl f d lo hi j := by unfold shl; rw [if_neg (by omega)]
theorem shl_s (f : Nat → Nat) (d lo k j : Nat) (hk : lo + d ≤ k) (hd : 1 ≤ d) : va_up (shl f d lo (k - d)) (k - d) (shl f d lo (k - d) k) j = shl f d lo (k - d + 1) j := by
  unfold va_up shl
  by_cases h : j = k - d
  · rw [if_pos h, if_neg (by omega), if_pos (by omega), show j + d = k by omega]
  · rw [if_neg h]
    by_cases h2 : lo ≤ j ∧ j < k - d
    · rw [if_pos h2, if_pos (by omega)]
    · rw [if_neg h2, if_neg (by omega)]
theorem kpt_f (t k : Nat) : (k ≤ t → kpt t k = k) ∧ (t < k → kpt t k = k - 1) := by
  unfold kpt; constructor <;> intro h <;> split <;> omega
theorem dpl_k (L : Nat → Nat) (a t k : Nat) : dpl L a t k k = L k := by
  unfold dpl; rw [if_neg (by omega), if_neg (by omega)]
theorem dpl_0 (L : Nat → Nat) (a t j : Nat) : L j = dpl L a t 0 j := by
  unfold dpl; rw [if_neg (by omega), if_neg (by omega)]
theorem dpl_t (L : Nat → Nat) (a t j : Nat) : dpl L a t t j = dpl L a t (t + 1) j := by
  unfold dpl
  by_cases h : j < t
  · rw [if_pos (by omega), if_pos (by omega)]
  · rw [if_neg (by omega), if_neg (by omega), if_neg (by omega), if_neg (by omega)]
theorem dpl_s (L : Nat → Nat) (a t k v j : Nat) (hk : ¬ k = t) (hv : v = adj a (L k)) : va_up (dpl L a t k) (kpt t k) v j = dpl L a t (k + 1) j := by
  subst hv
  have hq := kpt_f t k
  unfold va_up
  by_cases h : j = kpt t k
  · rw [if_pos h]
    unfold dpl
    by_cases h2 : k < t
    · rw [if_pos (by omega), show j = k by omega]
    · rw [if_neg (by omega), if_pos (by omega), show j + 1 = k by omega]
  · rw [if_neg h]
    unfold dpl
    by_cases h2 : j < k ∧ j < t
    · rw [if_pos h2, if_pos (show j < k + 1 ∧ j < t by omega)]
    · by_cases h3 : t ≤ j ∧ j + 1 < k
      · rw [if_neg h2, if_pos h3, if_neg (show ¬ (j < k + 1 ∧ j < t) by omega), if_pos (show t ≤ j ∧ j + 1 < k + 1 by omega)]
      · rw [if_neg h2, if_neg h3, if_neg (show ¬ (j < k + 1 ∧ j < t) by omega), if_neg (show ¬ (t ≤ j ∧ j + 1 < k + 1) by omega)]
theorem adj_t {a c : Nat} (h : a < c / 2) : adj a c = c - 2 := if_pos h
theorem adj_f {a c : Nat} (h : ¬ a < c / 2) : adj a c = c := if_neg h
theorem m2_0 (L : Nat → Nat) (a b k j : Nat) (h : (a < b ∧ k = b) ∨ (b ≤ a ∧ k = a)) : shl L 1 a k j = m2 L a b a j := by
  unfold m2
  rcases h with ⟨h1, h2⟩ | ⟨h1, h2⟩
  · rw [if_pos h1, h2]
  · rw [if_neg (by omega), h2, ← shl_0 L 1 a a j (Nat.le_refl a)]
    unfold shr; rw [if_neg (by omega)]
theorem m2_s (L : Nat → Nat) (a b k j : Nat) (h : b ≤ a) (hk : 1 ≤ k) (hka : k ≤ a) : va_up (m2 L a b k) k (m2 L a b k (k - 1)) j = m2 L a b (k - 1) j := by
  have e : ∀ q, m2 L a b q = shr L a q := fun q => if_neg (by omega)
  rw [e, e]
  unfold va_up shr
  by_cases h1 : j = k
  · rw [if_pos h1, if_neg (show ¬ (k < k - 1 ∧ k - 1 ≤ a) by omega), if_pos (show k - 1 < j ∧ j ≤ a by omega), h1]
  · rw [if_neg h1]
    by_cases h2 : k < j ∧ j ≤ a
    · rw [if_pos h2, if_pos (show k - 1 < j ∧ j ≤ a by omega)]
    · rw [if_neg h2, if_neg (show ¬ (k - 1 < j ∧ j ≤ a) by omega)]
theorem m2_e (L : Nat → Nat) (a b k j v : Nat) (h : k = b ∨ a < b) (hv : v = L a) : va_up (m2 L a b k) b v j = mvp L a b j := by
  unfold mvp
  rw [hv]
  rcases h with h | h
  · rw [h]
  · unfold m2; rw [if_pos h, if_pos h]
theorem no_inj : ∀ (m : Nat) (f : Nat → Nat), (∀ k, k ≤ m → f k < m) → ∃ i j, i < j ∧ j ≤ m ∧ f i = f j
  | 0, f, h => absurd (h 0 (Nat.le_refl 0)) (by omega)
  | m + 1, f, h => by
    by_cases hs : ∃ i, i ≤ m ∧ f i = f (m + 1)
    · obtain ⟨i, h1, h2⟩ := hs
      exact ⟨i, m + 1, by omega, Nat.le_refl _, h2⟩
    · have hne : ∀ i, i ≤ m → f i ≠ f (m + 1) := fun i hi q => hs ⟨i, hi, q⟩
      obtain ⟨i, j, h1, h2, h3⟩ := no_inj m (fun k => if f (m + 1) < f k then f k - 1 else f k) (fun k hk => by
        have q1 := h k (by omega)
        have q2 := h (m + 1) (Nat.le_refl _)
        have q3 := hne k hk
        show (if f (m + 1) < f k then f k - 1 else f k) < m
        split <;> omega)
      refine ⟨i, j, h1, by omega, ?_⟩
      have q1 := hne i (by omega)
      have q2 := hne j h2
      split at h3 <;> split at h3 <;> omega
/-- every stroke has its place in the plan -/
theorem plan_has {n : Nat} {P X Y L : Nat → Nat} (hok : zOk n P X Y L) {a : Nat} (ha : a < n) : ∃ t, t < n ∧ L t / 2 = a := by
  obtain ⟨-, hL, hinj⟩ := hok
  by_cases h : ∃ t, t < n ∧ L t / 2 = a
  · exact h
  · exfalso
    have hne : ∀ t, t < n → L t / 2 ≠ a := fun t ht q => h ⟨t, ht, q⟩
    obtain ⟨m, rfl⟩ : ∃ m, n = m + 1 := ⟨n - 1, by omega⟩
    obtain ⟨i, j, h1, h2, h3⟩ := no_inj m (fun k => if a < L k / 2 then L k / 2 - 1 else L k / 2) (fun k hk => by
      have q1 := hL k (by omega)
      have q3 := hne k (by omega)
      show (if a < L k / 2 then L k / 2 - 1 else L k / 2) < m
      split <;> omega)
    have q1 := hne i (by omega)
    have q2 := hne j (by omega)
    have := hinj i j (by omega) (by omega) (by
      split at h3 <;> split at h3 <;> omega)
    omega
def pos (n : Nat) (L : Nat → Nat) (a : Nat) : Nat := (ffn (fun k => L k / 2 = a) n 0).toNat
theorem pos_ok {n : Nat} {P X Y L : Nat → Nat} (hok : zOk n P X Y L) {a : Nat} (ha : a < n) : pos n L a < n ∧ L (pos n L a) / 2 = a := by
  obtain ⟨t, h1, h2⟩ := plan_has hok ha
  rcases ffn_rng' (fun k => L k / 2 = a) n 0 with h | ⟨h3, h4, h5⟩
  · exfalso
    have key : ∀ f k, k ≤ t → t < k + f → ffn (fun k => L k / 2 = a) f k ≠ -3 := by
      intro f
      induction f with
      | zero => intro k q1 q2; omega
      | succ f ih =>
        intro k q1 q2
        simp only [ffn]
        by_cases q : L k / 2 = a
        · rw [if_pos q]; omega
        · rw [if_neg q]
          have : k ≠ t := fun z => q (by rw [z]; exact h2)
          exact ih (k + 1) (by omega) (by omega)
    exact key n 0 (by omega) (by omega) h
  · exact ⟨by unfold pos; omega, h5⟩
theorem pos_one {n : Nat} {P X Y L : Nat → Nat} (hok : zOk n P X Y L) {a t k : Nat} (ht : t < n ∧ L t / 2 = a) (hk : k < n) (h : L k / 2 = a) : k = t := hok.2.2 k t hk ht.1 (by rw [h, ht.2])
-- bits of a set of strokes
def clb (S k : Nat) : Nat := S - S / 2 ^ k % 2 * 2 ^ k
theorem clb_and : ∀ S, S < 256 → ∀ k, k < 8 → S &&& (4294967295 - 2 ^ k) = clb S k := by decide +kernel
theorem clb_bit : ∀ S, S < 256 → ∀ k, k < 8 → ∀ j, j < 8 → clb S k / 2 ^ j % 2 = if j = k then 0 else S / 2 ^ j % 2 := by decide +kernel
theorem clb_lt {S k : Nat} (h : S / 2 ^ k % 2 = 1) : clb S k < S := by
  unfold clb
  rw [h, Nat.one_mul]
  have h1 : 0 < 2 ^ k := Nat.pow_pos (by decide)
  have h2 : 0 < S := by
    rcases Nat.eq_zero_or_pos S with q | q
    · rw [q, Nat.zero_div] at h; simp at h
    · exact q
  omega
theorem clb_le (S k : Nat) : clb S k ≤ S := Nat.sub_le _ _
theorem n_clb {S k : Nat} (hS : S < 256) (hk : k < 8) : nI S &&& (nI (2 ^ k) ^^^ zI (-1)) = nI (clb S k) := by
  have h1 : ∀ k, k < 8 → nI (2 ^ k) ^^^ zI (-1) = nI (4294967295 - 2 ^ k) := by decide +kernel
  rw [h1 k hk, n_and, clb_and S hS k hk]
