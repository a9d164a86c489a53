def adp (f : Nat → Nat) (a k : Nat) : Nat → Nat := fun j => if 40 ≤ j ∧ j < 40 + k then adj a (f j) else f j
def rm2 (w : Nat → Nat) (n t k : Nat) : Nat → Nat := shl (va_up w 48 (n - 1)) 1 (40 + t) (40 + k)
def rm3 (w : Nat → Nat) (n t a k : Nat) : Nat → Nat := adp (rm2 w n t (n - 1)) a k
def rmw (w : Nat → Nat) (n a t : Nat) : Nat → Nat := shl (rm3 w n t a (n - 1)) 5 (5 * a) (5 * (n - 1))
def pl1 (L : Nat → Nat) (t k : Nat) : Nat := L (if k < t then k else k + 1)
theorem rm2_48 {w : Nat → Nat} {n t k : Nat} (hk : k ≤ n - 1) (hn : n ≤ 8) (h1 : 1 ≤ n) : rm2 w n t k 48 = n - 1 := by
  unfold rm2 shl va_up
  rw [if_neg (by omega), if_pos rfl]
theorem rm2_pl {w : Nat → Nat} {n : Nat} {P X Y L : Nat → Nat} (h : zRl w n P X Y L) {t k : Nat} (hk : k + 1 < n) (hn : n ≤ 8) : rm2 w n t (n - 1) (40 + k) = pl1 L t k := by
  unfold rm2 shl va_up pl1
  by_cases q : k < t
  · rw [if_neg (by omega), if_neg (by omega), if_pos q]; exact h.2.2.2 k (by omega)
  · rw [if_pos (by omega), if_neg (by omega), if_neg q]; exact h.2.2.2 (k + 1) (by omega)
theorem rm3_48 {w : Nat → Nat} {n t a k : Nat} (hk : k ≤ n - 1) (hn : n ≤ 8) (h1 : 1 ≤ n) : rm3 w n t a k 48 = n - 1 := by
  unfold rm3 adp
  rw [if_neg (by omega)]; exact rm2_48 (Nat.le_refl _) hn h1
theorem rm3_k (w : Nat → Nat) (n t a k : Nat) : rm3 w n t a k (40 + k) = rm2 w n t (n - 1) (40 + k) := by
  unfold rm3 adp
  rw [if_neg (by omega)]
theorem rm3_0 (w : Nat → Nat) (n t a j : Nat) : rm2 w n t (n - 1) j = rm3 w n t a 0 j := by
  unfold rm3 adp
  rw [if_neg (by omega)]
theorem rm3_s (w : Nat → Nat) (n t a k v j : Nat) (hv : v = adj a (rm2 w n t (n - 1) (40 + k))) : va_up (rm3 w n t a k) (40 + k) v j = rm3 w n t a (k + 1) j := by
  unfold va_up rm3 adp
  by_cases h : j = 40 + k
  · rw [if_pos h, if_pos (show 40 ≤ j ∧ j < 40 + (k + 1) by omega), hv, h]
  · rw [if_neg h]
    by_cases h2 : 40 ≤ j ∧ j < 40 + k
    · rw [if_pos h2, if_pos (show 40 ≤ j ∧ j < 40 + (k + 1) by omega)]
    · rw [if_neg h2, if_neg (show ¬ (40 ≤ j ∧ j < 40 + (k + 1)) by omega)]
theorem rm4_48 {w : Nat → Nat} {n t a k : Nat} (hk : k ≤ 5 * (n - 1)) (hn : n ≤ 8) (h1 : 1 ≤ n) : shl (rm3 w n t a (n - 1)) 5 (5 * a) k 48 = n - 1 := by
  unfold shl
  rw [if_neg (by omega)]; exact rm3_48 (Nat.le_refl _) hn h1
theorem rm3_lo {w : Nat → Nat} {n t a k j : Nat} (hj : j < 40) : rm3 w n t a k j = w j := by
  unfold rm3 adp
  rw [if_neg (by omega)]
  unfold rm2 shl va_up
  rw [if_neg (by omega), if_neg (by omega)]
theorem rm_rl {w : Nat → Nat} {n : Nat} {P X Y L : Nat → Nat} (h : zRl w n P X Y L) {a t : Nat} (hn : n ≤ 8) (ha : a < n) (ht : t < n) : zRl (rmw w n a t) (n - 1) (shl P 1 a (n - 1)) (shl X 2 (2 * a) (2 * n - 2)) (shl Y 2 (2 * a) (2 * n - 2)) (dpl L a t n) := by
  refine ⟨rm4_48 (Nat.le_refl _) hn (by omega), fun c hc => ?_, fun s hs => ?_, fun k hk => ?_⟩
  · have key : ∀ r, r ≤ 1 → rmw w n a t (bg c + r) = w (bg (if 2 * a ≤ c then c + 2 else c) + r) := by
      intro r hr
      unfold rmw shl
      by_cases q : 2 * a ≤ c
      · rw [if_pos (by unfold bg; omega), if_pos q, rm3_lo (by unfold bg; omega)]
        congr 1
        unfold bg; omega
      · rw [if_neg (by unfold bg; omega), if_neg q, rm3_lo (by unfold bg; omega)]
    have h1 := h.2.1 (if 2 * a ≤ c then c + 2 else c) (by split <;> omega)
    have k0 := key 0 (by omega)
    have k1 := key 1 (by omega)
    rw [Nat.add_zero, Nat.add_zero] at k0
    rw [k0, k1, h1.1, h1.2]
    unfold shl
    by_cases q : 2 * a ≤ c
    · rw [if_pos q, if_pos (by omega), if_pos (by omega)]; exact ⟨rfl, rfl⟩
    · rw [if_neg q, if_neg (by omega), if_neg (by omega)]; exact ⟨rfl, rfl⟩
  · unfold rmw shl
    by_cases q : a ≤ s
    · rw [if_pos (by omega), if_pos (by omega), rm3_lo (by omega), show 5 * s + 4 + 5 = 5 * (s + 1) + 4 by omega]
      exact h.2.2.1 (s + 1) (by omega)
    · rw [if_neg (by omega), if_neg (by omega), rm3_lo (by omega)]
      exact h.2.2.1 s (by omega)
  · rw [dpl_as L a t n k (by omega) ht]
    have e : rmw w n a t (40 + k) = adj a (rm2 w n t (n - 1) (40 + k)) := by
      unfold rmw shl
      rw [if_neg (by omega)]
      unfold rm3 adp
      rw [if_pos (by omega)]
    rw [e, rm2_pl h (by omega) hn]
    rfl
-- the plan's rows, turned and moved
theorem rl_turn {w : Nat → Nat} {n : Nat} {P X Y L : Nat → Nat} (h : zRl w n P X Y L) {a : Nat} (hn : n ≤ 8) (ha : a < n) (v : Nat) : zRl (va_up w (40 + a) v) n P X Y (va_up L a v) := by
  obtain ⟨h0, h1, h2, h3⟩ := h
  refine ⟨?_, fun c hc => ?_, fun s hs => ?_, fun k hk => ?_⟩
  · unfold va_up; rw [if_neg (by omega)]; exact h0
  · have hb := bg_lt hc hn
    unfold va_up; rw [if_neg (by omega), if_neg (by omega)]; exact h1 c hc
  · unfold va_up; rw [if_neg (by omega)]; exact h2 s hs
  · unfold va_up
    by_cases q : k = a
    · rw [if_pos (by omega), if_pos q]
    · rw [if_neg (by omega), if_neg q]; exact h3 k hk
/-- a row in which only the plan is another -/
theorem rl_plan {w w2 : Nat → Nat} {n : Nat} {P X Y L L2 : Nat → Nat} (h : zRl w n P X Y L) (hn : n ≤ 8) (h1 : ∀ j, (j < 40 ∨ j = 48) → w2 j = w j) (h2 : ∀ k, k < n → w2 (40 + k) = L2 k) : zRl w2 n P X Y L2 := by
  obtain ⟨e0, e1, e2, e3⟩ := h
  refine ⟨(h1 48 (Or.inr rfl)).trans e0, fun c hc => ?_, fun s hs => ?_, h2⟩
  · have hb := bg_lt hc hn
    rw [h1 _ (Or.inl (by omega)), h1 _ (Or.inl (by omega))]; exact e1 c hc
  · rw [h1 _ (Or.inl (by omega))]; exact e2 s hs
/-- the plan's part of a row laid anew -/
def plw (w L2 : Nat → Nat) (k : Nat) : Nat → Nat := hcp w L2 40 k
theorem plw_rl {w : Nat → Nat} {n : Nat} {P X Y L L2 : Nat → Nat} (h : zRl w n P X Y L) (hn : n ≤ 8) : zRl (plw w L2 n) n P X Y L2 := by
  refine rl_plan h hn (fun j hj => ?_) (fun k hk => ?_)
  · unfold plw hcp; rw [if_neg (by omega)]
  · unfold plw hcp; rw [if_pos (by omega), show 40 + k - 40 = k by omega]
theorem plw_48 (w L2 : Nat → Nat) {k n : Nat} (hk : k ≤ 8) (h : w 48 = n) : plw w L2 k 48 = n := by unfold plw hcp; rw [if_neg (by omega)]; exact h
theorem mv_f {w : Nat → Nat} {n : Nat} {P X Y L : Nat → Nat} (h : zRl w n P X Y L) (hn : n ≤ 8) {a y : Nat} (ha : a < n) (hy : y < n) (q : a < y) : zRl (va_up (shl w 1 (40 + a) (40 + y)) (40 + y) (L a)) n P X Y (mvp L a y) := by
  refine rl_plan h hn (fun j hj => ?_) (fun k hk => ?_)
  · unfold va_up shl; rw [if_neg (by omega), if_neg (by omega)]
  · rw [mvp_as]
    unfold va_up shl
    by_cases e : k = y
    · rw [if_pos (show 40 + k = 40 + y by omega), if_pos e]
    · rw [if_neg (show ¬ 40 + k = 40 + y by omega), if_neg e, if_pos q]
      by_cases z : a ≤ k ∧ k < y
      · rw [if_pos (show 40 + a ≤ 40 + k ∧ 40 + k < 40 + y by omega), if_pos z]; exact h.2.2.2 (k + 1) (by omega)
      · rw [if_neg (show ¬ (40 + a ≤ 40 + k ∧ 40 + k < 40 + y) by omega), if_neg z]; exact h.2.2.2 k hk
theorem mv_b {w : Nat → Nat} {n : Nat} {P X Y L : Nat → Nat} (h : zRl w n P X Y L) (hn : n ≤ 8) {a y : Nat} (ha : a < n) (hy : y < n) (q : y ≤ a) : zRl (va_up (shr w (40 + a) (40 + y)) (40 + y) (L a)) n P X Y (mvp L a y) := by
  refine rl_plan h hn (fun j hj => ?_) (fun k hk => ?_)
  · unfold va_up shr; rw [if_neg (by omega), if_neg (by omega)]
  · rw [mvp_as]
    unfold va_up shr
    by_cases e : k = y
    · rw [if_pos (show 40 + k = 40 + y by omega), if_pos e]
    · rw [if_neg (show ¬ 40 + k = 40 + y by omega), if_neg e, if_neg (show ¬ a < y by omega)]
      by_cases z : y < k ∧ k ≤ a
      · rw [if_pos (show 40 + y < 40 + k ∧ 40 + k ≤ 40 + a by omega), if_pos z, show 40 + k - 1 = 40 + (k - 1) by omega]; exact h.2.2.2 (k - 1) (by omega)
      · rw [if_neg (show ¬ (40 + y < 40 + k ∧ 40 + k ≤ 40 + a) by omega), if_neg z]; exact h.2.2.2 k hk
theorem shr_0 (f : Nat → Nat) (a j : Nat) : f j = shr f a a j := by unfold shr; rw [if_neg (by omega)]
theorem shr_s (f : Nat → Nat) (a k j : Nat) (hk : 1 ≤ k) (hka : k ≤ a) : va_up (shr f a k) k (shr f a k (k - 1)) j = shr f a (k - 1) j := by
  unfold va_up shr
  by_cases h1 : j = k
  · rw [if_pos h1, if_neg (show ¬ (k < k - 1 ∧ k - 1 ≤ a) by omega), if_pos (show k - 1 < j ∧ j ≤ a by omega), h1]
  · rw [if_neg h1]
    by_cases h2 : k < j ∧ j ≤ a
    · rw [if_pos h2, if_pos (show k - 1 < j ∧ j ≤ a by omega)]
    · rw [if_neg h2, if_neg (show ¬ (k - 1 < j ∧ j ≤ a) by omega)]
theorem ex_l {Q : Nat → Prop} {i : Nat} (h : ¬ ∀ j, j < i → ¬ Q j) : ¬ ∀ j, j < i + 1 → ¬ Q j := fun z => h (fun j hj => z j (by omega))
theorem ex_r {Q : Nat → Prop} {i : Nat} (h : Q i) : ¬ ∀ j, j < i + 1 → ¬ Q j := fun z => z i (by omega) h
theorem ex_n {Q : Nat → Prop} {i : Nat} (h : ¬ ¬ ∀ j, j < i → ¬ Q j) (h2 : ¬ Q i) : ¬ ¬ ∀ j, j < i + 1 → ¬ Q j := fun z => h (fun y => z (fun j hj => by
  by_cases e : j = i
  · rw [e]; exact h2
  · exact y j (by omega)))
theorem ex_0 {Q : Nat → Prop} : ¬ ¬ ∀ j, j < 0 → ¬ Q j := fun z => z (fun j hj => absurd hj (Nat.not_lt_zero j))
theorem ddr_drop' {k : Nat} {d : zDt} {c : Nat} (h : 1 < k) (q : ¬ ∀ j, j < k - 1 → ¬ alk d.2.1 d.2.2.1 d.2.2.2.1 (k - 1) j) : ddr k d c = ddr (k - 1) (drp (k - 1) d) (c + 1) := by
  obtain ⟨m, rfl⟩ : ∃ m, k = m + 1 := ⟨k - 1, by omega⟩
  rw [show m + 1 - 1 = m by omega] at q ⊢
  simp only [ddr]
  rw [if_neg (by omega), if_neg q]
