/-- the first k of w laid at q into f -/
def hcp (f w : Nat → Nat) (q k : Nat) : Nat → Nat := fun j => if q ≤ j ∧ j < q + k then w (j - q) else f j
theorem hcp_0 (f w : Nat → Nat) (q j : Nat) : f j = hcp f w q 0 j := by unfold hcp; rw [if_neg (by omega)]
theorem hcp_s (f w : Nat → Nat) (q k j v : Nat) (hv : v = w k) : va_up (hcp f w q k) (q + k) v j = hcp f w q (k + 1) j := by
  unfold va_up hcp
  by_cases h : j = q + k
  · rw [if_pos h, if_pos (show q ≤ j ∧ j < q + (k + 1) by omega), hv, show j - q = k by omega]
  · rw [if_neg h]
    by_cases h2 : q ≤ j ∧ j < q + k
    · rw [if_pos h2, if_pos (show q ≤ j ∧ j < q + (k + 1) by omega)]
    · rw [if_neg h2, if_neg (show ¬ (q ≤ j ∧ j < q + (k + 1)) by omega)]
def hst (hs w : Nat → Nat) (ed : Nat) : Nat → Nat := hcp (if ed = 4 then shl hs 49 0 147 else hs) w (49 * (if ed = 4 then 3 else ed)) 49
theorem shl_u (f : Nat → Nat) (d lo k j : Nat) (hk : lo ≤ k) : va_up (shl f d lo k) k (shl f d lo k (k + d)) j = shl f d lo (k + 1) j := by
  unfold va_up shl
  by_cases h : j = k
  · rw [if_pos h, if_neg (by omega), if_pos (show lo ≤ j ∧ j < k + 1 by omega), h]
  · rw [if_neg h]
    by_cases h2 : lo ≤ j ∧ j < k
    · rw [if_pos h2, if_pos (show lo ≤ j ∧ j < k + 1 by omega)]
    · rw [if_neg h2, if_neg (show ¬ (lo ≤ j ∧ j < k + 1) by omega)]
/-- a row with a stroke more -/
def adw (w : Nat → Nat) (n x1 y1 x2 y2 q : Nat) : Nat → Nat := va_up (va_up (va_up (va_up (va_up (va_up (va_up w (5 * n) x1) (5 * n + 1) y1) (5 * n + 2) x2) (5 * n + 3) y2) (5 * n + 4) q) (40 + n) (2 * n)) 48 (n + 1)
theorem adw_rl {w : Nat → Nat} {n : Nat} {P X Y L : Nat → Nat} (h : zRl w n P X Y L) (hn : n < 8) (x1 y1 x2 y2 q : Nat) : zRl (adw w n x1 y1 x2 y2 q) (n + 1) (va_up P n q) (va_up (va_up X (2 * n) x1) (2 * n + 1) x2) (va_up (va_up Y (2 * n) y1) (2 * n + 1) y2) (va_up L n (2 * n)) := by
  obtain ⟨h0, h1, h2, h3⟩ := h
  refine ⟨by unfold adw va_up; exact if_pos rfl, fun c hc => ?_, fun s hs => ?_, fun k hk => ?_⟩
  · rcases (show c < 2 * n ∨ c = 2 * n ∨ c = 2 * n + 1 by omega) with q1 | q1 | q1
    · obtain ⟨e1, e2⟩ := h1 c q1
      have hb := bg_lt (c := c) (n := n) q1 (by omega)
      have hb2 : bg c + 1 < 5 * n := by unfold bg; omega
      unfold adw va_up
      refine ⟨?_, ?_⟩
      · rw [if_neg (by omega), if_neg (by omega), if_neg (by omega), if_neg (by omega), if_neg (by omega), if_neg (by omega), if_neg (by omega), if_neg (by omega), if_neg (by omega)]; exact e1
      · rw [if_neg (by omega), if_neg (by omega), if_neg (by omega), if_neg (by omega), if_neg (by omega), if_neg (by omega), if_neg (by omega), if_neg (by omega), if_neg (by omega)]; exact e2
    · subst q1
      have hb : bg (2 * n) = 5 * n := by unfold bg; omega
      rw [hb]
      unfold adw va_up
      refine ⟨?_, ?_⟩
      · rw [if_neg (by omega), if_neg (by omega), if_neg (by omega), if_neg (by omega), if_neg (by omega), if_neg (by omega), if_pos rfl, if_neg (by omega), if_pos rfl]
      · rw [if_neg (by omega), if_neg (by omega), if_neg (by omega), if_neg (by omega), if_neg (by omega), if_pos (by omega), if_neg (by omega), if_pos rfl]
    · subst q1
      have hb : bg (2 * n + 1) = 5 * n + 2 := by unfold bg; omega
      rw [hb]
      unfold adw va_up
      refine ⟨?_, ?_⟩
      · rw [if_neg (by omega), if_neg (by omega), if_neg (by omega), if_neg (by omega), if_pos rfl, if_pos rfl]
      · rw [if_neg (by omega), if_neg (by omega), if_neg (by omega), if_pos (by omega), if_pos rfl]
  · unfold adw va_up
    by_cases e : s = n
    · subst e
      rw [if_neg (by omega), if_neg (by omega), if_pos rfl, if_pos rfl]
    · rw [if_neg (by omega), if_neg (by omega), if_neg (by omega), if_neg (by omega), if_neg (by omega), if_neg (by omega), if_neg (by omega), if_neg (by omega)]
      exact h2 s (by omega)
  · unfold adw va_up
    by_cases e : k = n
    · subst e
      rw [if_neg (by omega), if_pos rfl, if_pos rfl]
    · rw [if_neg (by omega), if_neg (by omega), if_neg (by omega), if_neg (by omega), if_neg (by omega), if_neg (by omega), if_neg (by omega), if_neg (by omega)]
      exact h3 k (by omega)
theorem add_ok {n : Nat} {P X Y L : Nat → Nat} (h : zOk n P X Y L) (hn : n < 8) {x1 y1 x2 y2 q : Nat} (hg : (x1 ≤ 99 ∧ y1 ≤ 99) ∧ (x2 ≤ 99 ∧ y2 ≤ 99) ∧ q ≤ 3) : zOk (n + 1) (va_up P n q) (va_up (va_up X (2 * n) x1) (2 * n + 1) x2) (va_up (va_up Y (2 * n) y1) (2 * n + 1) y2) (va_up L n (2 * n)) := by
  obtain ⟨⟨h0, h1, h2⟩, h3, h4⟩ := h
  refine ⟨⟨by omega, fun s hs => ?_, fun c hc => ?_⟩, fun k hk => ?_, fun i j hi hj hij => ?_⟩
  · unfold va_up; split
    · exact hg.2.2
    · exact h1 s (by omega)
  · unfold va_up
    refine ⟨?_, ?_⟩
    · split
      · exact hg.2.1.1
      · split
        · exact hg.1.1
        · exact (h2 c (by omega)).1
    · split
      · exact hg.2.1.2
      · split
        · exact hg.1.2
        · exact (h2 c (by omega)).2
  · unfold va_up; split
    · omega
    · have := h3 k (by omega); omega
  · unfold va_up at hij
    by_cases e1 : i = n
    · by_cases e2 : j = n
      · rw [e1, e2]
      · rw [if_pos e1, if_neg e2] at hij
        have := h3 j (by omega); omega
    · by_cases e2 : j = n
      · rw [if_neg e1, if_pos e2] at hij
        have := h3 i (by omega); omega
      · rw [if_neg e1, if_neg e2] at hij
        exact h4 i j (by omega) (by omega) hij
