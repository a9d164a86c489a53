/-- the strokes still to be drawn -/
def cpl (n T : Nat) : Nat := 2 ^ n - 1 - T
theorem cpl_bit : ∀ n, n < 9 → ∀ T, T < 2 ^ n → ∀ k, k < n → ((cpl n T / 2 ^ k % 2 = 1) ↔ ¬ T / 2 ^ k % 2 = 1) := by decide +kernel
theorem cpl_or0 : ∀ n, n < 9 → ∀ T, T < 2 ^ n → ∀ k, k < n → (T / 2 ^ k % 2 = 1 ∨ (cpl n (T ||| 2 ^ k) = clb (cpl n T) k ∧ (T ||| 2 ^ k) < 2 ^ n ∧ (T ||| 2 ^ k) / 2 ^ k % 2 = 1 ∧ T < (T ||| 2 ^ k))) := by decide +kernel
theorem cpl_or (n : Nat) (hn : n < 9) (T : Nat) (hT : T < 2 ^ n) (k : Nat) (hk : k < n) (h : ¬ T / 2 ^ k % 2 = 1) : cpl n (T ||| 2 ^ k) = clb (cpl n T) k ∧ (T ||| 2 ^ k) < 2 ^ n ∧ (T ||| 2 ^ k) / 2 ^ k % 2 = 1 ∧ T < (T ||| 2 ^ k) := (cpl_or0 n hn T hT k hk).resolve_left h
theorem cpl_crd : ∀ n, n < 9 → ∀ T, T < 2 ^ n → ¬ T = 2 ^ n - 1 → 0 < crd (cpl n T) n := by decide +kernel
theorem cpl_le (n T : Nat) : cpl n T ≤ 2 ^ n - 1 := Nat.sub_le _ _
/-- the least of the chosen so far, or what it began with -/
def led (Q : Nat → Prop) [DecidablePred Q] (g : Nat → Nat) (st k : Nat) : Nat := if amf Q g k = -1 then st else amv Q g k
theorem led_skip {Q : Nat → Prop} [DecidablePred Q] {g : Nat → Nat} {st k : Nat} (h : ¬ Q k) : led Q g st (k + 1) = led Q g st k := by
  have w := amf_skip (g := g) h
  unfold led
  rw [w.1, w.2]
theorem led_take {Q : Nat → Prop} [DecidablePred Q] {g : Nat → Nat} {st k : Nat} (hQ : Q k) (h : g k < led Q g st k) : led Q g st (k + 1) = g k := by
  have w : amf Q g (k + 1) = (k : Int) ∧ amv Q g (k + 1) = g k := by
    refine amf_take hQ ?_
    by_cases z : amf Q g k = -1
    · exact Or.inl z
    · unfold led at h
      rw [if_neg z] at h
      exact Or.inr h
  unfold led
  rw [w.1, w.2, if_neg (show ¬ (k : Int) = -1 by omega)]
theorem led_keep {Q : Nat → Prop} [DecidablePred Q] {g : Nat → Nat} {st k : Nat} (h : ¬ g k < led Q g st k) (hb : g k < st) : led Q g st (k + 1) = led Q g st k := by
  by_cases z : amf Q g k = -1
  · unfold led at h
    rw [if_pos z] at h
    exact absurd hb h
  · unfold led at h
    rw [if_neg z] at h
    have w := amf_keep z h
    unfold led
    rw [w.1, w.2]
theorem led_le {Q : Nat → Prop} [DecidablePred Q] {g : Nat → Nat} {st k m : Nat} (h : ∀ j, j < k → g j ≤ m) (hs : st ≤ m) : led Q g st k ≤ m := by
  unfold led
  split
  · exact hs
  · exact amv_le h
theorem led_vl {P X Y : Nat → Nat} {C n T : Nat} {a : Int} (hn : n ≤ 8) (hT : T < 2 ^ n) {st : Nat} (hst : T = 2 ^ n - 1 → st = 0) : led (fun j => inS (cpl n T) j) (fun j => stp P X Y C a j + vl P X Y C n (clb (cpl n T) (j / 2)) (j : Int)) st (2 * n) = vl P X Y C n (cpl n T) a := by
  unfold led
  rw [vl_un]
  by_cases z : amf (fun j => inS (cpl n T) j) (fun j => stp P X Y C a j + vl P X Y C n (clb (cpl n T) (j / 2)) (j : Int)) (2 * n) = -1
  · rw [if_pos z, amv_nil z]
    by_cases q : T = 2 ^ n - 1
    · exact hst q
    · have h := amf_ge (g := fun j => stp P X Y C a j + vl P X Y C n (clb (cpl n T) (j / 2)) (j : Int)) (cpl_crd n (by omega) T hT q)
      rw [z] at h
      exact absurd h (by decide)
  · rw [if_neg z]
/-- the reference's row of rests, above a set -/
def rsO (P X Y : Nat → Nat) (C n : Nat) (rt : Nat → Nat) (T : Nat) : Prop := ∀ U one, U < 2 ^ n → one < 2 * n → U / 2 ^ (one / 2) % 2 = 1 → T < U → rt (16 * U + one) = vl P X Y C n (cpl n U) (one : Int)
