-- ===== more number rows =====
def sw (c : Nat) : Nat := if c % 2 = 0 then c + 1 else c - 1
theorem xor_one_sw (a : Nat) : a ^^^ 1 = sw a := by
  have h1 : (a ^^^ 1) / 2 = a / 2 := by rw [Nat.xor_div_two]; simp
  have h2 : (a ^^^ 1) % 2 = 1 ↔ ¬ (a % 2 = 1) := by rw [Nat.xor_mod_two_eq_one]; simp
  unfold sw
  split <;> omega
theorem n_xor1 (a : Nat) : nI a ^^^ nI 1 = nI (sw a) := by rw [n_xor, xor_one_sw]
theorem n_and1 (a : Nat) : nI a &&& nI 1 = nI (a % 2) := by rw [n_and, Nat.and_one_is_mod]
theorem n_shl1 {k : Nat} (h : k < 31) : nI 1 <<< (nI k &&& 31) = nI (2 ^ k) := by
  have h2 : 2 ^ k < 2 ^ 31 := Nat.pow_lt_pow_right (by decide) h
  have := n_shl (a := 1) (k := k) h (by omega)
  rw [this, Nat.one_mul]
theorem n_dec {a : Nat} (h : 1 ≤ a) : nI a + Int32.ofInt (-1) = nI (a - 1) := by
  show nI a + zI (-1) = _
  rw [nz_add, ← zI_nI]; congr 1; omega
theorem n_eq0 {a : Nat} (h : a < 2147483648) : nI a = 0 ↔ a = 0 := n_eq (b := 0) h (by omega)
theorem n_lt0 {a : Nat} (h : a < 2147483648) : nI a < 0 ↔ a < 0 := n_lt (b := 0) h (by omega)
theorem n_ge0 {a : Nat} (h : a < 2147483648) : 0 ≤ nI a ↔ 0 ≤ a := n_le (a := 0) (by omega) h
theorem n_gt0 {a : Nat} (h : a < 2147483648) : 0 < nI a ↔ 0 < a := n_lt (a := 0) (by omega) h
theorem n_le0 {a : Nat} (h : a < 2147483648) : nI a ≤ 0 ↔ a ≤ 0 := n_le (b := 0) h (by omega)
theorem zR_0 : zR 0 := by unfold zR; omega
theorem z_eq0 {a : Int} (h : zR a) : zI a = 0 ↔ a = 0 := zI_eq (b := 0) h zR_0
theorem z_lt0 {a : Int} (h : zR a) : zI a < 0 ↔ a < 0 := zI_lt (b := 0) h zR_0
theorem z_ge0 {a : Int} (h : zR a) : 0 ≤ zI a ↔ 0 ≤ a := zI_le (a := 0) zR_0 h
theorem z_gt0 {a : Int} (h : zR a) : 0 < zI a ↔ 0 < a := zI_lt (a := 0) zR_0 h
theorem z_le0 {a : Int} (h : zR a) : zI a ≤ 0 ↔ a ≤ 0 := zI_le (b := 0) h zR_0
theorem z_max {a b : Int} (ha : zR a) (hb : zR b) : (if zI a < zI b then zI b else zI a) = zI (max a b) := by
  by_cases h : a < b
  · rw [if_pos ((zI_lt ha hb).mpr h)]; congr 1; omega
  · rw [if_neg (fun q => h ((zI_lt ha hb).mp q))]; congr 1; omega
theorem z_min {a b : Int} (ha : zR a) (hb : zR b) : (if zI b < zI a then zI b else zI a) = zI (min a b) := by
  by_cases h : b < a
  · rw [if_pos ((zI_lt hb ha).mpr h)]; congr 1; omega
  · rw [if_neg (fun q => h ((zI_lt hb ha).mp q))]; congr 1; omega
theorem n_max {a b : Nat} (ha : a < 2147483648) (hb : b < 2147483648) : (if nI a < nI b then nI b else nI a) = nI (max a b) := by
  by_cases h : a < b
  · rw [if_pos ((n_lt ha hb).mpr h)]; congr 1; omega
  · rw [if_neg (fun q => h ((n_lt ha hb).mp q))]; congr 1; omega
theorem n_min {a b : Nat} (ha : a < 2147483648) (hb : b < 2147483648) : (if nI b < nI a then nI b else nI a) = nI (min a b) := by
  by_cases h : b < a
  · rw [if_pos ((n_lt hb ha).mpr h)]; congr 1; omega
  · rw [if_neg (fun q => h ((n_lt hb ha).mp q))]; congr 1; omega
theorem z_abs {a : Int} (h : zR a) : (if 0 ≤ zI a then zI a else 0 - zI a) = nI a.natAbs := by
  by_cases q : 0 ≤ a
  · rw [if_pos ((z_ge0 h).mpr q), ← zI_nI]; congr 1; omega
  · rw [if_neg (fun z => q ((z_ge0 h).mp z)), zI_neg, ← zI_nI]; congr 1; omega
theorem zB_iff {P Q : Prop} [Decidable P] [Decidable Q] (h : P ↔ Q) : zB P = zB Q := by
  unfold zB
  by_cases q : P
  · rw [if_pos q, if_pos (h.mp q)]
  · rw [if_neg q, if_neg (fun z => q (h.mpr z))]
theorem zB_1 {P : Prop} [Decidable P] : zB P = 1 ↔ P := by
  unfold zB; split <;> simp [*]
theorem mul_bd {a b : Int} (m k : Int) (ha : -m ≤ a ∧ a ≤ m) (hb : -k ≤ b ∧ b ≤ k) (hm : 0 ≤ m) : -(m * k) ≤ a * b ∧ a * b ≤ m * k := by
  have h1 : a.natAbs ≤ m.natAbs := by omega
  have h2 : b.natAbs ≤ k.natAbs := by omega
  have h3 : (a * b).natAbs ≤ m.natAbs * k.natAbs := by rw [Int.natAbs_mul]; exact Nat.mul_le_mul h1 h2
  have h4 : (m.natAbs : Int) = m := by omega
  have h5 : (k.natAbs : Int) = k := by omega
  have h6 : ((m.natAbs * k.natAbs : Nat) : Int) = m * k := by rw [Int.natCast_mul, h4, h5]
  omega
section ZS
variable {p : Program} {l : Launch} {e : Env} {R : Room} {s : State} {m : MethodId} {args : Array Value} {below : List Frame} {meth : Method} {c : Code} {H : Heap} {locs : List Loc} {cells slots : Nat} {Q : State → Prop}
variable {cc : ByteArray} {nL : Nat} {Ts : List Cond} {own : String} {pc : Nat} {ls : Array Slot} {rest : List Value}
theorem zz_ifb_eq (S : CallFix p m c cc nL s args Ts own) {P : Prop} [Decidable P] {off : Int} {tgt : Nat} (hdg : decode cc pc = .ok (.ifCond .eq off, 3)) (ht : (pc : Int) + off = (tgt : Int)) (kt : ¬ P → W p l e R s m args below meth c H locs cells slots Q (F0 m tgt ls rest)) (kf : P → W p l e R s m args below meth c H locs cells slots Q (F0 m (pc + 3) ls rest)) : W p l e R s m args below meth c H locs cells slots Q (F0 m pc ls (.int (nI (zB P)) :: rest)) := lv_if_eq S.1 S.2.1 hdg ht (fun h => kt (zB_z.mp h)) (fun h => kf (zB_n.mp h))
theorem zz_ifb_ne (S : CallFix p m c cc nL s args Ts own) {P : Prop} [Decidable P] {off : Int} {tgt : Nat} (hdg : decode cc pc = .ok (.ifCond .ne off, 3)) (ht : (pc : Int) + off = (tgt : Int)) (kt : P → W p l e R s m args below meth c H locs cells slots Q (F0 m tgt ls rest)) (kf : ¬ P → W p l e R s m args below meth c H locs cells slots Q (F0 m (pc + 3) ls rest)) : W p l e R s m args below meth c H locs cells slots Q (F0 m pc ls (.int (nI (zB P)) :: rest)) := lv_if_ne S.1 S.2.1 hdg ht (fun h => kt (zB_n.mp h)) (fun h => kf (zB_z.mp h))
end ZS
-- words of a call, out of the one list
theorem zuG {ws : List Cond} (h : ∀ w ∈ ws, w ∈ wU) : GoodIn wU ws := fun w hw => ⟨h w hw, good_of_word (wU_good w (h w hw))⟩
theorem zu0 {c2 : Cond} (h : c2 ∈ wU) : GoodIn wU (c2 :: wU) := zuG (fun w hw => (List.mem_cons.mp hw).elim (fun e => by rw [e]; exact h) id)
theorem zuV {c2 : Cond} {own C : String} {idx : Nat} {y : MethodName} (h : c2 ∈ wU) (h1 : Cond.methodLink own idx y ∈ wU) (h2 : Cond.instanceMethod y ∈ wU) (h3 : Cond.selects C y y ∈ wU) (h4 : Cond.initialized C ∈ wU) : GoodIn wU (wsV own idx C y (c2 :: wU)) := zuG (fun w hw => by
  unfold wsV at hw
  rcases List.mem_append.mp hw with q | q
  · simp only [List.mem_cons, List.not_mem_nil, or_false] at q
    rcases q with e | e | e | e <;> rw [e] <;> assumption
  · exact (zu0 h w q).1)
theorem zuS {c2 : Cond} {own : String} {idx : Nat} {y : MethodName} (h : c2 ∈ wU) (h1 : Cond.methodLink own idx y ∈ wU) (h2 : Cond.static y ∈ wU) (h4 : Cond.initialized y.cls ∈ wU) : GoodIn wU (va_wsS own idx y (c2 :: wU)) := zuG (fun w hw => by
  unfold va_wsS at hw
  rcases List.mem_append.mp hw with q | q
  · simp only [List.mem_cons, List.not_mem_nil, or_false] at q
    rcases q with e | e | e <;> rw [e] <;> assumption
  · exact (zu0 h w q).1)
-- ===== the cells =====
abbrev zA (cI : ClassId) (n : Nat) (f : Nat → Nat) : va_E := .inl (cI, n, .inl (fun j => nI (f j)))
abbrev zAR (cR : ClassId) (n : Nat) (f : Nat → Option Nat) : va_E := .inl (cR, n, .inr (.inr (.inr (.inr f))))
-- ===== what the planner's numbers are: n strokes, pens P by stroke, X and Y by code (where it begins), the plan L by position =====
theorem sw_e (t : Nat) : sw (2 * t) = 2 * t + 1 := by unfold sw; split <;> omega
theorem sw_o (t : Nat) : sw (2 * t + 1) = 2 * t := by unfold sw; split <;> omega
theorem sw_lt {c n : Nat} (h : c < 2 * n) : sw c < 2 * n := by unfold sw; split <;> omega
theorem sw_half (c : Nat) : sw c / 2 = c / 2 := by unfold sw; split <;> omega
def zfar (a b : Int) : Nat := max a.natAbs b.natAbs
def oX (X : Nat → Nat) (c : Int) : Nat := if c < 0 then 0 else X (sw c.toNat)
def oP (P : Nat → Nat) (c : Int) : Int := if c < 0 then -1 else (P (c.toNat / 2) : Int)
theorem oX_n (X : Nat → Nat) (c : Nat) : oX X (c : Int) = X (sw c) := by
  unfold oX; rw [if_neg (by omega)]; rfl
theorem oP_n (P : Nat → Nat) (c : Nat) : oP P (c : Int) = P (c / 2) := by
  unfold oP; rw [if_neg (by omega)]; rfl
def stp (P X Y : Nat → Nat) (C : Nat) (a : Int) (b : Nat) : Nat := zfar ((oX X a : Int) - (X b : Int)) ((oX Y a : Int) - (Y b : Int)) + (if oP P a = oP P (b : Int) then 0 else C)
def prv (L : Nat → Nat) : Nat → Int
  | 0 => -1
  | k + 1 => (L k : Int)
def zs (f : Nat → Nat) : Nat → Nat
  | 0 => 0
  | k + 1 => zs f k + f k
theorem zs_le {f : Nat → Nat} {m : Nat} : ∀ {n : Nat}, (∀ k, k < n → f k ≤ m) → zs f n ≤ n * m
  | 0, _ => by simp [zs]
  | n + 1, h => by
    have h1 := zs_le (f := f) (m := m) (n := n) (fun k hk => h k (by omega))
    have h2 := h n (by omega)
    simp only [zs, Nat.succ_mul]; omega
theorem zs_congr {f g : Nat → Nat} : ∀ {n : Nat}, (∀ k, k < n → f k = g k) → zs f n = zs g n
  | 0, _ => rfl
  | n + 1, h => by
    simp only [zs]; rw [zs_congr (fun k hk => h k (by omega)), h n (by omega)]
abbrev lnk (n : Nat) (P X Y L : Nat → Nat) (k : Nat) : Prop := k + 1 < n ∧ P (L k / 2) = P (L (k + 1) / 2) ∧ X (sw (L k)) = X (L (k + 1)) ∧ Y (sw (L k)) = Y (L (k + 1))
abbrev alk (P X Y : Nat → Nat) (s t : Nat) : Prop := P s = P t ∧ ((X (2 * s) = X (2 * t) ∧ Y (2 * s) = Y (2 * t) ∧ X (2 * s + 1) = X (2 * t + 1) ∧ Y (2 * s + 1) = Y (2 * t + 1)) ∨ (X (2 * s) = X (2 * t + 1) ∧ Y (2 * s) = Y (2 * t + 1) ∧ X (2 * s + 1) = X (2 * t) ∧ Y (2 * s + 1) = Y (2 * t)))
abbrev lon (X Y : Nat → Nat) (c t : Nat) : Prop := ((X (2 * t + 1) : Int) - X (2 * t)) * ((Y c : Int) - Y (2 * t)) = ((Y (2 * t + 1) : Int) - Y (2 * t)) * ((X c : Int) - X (2 * t)) ∧ (min (X (2 * t)) (X (2 * t + 1)) ≤ X c ∧ X c ≤ max (X (2 * t)) (X (2 * t + 1))) ∧ (min (Y (2 * t)) (Y (2 * t + 1)) ≤ Y c ∧ Y c ≤ max (Y (2 * t)) (Y (2 * t + 1)))
abbrev cov (P X Y : Nat → Nat) (t s : Nat) : Prop := P t = P s ∧ ¬ alk P X Y t s ∧ lon X Y (2 * s) t ∧ lon X Y (2 * s + 1) t
def ffn (Q : Nat → Prop) [DecidablePred Q] : Nat → Nat → Int
  | 0, _ => -3
  | f + 1, k => if Q k then (k : Int) else ffn Q f (k + 1)
theorem ffn_e {Q : Nat → Prop} [DecidablePred Q] {n k : Nat} (h : n ≤ k) : ffn Q (n - k) k = -3 := by
  rw [Nat.sub_eq_zero_of_le h]; rfl
theorem ffn_t {Q : Nat → Prop} [DecidablePred Q] {n k : Nat} (h : k < n) (q : Q k) : ffn Q (n - k) k = k := by
  obtain ⟨d, hd⟩ : ∃ d, n - k = d + 1 := ⟨n - k - 1, by omega⟩
  rw [hd]; simp only [ffn]; rw [if_pos q]
theorem ffn_f {Q : Nat → Prop} [DecidablePred Q] {n k : Nat} (h : k < n) (q : ¬ Q k) : ffn Q (n - k) k = ffn Q (n - (k + 1)) (k + 1) := by
  obtain ⟨d, hd⟩ : ∃ d, n - k = d + 1 := ⟨n - k - 1, by omega⟩
  rw [hd]; simp only [ffn]; rw [if_neg q, show n - (k + 1) = d by omega]
def dxx (X : Nat → Nat) (c : Nat) : Int := (X (sw c) : Int) - (X c : Int)
def crn (X Y : Nat → Nat) (V a b : Nat) : Nat := if dxx X a * dxx X b + dxx Y a * dxx Y b ≤ 0 then 0 else if dxx X a * dxx Y b = dxx Y a * dxx X b then V else V / 4
def lng (X Y : Nat → Nat) (c : Nat) : Nat := zfar (dxx X c) (dxx Y c)
abbrev inS (S c : Nat) : Prop := S / 2 ^ (c / 2) % 2 = 1
/-- the first of the least, among those of m that are in Q; -1: none -/
def amf (Q : Nat → Prop) [DecidablePred Q] (g : Nat → Nat) : Nat → Int
  | 0 => -1
  | k + 1 => if Q k ∧ (amf Q g k = -1 ∨ g k < g (amf Q g k).toNat) then (k : Int) else amf Q g k
/-- the index of the run in which position k lies -/
def rnk (n : Nat) (P X Y L : Nat → Nat) : Nat → Nat := zs (fun j => 1 - zB (lnk n P X Y L j))
/-- the strokes are as they should be; the plan is -/
def zGe (n : Nat) (P X Y : Nat → Nat) : Prop := n ≤ 8 ∧ (∀ s, s < n → P s ≤ 3) ∧ (∀ c, c < 2 * n → X c ≤ 99 ∧ Y c ≤ 99)
def zOk (n : Nat) (P X Y L : Nat → Nat) : Prop := zGe n P X Y ∧ (∀ k, k < n → L k < 2 * n) ∧ (∀ i j, i < n → j < n → L i / 2 = L j / 2 → i = j)
