/-- strokes that touch -/
abbrev tch (X Y : Nat → Nat) (a b : Nat) : Prop := (X (2 * a) = X (2 * b) ∧ Y (2 * a) = Y (2 * b)) ∨ (X (2 * a) = X (2 * b + 1) ∧ Y (2 * a) = Y (2 * b + 1)) ∨ (X (2 * a + 1) = X (2 * b) ∧ Y (2 * a + 1) = Y (2 * b)) ∨ (X (2 * a + 1) = X (2 * b + 1) ∧ Y (2 * a + 1) = Y (2 * b + 1))
/-- labels, a name given up for another -/
def rnm (f : Nat → Nat) (a b : Nat) : Nat → Nat := fun x => if f x = a then b else f x
def rnl (f : Nat → Nat) (a b k : Nat) : Nat → Nat := fun x => if x < k ∧ f x = a then b else f x
theorem rnl_0 (f : Nat → Nat) (a b j : Nat) : f j = rnl f a b 0 j := by unfold rnl; rw [if_neg (by omega)]
theorem rnl_k (f : Nat → Nat) (a b k : Nat) : rnl f a b k k = f k := by unfold rnl; rw [if_neg (by omega)]
theorem rnl_t {f : Nat → Nat} {a b k : Nat} (h : f k = a) (j : Nat) : va_up (rnl f a b k) k b j = rnl f a b (k + 1) j := by
  unfold va_up rnl
  by_cases q : j = k
  · rw [if_pos q, if_pos (by rw [q]; exact ⟨by omega, h⟩)]
  · rw [if_neg q]
    by_cases z : f j = a
    · by_cases y : j < k
      · rw [if_pos ⟨y, z⟩, if_pos ⟨by omega, z⟩]
      · rw [if_neg (fun w => y w.1), if_neg (fun w => by omega)]
    · rw [if_neg (fun w => z w.2), if_neg (fun w => z w.2)]
theorem rnl_f {f : Nat → Nat} {a b k : Nat} (h : ¬ f k = a) (j : Nat) : rnl f a b k j = rnl f a b (k + 1) j := by
  unfold rnl
  by_cases z : f j = a
  · have hjk : ¬ j = k := fun e => h (by rw [← e]; exact z)
    by_cases y : j < k
    · rw [if_pos ⟨y, z⟩, if_pos ⟨by omega, z⟩]
    · rw [if_neg (fun w => y w.1), if_neg (fun w => by omega)]
  · rw [if_neg (fun w => z w.2), if_neg (fun w => z w.2)]
theorem rnl_n {f : Nat → Nat} {a b j n : Nat} (h : j < n) : rnl f a b n j = rnm f a b j := by
  unfold rnl rnm
  by_cases z : f j = a
  · rw [if_pos ⟨h, z⟩, if_pos z]
  · rw [if_neg (fun w => z w.2), if_neg z]
/-- a row numbered through -/
def idr (f : Nat → Nat) (k : Nat) : Nat → Nat := fun j => if j < k then j else f j
theorem idr_0 (f : Nat → Nat) (j : Nat) : f j = idr f 0 j := by unfold idr; rw [if_neg (by omega)]
theorem idr_s (f : Nat → Nat) (k j : Nat) : va_up (idr f k) k k j = idr f (k + 1) j := by
  unfold va_up idr
  by_cases q : j = k
  · rw [if_pos q, if_pos (by omega), q]
  · rw [if_neg q]
    by_cases z : j < k
    · rw [if_pos z, if_pos (by omega)]
    · rw [if_neg z, if_neg (by omega)]
/-- the labels of the components -/
def jst (P X Y : Nat → Nat) (c : Nat) (f : Nat → Nat) (a b : Nat) : Nat → Nat := if P a = c ∧ P b = c ∧ tch X Y a b then rnm f (f a) (f b) else f
def jin (P X Y : Nat → Nat) (c : Nat) (f : Nat → Nat) (a : Nat) : Nat → Nat → Nat
  | 0 => f
  | b + 1 => jst P X Y c (jin P X Y c f a b) a b
def jco (P X Y : Nat → Nat) (c : Nat) : Nat → Nat → Nat
  | 0 => fun x => x
  | a + 1 => jin P X Y c (jco P X Y c a) a a
theorem jst_t {P X Y f r : Nat → Nat} {c a b n : Nat} (hr : ∀ x, x < n → r x = f x) (ha : a < n) (hb : b < n) (h : P a = c ∧ P b = c ∧ tch X Y a b) : ∀ x, x < n → rnl r (r a) (r b) n x = jst P X Y c f a b x := by
  intro x hx
  rw [rnl_n hx]
  unfold jst
  rw [if_pos h]
  unfold rnm
  rw [hr x hx, hr a ha, hr b hb]
theorem jst_f {P X Y f r : Nat → Nat} {c a b n : Nat} (hr : ∀ x, x < n → r x = f x) (h : ¬ (P a = c ∧ P b = c ∧ tch X Y a b)) : ∀ x, x < n → r x = jst P X Y c f a b x := by
  intro x hx
  unfold jst
  rw [if_neg h]
  exact hr x hx
theorem jin_ind {P X Y : Nat → Nat} {c n a : Nat} {Q : (Nat → Nat) → Prop} (hs : ∀ f a b, Q f → b < a → a < n → P a = c → P b = c → tch X Y a b → Q (rnm f (f a) (f b))) {f : Nat → Nat} (h : Q f) (ha : a < n) : ∀ b, b ≤ a → Q (jin P X Y c f a b)
  | 0, _ => h
  | b + 1, hb => by
    have h1 := jin_ind hs h ha b (by omega)
    show Q (jst P X Y c (jin P X Y c f a b) a b)
    unfold jst
    by_cases q : P a = c ∧ P b = c ∧ tch X Y a b
    · rw [if_pos q]; exact hs _ a b h1 (by omega) ha q.1 q.2.1 q.2.2
    · rw [if_neg q]; exact h1
theorem jco_ind {P X Y : Nat → Nat} {c n : Nat} {Q : (Nat → Nat) → Prop} (h0 : Q (fun x => x)) (hs : ∀ f a b, Q f → b < a → a < n → P a = c → P b = c → tch X Y a b → Q (rnm f (f a) (f b))) : ∀ a, a ≤ n → Q (jco P X Y c a)
  | 0, _ => h0
  | a + 1, ha => jin_ind hs (jco_ind h0 hs a (by omega)) (by omega) a (Nat.le_refl _)
/-- whatever the touching share, those of one label share -/
theorem jco_un {P X Y g : Nat → Nat} {c n : Nat} (hg : ∀ a b, b < a → a < n → P a = c → P b = c → tch X Y a b → g a = g b) : ∀ x y, x < n → y < n → jco P X Y c n x = jco P X Y c n y → g x = g y := by
  refine jco_ind (P := P) (X := X) (Y := Y) (c := c) (n := n) (Q := fun f => ∀ x y, x < n → y < n → f x = f y → g x = g y) ?_ ?_ n (Nat.le_refl n)
  · intro x y _ _ h; exact congrArg g h
  · intro f a b hf hb ha p1 p2 ht x y hx hy h
    have hgab := hg a b hb ha p1 p2 ht
    unfold rnm at h
    by_cases u : f x = f a
    · have g1 := hf x a hx ha u
      rw [if_pos u] at h
      by_cases v : f y = f a
      · rw [g1, hf y a hy ha v]
      · rw [if_neg v] at h
        rw [g1, hgab]; exact hf b y (by omega) hy h
    · rw [if_neg u] at h
      by_cases v : f y = f a
      · rw [if_pos v] at h
        rw [hf x b hx (by omega) h, hf y a hy ha v, hgab]
      · rw [if_neg v] at h; exact hf x y hx hy h
/-- a label is its own -/
theorem jco_id {P X Y : Nat → Nat} {c n : Nat} : ∀ x, x < n → jco P X Y c n x < n ∧ jco P X Y c n (jco P X Y c n x) = jco P X Y c n x := by
  refine jco_ind (P := P) (X := X) (Y := Y) (c := c) (n := n) (Q := fun f => ∀ x, x < n → f x < n ∧ f (f x) = f x) ?_ ?_ n (Nat.le_refl n)
  · intro x hx; exact ⟨hx, rfl⟩
  · intro f a b hf hb ha _ _ _ x hx
    have h1 := hf x hx
    have h2 := hf b (by omega)
    unfold rnm
    by_cases u : f x = f a
    · rw [if_pos u]
      refine ⟨h2.1, ?_⟩
      by_cases v : f (f b) = f a
      · rw [if_pos v]
      · rw [if_neg v]; exact h2.2
    · rw [if_neg u]
      refine ⟨h1.1, ?_⟩
      rw [h1.2, if_neg u]
theorem jin_eq {P X Y f : Nat → Nat} {c a x y : Nat} (h : f x = f y) : ∀ d b, jin P X Y c f a b x = jin P X Y c f a b y → jin P X Y c f a (b + d) x = jin P X Y c f a (b + d) y
  | 0, _, hb => hb
  | d + 1, b, hb => by
    have h1 := jin_eq (P := P) (X := X) (Y := Y) (c := c) (a := a) h d b hb
    show jst P X Y c (jin P X Y c f a (b + d)) a (b + d) x = jst P X Y c (jin P X Y c f a (b + d)) a (b + d) y
    unfold jst
    split
    · unfold rnm; rw [h1]
    · exact h1
theorem jin_ev {P X Y f : Nat → Nat} {c a x y : Nat} : ∀ d b, jin P X Y c f a b x = jin P X Y c f a b y → jin P X Y c f a (b + d) x = jin P X Y c f a (b + d) y
  | 0, _, hb => hb
  | d + 1, b, hb => by
    have h1 := jin_ev (P := P) (X := X) (Y := Y) (f := f) (c := c) (a := a) d b hb
    show jst P X Y c (jin P X Y c f a (b + d)) a (b + d) x = jst P X Y c (jin P X Y c f a (b + d)) a (b + d) y
    unfold jst
    split
    · unfold rnm; rw [h1]
    · exact h1
theorem jco_ev {P X Y : Nat → Nat} {c x y a : Nat} : ∀ d, jco P X Y c a x = jco P X Y c a y → jco P X Y c (a + d) x = jco P X Y c (a + d) y
  | 0, h => h
  | d + 1, h => by
    have h1 := jco_ev (P := P) (X := X) (Y := Y) d h
    have h2 := jin_ev (P := P) (X := X) (Y := Y) (f := jco P X Y c (a + d)) (c := c) (a := a + d) (x := x) (y := y) (a + d) 0 h1
    rw [Nat.zero_add] at h2
    exact h2
theorem jco_c1 {P X Y : Nat → Nat} {c n a b : Nat} (hb : b < a) (ha : a < n) (p1 : P a = c) (p2 : P b = c) (ht : tch X Y a b) : jco P X Y c n a = jco P X Y c n b := by
  have h0 : jin P X Y c (jco P X Y c a) a (b + 1) a = jin P X Y c (jco P X Y c a) a (b + 1) b := by
    show jst P X Y c (jin P X Y c (jco P X Y c a) a b) a b a = jst P X Y c (jin P X Y c (jco P X Y c a) a b) a b b
    unfold jst
    rw [if_pos ⟨p1, p2, ht⟩]
    unfold rnm
    rw [if_pos rfl]
    split <;> rfl
  have h1 := jin_ev (P := P) (X := X) (Y := Y) (a - (b + 1)) (b + 1) h0
  rw [show b + 1 + (a - (b + 1)) = a by omega] at h1
  have h2 := jco_ev (P := P) (X := X) (Y := Y) (c := c) (x := a) (y := b) (a := a + 1) (n - (a + 1)) h1
  rw [show a + 1 + (n - (a + 1)) = n by omega] at h2
  exact h2
theorem tch_sy {X Y : Nat → Nat} {a b : Nat} (h : tch X Y a b) : tch X Y b a := by
  rcases h with h | h | h | h
  · exact Or.inl ⟨h.1.symm, h.2.symm⟩
  · exact Or.inr (Or.inr (Or.inl ⟨h.1.symm, h.2.symm⟩))
  · exact Or.inr (Or.inl ⟨h.1.symm, h.2.symm⟩)
  · exact Or.inr (Or.inr (Or.inr ⟨h.1.symm, h.2.symm⟩))
theorem sp_tch {X Y : Nat → Nat} {i j : Nat} (h : X i = X j ∧ Y i = Y j) : tch X Y (i / 2) (j / 2) := by
  rcases (show i = 2 * (i / 2) ∨ i = 2 * (i / 2) + 1 by omega) with hi | hi <;> rcases (show j = 2 * (j / 2) ∨ j = 2 * (j / 2) + 1 by omega) with hj | hj
  · exact Or.inl (by rw [← hi, ← hj]; exact h)
  · exact Or.inr (Or.inl (by rw [← hi, ← hj]; exact h))
  · exact Or.inr (Or.inr (Or.inl (by rw [← hi, ← hj]; exact h)))
  · exact Or.inr (Or.inr (Or.inr (by rw [← hi, ← hj]; exact h)))
/-- codes of one pen: of one stroke, or at one point -/
abbrev rlc (P X Y : Nat → Nat) (c i j : Nat) : Prop := P (i / 2) = c ∧ P (j / 2) = c ∧ (i / 2 = j / 2 ∨ (X i = X j ∧ Y i = Y j))
theorem rlc_sy {P X Y : Nat → Nat} {c i j : Nat} (h : rlc P X Y c i j) : rlc P X Y c j i := ⟨h.2.1, h.1, h.2.2.elim (fun q => Or.inl q.symm) (fun q => Or.inr ⟨q.1.symm, q.2.symm⟩)⟩
theorem rlc_j {P X Y : Nat → Nat} {c n i j : Nat} (hi : i < 2 * n) (hj : j < 2 * n) (h : rlc P X Y c i j) : jco P X Y c n (i / 2) = jco P X Y c n (j / 2) := by
  obtain ⟨h1, h2, h3⟩ := h
  rcases h3 with h3 | h3
  · rw [h3]
  · have ht := sp_tch h3
    by_cases q : j / 2 < i / 2
    · exact jco_c1 q (by omega) h1 h2 ht
    · by_cases z : i / 2 = j / 2
      · rw [z]
      · exact (jco_c1 (show i / 2 < j / 2 by omega) (by omega) h2 h1 (tch_sy ht)).symm
theorem jco_pen {P X Y : Nat → Nat} {c n x y : Nat} (hx : x < n) (hy : y < n) (h : jco P X Y c n x = jco P X Y c n y) (hp : P x = c) : P y = c := by
  have q := jco_un (P := P) (X := X) (Y := Y) (g := fun a => if P a = c then 1 else 0) (c := c) (n := n) (fun a b _ _ p1 p2 _ => by rw [if_pos p1, if_pos p2]) x y hx hy h
  rw [if_pos hp] at q
  by_cases z : P y = c
  · exact z
  · rw [if_neg z] at q; exact absurd q (by decide)
/-- the least with a property below a bound, or the bound -/
def lf (Q : Nat → Prop) [DecidablePred Q] : Nat → Nat
  | 0 => 0
  | k + 1 => if lf Q k < k then lf Q k else if Q k then k else k + 1
theorem lf_le (Q : Nat → Prop) [DecidablePred Q] : ∀ k, lf Q k ≤ k
  | 0 => Nat.le_refl _
  | k + 1 => by
    have h := lf_le Q k
    simp only [lf]
    split
    · omega
    · split <;> omega
theorem lf_q {Q : Nat → Prop} [DecidablePred Q] : ∀ k, lf Q k < k → Q (lf Q k)
  | 0, h => absurd h (Nat.not_lt_zero _)
  | k + 1, h => by
    simp only [lf] at h ⊢
    by_cases z : lf Q k < k
    · rw [if_pos z]; exact lf_q k z
    · rw [if_neg z] at h ⊢
      by_cases y : Q k
      · rw [if_pos y]; exact y
      · rw [if_neg y] at h; exact absurd h (Nat.lt_irrefl _)
theorem lf_m {Q : Nat → Prop} [DecidablePred Q] : ∀ k j, j < lf Q k → ¬ Q j
  | 0, _, h => absurd h (Nat.not_lt_zero _)
  | k + 1, j, h => by
    simp only [lf] at h
    have hle := lf_le Q k
    by_cases z : lf Q k < k
    · rw [if_pos z] at h; exact lf_m k j h
    · rw [if_neg z] at h
      by_cases y : Q k
      · rw [if_pos y] at h; exact lf_m k j (by omega)
      · rw [if_neg y] at h
        by_cases e : j = k
        · rw [e]; exact y
        · exact lf_m k j (by omega)
theorem lf_p {Q : Nat → Prop} [DecidablePred Q] {k : Nat} (h : Q k) : Q (lf Q k) := by
  by_cases z : lf Q k < k
  · exact lf_q k z
  · have := lf_le Q k
    rw [show lf Q k = k by omega]; exact h
theorem lf_u {Q : Nat → Prop} [DecidablePred Q] {i j : Nat} (hi : Q i) (hj : Q j) : lf Q i = lf Q j := by
  have h1 := lf_p hi
  have h2 := lf_p hj
  by_cases a : lf Q i < lf Q j
  · exact absurd h1 (lf_m j _ a)
  · by_cases b : lf Q j < lf Q i
    · exact absurd h2 (lf_m i _ b)
    · omega
/-- the least code of a code's component -/
def mun (P X Y : Nat → Nat) (c n i : Nat) : Nat := if P (i / 2) = c then lf (fun j => P (j / 2) = c ∧ jco P X Y c n (j / 2) = jco P X Y c n (i / 2)) i else i
theorem mun_le (P X Y : Nat → Nat) (c n i : Nat) : mun P X Y c n i ≤ i := by
  unfold mun
  split
  · exact lf_le _ _
  · exact Nat.le_refl _
theorem mun_p {P X Y : Nat → Nat} {c n i : Nat} (h : P (i / 2) = c) : P (mun P X Y c n i / 2) = c ∧ jco P X Y c n (mun P X Y c n i / 2) = jco P X Y c n (i / 2) := by
  unfold mun
  rw [if_pos h]
  exact lf_p (Q := fun j => P (j / 2) = c ∧ jco P X Y c n (j / 2) = jco P X Y c n (i / 2)) ⟨h, rfl⟩
theorem mun_e {P X Y : Nat → Nat} {c n i j : Nat} (hi : P (i / 2) = c) (hj : P (j / 2) = c) (h : jco P X Y c n (i / 2) = jco P X Y c n (j / 2)) : mun P X Y c n i = mun P X Y c n j := by
  unfold mun
  rw [if_pos hi, if_pos hj, h]
  exact lf_u (Q := fun k => P (k / 2) = c ∧ jco P X Y c n (k / 2) = jco P X Y c n (j / 2)) ⟨hi, h⟩ ⟨hj, rfl⟩
theorem mun_j {P X Y : Nat → Nat} {c n i j : Nat} (hi : P (i / 2) = c) (hj : P (j / 2) = c) (h : mun P X Y c n i = mun P X Y c n j) : jco P X Y c n (i / 2) = jco P X Y c n (j / 2) := by
  rw [← (mun_p hi).2, ← (mun_p hj).2, h]
theorem mun_m {P X Y : Nat → Nat} {c n i : Nat} (h : P (i / 2) = c) : mun P X Y c n (mun P X Y c n i) = mun P X Y c n i := mun_e (mun_p h).1 h (mun_p h).2
