/-- codes of a pen at a code's point, counted -/
def cdg (P X Y : Nat → Nat) (c a : Nat) : Nat → Nat := zs (fun k => if P (k / 2) = c ∧ (X a = X k ∧ Y a = Y k) then 1 else 0)
/-- the degree of a vertex, at its least code -/
def dgr (n : Nat) (P X Y : Nat → Nat) (c a : Nat) : Nat := if lf (fun k => P (k / 2) = c ∧ (X a = X k ∧ Y a = Y k)) a < a then 0 else cdg P X Y c a (2 * n)
theorem cdg_le (P X Y : Nat → Nat) (c a k : Nat) : cdg P X Y c a k ≤ k := by
  have h := zs_le (f := fun k => if P (k / 2) = c ∧ (X a = X k ∧ Y a = Y k) then 1 else 0) (m := 1) (n := k) (fun j _ => by show (if _ then 1 else 0) ≤ 1; split <;> omega)
  rw [Nat.mul_one] at h
  exact h
theorem cdg_t {P X Y : Nat → Nat} {c a k : Nat} (h : P (k / 2) = c ∧ (X a = X k ∧ Y a = Y k)) : cdg P X Y c a (k + 1) = cdg P X Y c a k + 1 := by
  show cdg P X Y c a k + (if P (k / 2) = c ∧ (X a = X k ∧ Y a = Y k) then 1 else 0) = _
  rw [if_pos h]
theorem cdg_f {P X Y : Nat → Nat} {c a k : Nat} (h : ¬ (P (k / 2) = c ∧ (X a = X k ∧ Y a = Y k))) : cdg P X Y c a (k + 1) = cdg P X Y c a k := by
  show cdg P X Y c a k + (if P (k / 2) = c ∧ (X a = X k ∧ Y a = Y k) then 1 else 0) = _
  rw [if_neg h]; rfl
theorem dgr_lo {n : Nat} {P X Y : Nat → Nat} {c a k : Nat} (hk : k < a) (h : P (k / 2) = c ∧ (X a = X k ∧ Y a = Y k)) : dgr n P X Y c a = 0 := by
  unfold dgr
  refine if_pos ?_
  have h1 := lf_le (fun k => P (k / 2) = c ∧ (X a = X k ∧ Y a = Y k)) a
  by_cases z : lf (fun k => P (k / 2) = c ∧ (X a = X k ∧ Y a = Y k)) a < a
  · exact z
  · exact absurd h (lf_m (Q := fun k => P (k / 2) = c ∧ (X a = X k ∧ Y a = Y k)) a k (by omega))
theorem dgr_hi {n : Nat} {P X Y : Nat → Nat} {c a : Nat} (h : ∀ k, k < a → ¬ (P (k / 2) = c ∧ (X a = X k ∧ Y a = Y k))) : dgr n P X Y c a = cdg P X Y c a (2 * n) := by
  unfold dgr
  exact if_neg (fun z => h _ z (lf_q (Q := fun k => P (k / 2) = c ∧ (X a = X k ∧ Y a = Y k)) a z))
theorem dgr_le (n : Nat) (P X Y : Nat → Nat) (c a : Nat) : dgr n P X Y c a ≤ 2 * n := by
  unfold dgr
  split
  · omega
  · exact cdg_le _ _ _ _ _ _
/-- sums -/
theorem zs_mono {f g : Nat → Nat} : ∀ {m : Nat}, (∀ k, k < m → f k ≤ g k) → zs f m ≤ zs g m
  | 0, _ => Nat.le_refl _
  | m + 1, h => by
    have h1 := zs_mono (f := f) (g := g) (m := m) (fun k hk => h k (by omega))
    have h2 := h m (by omega)
    show zs f m + f m ≤ zs g m + g m
    omega
theorem zs_lt {f g : Nat → Nat} : ∀ {m a : Nat}, (∀ k, k < m → f k ≤ g k) → a < m → f a < g a → zs f m < zs g m
  | 0, _, _, ha, _ => absurd ha (Nat.not_lt_zero _)
  | m + 1, a, h, ha, hl => by
    have h2 := h m (by omega)
    show zs f m + f m < zs g m + g m
    by_cases e : a = m
    · have h1 := zs_mono (f := f) (g := g) (m := m) (fun k hk => h k (by omega))
      rw [e] at hl
      omega
    · have h1 := zs_lt (f := f) (g := g) (m := m) (a := a) (fun k hk => h k (by omega)) (by omega) hl
      omega
theorem zs_full {f : Nat → Nat} : ∀ {m : Nat}, (∀ k, k < m → f k ≤ 1) → m ≤ zs f m → ∀ k, k < m → f k = 1
  | 0, _, _, k, hk => absurd hk (Nat.not_lt_zero _)
  | m + 1, h, hm, k, hk => by
    have h1 := zs_le (f := f) (m := 1) (n := m) (fun k hk => h k (by omega))
    rw [Nat.mul_one] at h1
    have h2 := h m (by omega)
    have h3 : m + 1 ≤ zs f m + f m := hm
    by_cases e : k = m
    · rw [e]; omega
    · exact zs_full (f := f) (m := m) (fun k hk => h k (by omega)) (by omega) k (by omega)
theorem zs_zero : ∀ m : Nat, zs (fun _ => 0) m = 0
  | 0 => rfl
  | m + 1 => zs_zero m
theorem zs_add (f g : Nat → Nat) : ∀ m : Nat, zs (fun k => f k + g k) m = zs f m + zs g m
  | 0 => rfl
  | m + 1 => by
    have h := zs_add f g m
    show zs (fun k => f k + g k) m + (f m + g m) = zs f m + f m + (zs g m + g m)
    omega
theorem zs_swap (F : Nat → Nat → Nat) (b : Nat) : ∀ a : Nat, zs (fun i => zs (fun j => F i j) b) a = zs (fun j => zs (fun i => F i j) a) b
  | 0 => (zs_zero b).symm
  | a + 1 => by
    have h := zs_swap F b a
    have h2 := zs_add (fun j => zs (fun i => F i j) a) (fun j => F a j) b
    show zs (fun i => zs (fun j => F i j) b) a + zs (fun j => F a j) b = _
    rw [h, ← h2]
    rfl
theorem zs_one (v : Nat → Nat) (a : Nat) : ∀ m : Nat, zs (fun i => if i = a then v i else 0) m = if a < m then v a else 0
  | 0 => by rw [if_neg (by omega)]; rfl
  | m + 1 => by
    have h := zs_one v a m
    show zs (fun i => if i = a then v i else 0) m + (if m = a then v m else 0) = _
    rw [h]
    by_cases e : m = a
    · rw [if_neg (show ¬ a < m by omega), if_pos e, if_pos (show a < m + 1 by omega), e]; omega
    · rw [if_neg e]
      by_cases z : a < m
      · rw [if_pos z, if_pos (show a < m + 1 by omega)]; rfl
      · rw [if_neg z, if_neg (show ¬ a < m + 1 by omega)]
theorem zs_mod (f : Nat → Nat) : ∀ m : Nat, zs (fun j => f j % 2) m % 2 = zs f m % 2
  | 0 => rfl
  | m + 1 => by
    have h := zs_mod f m
    show (zs (fun j => f j % 2) m + f m % 2) % 2 = (zs f m + f m) % 2
    omega
theorem zs_dbl (f : Nat → Nat) : ∀ m : Nat, zs (fun k => f (k / 2)) (2 * m) = 2 * zs f m
  | 0 => rfl
  | m + 1 => by
    have h := zs_dbl f m
    rw [show 2 * (m + 1) = 2 * m + 1 + 1 by omega]
    show zs (fun k => f (k / 2)) (2 * m) + f (2 * m / 2) + f ((2 * m + 1) / 2) = 2 * (zs f m + f m)
    rw [h, show 2 * m / 2 = m by omega, show (2 * m + 1) / 2 = m by omega]
    omega
/-- the reference's net -/
def ntI (P X Y : Nat → Nat) (c n : Nat) (r : Nat → Nat) : Prop := ∀ i, i < 2 * n → r i ≤ i ∧ (P (i / 2) = c → P (r i / 2) = c ∧ jco P X Y c n (r i / 2) = jco P X Y c n (i / 2)) ∧ (¬ P (i / 2) = c → r i = i)
theorem ntI_ge {P X Y : Nat → Nat} {c n : Nat} {r : Nat → Nat} (h : ntI P X Y c n r) {i : Nat} (hi : i < 2 * n) : mun P X Y c n i ≤ r i := by
  have h1 := h i hi
  by_cases q : P (i / 2) = c
  · unfold mun
    rw [if_pos q]
    by_cases z : r i < lf (fun j => P (j / 2) = c ∧ jco P X Y c n (j / 2) = jco P X Y c n (i / 2)) i
    · exact absurd (h1.2.1 q) (lf_m (Q := fun j => P (j / 2) = c ∧ jco P X Y c n (j / 2) = jco P X Y c n (i / 2)) i _ z)
    · omega
  · have h2 := mun_le P X Y c n i
    have h3 := h1.2.2 q
    omega
theorem ntI_0 {P X Y : Nat → Nat} {c n : Nat} {r : Nat → Nat} (h : ∀ i, i < 2 * n → r i = i) : ntI P X Y c n r := fun i hi => by
  rw [h i hi]
  exact ⟨Nat.le_refl _, fun q => ⟨q, rfl⟩, fun _ => rfl⟩
def jnn (P X Y : Nat → Nat) (c n : Nat) (r0 r : Nat → Nat) (i j : Nat) : Prop := ntI P X Y c n r ∧ (∀ k, k < 2 * n → r0 k = mun P X Y c n k → r k = mun P X Y c n k) ∧ (∀ a b, a < 2 * n → b < 2 * n → (a < i ∨ (a = i ∧ b < j)) → rlc P X Y c a b → r0 b = mun P X Y c n b → r a = mun P X Y c n a)
theorem jnn_0 {P X Y : Nat → Nat} {c n : Nat} {r : Nat → Nat} (h : ntI P X Y c n r) : jnn P X Y c n r r 0 0 := ⟨h, fun _ _ q => q, fun a b _ _ z => by omega⟩
theorem jnn_n {P X Y : Nat → Nat} {c n i k : Nat} {r0 r : Nat → Nat} (h : jnn P X Y c n r0 r i k) (hk : 2 * n ≤ k) : jnn P X Y c n r0 r (i + 1) 0 := ⟨h.1, h.2.1, fun a b ha hb z => h.2.2 a b ha hb (by omega)⟩
theorem jnn_s {P X Y : Nat → Nat} {c n i j v : Nat} {r0 r : Nat → Nat} (h : jnn P X Y c n r0 r i j) (hi : i < 2 * n) (hj : j < 2 * n) (hv : v = if rlc P X Y c i j ∧ r j < r i then r j else r i) : jnn P X Y c n r0 (va_up r i v) i (j + 1) := by
  obtain ⟨h1, h2, h3⟩ := h
  have hi1 := h1 i hi
  have hj1 := h1 j hj
  have hvi : v ≤ r i := by rw [hv]; split <;> omega
  have hI : ntI P X Y c n (va_up r i v) := by
    intro x hx
    unfold va_up
    by_cases e : x = i
    · rw [if_pos e, e]
      refine ⟨by omega, fun q => ?_, fun q => ?_⟩
      · rw [hv]
        split
        · rename_i z
          exact ⟨(hj1.2.1 z.1.2.1).1, (hj1.2.1 z.1.2.1).2.trans (rlc_j hi hj z.1).symm⟩
        · exact hi1.2.1 q
      · rw [hv, if_neg (fun z => q z.1.1)]; exact hi1.2.2 q
    · rw [if_neg e]; exact h1 x hx
  have hge := ntI_ge hI hi
  have hvu : va_up r i v i = v := if_pos rfl
  rw [hvu] at hge
  have hk : ∀ k, k < 2 * n → r k = mun P X Y c n k → va_up r i v k = mun P X Y c n k := by
    intro k hk q
    by_cases e : k = i
    · rw [e, hvu]; rw [e] at q; omega
    · unfold va_up; rw [if_neg e]; exact q
  refine ⟨hI, fun k hkn q => hk k hkn (h2 k hkn q), fun a b ha hb z hr hg => ?_⟩
  by_cases e : a = i ∧ b = j
  · rw [e.1, e.2] at hr
    have hg2 := h2 b hb hg
    rw [e.2] at hg2
    have hm := mun_e (P := P) (X := X) (Y := Y) (n := n) hr.1 hr.2.1 (rlc_j hi hj hr)
    have hvj : v ≤ r j := by
      rw [hv]
      by_cases y : r j < r i
      · rw [if_pos ⟨hr, y⟩]; exact Nat.le_refl _
      · rw [if_neg (fun w => y w.2)]; omega
    rw [e.1, hvu]; omega
  · exact hk a ha (h3 a b ha hb (by omega) hr hg)
/-- how many codes have their least already -/
def gdc (P X Y : Nat → Nat) (c n : Nat) (r : Nat → Nat) : Nat := zs (fun i => if r i = mun P X Y c n i then 1 else 0) (2 * n)
theorem gdc_all {P X Y : Nat → Nat} {c n : Nat} {r : Nat → Nat} (h : (∀ i, i < 2 * n → r i = mun P X Y c n i) ∨ 2 * n ≤ gdc P X Y c n r) : ∀ i, i < 2 * n → r i = mun P X Y c n i := by
  rcases h with h | h
  · exact h
  · intro i hi
    have h1 := zs_full (f := fun i => if r i = mun P X Y c n i then 1 else 0) (m := 2 * n) (fun k _ => by show (if _ then 1 else 0) ≤ 1; split <;> omega) h i hi
    by_cases z : r i = mun P X Y c n i
    · exact z
    · have h2 : (if r i = mun P X Y c n i then 1 else 0) = 1 := h1
      rw [if_neg z] at h2
      exact absurd h2 (by decide)
theorem jnn_all {P X Y : Nat → Nat} {c n : Nat} {r0 r : Nat → Nat} (h0 : ntI P X Y c n r0) (h : jnn P X Y c n r0 r (2 * n) 0) (hc : ∀ a, a < 2 * n → r a = mun P X Y c n a → r0 a = mun P X Y c n a) : ∀ i, i < 2 * n → r0 i = mun P X Y c n i := by
  obtain ⟨_, _, h3⟩ := h
  have key : ∀ a b, a < 2 * n → b < 2 * n → rlc P X Y c a b → r0 b = mun P X Y c n b → r0 a = mun P X Y c n a := fun a b ha hb hr hg => hc a ha (h3 a b ha hb (Or.inl ha) hr hg)
  intro i hi
  by_cases q : P (i / 2) = c
  · have hm := mun_p (P := P) (X := X) (Y := Y) (n := n) q
    have hml := mun_le P X Y c n i
    have hmm : r0 (mun P X Y c n i) = mun P X Y c n (mun P X Y c n i) := by
      have a1 := ntI_ge h0 (show mun P X Y c n i < 2 * n by omega)
      have a2 := (h0 (mun P X Y c n i) (by omega)).1
      rw [mun_m q] at a1 ⊢
      omega
    have hu := jco_un (P := P) (X := X) (Y := Y) (c := c) (n := n) (g := fun t => if r0 (2 * t) = mun P X Y c n (2 * t) then 1 else 0) (fun a b hb ha p1 p2 ht => by
      have e2 : ∀ t, 2 * t / 2 = t := fun t => by omega
      have e3 : ∀ t, (2 * t + 1) / 2 = t := fun t => by omega
      have go : ∀ x y, x < n → y < n → P x = c → P y = c → tch X Y x y → r0 (2 * y) = mun P X Y c n (2 * y) → r0 (2 * x) = mun P X Y c n (2 * x) := by
        intro x y hx hy px py hxy hg
        have step : ∀ k l, k / 2 = x → l / 2 = y → (X k = X l ∧ Y k = Y l) → r0 (2 * x) = mun P X Y c n (2 * x) := by
          intro k l hk hl hkl
          have g1 := key l (2 * y) (by omega) (by omega) ⟨by rw [hl]; exact py, by rw [e2]; exact py, Or.inl (by rw [hl, e2])⟩ hg
          have g2 := key k l (by omega) (by omega) ⟨by rw [hk]; exact px, by rw [hl]; exact py, Or.inr hkl⟩ g1
          exact key (2 * x) k (by omega) (by omega) ⟨by rw [e2]; exact px, by rw [hk]; exact px, Or.inl (by rw [hk, e2])⟩ g2
        rcases hxy with w | w | w | w
        · exact step _ _ (e2 x) (e2 y) w
        · exact step _ _ (e2 x) (e3 y) w
        · exact step _ _ (e3 x) (e2 y) w
        · exact step _ _ (e3 x) (e3 y) w
      show (if r0 (2 * a) = mun P X Y c n (2 * a) then 1 else 0) = (if r0 (2 * b) = mun P X Y c n (2 * b) then 1 else 0)
      by_cases z : r0 (2 * b) = mun P X Y c n (2 * b)
      · rw [if_pos z, if_pos (go a b ha (by omega) p1 p2 ht z)]
      · rw [if_neg z, if_neg (fun w => z (go b a (by omega) ha p2 p1 (tch_sy ht) w))]) (mun P X Y c n i / 2) (i / 2) (by omega) (by omega) hm.2
    have e4 : ∀ t, 2 * (t / 2) / 2 = t / 2 := fun t => by omega
    have g1 := key (2 * (mun P X Y c n i / 2)) (mun P X Y c n i) (by omega) (by omega) ⟨by rw [e4]; exact hm.1, hm.1, Or.inl (e4 _)⟩ hmm
    have hu2 : (if r0 (2 * (mun P X Y c n i / 2)) = mun P X Y c n (2 * (mun P X Y c n i / 2)) then 1 else 0) = (if r0 (2 * (i / 2)) = mun P X Y c n (2 * (i / 2)) then 1 else 0) := hu
    rw [if_pos g1] at hu2
    have g2 : r0 (2 * (i / 2)) = mun P X Y c n (2 * (i / 2)) := by
      by_cases z : r0 (2 * (i / 2)) = mun P X Y c n (2 * (i / 2))
      · exact z
      · rw [if_neg z] at hu2; exact absurd hu2 (by decide)
    exact key i (2 * (i / 2)) hi (by omega) ⟨q, by rw [e4]; exact q, Or.inl (e4 i).symm⟩ g2
  · have h1 := (h0 i hi).2.2 q
    rw [h1]; unfold mun; rw [if_neg q]
theorem jnn_end {P X Y : Nat → Nat} {c n t : Nat} {r0 r : Nat → Nat} (h0 : ntI P X Y c n r0) (h : jnn P X Y c n r0 r (2 * n) 0) (hc : (∀ i, i < 2 * n → r0 i = mun P X Y c n i) ∨ t ≤ gdc P X Y c n r0) : (∀ i, i < 2 * n → r i = mun P X Y c n i) ∨ t + 1 ≤ gdc P X Y c n r := by
  by_cases w : ∀ a, a < 2 * n → r a = mun P X Y c n a → r0 a = mun P X Y c n a
  · have ha := jnn_all h0 h w
    exact Or.inl (fun i hi => h.2.1 i hi (ha i hi))
  · rcases hc with hc | hc
    · exact Or.inl (fun i hi => h.2.1 i hi (hc i hi))
    · right
      have hx : ∃ a, a < 2 * n ∧ r a = mun P X Y c n a ∧ ¬ r0 a = mun P X Y c n a := by
        refine Classical.byContradiction (fun z => w (fun a ha q => Classical.byContradiction (fun y => z ⟨a, ha, q, y⟩)))
      obtain ⟨a, ha, q1, q2⟩ := hx
      have hl := zs_lt (f := fun i => if r0 i = mun P X Y c n i then 1 else 0) (g := fun i => if r i = mun P X Y c n i then 1 else 0) (m := 2 * n) (a := a) (fun k hk => by
        show (if r0 k = mun P X Y c n k then 1 else 0) ≤ (if r k = mun P X Y c n k then 1 else 0)
        by_cases z : r0 k = mun P X Y c n k
        · rw [if_pos z, if_pos (h.2.1 k hk z)]; exact Nat.le_refl _
        · rw [if_neg z]; exact Nat.zero_le _) ha (by
        show (if r0 a = mun P X Y c n a then 1 else 0) < (if r a = mun P X Y c n a then 1 else 0)
        rw [if_neg q2, if_pos q1]; exact Nat.zero_lt_one)
      have e1 : gdc P X Y c n r0 = zs (fun i => if r0 i = mun P X Y c n i then 1 else 0) (2 * n) := rfl
      have e2 : gdc P X Y c n r = zs (fun i => if r i = mun P X Y c n i then 1 else 0) (2 * n) := rfl
      omega
