section ZC
variable {p : Program} {l : Launch} {e : Env} {R : Room} {s : State} {m : MethodId} {args : Array Value} {below : List Frame} {meth : Method} {c : Code} {H : Heap} {locs : List Loc} {cells slots : Nat} {Q : State → Prop}
variable {cc : ByteArray} {nL : Nat} {Ts : List Cond} {own : String} {pc : Nat} {ls : Array Slot} {rest : List Value}
variable {D : va_G} {cI cR : ClassId} {ws : va_W} {A : Nat → Prop} {a : Nat}
/-- System.arraycopy of a whole row into another of its length -/
theorem zz_copy (S : CallFix p m c cc nL s args Ts own) (hV : zV D cI cR A ws s H locs) {index : Nat} (h1 : Cond.methodLink own index arraycopyName ∈ Ts) (h2 : Cond.native arraycopyName ∈ Ts) (h3 : Cond.static arraycopyName ∈ Ts) (h4 : Cond.initialized "java/lang/System" ∈ Ts) (q0 q1 : Nat) {a0 N : Nat} {f g : Nat → Nat} (ha0 : ws[q0]? = some (a0, zA cI N f)) (ha1 : ws[q1]? = some (a, zA cI N g)) (hN : N < 2147483648) {ws' : va_W} (hws : ws.set q1 (a, zA cI N f) = ws') (hR : 1 ≤ R.frames ∧ (rest.map fun v => v.category).sum + 18 ≤ R.locals) (hls : ls.size = nL) (hdg : decode cc pc = .ok (.invokestatic index, 3))
    (kk : ∀ (H1 : Heap) (locs1 : List Loc), zV D cI cR A ws' s H1 locs1 → W p l e R s m args below meth c H1 locs1 cells slots Q (F0 m (pc + 3) ls rest)) : W p l e R s m args below meth c H locs cells slots Q (F0 m pc ls (.int (nI N) :: .int (nI 0) :: .ref a :: .int (nI 0) :: .ref a0 :: rest)) := by
  obtain ⟨hx, hb, hml, hown, hts⟩ := S
  subst hws
  have hN2 : (nI N).toNatClampNeg = N := n_toNat hN
  have h02 : (nI 0).toNatClampNeg = 0 := n_toNat (by omega)
  have hcell : vp_cell cI (N, .inl (va_cpy (fun j => nI (f j)) (fun j => nI (g j)) 0 0 N)) = vp_cell cI (N, .inl (fun j => nI (f j))) := by
    have e : ∀ f : Nat → Int32, vp_cell cI (N, .inl f) = arrV cI N (fun j => .int (f j)) := fun _ => rfl
    rw [e, e]
    unfold arrV
    congr 1
    apply Array.ext
    · simp
    · intro i h1 h2
      simp at h1 h2
      simp only [Array.getElem_ofFn]
      unfold va_cpy
      rw [if_pos (by omega), show 0 + (i - 0) = i by omega]
  refine va_copyi hx hb (hml.trans hls.symm) hown (hts _ h1) (hts _ h2) (hts _ h3) (hts _ h4) hV.1.2.1 hV.1.1 hV.2.1 hV.2.2.1 q0 q1 0 0 ha0 ha1 rfl rfl rfl (fun q => absurd ((n_lt (a := 0) (b := 0) (by omega) (by omega)).mp q) (by omega)) (fun q => absurd ((n_lt (a := 0) (b := 0) (by omega) (by omega)).mp q) (by omega)) (fun q => absurd ((n_lt (b := 0) hN (by omega)).mp q) (by omega)) (by rw [hN2, h02]; omega) (by rw [hN2, h02]; omega) (fun i _ => rfl) hR.1 (by show _ + (5 + 2 + 11) ≤ _; exact hR.2) hdg (fun H1 locs1 hP hD hS => ?_)
  rw [hN2, h02] at hP hD
  refine kk H1 locs1 ⟨⟨fun k q hk => ?_, hV.1.2⟩, hV.2.1.set ha1, hS, hV.2.2.2⟩
  by_cases hkq : k = q1
  · subst hkq
    have hl := (List.getElem?_eq_some_iff.mp ha1).1
    rw [List.getElem?_set_self hl] at hk
    cases hk
    have h5 := hP k _ (List.getElem?_set_self hl)
    show H1[a]? = some (vp_cell cI (N, .inl (fun j => nI (f j))))
    rw [← hcell]
    exact h5
  · rw [List.getElem?_set_ne (Ne.symm hkq)] at hk
    exact hP k q (by rw [List.getElem?_set_ne (Ne.symm hkq)]; exact hk)
end ZC
-- the sets and the last codes of the nearest plan, stroke by stroke
def nst (P X Y : Nat → Nat) (C n : Nat) : Nat → Nat × Int
  | 0 => (2 ^ n - 1, -1)
  | k + 1 => (clb (nst P X Y C n k).1 ((amf (fun j => inS (nst P X Y C n k).1 j) (fun j => stp P X Y C (nst P X Y C n k).2 j) (2 * n)).toNat / 2), amf (fun j => inS (nst P X Y C n k).1 j) (fun j => stp P X Y C (nst P X Y C n k).2 j) (2 * n))
def nearL (P X Y : Nat → Nat) (C n : Nat) (L : Nat → Nat) (k : Nat) : Nat → Nat := fun j => if j < k then (nst P X Y C n (j + 1)).2.toNat else L j
theorem nearL_0 (P X Y : Nat → Nat) (C n : Nat) (L : Nat → Nat) (j : Nat) : L j = nearL P X Y C n L 0 j := rfl
theorem nearL_s (P X Y : Nat → Nat) (C n : Nat) (L : Nat → Nat) (k j v : Nat) (hv : v = (nst P X Y C n (k + 1)).2.toNat) : va_up (nearL P X Y C n L k) k v j = nearL P X Y C n L (k + 1) j := by
  unfold va_up nearL
  by_cases h : j = k
  · rw [if_pos h, if_pos (by omega), hv, h]
  · rw [if_neg h]
    by_cases h2 : j < k
    · rw [if_pos h2, if_pos (show j < k + 1 by omega)]
    · rw [if_neg h2, if_neg (show ¬ j < k + 1 by omega)]
/-- how many of the strokes are in a set -/
def crd (S n : Nat) : Nat := zs (fun s => S / 2 ^ s % 2) n
theorem crd_clb {S k n : Nat} (hS : S < 256) (hn : n ≤ 8) (hk : k < n) (h : S / 2 ^ k % 2 = 1) : crd (clb S k) n + 1 = crd S n := by
  have key : ∀ m, m ≤ n → crd (clb S k) m + (if k < m then 1 else 0) = crd S m := by
    intro m
    induction m with
    | zero => intro _; rfl
    | succ m ih =>
      intro hm
      have h1 := ih (by omega)
      show zs _ m + clb S k / 2 ^ m % 2 + _ = zs _ m + S / 2 ^ m % 2
      have h2 := clb_bit S hS k (by omega) m (by omega)
      have h3 : zs (fun s => clb S k / 2 ^ s % 2) m + (if k < m then 1 else 0) = zs (fun s => S / 2 ^ s % 2) m := h1
      by_cases q : m = k
      · subst q
        rw [if_pos rfl] at h2
        rw [if_neg (by omega)] at h3
        rw [if_pos (by omega)]
        omega
      · rw [if_neg q] at h2
        by_cases q2 : k < m
        · rw [if_pos q2] at h3; rw [if_pos (by omega)]; omega
        · rw [if_neg q2] at h3; rw [if_neg (by omega)]; omega
  have := key n (Nat.le_refl n)
  rw [if_pos hk] at this
  exact this
theorem crd_pos {S n : Nat} (h : 0 < crd S n) : ∃ s, s < n ∧ S / 2 ^ s % 2 = 1 := by
  induction n with
  | zero => exact absurd h (Nat.lt_irrefl 0)
  | succ n ih =>
    by_cases q : S / 2 ^ n % 2 = 1
    · exact ⟨n, by omega, q⟩
    · have : 0 < crd S n := by
        have h2 : 0 < zs (fun s => S / 2 ^ s % 2) n + S / 2 ^ n % 2 := h
        show 0 < zs (fun s => S / 2 ^ s % 2) n
        omega
      obtain ⟨s, h1, h2⟩ := ih this
      exact ⟨s, by omega, h2⟩
theorem crd_full : ∀ n, n ≤ 8 → crd (2 ^ n - 1) n = n ∧ 2 ^ n - 1 < 256 := by
  intro n hn
  have : ∀ n, n < 9 → crd (2 ^ n - 1) n = n ∧ 2 ^ n - 1 < 256 := by decide +kernel
  exact this n (by omega)
theorem amf_none {Q : Nat → Prop} [DecidablePred Q] {g : Nat → Nat} : ∀ {k : Nat}, amf Q g k = -1 → ∀ j, j < k → ¬ Q j
  | 0, _, j, hj => absurd hj (Nat.not_lt_zero j)
  | k + 1, h, j, hj => by
    have hr := amf_rng Q g k
    simp only [amf] at h
    by_cases q : Q k ∧ (amf Q g k = -1 ∨ g k < g (amf Q g k).toNat)
    · rw [if_pos q] at h; omega
    · rw [if_neg q] at h
      by_cases hjk : j = k
      · subst hjk; intro z; exact q ⟨z, Or.inl h⟩
      · exact amf_none h j (by omega)
theorem amf_in {Q : Nat → Prop} [DecidablePred Q] {g : Nat → Nat} : ∀ {k : Nat}, ¬ amf Q g k = -1 → Q (amf Q g k).toNat
  | 0, h => absurd rfl h
  | k + 1, h => by
    simp only [amf] at h ⊢
    by_cases q : Q k ∧ (amf Q g k = -1 ∨ g k < g (amf Q g k).toNat)
    · rw [if_pos q]; exact q.1
    · rw [if_neg q] at h ⊢; exact amf_in h
/-- where the set isn't empty there is a least one -/
theorem amf_ge {S n : Nat} {g : Nat → Nat} (h : 0 < crd S n) : 0 ≤ amf (fun j => inS S j) g (2 * n) := by
  have hr := amf_rng (fun j => inS S j) g (2 * n)
  rcases Decidable.em (amf (fun j => inS S j) g (2 * n) = -1) with q | q
  · exfalso
    obtain ⟨s, h1, h2⟩ := crd_pos h
    have := amf_none q (2 * s) (by omega)
    apply this
    show S / 2 ^ (2 * s / 2) % 2 = 1
    rw [show 2 * s / 2 = s by omega]; exact h2
  · omega
theorem nst_ok (P X Y : Nat → Nat) (C n : Nat) (hn : n ≤ 8) : ∀ k, k ≤ n → (nst P X Y C n k).1 < 256 ∧ crd (nst P X Y C n k).1 n = n - k ∧ -1 ≤ (nst P X Y C n k).2 ∧ (nst P X Y C n k).2 < 2 * (n : Int)
  | 0, _ => by
    have := crd_full n hn
    exact ⟨this.2, this.1, by show (-1 : Int) ≤ -1; omega, by show (-1 : Int) < _; omega⟩
  | k + 1, hk => by
    obtain ⟨h1, h2, h3, h4⟩ := nst_ok P X Y C n hn k (by omega)
    have hg := amf_ge (S := (nst P X Y C n k).1) (n := n) (g := fun j => stp P X Y C (nst P X Y C n k).2 j) (by omega)
    have hr := amf_rng (fun j => inS (nst P X Y C n k).1 j) (fun j => stp P X Y C (nst P X Y C n k).2 j) (2 * n)
    have hi := amf_in (Q := fun j => inS (nst P X Y C n k).1 j) (g := fun j => stp P X Y C (nst P X Y C n k).2 j) (k := 2 * n) (by omega)
    have hc := crd_clb (S := (nst P X Y C n k).1) (n := n) h1 hn (k := (amf (fun j => inS (nst P X Y C n k).1 j) (fun j => stp P X Y C (nst P X Y C n k).2 j) (2 * n)).toNat / 2) (by omega) hi
    have hl := clb_le (nst P X Y C n k).1 ((amf (fun j => inS (nst P X Y C n k).1 j) (fun j => stp P X Y C (nst P X Y C n k).2 j) (2 * n)).toNat / 2)
    refine ⟨?_, ?_, ?_, ?_⟩
    · show clb _ _ < 256; omega
    · show crd (clb _ _) n = _; omega
    · show -1 ≤ amf _ _ _; omega
    · show amf _ _ _ < _; omega
-- the duplicates go, from the highest stroke down
abbrev zDt : Type := Nat × (Nat → Nat) × (Nat → Nat) × (Nat → Nat) × (Nat → Nat)
def drp (a : Nat) (d : zDt) : zDt := (d.1 - 1, shl d.2.1 1 a (d.1 - 1), shl d.2.2.1 2 (2 * a) (2 * d.1 - 2), shl d.2.2.2.1 2 (2 * a) (2 * d.1 - 2), dpl d.2.2.2.2 a (pos d.1 d.2.2.2.2 a) d.1)
def ddr : Nat → zDt → Nat → zDt × Nat
  | 0, d, c => (d, c)
  | k + 1, d, c => if k = 0 then (d, c) else if ∀ j, j < k → ¬ alk d.2.1 d.2.2.1 d.2.2.2.1 k j then ddr k d c else ddr k (drp k d) (c + 1)
def okD (d : zDt) : Prop := zOk d.1 d.2.1 d.2.2.1 d.2.2.2.1 d.2.2.2.2
theorem adj_half {a c : Nat} (h : ¬ c / 2 = a) : adj a c / 2 = if a < c / 2 then c / 2 - 1 else c / 2 := by
  unfold adj; split <;> omega
theorem dpl_as (L : Nat → Nat) (a t n k : Nat) (hk : k + 1 < n) (ht : t < n) : dpl L a t n k = adj a (L (if k < t then k else k + 1)) := by
  unfold dpl
  by_cases h : k < t
  · rw [if_pos (by omega), if_pos h]
  · rw [if_neg (by omega), if_pos (by omega), if_neg h]
theorem drp_ok {d : zDt} (h : okD d) {a : Nat} (ha : a < d.1) : okD (drp a d) := by
  obtain ⟨n, P, X, Y, L⟩ := d
  have hp := pos_ok h ha
  obtain ⟨⟨hn, hP, hXY⟩, hL, hi⟩ := id h
  dsimp only at ha hn hP hXY hL hi hp
  generalize ht : pos n L a = t at hp
  have hne : ∀ k, k + 1 < n → ¬ L (if k < t then k else k + 1) / 2 = a := by
    intro k hk q
    have := hi _ t (by split <;> omega) hp.1 (q.trans hp.2.symm)
    split at this <;> omega
  refine ⟨⟨by show n - 1 ≤ 8; omega, fun s hs => ?_, fun c hc => ?_⟩, fun k hk => ?_, fun i j hi' hj' hij => ?_⟩
  · replace hs : s < n - 1 := hs
    show shl P 1 a (n - 1) s ≤ 3
    unfold shl; split
    · exact hP _ (by omega)
    · exact hP _ (by omega)
  · replace hc : c < 2 * (n - 1) := hc
    show shl X 2 (2 * a) (2 * n - 2) c ≤ 99 ∧ shl Y 2 (2 * a) (2 * n - 2) c ≤ 99
    unfold shl; split
    · exact hXY _ (by omega)
    · exact hXY _ (by omega)
  · replace hk : k < n - 1 := hk
    show dpl L a (pos n L a) n k < 2 * (n - 1)
    rw [ht, dpl_as L a t n k (by omega) hp.1]
    have h1 := hne k (by omega)
    have h2 := hL (if k < t then k else k + 1) (by split <;> omega)
    generalize (if k < t then k else k + 1) = x at h1 h2 ⊢
    unfold adj; split <;> omega
  · replace hi' : i < n - 1 := hi'
    replace hj' : j < n - 1 := hj'
    replace hij : dpl L a (pos n L a) n i / 2 = dpl L a (pos n L a) n j / 2 := hij
    rw [ht, dpl_as L a t n i (by omega) hp.1, dpl_as L a t n j (by omega) hp.1] at hij
    have h1 := hne i (by omega)
    have h2 := hne j (by omega)
    obtain ⟨x, hx⟩ : ∃ x, x = if i < t then i else i + 1 := ⟨_, rfl⟩
    obtain ⟨y, hy⟩ : ∃ y, y = if j < t then j else j + 1 := ⟨_, rfl⟩
    rw [← hx] at h1
    rw [← hy] at h2
    rw [← hx, ← hy, adj_half h1, adj_half h2] at hij
    have h3 : x = y := hi x y (by rw [hx]; split <;> omega) (by rw [hy]; split <;> omega) (by
      split at hij <;> split at hij <;> omega)
    rw [hx, hy] at h3
    split at h3 <;> split at h3 <;> omega
