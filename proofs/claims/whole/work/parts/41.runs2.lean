/-- odd vertices of a component, at its least code and at its label -/
def odn (P X Y : Nat → Nat) (c n i : Nat) : Nat → Nat := zs (fun j => if P (j / 2) = c ∧ mun P X Y c n j = i then dgr n P X Y c j % 2 else 0)
def ods (P X Y : Nat → Nat) (c n t : Nat) : Nat → Nat := zs (fun j => if jco P X Y c n (j / 2) = t ∧ dgr n P X Y c j % 2 = 1 then 1 else 0)
def lrn (P X Y : Nat → Nat) (c n : Nat) : Nat → Nat := zs (fun i => if P (i / 2) = c ∧ mun P X Y c n i = i then (if odn P X Y c n i (2 * n) = 0 then 1 else odn P X Y c n i (2 * n) / 2) else 0)
def lcn (P X Y : Nat → Nat) (c n : Nat) : Nat → Nat := zs (fun t => if P t = c ∧ jco P X Y c n t = t then max 1 (ods P X Y c n t (2 * n) / 2) else 0)
theorem odn_le (P X Y : Nat → Nat) (c n i k : Nat) : odn P X Y c n i k ≤ k := by
  have h := zs_le (f := fun j => if P (j / 2) = c ∧ mun P X Y c n j = i then dgr n P X Y c j % 2 else 0) (m := 1) (n := k) (fun j _ => by
    show (if P (j / 2) = c ∧ mun P X Y c n j = i then dgr n P X Y c j % 2 else 0) ≤ 1
    split <;> omega)
  rw [Nat.mul_one] at h
  exact h
theorem ods_le (P X Y : Nat → Nat) (c n t k : Nat) : ods P X Y c n t k ≤ k := by
  have h := zs_le (f := fun j => if jco P X Y c n (j / 2) = t ∧ dgr n P X Y c j % 2 = 1 then 1 else 0) (m := 1) (n := k) (fun j _ => by show (if _ then _ else 0) ≤ 1; split <;> omega)
  rw [Nat.mul_one] at h
  exact h
theorem lrn_le (P X Y : Nat → Nat) (c n k : Nat) (hn : n ≤ 8) : lrn P X Y c n k ≤ k * 16 := zs_le (fun j _ => by
  show (if P (j / 2) = c ∧ mun P X Y c n j = j then (if odn P X Y c n j (2 * n) = 0 then 1 else odn P X Y c n j (2 * n) / 2) else 0) ≤ 16
  have h := odn_le P X Y c n j (2 * n)
  split
  · split <;> omega
  · omega)
theorem lcn_le (P X Y : Nat → Nat) (c n k : Nat) (hn : n ≤ 8) : lcn P X Y c n k ≤ k * 16 := zs_le (fun j _ => by
  show (if P j = c ∧ jco P X Y c n j = j then max 1 (ods P X Y c n j (2 * n) / 2) else 0) ≤ 16
  have h := ods_le P X Y c n j (2 * n)
  split <;> omega)
/-- a vertex's codes lie in one component -/
theorem sp_jco {P X Y : Nat → Nat} {c n a k : Nat} (ha : a < 2 * n) (hk : k < 2 * n) (hp : P (a / 2) = c) (h : P (k / 2) = c ∧ (X a = X k ∧ Y a = Y k)) : jco P X Y c n (k / 2) = jco P X Y c n (a / 2) := (rlc_j ha hk ⟨hp, h.1, Or.inr h.2⟩).symm
/-- the first code at a code's point -/
def fsc (P X Y : Nat → Nat) (c k : Nat) : Nat := lf (fun j => P (j / 2) = c ∧ (X k = X j ∧ Y k = Y j)) k
theorem fsc_p {P X Y : Nat → Nat} {c k : Nat} (h : P (k / 2) = c) : P (fsc P X Y c k / 2) = c ∧ (X k = X (fsc P X Y c k) ∧ Y k = Y (fsc P X Y c k)) := lf_p (Q := fun j => P (j / 2) = c ∧ (X k = X j ∧ Y k = Y j)) ⟨h, rfl, rfl⟩
theorem fsc_le (P X Y : Nat → Nat) (c k : Nat) : fsc P X Y c k ≤ k := lf_le _ _
/-- j is the first at k's point just where j is the first at its own and k lies there -/
theorem fsc_e {P X Y : Nat → Nat} {c j k : Nat} (hj : P (j / 2) = c) (hk : P (k / 2) = c) : (j = fsc P X Y c k) ↔ (¬ lf (fun i => P (i / 2) = c ∧ (X j = X i ∧ Y j = Y i)) j < j ∧ (X j = X k ∧ Y j = Y k)) := by
  constructor
  · intro e
    have h := fsc_p (P := P) (X := X) (Y := Y) hk
    rw [← e] at h
    refine ⟨fun z => ?_, h.2.1.symm, h.2.2.symm⟩
    have q := lf_q (Q := fun i => P (i / 2) = c ∧ (X j = X i ∧ Y j = Y i)) j z
    have w : ¬ (P (lf (fun i => P (i / 2) = c ∧ (X j = X i ∧ Y j = Y i)) j / 2) = c ∧ (X k = X (lf (fun i => P (i / 2) = c ∧ (X j = X i ∧ Y j = Y i)) j) ∧ Y k = Y (lf (fun i => P (i / 2) = c ∧ (X j = X i ∧ Y j = Y i)) j))) := lf_m (Q := fun i => P (i / 2) = c ∧ (X k = X i ∧ Y k = Y i)) k _ (by
      show _ < fsc P X Y c k
      rw [← e]; exact z)
    exact w ⟨q.1, h.2.1.trans q.2.1, h.2.2.trans q.2.2⟩
  · intro h
    have hjj : lf (fun i => P (i / 2) = c ∧ (X j = X i ∧ Y j = Y i)) j = j := by
      have := lf_le (fun i => P (i / 2) = c ∧ (X j = X i ∧ Y j = Y i)) j
      omega
    have e : (fun i => P (i / 2) = c ∧ (X k = X i ∧ Y k = Y i)) = (fun i => P (i / 2) = c ∧ (X j = X i ∧ Y j = Y i)) := by rw [h.2.1, h.2.2]
    have hu := lf_u (Q := fun i => P (i / 2) = c ∧ (X k = X i ∧ Y k = Y i)) (i := j) (j := k) ⟨hj, h.2.1.symm, h.2.2.symm⟩ ⟨hk, rfl, rfl⟩
    have e2 : lf (fun i => P (i / 2) = c ∧ (X k = X i ∧ Y k = Y i)) j = lf (fun i => P (i / 2) = c ∧ (X j = X i ∧ Y j = Y i)) j := by
      rw [h.2.1, h.2.2]
    unfold fsc
    rw [← hu, e2, hjj]
/-- a degree, told by the first codes -/
theorem dgr_fs {n : Nat} {P X Y : Nat → Nat} {c j : Nat} (hj : P (j / 2) = c) : dgr n P X Y c j = zs (fun k => if P (k / 2) = c ∧ j = fsc P X Y c k then 1 else 0) (2 * n) := by
  unfold dgr
  by_cases z : lf (fun i => P (i / 2) = c ∧ (X j = X i ∧ Y j = Y i)) j < j
  · rw [if_pos z]
    refine (zs_zero (2 * n)).symm.trans (zs_congr (fun k _ => ?_))
    refine (if_neg (fun w => ?_)).symm
    exact ((fsc_e hj w.1).mp w.2).1 z
  · rw [if_neg z]
    refine zs_congr (fun k _ => ?_)
    by_cases y : P (k / 2) = c ∧ (X j = X k ∧ Y j = Y k)
    · rw [if_pos y, if_pos ⟨y.1, (fsc_e hj y.1).mpr ⟨z, y.2⟩⟩]
    · rw [if_neg y, if_neg (fun w => y ⟨w.1, ((fsc_e hj w.1).mp w.2).2⟩)]
/-- a component has evenly many odd vertices -/
theorem ods_ev {P X Y : Nat → Nat} {c n t : Nat} (ht : t < n) (hp : P t = c) : ods P X Y c n t (2 * n) % 2 = 0 := by
  have hpj : ∀ j, j < 2 * n → jco P X Y c n (j / 2) = jco P X Y c n t → P (j / 2) = c := fun j hj e => jco_pen ht (by omega) e.symm hp
  by_cases hid : jco P X Y c n t = t
  · have e1 : ods P X Y c n t (2 * n) = zs (fun j => (if jco P X Y c n (j / 2) = t then dgr n P X Y c j else 0) % 2) (2 * n) := by
      refine zs_congr (fun j _ => ?_)
      by_cases u : jco P X Y c n (j / 2) = t
      · by_cases v : dgr n P X Y c j % 2 = 1
        · rw [if_pos ⟨u, v⟩, if_pos u, v]
        · rw [if_neg (fun w => v w.2), if_pos u]; omega
      · rw [if_neg (fun w => u w.1), if_neg u]
    have e2 : zs (fun j => if jco P X Y c n (j / 2) = t then dgr n P X Y c j else 0) (2 * n) = zs (fun j => zs (fun k => if j = fsc P X Y c k then (if P (k / 2) = c ∧ jco P X Y c n (j / 2) = t then 1 else 0) else 0) (2 * n)) (2 * n) := by
      refine zs_congr (fun j hj => ?_)
      by_cases u : jco P X Y c n (j / 2) = t
      · rw [if_pos u, dgr_fs (hpj j hj (u.trans hid.symm))]
        refine zs_congr (fun k _ => ?_)
        by_cases y : j = fsc P X Y c k
        · rw [if_pos y]
          by_cases x : P (k / 2) = c
          · rw [if_pos ⟨x, y⟩, if_pos ⟨x, u⟩]
          · rw [if_neg (fun w => x w.1), if_neg (fun w => x w.1)]
        · rw [if_neg (fun w => y w.2), if_neg y]
      · rw [if_neg u]
        refine (zs_zero (2 * n)).symm.trans (zs_congr (fun k _ => ?_))
        by_cases y : j = fsc P X Y c k
        · rw [if_pos y, if_neg (fun w => u w.2)]
        · rw [if_neg y]
    have e3 : zs (fun k => zs (fun j => if j = fsc P X Y c k then (if P (k / 2) = c ∧ jco P X Y c n (j / 2) = t then 1 else 0) else 0) (2 * n)) (2 * n) = zs (fun k => if jco P X Y c n (k / 2) = t then 1 else 0) (2 * n) := by
      refine zs_congr (fun k hk => ?_)
      show zs (fun j => if j = fsc P X Y c k then (if P (k / 2) = c ∧ jco P X Y c n (j / 2) = t then 1 else 0) else 0) (2 * n) = _
      rw [zs_one (fun j => if P (k / 2) = c ∧ jco P X Y c n (j / 2) = t then 1 else 0)]
      have hf := fsc_le P X Y c k
      rw [if_pos (show fsc P X Y c k < 2 * n by omega)]
      by_cases u : P (k / 2) = c
      · have h1 := fsc_p (P := P) (X := X) (Y := Y) u
        have h2 := sp_jco (P := P) (X := X) (Y := Y) (n := n) hk (by omega) u h1
        by_cases v : jco P X Y c n (k / 2) = t
        · rw [if_pos v, if_pos ⟨u, by rw [h2]; exact v⟩]
        · rw [if_neg v, if_neg (fun w => v (by rw [← h2]; exact w.2))]
      · rw [if_neg (fun w => u w.1), if_neg (fun v => u (hpj k hk (v.trans hid.symm)))]
    have e4 := zs_dbl (fun x => if jco P X Y c n x = t then 1 else 0) n
    have e5 := zs_mod (fun j => if jco P X Y c n (j / 2) = t then dgr n P X Y c j else 0) (2 * n)
    have e6 := zs_swap (fun j k => if j = fsc P X Y c k then (if P (k / 2) = c ∧ jco P X Y c n (j / 2) = t then 1 else 0) else 0) (2 * n) (2 * n)
    have e7 : zs (fun k => if jco P X Y c n (k / 2) = t then 1 else 0) (2 * n) = 2 * zs (fun x => if jco P X Y c n x = t then 1 else 0) n := e4
    rw [e1, e5, e2]
    have e8 : zs (fun j => zs (fun k => if j = fsc P X Y c k then (if P (k / 2) = c ∧ jco P X Y c n (j / 2) = t then 1 else 0) else 0) (2 * n)) (2 * n) = zs (fun k => zs (fun j => if j = fsc P X Y c k then (if P (k / 2) = c ∧ jco P X Y c n (j / 2) = t then 1 else 0) else 0) (2 * n)) (2 * n) := e6
    rw [e8, e3, e7]
    omega
  · have e1 : ods P X Y c n t (2 * n) = zs (fun _ => 0) (2 * n) := by
      refine zs_congr (fun j hj => ?_)
      refine if_neg (fun w => hid ?_)
      have h := (jco_id (P := P) (X := X) (Y := Y) (c := c) (n := n) (j / 2) (by omega)).2
      rw [w.1] at h
      exact h
    rw [e1, zs_zero]
/-- the odd vertices, by either name -/
theorem ods_odn {P X Y : Nat → Nat} {c n t : Nat} (ht : t < n) (hp : P t = c) (hid : jco P X Y c n t = t) : ods P X Y c n t (2 * n) = odn P X Y c n (mun P X Y c n (2 * t)) (2 * n) := by
  have e0 : 2 * t / 2 = t := by omega
  refine zs_congr (fun j hj => ?_)
  by_cases u : jco P X Y c n (j / 2) = t
  · have hpj : P (j / 2) = c := jco_pen ht (by omega) (hid.trans u.symm) hp
    have hm : mun P X Y c n j = mun P X Y c n (2 * t) := mun_e hpj (by rw [e0]; exact hp) (by rw [e0, hid]; exact u)
    by_cases v : dgr n P X Y c j % 2 = 1
    · rw [if_pos ⟨u, v⟩, if_pos ⟨hpj, hm⟩, v]
    · rw [if_neg (fun w => v w.2), if_pos ⟨hpj, hm⟩]; omega
  · rw [if_neg (fun w => u w.1), if_neg (fun w => u ?_)]
    have h := mun_j w.1 (by rw [e0]; exact hp) w.2
    rw [e0, hid] at h
    exact h
/-- the two sums are one -/
theorem lcn_lrn {P X Y : Nat → Nat} {c n : Nat} : lcn P X Y c n n = lrn P X Y c n (2 * n) := by
  have e0 : ∀ t, 2 * t / 2 = t := fun t => by omega
  have hF : ∀ i, i < 2 * n → P (i / 2) = c → mun P X Y c n i = i → P (jco P X Y c n (i / 2)) = c ∧ jco P X Y c n (jco P X Y c n (i / 2)) = jco P X Y c n (i / 2) ∧ jco P X Y c n (i / 2) < n ∧ i = mun P X Y c n (2 * jco P X Y c n (i / 2)) := by
    intro i hi hp hm
    have h1 := jco_id (P := P) (X := X) (Y := Y) (c := c) (n := n) (i / 2) (by omega)
    have h2 : P (jco P X Y c n (i / 2)) = c := jco_pen (P := P) (X := X) (Y := Y) (c := c) (n := n) (x := i / 2) (by omega) h1.1 h1.2.symm hp
    refine ⟨h2, h1.2, h1.1, ?_⟩
    have h3 := mun_e (P := P) (X := X) (Y := Y) (c := c) (n := n) (i := i) (j := 2 * jco P X Y c n (i / 2)) hp (by rw [e0]; exact h2) (by rw [e0]; exact h1.2.symm)
    rw [← h3, hm]
  have hc1 : lcn P X Y c n n = zs (fun t => zs (fun i => if i = mun P X Y c n (2 * t) then (if P t = c ∧ jco P X Y c n t = t then (if odn P X Y c n i (2 * n) = 0 then 1 else odn P X Y c n i (2 * n) / 2) else 0) else 0) (2 * n)) n := by
    refine zs_congr (fun t ht => ?_)
    show _ = zs (fun i => if i = mun P X Y c n (2 * t) then (if P t = c ∧ jco P X Y c n t = t then (if odn P X Y c n i (2 * n) = 0 then 1 else odn P X Y c n i (2 * n) / 2) else 0) else 0) (2 * n)
    rw [zs_one (fun i => if P t = c ∧ jco P X Y c n t = t then (if odn P X Y c n i (2 * n) = 0 then 1 else odn P X Y c n i (2 * n) / 2) else 0)]
    have hml := mun_le P X Y c n (2 * t)
    rw [if_pos (show mun P X Y c n (2 * t) < 2 * n by omega)]
    by_cases q : P t = c ∧ jco P X Y c n t = t
    · rw [if_pos q, if_pos q, ← ods_odn ht q.1 q.2]
      have hev := ods_ev (P := P) (X := X) (Y := Y) ht q.1
      by_cases z : ods P X Y c n t (2 * n) = 0
      · rw [if_pos z, z]; rfl
      · rw [if_neg z]; omega
    · rw [if_neg q, if_neg q]
  rw [hc1, zs_swap (fun t i => if i = mun P X Y c n (2 * t) then (if P t = c ∧ jco P X Y c n t = t then (if odn P X Y c n i (2 * n) = 0 then 1 else odn P X Y c n i (2 * n) / 2) else 0) else 0)]
  refine zs_congr (fun i hi => ?_)
  show zs (fun t => if i = mun P X Y c n (2 * t) then (if P t = c ∧ jco P X Y c n t = t then (if odn P X Y c n i (2 * n) = 0 then 1 else odn P X Y c n i (2 * n) / 2) else 0) else 0) n = _
  by_cases q : P (i / 2) = c ∧ mun P X Y c n i = i
  · have h := hF i hi q.1 q.2
    have e : zs (fun t => if i = mun P X Y c n (2 * t) then (if P t = c ∧ jco P X Y c n t = t then (if odn P X Y c n i (2 * n) = 0 then 1 else odn P X Y c n i (2 * n) / 2) else 0) else 0) n = zs (fun t => if t = jco P X Y c n (i / 2) then (if odn P X Y c n i (2 * n) = 0 then 1 else odn P X Y c n i (2 * n) / 2) else 0) n := by
      refine zs_congr (fun t ht => ?_)
      by_cases z : t = jco P X Y c n (i / 2)
      · rw [if_pos z, z, if_pos h.2.2.2, if_pos ⟨h.1, h.2.1⟩]
      · rw [if_neg z]
        by_cases y : i = mun P X Y c n (2 * t)
        · rw [if_pos y]
          refine if_neg (fun w => z ?_)
          have h5 := (mun_p (P := P) (X := X) (Y := Y) (c := c) (n := n) (i := 2 * t) (by rw [e0]; exact w.1)).2
          rw [← y, e0, w.2] at h5
          exact h5.symm
        · rw [if_neg y]
    rw [e, zs_one (fun _ => if odn P X Y c n i (2 * n) = 0 then 1 else odn P X Y c n i (2 * n) / 2), if_pos h.2.2.1, if_pos q]
  · rw [if_neg q]
    refine Eq.trans (zs_congr (fun t ht => ?_)) (zs_zero n)
    by_cases y : i = mun P X Y c n (2 * t)
    · rw [if_pos y]
      refine if_neg (fun w => q ?_)
      have hp2 : P (2 * t / 2) = c := by rw [e0]; exact w.1
      have h5 := mun_p (P := P) (X := X) (Y := Y) (c := c) (n := n) hp2
      rw [y]
      exact ⟨h5.1, mun_m hp2⟩
    · rw [if_neg y]
