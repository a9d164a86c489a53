theorem bp0 {P X Y : Nat → Nat} {C n : Nat} {sg rs cd : Nat → Nat} {tt kk : Nat} (h : bpI P X Y C n sg rs cd tt kk) : ∀ (P2 X2 Y2 : Nat → Nat) (C2 n2 : Nat), bpI P2 X2 Y2 C2 n2 sg rs cd tt 0 := fun _ _ _ _ _ => ⟨h.1, h.2.1, by omega, fun q => absurd q (by decide)⟩
theorem best_cost {P X Y : Nat → Nat} {C n : Nat} (hn : n ≤ 8) (L : Nat → Nat) : zs (fun j => stp P X Y C (prv (bstL P X Y C n L n) j) (bstL P X Y C n L n j)) n = btot P X Y C n n := by
  refine zs_congr (fun k hk => ?_)
  have e1 : bstL P X Y C n L n k = bcd P X Y C n k := if_pos hk
  have e2 : prv (bstL P X Y C n L n) k = (bsq P X Y C n k).2 := by
    cases k with
    | zero => rfl
    | succ k =>
      have e : bstL P X Y C n L n k = bcd P X Y C n k := if_pos (by omega)
      show ((bstL P X Y C n L n k : Nat) : Int) = _
      rw [e, (bcd_z hn (by omega)).1]
  rw [e1, e2]
def ntot (P X Y : Nat → Nat) (C n : Nat) : Nat → Nat := zs (fun j => stp P X Y C (nst P X Y C n j).2 (nst P X Y C n (j + 1)).2.toNat)
theorem near_cost {P X Y : Nat → Nat} {C n : Nat} (hn : n ≤ 8) (L : Nat → Nat) : zs (fun j => stp P X Y C (prv (nearL P X Y C n L n) j) (nearL P X Y C n L n j)) n = ntot P X Y C n n := by
  refine zs_congr (fun k hk => ?_)
  have e1 : nearL P X Y C n L n k = (nst P X Y C n (k + 1)).2.toNat := if_pos hk
  have e2 : prv (nearL P X Y C n L n) k = (nst P X Y C n k).2 := by
    cases k with
    | zero => rfl
    | succ k =>
      have e : nearL P X Y C n L n k = (nst P X Y C n (k + 1)).2.toNat := if_pos (by omega)
      have h := (nst_mem (P := P) (X := X) (Y := Y) (C := C) hn 0 k (by omega)).2
      have h2 : 0 ≤ (nst P X Y C n (k + 1)).2 := h
      show ((nearL P X Y C n L n k : Nat) : Int) = _
      rw [e]; omega
  rw [e1, e2]
