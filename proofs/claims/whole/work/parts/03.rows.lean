-- ===== the world of this claim =====
/-- the words of private members that a nest mate reaches -/
def zN (U : State) : Prop := va_Nw (.methodLinkNest RX0 29 yX5_isWithin RX5) U ∧ va_Nw (.methodLinkNest RX1 116 yX5_isWithin RX5) U ∧ va_Nw (.methodLinkNest RX4 41 yX5_isWithin RX5) U ∧ va_Nw (.methodLinkNest RX2 17 yX1_init RX5) U ∧ va_Nw (.methodLinkNest RX5 11 yX1_init RX5) U ∧ va_Nw (.methodLinkNest RX5 25 yX0_init RX5) U ∧ va_Nw (.methodLinkNest RX5 32 yX3_init RX5) U ∧ va_Nw (.methodLinkNest RX5 39 yX4_init RX5) U ∧ va_AO RX1 U
theorem zN.warm {s U : State} (hW : s.WarmedH U.vm) (h : zN s) : zN U := by
  obtain ⟨h1, h2, h3, h4, h5, h6, h7, h8, h9⟩ := h
  exact ⟨h1.warmM hW, h2.warmM hW, h3.warmM hW, h4.warmM hW, h5.warmM hW, h6.warmM hW, h7.warmM hW, h8.warmM hW, h9.moved hW.alike⟩
theorem zN.same {u U : State} (hv : u.vm = U.vm) (h : zN u) : zN U := by
  obtain ⟨h1, h2, h3, h4, h5, h6, h7, h8, h9⟩ := h
  exact ⟨h1.same rfl hv, h2.same rfl hv, h3.same rfl hv, h4.same rfl hv, h5.same rfl hv, h6.same rfl hv, h7.same rfl hv, h8.same rfl hv, h9.moved (by rw [hv]; exact Vm.Alike.refl _)⟩
abbrev zT (cI cR : ClassId) : List (ClassId × FieldType) := [(cI, .int), (cR, .object RX1)]
/-- the heap holds the cells ws; the tables are as they are -/
def zG (D : va_G) (cI cR : ClassId) (ws : va_W) (s : State) (H : Heap) : Prop := va_P D vwCl ws H ∧ va_K D vwCl (zT cI cR) s ∧ zN s
def zW (D : va_G) (cI cR : ClassId) (ws : va_W) (U : State) : Prop := zG D cI cR ws U U.heap
def zX (D : va_G) (cI cR : ClassId) (ws : va_W) (sz : Nat) (U : State) : Prop := U.heap.size = sz ∧ zW D cI cR ws U ∧ va_D (fun _ => True) ws
/-- in a method that writes: the world, apart, in the method's own part A -/
def zV (D : va_G) (cI cR : ClassId) (A : Nat → Prop) (ws : va_W) (s : State) (H : Heap) (locs : List Loc) : Prop := zG D cI cR ws s H ∧ va_D A ws ∧ va_S A s.heap H locs ∧ ∀ q, s.heap.size ≤ q → A q
theorem zG.sub {D : va_G} {cI cR : ClassId} {ws ws' : va_W} {s : State} {H : Heap} (h : zG D cI cR ws s H) (is : List Nat) (hs : is.filterMap (fun i => ws[i]?) = ws') : zG D cI cR ws' s H := ⟨h.1.sub is hs, h.2⟩
theorem zW.of {D : va_G} {cI cR : ClassId} {ws : va_W} {s U : State} {H : Heap} (h : zG D cI cR ws s H) (hU : U.heap = H) (hW : s.WarmedH U.vm) : zW D cI cR ws U := ⟨by rw [hU]; exact h.1, va_K.moved hW.alike h.2.1, h.2.2.warm hW⟩
theorem zW.blind {D : va_G} {cI cR : ClassId} {ws : va_W} {av : List Value} : FrameBlind (va_Pc av (zW D cI cR ws)) := fun a U g mk q => by
  obtain ⟨q0, qP, qK, qN⟩ := q
  exact ⟨q0, qP, va_K.moved (u := U) (U := U.calling g mk a) (Vm.Alike.refl U.vm) qK, qN.same rfl⟩
theorem zX.blind {D : va_G} {cI cR : ClassId} {ws : va_W} {sz : Nat} {av : List Value} : FrameBlind (va_Pc av (zX D cI cR ws sz)) := fun a U g mk q => by
  obtain ⟨q0, q1, ⟨qP, qK, qN⟩, qD⟩ := q
  exact ⟨q0, q1, ⟨qP, va_K.moved (u := U) (U := U.calling g mk a) (Vm.Alike.refl U.vm) qK, qN.same rfl⟩, qD⟩
theorem zT.blind {av : List Value} : FrameBlind (va_Pc av (fun _ => True)) := fun a U g mk q => ⟨q.1, trivial⟩
section ZR
variable {p : Program} {l : Launch} {e : Env} {R : Room} {s : State} {m : MethodId} {args : Array Value} {below : List Frame} {meth : Method} {c : Code} {H : Heap} {locs : List Loc} {cells slots : Nat} {Q : State → Prop}
variable {cc : ByteArray} {nL : Nat} {Ts : List Cond} {own : String} {pc : Nat} {ls : Array Slot} {rest : List Value}
theorem zz_iadd (S : CallFix p m c cc nL s args Ts own) {x y v : Int32} (hdg : decode cc pc = .ok (.iadd, 1)) (hv : x + y = v) (k : W p l e R s m args below meth c H locs cells slots Q (F0 m (pc + 1) ls (.int v :: rest))) : W p l e R s m args below meth c H locs cells slots Q (F0 m pc ls (.int y :: .int x :: rest)) := by
  subst hv; exact lv_iadd S.1 S.2.1 hdg k
theorem zz_isub (S : CallFix p m c cc nL s args Ts own) {x y v : Int32} (hdg : decode cc pc = .ok (.isub, 1)) (hv : x - y = v) (k : W p l e R s m args below meth c H locs cells slots Q (F0 m (pc + 1) ls (.int v :: rest))) : W p l e R s m args below meth c H locs cells slots Q (F0 m pc ls (.int y :: .int x :: rest)) := by
  subst hv; exact lv_isub S.1 S.2.1 hdg k
theorem zz_imul (S : CallFix p m c cc nL s args Ts own) {x y v : Int32} (hdg : decode cc pc = .ok (.imul, 1)) (hv : x * y = v) (k : W p l e R s m args below meth c H locs cells slots Q (F0 m (pc + 1) ls (.int v :: rest))) : W p l e R s m args below meth c H locs cells slots Q (F0 m pc ls (.int y :: .int x :: rest)) := by
  subst hv; exact lv_imul S.1 S.2.1 hdg k
theorem zz_iand (S : CallFix p m c cc nL s args Ts own) {x y v : Int32} (hdg : decode cc pc = .ok (.iand, 1)) (hv : x &&& y = v) (k : W p l e R s m args below meth c H locs cells slots Q (F0 m (pc + 1) ls (.int v :: rest))) : W p l e R s m args below meth c H locs cells slots Q (F0 m pc ls (.int y :: .int x :: rest)) := by
  subst hv; exact lv_iand S.1 S.2.1 hdg k
theorem zz_ior (S : CallFix p m c cc nL s args Ts own) {x y v : Int32} (hdg : decode cc pc = .ok (.ior, 1)) (hv : x ||| y = v) (k : W p l e R s m args below meth c H locs cells slots Q (F0 m (pc + 1) ls (.int v :: rest))) : W p l e R s m args below meth c H locs cells slots Q (F0 m pc ls (.int y :: .int x :: rest)) := by
  subst hv; exact lv_ior S.1 S.2.1 hdg k
theorem zz_ixor (S : CallFix p m c cc nL s args Ts own) {x y v : Int32} (hdg : decode cc pc = .ok (.ixor, 1)) (hv : x ^^^ y = v) (k : W p l e R s m args below meth c H locs cells slots Q (F0 m (pc + 1) ls (.int v :: rest))) : W p l e R s m args below meth c H locs cells slots Q (F0 m pc ls (.int y :: .int x :: rest)) := by
  subst hv; exact lv_ixor S.1 S.2.1 hdg k
theorem zz_idiv (S : CallFix p m c cc nL s args Ts own) {x y v : Int32} (hdg : decode cc pc = .ok (.idiv, 1)) (hne : ¬ y = 0) (hv : x / y = v) (k : W p l e R s m args below meth c H locs cells slots Q (F0 m (pc + 1) ls (.int v :: rest))) : W p l e R s m args below meth c H locs cells slots Q (F0 m pc ls (.int y :: .int x :: rest)) := by
  subst hv; exact lv_idiv S.1 S.2.1 hdg hne k
theorem zz_irem (S : CallFix p m c cc nL s args Ts own) {x y v : Int32} (hdg : decode cc pc = .ok (.irem, 1)) (hne : ¬ y = 0) (hv : x - x / y * y = v) (k : W p l e R s m args below meth c H locs cells slots Q (F0 m (pc + 1) ls (.int v :: rest))) : W p l e R s m args below meth c H locs cells slots Q (F0 m pc ls (.int y :: .int x :: rest)) := by
  subst hv; exact lv_irem S.1 S.2.1 hdg hne k
theorem zz_ishl (S : CallFix p m c cc nL s args Ts own) {x y v : Int32} (hdg : decode cc pc = .ok (.ishl, 1)) (hv : x <<< (y &&& 31) = v) (k : W p l e R s m args below meth c H locs cells slots Q (F0 m (pc + 1) ls (.int v :: rest))) : W p l e R s m args below meth c H locs cells slots Q (F0 m pc ls (.int y :: .int x :: rest)) := by
  subst hv; exact lv_ishl S.1 S.2.1 hdg k
theorem zz_ishr (S : CallFix p m c cc nL s args Ts own) {x y v : Int32} (hdg : decode cc pc = .ok (.ishr, 1)) (hv : x >>> (y &&& 31) = v) (k : W p l e R s m args below meth c H locs cells slots Q (F0 m (pc + 1) ls (.int v :: rest))) : W p l e R s m args below meth c H locs cells slots Q (F0 m pc ls (.int y :: .int x :: rest)) := by
  subst hv; exact lv_ishr S.1 S.2.1 hdg k
theorem zz_ineg (S : CallFix p m c cc nL s args Ts own) {x : Int} (hdg : decode cc pc = .ok (.ineg, 1)) (k : W p l e R s m args below meth c H locs cells slots Q (F0 m (pc + 1) ls (.int (zI (-x)) :: rest))) : W p l e R s m args below meth c H locs cells slots Q (F0 m pc ls (.int (zI x) :: rest)) := by
  rw [← zI_neg] at k
  exact lv_ineg S.1 S.2.1 hdg k
theorem zz_cast {v v' : Int32} (hv : v' = v) (k : W p l e R s m args below meth c H locs cells slots Q (F0 m pc ls (.int v :: rest))) : W p l e R s m args below meth c H locs cells slots Q (F0 m pc ls (.int v' :: rest)) := by subst hv; exact k
-- constants and locals
theorem zz_iconst (S : CallFix p m c cc nL s args Ts own) {n : Int} {v : Int32} (hdg : decode cc pc = .ok (.iconst n, 1)) (hv : Int32.ofInt n = v) (k : W p l e R s m args below meth c H locs cells slots Q (F0 m (pc + 1) ls (.int v :: rest))) : W p l e R s m args below meth c H locs cells slots Q (F0 m pc ls rest) := lv_iconst S.1 S.2.1 hdg hv k
theorem zz_bipush (S : CallFix p m c cc nL s args Ts own) {n : Int} {v : Int32} (hdg : decode cc pc = .ok (.bipush n, 2)) (hv : (Int8.ofInt n).toInt32 = v) (k : W p l e R s m args below meth c H locs cells slots Q (F0 m (pc + 2) ls (.int v :: rest))) : W p l e R s m args below meth c H locs cells slots Q (F0 m pc ls rest) := lv_bipush S.1 S.2.1 hdg hv k
theorem zz_sipush (S : CallFix p m c cc nL s args Ts own) {n : Int} {v : Int32} (hdg : decode cc pc = .ok (.sipush n, 3)) (hv : (Int16.ofInt n).toInt32 = v) (k : W p l e R s m args below meth c H locs cells slots Q (F0 m (pc + 3) ls (.int v :: rest))) : W p l e R s m args below meth c H locs cells slots Q (F0 m pc ls rest) := lv_sipush S.1 S.2.1 hdg hv k
-- branches
theorem zz_icmp_eq (S : CallFix p m c cc nL s args Ts own) {x y : Int32} {P : Prop} {off : Int} {tgt : Nat} (hdg : decode cc pc = .ok (.if_icmp .eq off, 3)) (ht : (pc : Int) + off = (tgt : Int)) (hP : x = y ↔ P) (kt : P → W p l e R s m args below meth c H locs cells slots Q (F0 m tgt ls rest)) (kf : ¬ P → W p l e R s m args below meth c H locs cells slots Q (F0 m (pc + 3) ls rest)) : W p l e R s m args below meth c H locs cells slots Q (F0 m pc ls (.int y :: .int x :: rest)) := lv_icmp_eq S.1 S.2.1 hdg ht (fun h => kt (hP.mp h)) (fun h => kf (fun q => h (hP.mpr q)))
theorem zz_icmp_ne (S : CallFix p m c cc nL s args Ts own) {x y : Int32} {P : Prop} {off : Int} {tgt : Nat} (hdg : decode cc pc = .ok (.if_icmp .ne off, 3)) (ht : (pc : Int) + off = (tgt : Int)) (hP : x = y ↔ P) (kt : ¬ P → W p l e R s m args below meth c H locs cells slots Q (F0 m tgt ls rest)) (kf : P → W p l e R s m args below meth c H locs cells slots Q (F0 m (pc + 3) ls rest)) : W p l e R s m args below meth c H locs cells slots Q (F0 m pc ls (.int y :: .int x :: rest)) := lv_icmp_ne S.1 S.2.1 hdg ht (fun h => kt (fun q => h (hP.mpr q))) (fun h => kf (hP.mp h))
theorem zz_icmp_lt (S : CallFix p m c cc nL s args Ts own) {x y : Int32} {P : Prop} {off : Int} {tgt : Nat} (hdg : decode cc pc = .ok (.if_icmp .lt off, 3)) (ht : (pc : Int) + off = (tgt : Int)) (hP : x < y ↔ P) (kt : P → W p l e R s m args below meth c H locs cells slots Q (F0 m tgt ls rest)) (kf : ¬ P → W p l e R s m args below meth c H locs cells slots Q (F0 m (pc + 3) ls rest)) : W p l e R s m args below meth c H locs cells slots Q (F0 m pc ls (.int y :: .int x :: rest)) := lv_icmp_lt S.1 S.2.1 hdg ht (fun h => kt (hP.mp h)) (fun h => kf (fun q => h (hP.mpr q)))
theorem zz_icmp_ge (S : CallFix p m c cc nL s args Ts own) {x y : Int32} {P : Prop} {off : Int} {tgt : Nat} (hdg : decode cc pc = .ok (.if_icmp .ge off, 3)) (ht : (pc : Int) + off = (tgt : Int)) (hP : y ≤ x ↔ P) (kt : P → W p l e R s m args below meth c H locs cells slots Q (F0 m tgt ls rest)) (kf : ¬ P → W p l e R s m args below meth c H locs cells slots Q (F0 m (pc + 3) ls rest)) : W p l e R s m args below meth c H locs cells slots Q (F0 m pc ls (.int y :: .int x :: rest)) := lv_icmp_ge S.1 S.2.1 hdg ht (fun h => kt (hP.mp h)) (fun h => kf (fun q => h (hP.mpr q)))
theorem zz_icmp_gt (S : CallFix p m c cc nL s args Ts own) {x y : Int32} {P : Prop} {off : Int} {tgt : Nat} (hdg : decode cc pc = .ok (.if_icmp .gt off, 3)) (ht : (pc : Int) + off = (tgt : Int)) (hP : y < x ↔ P) (kt : P → W p l e R s m args below meth c H locs cells slots Q (F0 m tgt ls rest)) (kf : ¬ P → W p l e R s m args below meth c H locs cells slots Q (F0 m (pc + 3) ls rest)) : W p l e R s m args below meth c H locs cells slots Q (F0 m pc ls (.int y :: .int x :: rest)) := lv_icmp_gt S.1 S.2.1 hdg ht (fun h => kt (hP.mp h)) (fun h => kf (fun q => h (hP.mpr q)))
theorem zz_icmp_le (S : CallFix p m c cc nL s args Ts own) {x y : Int32} {P : Prop} {off : Int} {tgt : Nat} (hdg : decode cc pc = .ok (.if_icmp .le off, 3)) (ht : (pc : Int) + off = (tgt : Int)) (hP : x ≤ y ↔ P) (kt : P → W p l e R s m args below meth c H locs cells slots Q (F0 m tgt ls rest)) (kf : ¬ P → W p l e R s m args below meth c H locs cells slots Q (F0 m (pc + 3) ls rest)) : W p l e R s m args below meth c H locs cells slots Q (F0 m pc ls (.int y :: .int x :: rest)) := lv_icmp_le S.1 S.2.1 hdg ht (fun h => kt (hP.mp h)) (fun h => kf (fun q => h (hP.mpr q)))
theorem zz_if_eq (S : CallFix p m c cc nL s args Ts own) {x : Int32} {P : Prop} {off : Int} {tgt : Nat} (hdg : decode cc pc = .ok (.ifCond .eq off, 3)) (ht : (pc : Int) + off = (tgt : Int)) (hP : x = 0 ↔ P) (kt : P → W p l e R s m args below meth c H locs cells slots Q (F0 m tgt ls rest)) (kf : ¬ P → W p l e R s m args below meth c H locs cells slots Q (F0 m (pc + 3) ls rest)) : W p l e R s m args below meth c H locs cells slots Q (F0 m pc ls (.int x :: rest)) := lv_if_eq S.1 S.2.1 hdg ht (fun h => kt (hP.mp h)) (fun h => kf (fun q => h (hP.mpr q)))
theorem zz_if_ne (S : CallFix p m c cc nL s args Ts own) {x : Int32} {P : Prop} {off : Int} {tgt : Nat} (hdg : decode cc pc = .ok (.ifCond .ne off, 3)) (ht : (pc : Int) + off = (tgt : Int)) (hP : x = 0 ↔ P) (kt : ¬ P → W p l e R s m args below meth c H locs cells slots Q (F0 m tgt ls rest)) (kf : P → W p l e R s m args below meth c H locs cells slots Q (F0 m (pc + 3) ls rest)) : W p l e R s m args below meth c H locs cells slots Q (F0 m pc ls (.int x :: rest)) := lv_if_ne S.1 S.2.1 hdg ht (fun h => kt (fun q => h (hP.mpr q))) (fun h => kf (hP.mp h))
theorem zz_if_lt (S : CallFix p m c cc nL s args Ts own) {x : Int32} {P : Prop} {off : Int} {tgt : Nat} (hdg : decode cc pc = .ok (.ifCond .lt off, 3)) (ht : (pc : Int) + off = (tgt : Int)) (hP : x < 0 ↔ P) (kt : P → W p l e R s m args below meth c H locs cells slots Q (F0 m tgt ls rest)) (kf : ¬ P → W p l e R s m args below meth c H locs cells slots Q (F0 m (pc + 3) ls rest)) : W p l e R s m args below meth c H locs cells slots Q (F0 m pc ls (.int x :: rest)) := lv_if_lt S.1 S.2.1 hdg ht (fun h => kt (hP.mp h)) (fun h => kf (fun q => h (hP.mpr q)))
theorem zz_if_ge (S : CallFix p m c cc nL s args Ts own) {x : Int32} {P : Prop} {off : Int} {tgt : Nat} (hdg : decode cc pc = .ok (.ifCond .ge off, 3)) (ht : (pc : Int) + off = (tgt : Int)) (hP : 0 ≤ x ↔ P) (kt : P → W p l e R s m args below meth c H locs cells slots Q (F0 m tgt ls rest)) (kf : ¬ P → W p l e R s m args below meth c H locs cells slots Q (F0 m (pc + 3) ls rest)) : W p l e R s m args below meth c H locs cells slots Q (F0 m pc ls (.int x :: rest)) := lv_if_ge S.1 S.2.1 hdg ht (fun h => kt (hP.mp h)) (fun h => kf (fun q => h (hP.mpr q)))
theorem zz_if_gt (S : CallFix p m c cc nL s args Ts own) {x : Int32} {P : Prop} {off : Int} {tgt : Nat} (hdg : decode cc pc = .ok (.ifCond .gt off, 3)) (ht : (pc : Int) + off = (tgt : Int)) (hP : 0 < x ↔ P) (kt : P → W p l e R s m args below meth c H locs cells slots Q (F0 m tgt ls rest)) (kf : ¬ P → W p l e R s m args below meth c H locs cells slots Q (F0 m (pc + 3) ls rest)) : W p l e R s m args below meth c H locs cells slots Q (F0 m pc ls (.int x :: rest)) := lv_if_gt S.1 S.2.1 hdg ht (fun h => kt (hP.mp h)) (fun h => kf (fun q => h (hP.mpr q)))
theorem zz_if_le (S : CallFix p m c cc nL s args Ts own) {x : Int32} {P : Prop} {off : Int} {tgt : Nat} (hdg : decode cc pc = .ok (.ifCond .le off, 3)) (ht : (pc : Int) + off = (tgt : Int)) (hP : x ≤ 0 ↔ P) (kt : P → W p l e R s m args below meth c H locs cells slots Q (F0 m tgt ls rest)) (kf : ¬ P → W p l e R s m args below meth c H locs cells slots Q (F0 m (pc + 3) ls rest)) : W p l e R s m args below meth c H locs cells slots Q (F0 m pc ls (.int x :: rest)) := lv_if_le S.1 S.2.1 hdg ht (fun h => kt (hP.mp h)) (fun h => kf (fun q => h (hP.mpr q)))
-- fields and arrays, read
variable {D : va_G} {cI cR : ClassId} {ws : va_W} {A : Nat → Prop} {a : Nat}
theorem zz_get (S : CallFix p m c cc nL s args Ts own) (hG : zG D cI cR ws s H) {ref C : String} {T : u_T} {N ci index : Nat} (hin : ∀ w ∈ u_ws C T N, w ∈ Ts) (q0 : Nat) {fs : List Value} (he : ws[q0]? = some (a, .inr (ci, fs))) (hc : vwCl[ci]? = some (C, T, N)) (k : Nat) (hk : k < N) (hlink : Cond.fieldLink own index ref (T k).2.1 (T k).2.2.1 ∈ Ts) (href : (T k).1 = ref) {v : Value} (hv : fs[k]? = some v) (hdg : decode cc pc = .ok (.getfield index, 3))
    (kk : W p l e R s m args below meth c H locs cells slots Q (F0 m (pc + 3) ls (v :: rest))) : W p l e R s m args below meth c H locs cells slots Q (F0 m pc ls (.ref a :: rest)) := by
  obtain ⟨hx, hb, hml, hown, hts⟩ := S
  subst href
  exact va_get hx hb hts hin hown hG.2.1 hG.1 q0 he hc k hk (hts _ hlink) (fun _ h => h) hv hdg kk
theorem zz_iald (S : CallFix p m c cc nL s args Ts own) (hG : zG D cI cR ws s H) (q0 : Nat) {n k : Nat} {f : Nat → Nat} (ha : ws[q0]? = some (a, .inl (cI, n, .inl (fun j => nI (f j))))) (hin : k < n ∧ n < 2147483648) (hdg : decode cc pc = .ok (.iaload, 1))
    (kk : W p l e R s m args below meth c H locs cells slots Q (F0 m (pc + 1) ls (.int (nI (f k)) :: rest))) : W p l e R s m args below meth c H locs cells slots Q (F0 m pc ls (.int (nI k) :: .ref a :: rest)) := by
  obtain ⟨hx, hb, -⟩ := S
  refine va_iald hx hb hG.2.1 hG.1 q0 0 ha rfl (n_in hin.1 hin.2) hdg ?_
  show W p l e R s m args below meth c H locs cells slots Q (F0 m (pc + 1) ls (.int (nI (f (nI k).toNatClampNeg)) :: rest))
  rw [n_toNat (by omega)]
  exact kk
theorem zz_alen (S : CallFix p m c cc nL s args Ts own) (hG : zG D cI cR ws s H) (q0 : Nat) {n : Nat} {f : Nat → Int32} (ha : ws[q0]? = some (a, .inl (cI, n, .inl f))) (hdg : decode cc pc = .ok (.arraylength, 1))
    (kk : W p l e R s m args below meth c H locs cells slots Q (F0 m (pc + 1) ls (.int (nI n) :: rest))) : W p l e R s m args below meth c H locs cells slots Q (F0 m pc ls (.ref a :: rest)) := by
  obtain ⟨hx, hb, -⟩ := S
  exact va_alen hx hb hG.2.1 hG.1 q0 0 ha rfl rfl hdg kk
-- Math
theorem zz_max (S : CallFix p m c cc nL s args Ts own) {index : Nat} (h1 : Cond.methodLink own index Lib.Math.max.name ∈ Ts) (h2 : Cond.static Lib.Math.max.name ∈ Ts) (h3 : Cond.initialized "java/lang/Math" ∈ Ts) (h4 : Cond.code Lib.Math.max.name Lib.Math.max.code 2 (some .int) ∈ Ts) (hR : 1 ≤ R.frames ∧ (rest.map fun v => v.category).sum + 13 ≤ R.locals) (hz : cells ≤ R.cells ∧ slots ≤ R.slots) (hls : ls.size = nL) {x y v : Int32} (hdg : decode cc pc = .ok (.invokestatic index, 3)) (hv : (if x < y then y else x) = v)
    (kk : W p l e R s m args below meth c H locs cells slots Q (F0 m (pc + 3) ls (.int v :: rest))) : W p l e R s m args below meth c H locs cells slots Q (F0 m pc ls (.int y :: .int x :: rest)) := by
  obtain ⟨hx, hb, hml, hown, hts⟩ := S
  subst hv
  exact va_mmax hx hb (hml.trans hls.symm) hown (hts _ h1) (hts _ h2) (hts _ h3) (hts _ h4) hR.1 hR.2 hz.1 hz.2 hdg kk
theorem zz_min (S : CallFix p m c cc nL s args Ts own) {index : Nat} (h1 : Cond.methodLink own index Lib.Math.min.name ∈ Ts) (h2 : Cond.static Lib.Math.min.name ∈ Ts) (h3 : Cond.initialized "java/lang/Math" ∈ Ts) (h4 : Cond.code Lib.Math.min.name Lib.Math.min.code 2 (some .int) ∈ Ts) (hR : 1 ≤ R.frames ∧ (rest.map fun v => v.category).sum + 13 ≤ R.locals) (hz : cells ≤ R.cells ∧ slots ≤ R.slots) (hls : ls.size = nL) {x y v : Int32} (hdg : decode cc pc = .ok (.invokestatic index, 3)) (hv : (if y < x then y else x) = v)
    (kk : W p l e R s m args below meth c H locs cells slots Q (F0 m (pc + 3) ls (.int v :: rest))) : W p l e R s m args below meth c H locs cells slots Q (F0 m pc ls (.int y :: .int x :: rest)) := by
  obtain ⟨hx, hb, hml, hown, hts⟩ := S
  subst hv
  exact va_mmin hx hb (hml.trans hls.symm) hown (hts _ h1) (hts _ h2) (hts _ h3) (hts _ h4) hR.1 hR.2 hz.1 hz.2 hdg kk
theorem zz_abs (S : CallFix p m c cc nL s args Ts own) {index : Nat} (h1 : Cond.methodLink own index Lib.Math.abs.name ∈ Ts) (h2 : Cond.static Lib.Math.abs.name ∈ Ts) (h3 : Cond.initialized "java/lang/Math" ∈ Ts) (h4 : Cond.code Lib.Math.abs.name Lib.Math.abs.code 1 (some .int) ∈ Ts) (hR : 1 ≤ R.frames ∧ (rest.map fun v => v.category).sum + 13 ≤ R.locals) (hz : cells ≤ R.cells ∧ slots ≤ R.slots) (hls : ls.size = nL) {x v : Int32} (hdg : decode cc pc = .ok (.invokestatic index, 3)) (hv : (if 0 ≤ x then x else 0 - x) = v)
    (kk : W p l e R s m args below meth c H locs cells slots Q (F0 m (pc + 3) ls (.int v :: rest))) : W p l e R s m args below meth c H locs cells slots Q (F0 m pc ls (.int x :: rest)) := by
  obtain ⟨hx, hb, hml, hown, hts⟩ := S
  subst hv
  exact va_mabs hx hb (hml.trans hls.symm) hown (hts _ h1) (hts _ h2) (hts _ h3) (hts _ h4) hR.1 hR.2 hz.1 hz.2 hdg kk
-- calls of methods that only read
theorem zz_callV (S : CallFix p m c cc nL s args Ts own) {y : MethodName} {bytes : ByteArray} {maxL : Nat} {ret : Option FieldType} {wy wy' : List Cond} {rm : Room} {b : Nat} {As : List Value} {v : Int32} {wc : va_W} {C : String} {index : Nat} (hM : Met l y wy rm (va_Pc (.ref b :: As) (zW D cI cR wc)) (vp_Si (fun r => r = v)) 0 0 (fun _ => False)) (hT : GoodIn Ts (wsV own index C y wy)) (n : Nat) (hw : wy = Cond.code y bytes maxL ret :: wy') (hd : y.cls = C ∧ y.cls ≠ "java/lang/invoke/MethodHandle" ∧ y.cls ≠ "java/lang/invoke/VarHandle" ∧ (parseMethodDescriptor y.desc).map (fun d => d.parameters.length) = some n) (hR : (rm.cells = 0 ∧ rm.slots = 0) ∧ rm.frames + 1 ≤ R.frames ∧ 8 + (maxL + 11) + rm.locals ≤ R.locals)
    (hG : zG D cI cR ws s H) (is : List Nat) (hsub : is.filterMap (fun i => ws[i]?) = wc) (q0 : Nat) {ci : Nat} {fs : List Value} {r : vw_C} (hc : vwCl[ci]? = some r) (hC : r.1 = C) (he : ws[q0]? = some (b, .inr (ci, fs))) (hn : As.length = n) {stk : List Value} (hstk : stk = As.reverse ++ .ref b :: rest) (hcat : (rest.map fun v => v.category).sum ≤ 8) (hls : ls.size = nL) (hz : cells ≤ R.cells ∧ slots ≤ R.slots) (hdg : decode cc pc = .ok (.invokevirtual index, 3))
    (kk : W p l e R s m args below meth c H locs cells slots Q (F0 m (pc + 3) ls (.int v :: rest))) : W p l e R s m args below meth c H locs cells slots Q (F0 m pc ls stk) := by
  subst hC
  have hw0 := hG.sub is hsub
  refine vp_callSi (W.runV (C := r.1) (b := b) (As := As) (rest := rest) S hM (cwV n S.2.2.2.2 hT hw hR.1.1 hR.1.2 hd hR.2) ⟨zW.blind, va_recv hG.2.1 hG.1 hc he, fun U hU hW => ⟨rfl, zW.of hw0 hU hW⟩⟩ rfl hn hls hstk (lv_room hcat) hdg ⟨hz.1, hz.2⟩) (fun r2 hr2 => ?_)
  subst hr2
  exact kk
theorem zz_callS (S : CallFix p m c cc nL s args Ts own) {y : MethodName} {bytes : ByteArray} {maxL : Nat} {ret : Option FieldType} {wy wy' : List Cond} {rm : Room} {As : List Value} {v : Int32} {index : Nat} (hM : Met l y wy rm (va_Pc As (fun _ => True)) (vp_Si (fun r => r = v)) 0 0 (fun _ => False)) (hT : GoodIn Ts (va_wsS own index y wy)) (n : Nat) (hw : wy = Cond.code y bytes maxL ret :: wy') (hd : y.cls ≠ "java/lang/invoke/MethodHandle" ∧ y.cls ≠ "java/lang/invoke/VarHandle" ∧ (parseMethodDescriptor y.desc).map (fun d => d.parameters.length) = some n) (hR : (rm.cells = 0 ∧ rm.slots = 0) ∧ rm.frames + 1 ≤ R.frames ∧ 8 + (maxL + 11) + rm.locals ≤ R.locals)
    (hn : As.length = n) {stk : List Value} (hstk : stk = As.reverse ++ rest) (hcat : (rest.map fun v => v.category).sum ≤ 8) (hls : ls.size = nL) (hz : cells ≤ R.cells ∧ slots ≤ R.slots) (hdg : decode cc pc = .ok (.invokestatic index, 3))
    (kk : W p l e R s m args below meth c H locs cells slots Q (F0 m (pc + 3) ls (.int v :: rest))) : W p l e R s m args below meth c H locs cells slots Q (F0 m pc ls stk) := by
  refine vp_callSi (W.runS (As := As) (rest := rest) S hM (va_cwS n S.2.2.2.2 hT hw hR.1.1 hR.1.2 hd hR.2) ⟨zT.blind, fun U hU hW => ⟨rfl, trivial⟩⟩ rfl hn hls hstk (lv_room hcat) hdg ⟨hz.1, hz.2⟩) (fun r2 hr2 => ?_)
  subst hr2
  exact kk
/-- a private static method of a nest mate -/
theorem zz_callSN (S : CallFix p m c cc nL s args Ts own) {y : MethodName} {bytes : ByteArray} {maxL : Nat} {ret : Option FieldType} {wy wy' : List Cond} {rm : Room} {As : List Value} {v : Int32} {index : Nat} {host : String} (hM : Met l y wy rm (va_Pc As (fun _ => True)) (vp_Si (fun r => r = v)) 0 0 (fun _ => False)) (hT : GoodIn Ts wy) (n : Nat) (hw : wy = Cond.code y bytes maxL ret :: wy') (hd : y.cls ≠ "java/lang/invoke/MethodHandle" ∧ y.cls ≠ "java/lang/invoke/VarHandle" ∧ (parseMethodDescriptor y.desc).map (fun d => d.parameters.length) = some n) (hR : (rm.cells = 0 ∧ rm.slots = 0) ∧ rm.frames + 1 ≤ R.frames ∧ 8 + (maxL + 11) + rm.locals ≤ R.locals)
    (hl : va_Nw (.methodLinkNest own index y host) s) (hi : Cond.initialized y.cls ∈ Ts) (hst : Cond.static y ∈ Ts) (hn : As.length = n) {stk : List Value} (hstk : stk = As.reverse ++ rest) (hcat : (rest.map fun v => v.category).sum ≤ 8) (hls : ls.size = nL) (hz : cells ≤ R.cells ∧ slots ≤ R.slots) (hdg : decode cc pc = .ok (.invokestatic index, 3))
    (kk : W p l e R s m args below meth c H locs cells slots Q (F0 m (pc + 3) ls (.int v :: rest))) : W p l e R s m args below meth c H locs cells slots Q (F0 m pc ls stk) := by
  refine vp_callSi (va_Run.run (va_runSN (As := As) (rest := rest) S hM ⟨va_cnB n S.2.2.2.2 hT hw hR.1.1 hR.1.2 hl (S.2.2.2.2 _ hi) hd hR.2, S.2.2.2.2 _ hst, trivial⟩ ⟨zT.blind, fun U hU hW => ⟨rfl, trivial⟩⟩ rfl hn hls hstk (lv_room hcat) hdg ⟨hz.1, hz.2⟩)) (fun r2 hr2 => ?_)
  subst hr2
  exact kk
-- the ends of methods that only read
theorem zz_iretS (S : CallFix p m c cc nL s args Ts own) (hr : meth.sig.returnType = some .int) (hlocks : meth.locks = false) {post : Int32 → Prop} {v : Int32} (hp : post v) (hdg : decode cc pc = .ok (.ireturn, 1)) : W p l e R s m args below meth c s.heap [] cells slots (MQ below (vp_Si post) args s cells slots (fun _ => False)) (F0 m pc ls [.int v]) :=
  W.iret S.1 S.2.1 hr (fun t ht _ => ⟨v, rfl, hp, ht⟩) (fun _ h => by cases h) hdg hlocks
theorem zz_bretS (S : CallFix p m c cc nL s args Ts own) (hr : meth.sig.returnType = some .boolean) (hlocks : meth.locks = false) {post : Int32 → Prop} {v : Int32} (hn : narrow .boolean (.int v) = .int v) (hp : post v) (hdg : decode cc pc = .ok (.ireturn, 1)) : W p l e R s m args below meth c s.heap [] cells slots (MQ below (vp_Si post) args s cells slots (fun _ => False)) (F0 m pc ls [.int v]) :=
  W.zret S.1 S.2.1 hr hn (fun t ht _ => ⟨v, rfl, hp, ht⟩) (fun _ h => by cases h) hdg hlocks
end ZR
