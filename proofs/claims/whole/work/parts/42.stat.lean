section ZN
variable {p : Program} {l : Launch} {e : Env} {R : Room} {s : State} {m : MethodId} {args : Array Value} {below : List Frame} {meth : Method} {c : Code} {H : Heap} {locs : List Loc} {cells slots : Nat} {Q : State → Prop}
variable {cc : ByteArray} {nL : Nat} {Ts : List Cond} {own : String} {pc : Nat} {ls : Array Slot} {rest : List Value}
variable {D : va_G} {cI cR : ClassId} {ws : va_W} {A : Nat → Prop} {a : Nat}
/-- a private static method that reads objects given to it -/
theorem zz_callSW (S : CallFix p m c cc nL s args Ts own) {y : MethodName} {bytes : ByteArray} {maxL : Nat} {ret : Option FieldType} {wy wy' : List Cond} {rm : Room} {As : List Value} {v : Int32} {wc : va_W} {index : Nat} (hM : Met l y wy rm (va_Pc As (zW D cI cR wc)) (vp_Si (fun r => r = v)) 0 0 (fun _ => False)) (hT : GoodIn Ts (va_wsS own index y wy)) (n : Nat) (hw : wy = Cond.code y bytes maxL ret :: wy') (hd : y.cls ≠ "java/lang/invoke/MethodHandle" ∧ y.cls ≠ "java/lang/invoke/VarHandle" ∧ (parseMethodDescriptor y.desc).map (fun d => d.parameters.length) = some n) (hR : (rm.cells = 0 ∧ rm.slots = 0) ∧ rm.frames + 1 ≤ R.frames ∧ 8 + (maxL + 11) + rm.locals ≤ R.locals)
    (hG : zG D cI cR ws s H) (is : List Nat) (hsub : is.filterMap (fun i => ws[i]?) = wc) (hn : As.length = n) {stk : List Value} (hstk : stk = As.reverse ++ rest) (hcat : (rest.map fun v => v.category).sum ≤ 8) (hls : ls.size = nL) (hz : cells ≤ R.cells ∧ slots ≤ R.slots) (hdg : decode cc pc = .ok (.invokestatic index, 3))
    (kk : W p l e R s m args below meth c H locs cells slots Q (F0 m (pc + 3) ls (.int v :: rest))) : W p l e R s m args below meth c H locs cells slots Q (F0 m pc ls stk) := by
  have hw0 := hG.sub is hsub
  refine vp_callSi (W.runS (As := As) (rest := rest) S hM (va_cwS n S.2.2.2.2 hT hw hR.1.1 hR.1.2 hd hR.2) ⟨zW.blind, fun U hU hW => ⟨rfl, zW.of hw0 hU hW⟩⟩ rfl hn hls hstk (lv_room hcat) hdg ⟨hz.1, hz.2⟩) (fun r2 hr2 => ?_)
  subst hr2
  exact kk
end ZN
theorem jin_b {P X Y : Nat → Nat} {c n a b : Nat} (ha : a < n) (hb : b ≤ a) : ∀ x, x < n → jin P X Y c (jco P X Y c a) a b x < n := by
  have h1 : ∀ x, x < n → jco P X Y c a x < n := by
    refine jco_ind (P := P) (X := X) (Y := Y) (c := c) (n := n) (Q := fun f => ∀ x, x < n → f x < n) (fun x hx => hx) ?_ a (by omega)
    intro f a b hf hb ha _ _ _ x hx
    unfold rnm
    split
    · exact hf b (by omega)
    · exact hf x hx
  refine jin_ind (P := P) (X := X) (Y := Y) (c := c) (n := n) (a := a) (Q := fun f => ∀ x, x < n → f x < n) ?_ h1 ha b hb
  intro f a b hf hb ha _ _ _ x hx
  unfold rnm
  split
  · exact hf b (by omega)
  · exact hf x hx
theorem cdg_s (P X Y : Nat → Nat) (c a k : Nat) : cdg P X Y c a (k + 1) = cdg P X Y c a k + (if P (k / 2) = c ∧ (X a = X k ∧ Y a = Y k) then 1 else 0) := rfl
theorem odn_s (P X Y : Nat → Nat) (c n i j : Nat) : odn P X Y c n i (j + 1) = odn P X Y c n i j + (if P (j / 2) = c ∧ mun P X Y c n j = i then dgr n P X Y c j % 2 else 0) := rfl
theorem ods_t {P X Y : Nat → Nat} {c n t j : Nat} (h : jco P X Y c n (j / 2) = t) (h2 : dgr n P X Y c j % 2 = 1) : ods P X Y c n t (j + 1) = ods P X Y c n t j + 1 := by
  show ods P X Y c n t j + (if jco P X Y c n (j / 2) = t ∧ dgr n P X Y c j % 2 = 1 then 1 else 0) = _
  rw [if_pos ⟨h, h2⟩]
theorem ods_f {P X Y : Nat → Nat} {c n t j : Nat} (h : ¬ (jco P X Y c n (j / 2) = t ∧ dgr n P X Y c j % 2 = 1)) : ods P X Y c n t (j + 1) = ods P X Y c n t j := by
  show ods P X Y c n t j + (if jco P X Y c n (j / 2) = t ∧ dgr n P X Y c j % 2 = 1 then 1 else 0) = _
  rw [if_neg h]; rfl
theorem lcn_t {P X Y : Nat → Nat} {c n t : Nat} (h : P t = c ∧ jco P X Y c n t = t) : lcn P X Y c n (t + 1) = lcn P X Y c n t + max 1 (ods P X Y c n t (2 * n) / 2) := by
  show lcn P X Y c n t + (if P t = c ∧ jco P X Y c n t = t then max 1 (ods P X Y c n t (2 * n) / 2) else 0) = _
  rw [if_pos h]
theorem lcn_f {P X Y : Nat → Nat} {c n t : Nat} (h : ¬ (P t = c ∧ jco P X Y c n t = t)) : lcn P X Y c n (t + 1) = lcn P X Y c n t := by
  show lcn P X Y c n t + (if P t = c ∧ jco P X Y c n t = t then max 1 (ods P X Y c n t (2 * n) / 2) else 0) = _
  rw [if_neg h]; rfl
theorem lrn_t {P X Y : Nat → Nat} {c n i : Nat} (h : P (i / 2) = c ∧ mun P X Y c n i = i) : lrn P X Y c n (i + 1) = lrn P X Y c n i + (if odn P X Y c n i (2 * n) = 0 then 1 else odn P X Y c n i (2 * n) / 2) := by
  show lrn P X Y c n i + (if P (i / 2) = c ∧ mun P X Y c n i = i then (if odn P X Y c n i (2 * n) = 0 then 1 else odn P X Y c n i (2 * n) / 2) else 0) = _
  rw [if_pos h]
theorem lrn_f {P X Y : Nat → Nat} {c n i : Nat} (h : ¬ (P (i / 2) = c ∧ mun P X Y c n i = i)) : lrn P X Y c n (i + 1) = lrn P X Y c n i := by
  show lrn P X Y c n i + (if P (i / 2) = c ∧ mun P X Y c n i = i then (if odn P X Y c n i (2 * n) = 0 then 1 else odn P X Y c n i (2 * n) / 2) else 0) = _
  rw [if_neg h]; rfl
/-- a fact that arithmetic need not open -/
def hiq (p : Prop) : Prop := p
def tcb (X Y : Nat → Nat) (a b : Nat) : Bool := decide (tch X Y a b)
theorem tcb_t {X Y : Nat → Nat} {a b : Nat} (h : tch X Y a b) : tcb X Y a b = true := decide_eq_true h
theorem tcb_e {X Y : Nat → Nat} {a b : Nat} (h : tcb X Y a b = true) : tch X Y a b := of_decide_eq_true h
