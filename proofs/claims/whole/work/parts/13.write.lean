-- ===== methods that write =====
def zY (D : va_G) (cI cR : ClassId) (A : Nat → Prop) (w : va_W) (t : State) : Prop := zW D cI cR w t ∧ va_D A w
/-- the end of a method that writes: its answer and the cells of its world behind it -/
def zQi (D : va_G) (cI cR : ClassId) (A : Nat → Prop) (post : Int32 → va_W → Prop) : Array Value → State → Outcome → State → Prop := va_Qi (S := va_W) post (zY D cI cR A) A
def zQv (D : va_G) (cI cR : ClassId) (A : Nat → Prop) (post : va_W → Prop) : Array Value → State → Outcome → State → Prop := va_Qv (S := va_W) post (zY D cI cR A) A
theorem filterMap_of_map {α β : Type} {f : α → Option β} : ∀ {l : List α} {r : List β}, l.map f = r.map some → l.filterMap f = r
  | [], [], _ => rfl
  | [], b :: r, h => by simp at h
  | a :: l, [], h => by simp at h
  | a :: l, b :: r, h => by
    simp only [List.map_cons, List.cons.injEq] at h
    rw [List.filterMap_cons, h.1, filterMap_of_map h.2]
theorem zV.perm {D : va_G} {cI cR : ClassId} {A : Nat → Prop} {ws ws' : va_W} {s : State} {H : Heap} {locs : List Loc} (h : zV D cI cR A ws s H locs) (is : List Nat) (hn : va_nd is = true) (hs : is.map (fun i => ws[i]?) = ws'.map some) : zV D cI cR A ws' s H locs := ⟨h.1.sub is (filterMap_of_map hs), h.2.1.sub is hn hs, h.2.2⟩
theorem zA_cell {cI : ClassId} {n : Nat} {f g : Nat → Nat} (h : ∀ j, j < n → f j = g j) : vp_cell cI (n, .inl (fun j => nI (f j))) = vp_cell cI (n, .inl (fun j => nI (g j))) := by
  have e : ∀ f : Nat → Nat, vp_cell cI (n, .inl (fun j => nI (f j))) = arrV cI n (fun j => .int (nI (f j))) := fun _ => rfl
  rw [e, e]
  unfold arrV
  congr 1
  apply Array.ext
  · simp
  · intro i h1 h2
    simp at h1 h2
    simp [h i h1]
/-- an array's numbers, said in other words -/
theorem zV.arr {D : va_G} {cI cR : ClassId} {A : Nat → Prop} {ws ws' : va_W} {s : State} {H : Heap} {locs : List Loc} (h : zV D cI cR A ws s H locs) (q0 : Nat) {a n : Nat} {f g : Nat → Nat} (he : ws[q0]? = some (a, zA cI n f)) (hfg : ∀ j, j < n → f j = g j) (hs : ws.set q0 (a, zA cI n g) = ws') : zV D cI cR A ws' s H locs := by
  subst hs
  refine ⟨⟨fun k q hk => ?_, h.1.2⟩, h.2.1.set he, h.2.2⟩
  by_cases hkq : k = q0
  · subst hkq
    rw [List.getElem?_set_self (List.getElem?_eq_some_iff.mp he).1] at hk
    cases hk
    have h1 := h.1.1 k _ he
    show H[a]? = some (vp_cell cI (n, .inl (fun j => nI (g j))))
    rw [← zA_cell hfg]
    exact h1
  · rw [List.getElem?_set_ne (Ne.symm hkq)] at hk
    exact h.1.1 k q hk
section ZM
variable {p : Program} {l : Launch} {e : Env} {R : Room} {s : State} {m : MethodId} {args : Array Value} {below : List Frame} {meth : Method} {c : Code} {H : Heap} {locs : List Loc} {cells slots : Nat} {Q : State → Prop}
variable {cc : ByteArray} {nL : Nat} {Ts : List Cond} {own : String} {pc : Nat} {ls : Array Slot} {rest : List Value}
variable {D : va_G} {cI cR : ClassId} {ws : va_W} {A : Nat → Prop} {a : Nat}
theorem zz_put (S : CallFix p m c cc nL s args Ts own) (hV : zV D cI cR A ws s H locs) {ref C : String} {T : u_T} {N ci index : Nat} (hin : ∀ w ∈ u_ws C T N, w ∈ Ts) (ty0 : Nat → FieldType) (hty : ∀ k, k < N → parseFieldDescriptor (T k).2.2.1 = some (ty0 k)) (hnm : ∀ a, a < N → ∀ b, b < N → a ≠ b → (T a).2.1 ≠ (T b).2.1) (q0 : Nat) {fs : List Value} (he : ws[q0]? = some (a, .inr (ci, fs))) (hc : vwCl[ci]? = some (C, T, N)) (k : Nat) (hk : k < N) (hlink : Cond.fieldLink own index ref (T k).2.1 (T k).2.2.1 ∈ Ts) (href : (T k).1 = ref) (hfin : (T k).2.2.2 = false) {ty : FieldType} {v : Value} (hd : parseFieldDescriptor (T k).2.2.1 = some ty) (hn : narrow ty v = v) (hfit : fits ty v = true) (hl : k < fs.length) {ws' : va_W} (hws : ws.set q0 (a, .inr (ci, fs.set k v)) = ws') (hdg : decode cc pc = .ok (.putfield index, 3))
    (kk : ∀ (H1 : Heap) (locs1 : List Loc), zV D cI cR A ws' s H1 locs1 → W p l e R s m args below meth c H1 locs1 cells slots Q (F0 m (pc + 3) ls rest)) : W p l e R s m args below meth c H locs cells slots Q (F0 m pc ls (v :: .ref a :: rest)) := by
  obtain ⟨hx, hb, hml, hown, hts⟩ := S
  subst href
  subst hws
  exact va_put hx hb hts hin ty0 hty hnm hown hV.1.2.1 hV.1.1 hV.2.1 hV.2.2.1 q0 he hc k hk (hts _ hlink) (fun _ h => h) hfin hd hn hfit hl hdg (fun H1 locs1 hP hD hS => kk H1 locs1 ⟨⟨hP, hV.1.2⟩, hD, hS, hV.2.2.2⟩)
theorem zz_putF (S : CallFix p m c cc nL s args Ts own) (hV : zV D cI cR A ws s H locs) {ref C : String} {T : u_T} {N ci index : Nat} (hin : ∀ w ∈ u_ws C T N, w ∈ Ts) (ty0 : Nat → FieldType) (hty : ∀ k, k < N → parseFieldDescriptor (T k).2.2.1 = some (ty0 k)) (hnm : ∀ a, a < N → ∀ b, b < N → a ≠ b → (T a).2.1 ≠ (T b).2.1) (q0 : Nat) {fs : List Value} (he : ws[q0]? = some (a, .inr (ci, fs))) (hc : vwCl[ci]? = some (C, T, N)) (k : Nat) (hk : k < N) (hlink : Cond.fieldLink own index ref (T k).2.1 (T k).2.2.1 ∈ Ts) (href : (T k).1 = ref) (hfin : (T k).2.2.2 = true) (hi : meth.name = "<init>") (hdecl : (T k).1 = own) {ty : FieldType} {v : Value} (hd : parseFieldDescriptor (T k).2.2.1 = some ty) (hn : narrow ty v = v) (hfit : fits ty v = true) (hl : k < fs.length) {ws' : va_W} (hws : ws.set q0 (a, .inr (ci, fs.set k v)) = ws') (hdg : decode cc pc = .ok (.putfield index, 3))
    (kk : ∀ (H1 : Heap) (locs1 : List Loc), zV D cI cR A ws' s H1 locs1 → W p l e R s m args below meth c H1 locs1 cells slots Q (F0 m (pc + 3) ls rest)) : W p l e R s m args below meth c H locs cells slots Q (F0 m pc ls (v :: .ref a :: rest)) := by
  obtain ⟨hx, hb, hml, hown, hts⟩ := S
  subst href
  subst hws
  exact va_putF hx hb hts hin ty0 hty hnm hown hV.1.2.1 hV.1.1 hV.2.1 hV.2.2.1 q0 he hc k hk (hts _ hlink) (fun _ h => h) hfin hi hdecl hd hn hfit hl hdg (fun H1 locs1 hP hD hS => kk H1 locs1 ⟨⟨hP, hV.1.2⟩, hD, hS, hV.2.2.2⟩)
theorem zz_iast (S : CallFix p m c cc nL s args Ts own) (hV : zV D cI cR A ws s H locs) (q0 : Nat) {n k v : Nat} {f : Nat → Nat} (ha : ws[q0]? = some (a, zA cI n f)) (hin : k < n ∧ n < 2147483648) {ws' : va_W} (hws : ws.set q0 (a, zA cI n (va_up f k v)) = ws') (hdg : decode cc pc = .ok (.iastore, 1))
    (kk : ∀ (H1 : Heap) (locs1 : List Loc), zV D cI cR A ws' s H1 locs1 → W p l e R s m args below meth c H1 locs1 cells slots Q (F0 m (pc + 1) ls rest)) : W p l e R s m args below meth c H locs cells slots Q (F0 m pc ls (.int (nI v) :: .int (nI k) :: .ref a :: rest)) := by
  obtain ⟨hx, hb, -⟩ := S
  subst hws
  have e : upd (fun j => nI (f j)) (nI k).toNatClampNeg (nI v) = fun j => nI (va_up f k v j) := by
    rw [n_toNat (by omega)]
    funext j
    unfold upd va_up
    by_cases h : j = k
    · rw [if_pos h, if_pos h]
    · rw [if_neg h, if_neg h]
  refine va_iast hx hb hV.1.2.1 hV.1.1 hV.2.1 hV.2.2.1 q0 0 ha rfl (n_in hin.1 hin.2) hdg (fun H1 locs1 hP hD hS => ?_)
  rw [e] at hP hD
  exact kk H1 locs1 ⟨⟨hP, hV.1.2⟩, hD, hS, hV.2.2.2⟩
/-- a call of a method that writes: its cells come back changed, the others are as they were -/
theorem zz_callM (S : CallFix p m c cc nL s args Ts own) (hV : zV D cI cR A ws s H locs) {y : MethodName} {bytes : ByteArray} {maxL : Nat} {ret : Option FieldType} {wy wy' : List Cond} {rm : Room} {b : Nat} {As : List Value} {wc wr : va_W} {C : String} {index mc ms : Nat} {post : Int32 → va_W → Prop} (hM : Met l y wy rm (va_Pc (.ref b :: As) (zX D cI cR wc H.size)) (zQi D cI cR (va_A wc H.size) post) mc ms (va_A wc H.size)) (hT : GoodIn Ts (wsV own index C y wy)) (n : Nat) (hw : wy = Cond.code y bytes maxL ret :: wy') (hd : y.cls = C ∧ y.cls ≠ "java/lang/invoke/MethodHandle" ∧ y.cls ≠ "java/lang/invoke/VarHandle" ∧ (parseMethodDescriptor y.desc).map (fun d => d.parameters.length) = some n) (hR : (rm.cells = mc ∧ rm.slots = ms) ∧ rm.frames + 1 ≤ R.frames ∧ 8 + (maxL + 11) + rm.locals ≤ R.locals)
    (isC isR : List Nat) (hC : isC.map (fun i => ws[i]?) = wc.map some) (hRr : isR.map (fun i => ws[i]?) = wr.map some) (hnC : va_nd isC = true) (hnR : va_nd isR = true) (hdis : ∀ i ∈ isR, i ∉ isC) (q0 : Nat) {ci : Nat} {fs : List Value} {r : vw_C} (hc : vwCl[ci]? = some r) (hCr : r.1 = C) (he : ws[q0]? = some (b, .inr (ci, fs))) (hn : As.length = n) {stk : List Value} (hstk : stk = As.reverse ++ .ref b :: rest) (hcat : (rest.map fun v => v.category).sum ≤ 8) (hls : ls.size = nL) (hz : cells + mc ≤ R.cells ∧ slots + ms ≤ R.slots) (hdg : decode cc pc = .ok (.invokevirtual index, 3))
    (kk : ∀ (v : Int32) (w1 : va_W) (H1 : Heap) (locs1 : List Loc), post v w1 → zV D cI cR A (wr ++ w1) s H1 locs1 → W p l e R s m args below meth c H1 locs1 (cells + mc) (slots + ms) Q (F0 m (pc + 3) ls (.int v :: rest))) : W p l e R s m args below meth c H locs cells slots Q (F0 m pc ls stk) := by
  subst hCr
  subst hstk
  obtain ⟨hG, hD, hS, hA⟩ := id hV
  have hw0 := hG.sub isC (filterMap_of_map hC)
  have hDc := hD.sub isC hnC hC
  have hF := va_free (wc := wc) hD hS hA isC hC
  refine va_calli (va_runV (C := r.1) (b := b) (As := As) (rest := rest) S hM (cwV n S.2.2.2.2 hT hw hR.1.1 hR.1.2 hd hR.2) ⟨zX.blind, va_recv hG.2.1 hG.1 hc he, fun U hU hW => ⟨rfl, by rw [hU], zW.of hw0 hU hW, hDc.weaken (fun _ _ _ _ => trivial)⟩⟩ rfl hn hls rfl (lv_room hcat) hdg hz) hS (fun q _ h => hF q h) hF (fun r2 w1 t H1 locs1 ht hvm hp hB hz1 hk1 hS1 => ?_)
  obtain ⟨⟨hP1, -, -⟩, hD1⟩ := hB
  rw [ht] at hP1
  obtain ⟨hP2, hD2⟩ := va_join hG.1 hD isC isR hC hRr hnR hdis hk1 hF hP1 hD1
  exact kk r2 w1 H1 locs1 hp ⟨⟨hP2, hG.2⟩, hD2, hS1, hA⟩
theorem zz_callMv (S : CallFix p m c cc nL s args Ts own) (hV : zV D cI cR A ws s H locs) {y : MethodName} {bytes : ByteArray} {maxL : Nat} {ret : Option FieldType} {wy wy' : List Cond} {rm : Room} {b : Nat} {As : List Value} {wc wr : va_W} {C : String} {index mc ms : Nat} {post : va_W → Prop} (hM : Met l y wy rm (va_Pc (.ref b :: As) (zX D cI cR wc H.size)) (zQv D cI cR (va_A wc H.size) post) mc ms (va_A wc H.size)) (hT : GoodIn Ts (wsV own index C y wy)) (n : Nat) (hw : wy = Cond.code y bytes maxL ret :: wy') (hd : y.cls = C ∧ y.cls ≠ "java/lang/invoke/MethodHandle" ∧ y.cls ≠ "java/lang/invoke/VarHandle" ∧ (parseMethodDescriptor y.desc).map (fun d => d.parameters.length) = some n) (hR : (rm.cells = mc ∧ rm.slots = ms) ∧ rm.frames + 1 ≤ R.frames ∧ 8 + (maxL + 11) + rm.locals ≤ R.locals)
    (isC isR : List Nat) (hC : isC.map (fun i => ws[i]?) = wc.map some) (hRr : isR.map (fun i => ws[i]?) = wr.map some) (hnC : va_nd isC = true) (hnR : va_nd isR = true) (hdis : ∀ i ∈ isR, i ∉ isC) (q0 : Nat) {ci : Nat} {fs : List Value} {r : vw_C} (hc : vwCl[ci]? = some r) (hCr : r.1 = C) (he : ws[q0]? = some (b, .inr (ci, fs))) (hn : As.length = n) {stk : List Value} (hstk : stk = As.reverse ++ .ref b :: rest) (hcat : (rest.map fun v => v.category).sum ≤ 8) (hls : ls.size = nL) (hz : cells + mc ≤ R.cells ∧ slots + ms ≤ R.slots) (hdg : decode cc pc = .ok (.invokevirtual index, 3))
    (kk : ∀ (w1 : va_W) (H1 : Heap) (locs1 : List Loc), post w1 → zV D cI cR A (wr ++ w1) s H1 locs1 → W p l e R s m args below meth c H1 locs1 (cells + mc) (slots + ms) Q (F0 m (pc + 3) ls rest)) : W p l e R s m args below meth c H locs cells slots Q (F0 m pc ls stk) := by
  subst hCr
  subst hstk
  obtain ⟨hG, hD, hS, hA⟩ := id hV
  have hw0 := hG.sub isC (filterMap_of_map hC)
  have hDc := hD.sub isC hnC hC
  have hF := va_free (wc := wc) hD hS hA isC hC
  refine va_callv (va_runV (C := r.1) (b := b) (As := As) (rest := rest) S hM (cwV n S.2.2.2.2 hT hw hR.1.1 hR.1.2 hd hR.2) ⟨zX.blind, va_recv hG.2.1 hG.1 hc he, fun U hU hW => ⟨rfl, by rw [hU], zW.of hw0 hU hW, hDc.weaken (fun _ _ _ _ => trivial)⟩⟩ rfl hn hls rfl (lv_room hcat) hdg hz) hS (fun q _ h => hF q h) hF (fun w1 t H1 locs1 ht hvm hp hB hz1 hk1 hS1 => ?_)
  obtain ⟨⟨hP1, -, -⟩, hD1⟩ := hB
  rw [ht] at hP1
  obtain ⟨hP2, hD2⟩ := va_join hG.1 hD isC isR hC hRr hnR hdis hk1 hF hP1 hD1
  exact kk w1 H1 locs1 hp ⟨⟨hP2, hG.2⟩, hD2, hS1, hA⟩
theorem zz_iretM (S : CallFix p m c cc nL s args Ts own) (hr : meth.sig.returnType = some .int) (hlocks : meth.locks = false) (hV : zV D cI cR A ws s H locs) {post : Int32 → va_W → Prop} {v : Int32} (hp : post v ws) (hdg : decode cc pc = .ok (.ireturn, 1)) : W p l e R s m args below meth c H locs cells slots (MQ below (zQi D cI cR A post) args s cells slots A) (F0 m pc ls [.int v]) :=
  W.iret S.1 S.2.1 hr (fun t ht hW => ⟨⟨v, ws, rfl, hp, zW.of hV.1 ht hW, hV.2.1⟩, hV.2.2.1.F ht⟩) hV.2.2.1.2.2 hdg hlocks
theorem zz_vretM (S : CallFix p m c cc nL s args Ts own) (hr : meth.sig.returnType = none) (hlocks : meth.locks = false) (hV : zV D cI cR A ws s H locs) {post : va_W → Prop} (hp : post ws) (hdg : decode cc pc = .ok (.return_, 1)) : W p l e R s m args below meth c H locs cells slots (MQ below (zQv D cI cR A post) args s cells slots A) (F0 m pc ls []) :=
  W.vret S.1 S.2.1 hr (fun t ht hW => ⟨⟨ws, rfl, hp, zW.of hV.1 ht hW, hV.2.1⟩, hV.2.2.1.F ht⟩) hV.2.2.1.2.2 hdg hlocks
end ZM
