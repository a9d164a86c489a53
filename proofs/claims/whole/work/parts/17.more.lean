theorem ffn_fst (Q : Nat → Prop) [DecidablePred Q] : ∀ (f k : Nat), (ffn Q f k < 0 → ∀ j, k ≤ j → j < k + f → ¬ Q j) ∧ (0 ≤ ffn Q f k → ∀ j, k ≤ j → (j : Int) < ffn Q f k → ¬ Q j)
  | 0, k => ⟨fun _ j h1 h2 => by omega, fun h => by simp [ffn] at h⟩
  | f + 1, k => by
    simp only [ffn]
    by_cases q : Q k
    · rw [if_pos q]
      exact ⟨fun h => by omega, fun h j h1 h2 => by omega⟩
    · rw [if_neg q]
      obtain ⟨h1, h2⟩ := ffn_fst Q f (k + 1)
      refine ⟨fun h j q1 q2 => ?_, fun h j q1 q2 => ?_⟩
      · by_cases e : j = k
        · rw [e]; exact q
        · exact h1 h j (by omega) (by omega)
      · by_cases e : j = k
        · rw [e]; exact q
        · exact h2 h j (by omega) (by omega)
theorem ddr_e {k : Nat} {d : zDt} {c : Nat} (h : k ≤ 1) : ddr k d c = (d, c) := by
  match k, h with
  | 0, _ => rfl
  | 1, _ => rfl
theorem ddr_keep {k : Nat} {d : zDt} {c : Nat} (h : 1 < k) (q : ∀ j, j < k - 1 → ¬ alk d.2.1 d.2.2.1 d.2.2.2.1 (k - 1) j) : ddr k d c = ddr (k - 1) d c := by
  obtain ⟨m, rfl⟩ : ∃ m, k = m + 1 := ⟨k - 1, by omega⟩
  rw [show m + 1 - 1 = m by omega] at q ⊢
  simp only [ddr]
  rw [if_neg (by omega), if_pos q]
theorem ddr_drop {k : Nat} {d : zDt} {c : Nat} (h : 1 < k) {j : Nat} (hj : j < k - 1) (q : alk d.2.1 d.2.2.1 d.2.2.2.1 (k - 1) j) : ddr k d c = ddr (k - 1) (drp (k - 1) d) (c + 1) := by
  obtain ⟨m, rfl⟩ : ∃ m, k = m + 1 := ⟨k - 1, by omega⟩
  rw [show m + 1 - 1 = m by omega] at q hj ⊢
  simp only [ddr]
  rw [if_neg (by omega), if_neg (fun z => z j hj q)]
/-- what lowestAlike says of the strokes below -/
theorem low_keep {n k : Nat} {P X Y : Nat → Nat} (h : ffn (fun j => ¬ j = k ∧ alk P X Y k j) n 0 < 0 ∨ (k : Int) ≤ ffn (fun j => ¬ j = k ∧ alk P X Y k j) n 0) (hk : k < n) : ∀ j, j < k → ¬ alk P X Y k j := by
  intro j hj z
  obtain ⟨h1, h2⟩ := ffn_fst (fun j => ¬ j = k ∧ alk P X Y k j) n 0
  rcases h with h | h
  · exact h1 h j (by omega) (by omega) ⟨by omega, z⟩
  · exact h2 (by omega) j (by omega) (by omega) ⟨by omega, z⟩
theorem low_drop {n k : Nat} {P X Y : Nat → Nat} (h : ¬ ffn (fun j => ¬ j = k ∧ alk P X Y k j) n 0 < 0) (h2 : ¬ (k : Int) ≤ ffn (fun j => ¬ j = k ∧ alk P X Y k j) n 0) : ∃ j, j < k ∧ alk P X Y k j := by
  rcases ffn_rng' (fun j => ¬ j = k ∧ alk P X Y k j) n 0 with q | ⟨q1, q2, q3, q4⟩
  · omega
  · exact ⟨_, by omega, q4⟩
theorem ddr_len : ∀ (k : Nat) (d : zDt) (c : Nat), (ddr k d c).2 ≤ c + k
  | 0, d, c => Nat.le_refl c
  | k + 1, d, c => by
    simp only [ddr]
    split
    · show c ≤ _; omega
    · split
      · have := ddr_len k d c; omega
      · have := ddr_len k (drp k d) (c + 1); omega
section ZNW
variable {p : Program} {l : Launch} {e : Env} {R : Room} {s : State} {m : MethodId} {args : Array Value} {below : List Frame} {meth : Method} {c : Code} {H : Heap} {locs : List Loc} {cells slots : Nat} {Q : State → Prop}
variable {cc : ByteArray} {nL : Nat} {Ts : List Cond} {own : String} {pc : Nat} {ls : Array Slot} {rest : List Value}
variable {D : va_G} {cI cR : ClassId} {ws : va_W} {A : Nat → Prop} {a : Nat}
theorem zT.add {cl : List vw_C} {tys : List (ClassId × FieldType)} {ty : FieldType} {k : Nat} {cA c0 : ClassId} {U : State} (h0 : tys[k]? = some (c0, ty)) (h : va_K D cl (tys ++ [(cA, ty)]) U) : cA = c0 ∧ va_K D cl tys U := by
  have hl : k < tys.length := (List.getElem?_eq_some_iff.mp h0).1
  have e1 := (h.2 k (c0, ty) (by rw [List.getElem?_append_left hl]; exact h0)).2
  have e2 := (h.2 tys.length (cA, ty) (by simp)).2
  refine ⟨?_, h.1, fun k q hk => h.2 k q (by rw [List.getElem?_append_left (List.getElem?_eq_some_iff.mp hk).1]; exact hk)⟩
  dsimp only at e1 e2
  cases ty with
  | object C =>
    obtain ⟨_, _, -, -, -, f1⟩ := e1
    obtain ⟨_, _, -, -, -, f2⟩ := e2
    exact Option.some.inj (f2.symm.trans f1)
  | _ => exact Option.some.inj (e2.symm.trans e1)
theorem zz_newa (S : CallFix p m c cc nL s args Ts own) (hV : zV D cI cR A ws s H locs) (harr : Cond.arrayClass .int ∈ Ts) {N : Nat} (hN : N ≤ 10000) (hcells : cells + 1 ≤ R.cells) (hslots : slots + N ≤ R.slots) (hdg : decode cc pc = .ok (.newarray .int, 2))
    (kk : ∀ (q : Nat) (H1 : Heap), zV D cI cR A (ws ++ [(q, zA cI N (fun _ => 0))]) s H1 locs → W p l e R s m args below meth c H1 locs (cells + 1) (slots + N) Q (F0 m (pc + 2) ls (.ref q :: rest))) : W p l e R s m args below meth c H locs cells slots Q (F0 m pc ls (.int (nI N) :: rest)) := by
  obtain ⟨hx, hb, hml, hown, hts⟩ := S
  refine va_newa (atype := .int) (ty := .int) (a0 := (N, .inl (fun _ => nI 0))) (N' := N) hx hb (hts _ harr) rfl hV.1.2.1 hV.1.1 hV.2.1 hV.2.2.1 hV.2.2.2 (fun _ => rfl) (fun q => absurd ((n_lt (b := 0) (by omega) (by omega)).mp q) (by omega)) (n_toNat (by omega)) (by show N * 4 ≤ _; omega) hcells hslots hdg (fun q cA H1 hK hP hD hS => ?_)
  obtain ⟨e, hK2⟩ := zT.add (k := 0) (c0 := cI) rfl hK
  subst e
  exact kk q H1 ⟨⟨hP, hK2, hV.1.2.2⟩, hD, hS, hV.2.2.2⟩
theorem zz_newq (S : CallFix p m c cc nL s args Ts own) (hV : zV D cI cR A ws s H locs) {index : Nat} (hcl : Cond.classLink own index RX1 ∈ Ts) (hov : va_AO RX1 s) {N : Nat} (hN : N ≤ 10000) (hcells : cells + 1 ≤ R.cells) (hslots : slots + N ≤ R.slots) (hdg : decode cc pc = .ok (.anewarray index, 3))
    (kk : ∀ (q : Nat) (H1 : Heap), zV D cI cR A (ws ++ [(q, zAR cR N (fun _ => none))]) s H1 locs → W p l e R s m args below meth c H1 locs (cells + 1) (slots + N) Q (F0 m (pc + 3) ls (.ref q :: rest))) : W p l e R s m args below meth c H locs cells slots Q (F0 m pc ls (.int (nI N) :: rest)) := by
  obtain ⟨hx, hb, hml, hown, hts⟩ := S
  refine va_newq (C := RX1) (N' := N) hx hb hown (hts _ hcl) hov hV.1.2.1 hV.1.1 hV.2.1 hV.2.2.1 hV.2.2.2 (fun q => absurd ((n_lt (b := 0) (by omega) (by omega)).mp q) (by omega)) (n_toNat (by omega)) (by omega) hcells hslots hdg (fun q cA H1 hK hP hD hS => ?_)
  obtain ⟨e, hK2⟩ := zT.add (k := 1) (c0 := cR) rfl hK
  subst e
  exact kk q H1 ⟨⟨hP, hK2, hV.1.2.2⟩, hD, hS, hV.2.2.2⟩
theorem zz_new (S : CallFix p m c cc nL s args Ts own) (hV : zV D cI cR A ws s H locs) {C : String} {T : u_T} {N ci index : Nat} (hin : ∀ w ∈ u_ws C T N, w ∈ Ts) (ty : Nat → FieldType) (hty : ∀ k, k < N → parseFieldDescriptor (T k).2.2.1 = some (ty k)) (hcl : Cond.classLink own index C ∈ Ts) (hinst : Cond.instantiable C N ∈ Ts) (hini : Cond.initialized C ∈ Ts) (hc : vwCl[ci]? = some (C, T, N)) {fs : List Value} (hfs : ∀ j, j < N → defaultValue (ty j) = vp_V fs j) (hcells : cells + 1 ≤ R.cells) (hslots : slots + N ≤ R.slots) (hdg : decode cc pc = .ok (.new index, 3))
    (kk : ∀ (q : Nat) (H1 : Heap), zV D cI cR A (ws ++ [(q, .inr (ci, fs))]) s H1 locs → W p l e R s m args below meth c H1 locs (cells + 1) (slots + N) Q (F0 m (pc + 3) ls (.ref q :: rest))) : W p l e R s m args below meth c H locs cells slots Q (F0 m pc ls rest) := by
  obtain ⟨hx, hb, hml, hown, hts⟩ := S
  exact va_new hx hb hts hin ty hty hown (hts _ hcl) (hts _ hinst) (hts _ hini) hV.1.2.1 hV.1.1 hV.2.1 hV.2.2.1 hV.2.2.2 hc hfs hcells hslots hdg (fun q H1 hP hD hS => kk q H1 ⟨⟨hP, hV.1.2⟩, hD, hS, hV.2.2.2⟩)
theorem zz_oinit (S : CallFix p m c cc nL s args Ts own) {index : Nat} (h1 : Cond.methodLink own index objectInit ∈ Ts) (h2 : Cond.instanceMethod objectInit ∈ Ts) (h3 : Cond.code objectInit ⟨#[0xb1]⟩ 1 none ∈ Ts) (hR : 1 ≤ R.frames ∧ (rest.map fun v => v.category).sum + 12 ≤ R.locals) (hz : cells ≤ R.cells ∧ slots ≤ R.slots) (hls : ls.size = nL) (hdg : decode cc pc = .ok (.invokespecial index, 3)) (kk : W p l e R s m args below meth c H locs cells slots Q (F0 m (pc + 3) ls rest)) : W p l e R s m args below meth c H locs cells slots Q (F0 m pc ls (.ref a :: rest)) := by
  obtain ⟨hx, hb, hml, hown, hts⟩ := S
  exact W.objInit hx hb hown (hts _ h1) (hts _ h2) (hts _ h3) rfl (hls.trans hml.symm) rfl hdg hR.1 (by show 2 * 0 + _ + 12 ≤ _; omega) kk
/-- a constructor of a class of ours -/
theorem zz_callI (S : CallFix p m c cc nL s args Ts own) (hV : zV D cI cR A ws s H locs) {y : MethodName} {bytes : ByteArray} {maxL : Nat} {wy wy' : List Cond} {rm : Room} {b : Nat} {As : List Value} {wc wr : va_W} {index mc ms : Nat} {post : va_W → Prop} (hM : Met l y wy rm (va_Pc (.ref b :: As) (zX D cI cR wc H.size)) (zQv D cI cR (va_A wc H.size) post) mc ms (va_A wc H.size)) (hG0 : GoodIn Ts wy) (n : Nat) (hw : wy = Cond.code y bytes maxL none :: wy') (hini : Cond.initialized y.cls ∈ Ts) (hl : Cond.methodLink own index y ∈ Ts) (hin : Cond.instanceMethod y ∈ Ts) (hy1 : y.name = "<init>") (hd : y.cls ≠ "java/lang/invoke/MethodHandle" ∧ y.cls ≠ "java/lang/invoke/VarHandle" ∧ (parseMethodDescriptor y.desc).map (fun d => d.parameters.length) = some n) (hR : (rm.cells = mc ∧ rm.slots = ms) ∧ rm.frames + 1 ≤ R.frames ∧ 8 + (maxL + 11) + rm.locals ≤ R.locals)
    (isC isR : List Nat) (hC : isC.map (fun i => ws[i]?) = wc.map some) (hRr : isR.map (fun i => ws[i]?) = wr.map some) (hnC : va_nd isC = true) (hnR : va_nd isR = true) (hdis : ∀ i ∈ isR, i ∉ isC) (hn : As.length = n) {stk : List Value} (hstk : stk = As.reverse ++ .ref b :: rest) (hcat : (rest.map fun v => v.category).sum ≤ 8) (hls : ls.size = nL) (hz : cells + mc ≤ R.cells ∧ slots + ms ≤ R.slots) (hdg : decode cc pc = .ok (.invokespecial index, 3))
    (kk : ∀ (w1 : va_W) (H1 : Heap) (locs1 : List Loc), post w1 → zV D cI cR A (wr ++ w1) s H1 locs1 → W p l e R s m args below meth c H1 locs1 (cells + mc) (slots + ms) Q (F0 m (pc + 3) ls rest)) : W p l e R s m args below meth c H locs cells slots Q (F0 m pc ls stk) := by
  subst hstk
  obtain ⟨hG, hD, hS, hA⟩ := id hV
  have hw0 := hG.sub isC (filterMap_of_map hC)
  have hDc := hD.sub isC hnC hC
  have hF := va_free (wc := wc) hD hS hA isC hC
  refine va_callv (va_runI (b := b) (As := As) (rest := rest) S hM (cwI n S.2.2.2.2 hG0 hw hR.1.1 hR.1.2 (S.2.2.2.2 _ hini) (S.2.2.2.2 _ hl) (S.2.2.2.2 _ hin) hy1 hd hR.2) ⟨zX.blind, fun U hU hW => ⟨rfl, by rw [hU], zW.of hw0 hU hW, hDc.weaken (fun _ _ _ _ => trivial)⟩⟩ rfl hn hls rfl (lv_room hcat) hdg hz) hS (fun q _ h => hF q h) hF (fun w1 t H1 locs1 ht hvm hp hB hz1 hk1 hS1 => ?_)
  obtain ⟨⟨hP1, -, -⟩, hD1⟩ := hB
  rw [ht] at hP1
  obtain ⟨hP2, hD2⟩ := va_join hG.1 hD isC isR hC hRr hnR hdis hk1 hF hP1 hD1
  exact kk w1 H1 locs1 hp ⟨⟨hP2, hG.2⟩, hD2, hS1, hA⟩
/-- a private constructor of a nest mate -/
theorem zz_callIN (S : CallFix p m c cc nL s args Ts own) (hV : zV D cI cR A ws s H locs) {y : MethodName} {bytes : ByteArray} {maxL : Nat} {wy wy' : List Cond} {rm : Room} {b : Nat} {As : List Value} {wc wr : va_W} {index mc ms : Nat} {host : String} {post : va_W → Prop} (hM : Met l y wy rm (va_Pc (.ref b :: As) (zX D cI cR wc H.size)) (zQv D cI cR (va_A wc H.size) post) mc ms (va_A wc H.size)) (hG0 : GoodIn Ts wy) (n : Nat) (hw : wy = Cond.code y bytes maxL none :: wy') (hini : Cond.initialized y.cls ∈ Ts) (hl : va_Nw (.methodLinkNest own index y host) s) (hin : Cond.instanceMethod y ∈ Ts) (hy1 : y.name = "<init>") (hd : y.cls ≠ "java/lang/invoke/MethodHandle" ∧ y.cls ≠ "java/lang/invoke/VarHandle" ∧ (parseMethodDescriptor y.desc).map (fun d => d.parameters.length) = some n) (hR : (rm.cells = mc ∧ rm.slots = ms) ∧ rm.frames + 1 ≤ R.frames ∧ 8 + (maxL + 11) + rm.locals ≤ R.locals)
    (isC isR : List Nat) (hC : isC.map (fun i => ws[i]?) = wc.map some) (hRr : isR.map (fun i => ws[i]?) = wr.map some) (hnC : va_nd isC = true) (hnR : va_nd isR = true) (hdis : ∀ i ∈ isR, i ∉ isC) (hn : As.length = n) {stk : List Value} (hstk : stk = As.reverse ++ .ref b :: rest) (hcat : (rest.map fun v => v.category).sum ≤ 8) (hls : ls.size = nL) (hz : cells + mc ≤ R.cells ∧ slots + ms ≤ R.slots) (hdg : decode cc pc = .ok (.invokespecial index, 3))
    (kk : ∀ (w1 : va_W) (H1 : Heap) (locs1 : List Loc), post w1 → zV D cI cR A (wr ++ w1) s H1 locs1 → W p l e R s m args below meth c H1 locs1 (cells + mc) (slots + ms) Q (F0 m (pc + 3) ls rest)) : W p l e R s m args below meth c H locs cells slots Q (F0 m pc ls stk) := by
  subst hstk
  obtain ⟨hG, hD, hS, hA⟩ := id hV
  have hw0 := hG.sub isC (filterMap_of_map hC)
  have hDc := hD.sub isC hnC hC
  have hF := va_free (wc := wc) hD hS hA isC hC
  refine va_callv (va_runIN (b := b) (As := As) (rest := rest) S hM ⟨va_cnB n S.2.2.2.2 hG0 hw hR.1.1 hR.1.2 hl (S.2.2.2.2 _ hini) hd hR.2, hy1, S.2.2.2.2 _ hin⟩ ⟨zX.blind, fun U hU hW => ⟨rfl, by rw [hU], zW.of hw0 hU hW, hDc.weaken (fun _ _ _ _ => trivial)⟩⟩ rfl hn hls rfl (lv_room hcat) hdg hz) hS (fun q _ h => hF q h) hF (fun w1 t H1 locs1 ht hvm hp hB hz1 hk1 hS1 => ?_)
  obtain ⟨⟨hP1, -, -⟩, hD1⟩ := hB
  rw [ht] at hP1
  obtain ⟨hP2, hD2⟩ := va_join hG.1 hD isC isR hC hRr hnR hdis hk1 hF hP1 hD1
  exact kk w1 H1 locs1 hp ⟨⟨hP2, hG.2⟩, hD2, hS1, hA⟩
-- rows of references
theorem zz_aald (S : CallFix p m c cc nL s args Ts own) (hG : zG D cI cR ws s H) (q0 : Nat) {n k : Nat} {f : Nat → Option Nat} (ha : ws[q0]? = some (a, zAR cR n f)) (hin : k < n ∧ n < 2147483648) (hdg : decode cc pc = .ok (.aaload, 1))
    (kk : W p l e R s m args below meth c H locs cells slots Q (F0 m (pc + 1) ls (va_rf (f k) :: rest))) : W p l e R s m args below meth c H locs cells slots Q (F0 m pc ls (.int (nI k) :: .ref a :: rest)) := by
  obtain ⟨hx, hb, -⟩ := S
  refine va_aldq hx hb hG.2.1 hG.1 q0 1 ha rfl (n_in hin.1 hin.2) hdg ?_
  rw [n_toNat (by omega)]
  exact kk
theorem zz_aast (S : CallFix p m c cc nL s args Ts own) (hV : zV D cI cR A ws s H locs) (q0 qk : Nat) {n k v : Nat} {vs : List Value} {f : Nat → Option Nat} (ha : ws[q0]? = some (a, zAR cR n f)) (hv : ws[qk]? = some (v, .inr (1, vs))) (hin : k < n ∧ n < 2147483648) {ws' : va_W} (hws : ws.set q0 (a, zAR cR n (va_up f k (some v))) = ws') (hdg : decode cc pc = .ok (.aastore, 1))
    (kk : ∀ (H1 : Heap) (locs1 : List Loc), zV D cI cR A ws' s H1 locs1 → W p l e R s m args below meth c H1 locs1 cells slots Q (F0 m (pc + 1) ls rest)) : W p l e R s m args below meth c H locs cells slots Q (F0 m pc ls (.ref v :: .int (nI k) :: .ref a :: rest)) := by
  obtain ⟨hx, hb, -⟩ := S
  subst hws
  refine va_astq hx hb hV.1.2.1 hV.1.1 hV.2.1 hV.2.2.1 q0 1 qk 1 (r := (RX1, TX1, 5)) ha rfl hv rfl (n_in hin.1 hin.2) hdg (fun H1 locs1 hP hD hS => ?_)
  rw [n_toNat (by omega)] at hP hD
  exact kk H1 locs1 ⟨⟨hP, hV.1.2⟩, hD, hS, hV.2.2.2⟩
theorem zz_castv {v v' : Value} (hv : v' = v) (k : W p l e R s m args below meth c H locs cells slots Q (F0 m pc ls (v :: rest))) : W p l e R s m args below meth c H locs cells slots Q (F0 m pc ls (v' :: rest)) := by subst hv; exact k
theorem zz_callVq (S : CallFix p m c cc nL s args Ts own) {y : MethodName} {bytes : ByteArray} {maxL : Nat} {ret : Option FieldType} {wy wy' : List Cond} {rm : Room} {b : Nat} {As : List Value} {v : Option Nat} {wc : va_W} {C : String} {index : Nat} (hM : Met l y wy rm (va_Pc (.ref b :: As) (zW D cI cR wc)) (va_Sq (fun r => r = v)) 0 0 (fun _ => False)) (hT : GoodIn Ts (wsV own index C y wy)) (n : Nat) (hw : wy = Cond.code y bytes maxL ret :: wy') (hd : y.cls = C ∧ y.cls ≠ "java/lang/invoke/MethodHandle" ∧ y.cls ≠ "java/lang/invoke/VarHandle" ∧ (parseMethodDescriptor y.desc).map (fun d => d.parameters.length) = some n) (hR : (rm.cells = 0 ∧ rm.slots = 0) ∧ rm.frames + 1 ≤ R.frames ∧ 8 + (maxL + 11) + rm.locals ≤ R.locals)
    (hG : zG D cI cR ws s H) (is : List Nat) (hsub : is.filterMap (fun i => ws[i]?) = wc) (q0 : Nat) {ci : Nat} {fs : List Value} {r : vw_C} (hc : vwCl[ci]? = some r) (hC : r.1 = C) (he : ws[q0]? = some (b, .inr (ci, fs))) (hn : As.length = n) {stk : List Value} (hstk : stk = As.reverse ++ .ref b :: rest) (hcat : (rest.map fun v => v.category).sum ≤ 8) (hls : ls.size = nL) (hz : cells ≤ R.cells ∧ slots ≤ R.slots) (hdg : decode cc pc = .ok (.invokevirtual index, 3))
    (kk : W p l e R s m args below meth c H locs cells slots Q (F0 m (pc + 3) ls (va_rf v :: rest))) : W p l e R s m args below meth c H locs cells slots Q (F0 m pc ls stk) := by
  subst hC
  have hw0 := hG.sub is hsub
  refine va_csq (W.runV (C := r.1) (b := b) (As := As) (rest := rest) S hM (cwV n S.2.2.2.2 hT hw hR.1.1 hR.1.2 hd hR.2) ⟨zW.blind, va_recv hG.2.1 hG.1 hc he, fun U hU hW => ⟨rfl, zW.of hw0 hU hW⟩⟩ rfl hn hls hstk (lv_room hcat) hdg ⟨hz.1, hz.2⟩) (fun r2 hr2 => ?_)
  subst hr2
  exact kk
theorem zz_aretS (S : CallFix p m c cc nL s args Ts own) {rt : FieldType} (hr : meth.sig.returnType = some rt) (hrt : (∃ n, rt = .object n) ∨ ∃ t, rt = .array t) (hlocks : meth.locks = false) {post : Option Nat → Prop} {v : Option Nat} (hp : post v) (hdg : decode cc pc = .ok (.areturn, 1)) : W p l e R s m args below meth c s.heap [] cells slots (MQ below (va_Sq post) args s cells slots (fun _ => False)) (F0 m pc ls [va_rf v]) :=
  W.aret S.1 S.2.1 hr hrt (va_rf_or v) (fun t ht _ => ⟨v, rfl, hp, ht⟩) (fun _ h => by cases h) hdg hlocks
end ZNW
theorem zAR_cell {cR : ClassId} {n : Nat} {f g : Nat → Option Nat} (h : ∀ j, j < n → f j = g j) : vp_cell cR (n, .inr (.inr (.inr (.inr f)))) = vp_cell cR (n, .inr (.inr (.inr (.inr g)))) := by
  have e : ∀ f : Nat → Option Nat, vp_cell cR (n, .inr (.inr (.inr (.inr f)))) = arrV cR n (fun j => va_rf (f j)) := fun _ => rfl
  rw [e, e]
  unfold arrV
  congr 1
  apply Array.ext
  · simp
  · intro i h1 h2
    simp at h1 h2
    simp [h i h1]
theorem zV.rarr {D : va_G} {cI cR : ClassId} {A : Nat → Prop} {ws ws' : va_W} {s : State} {H : Heap} {locs : List Loc} (h : zV D cI cR A ws s H locs) (q0 : Nat) {a n : Nat} {f g : Nat → Option Nat} (he : ws[q0]? = some (a, zAR cR n f)) (hfg : ∀ j, j < n → f j = g j) (hs : ws.set q0 (a, zAR cR n g) = ws') : zV D cI cR A ws' s H locs := by
  subst hs
  refine ⟨⟨fun k q hk => ?_, h.1.2⟩, h.2.1.set he, h.2.2⟩
  by_cases hkq : k = q0
  · subst hkq
    rw [List.getElem?_set_self (List.getElem?_eq_some_iff.mp he).1] at hk
    cases hk
    have h1 := h.1.1 k _ he
    show H[a]? = some (vp_cell cR (n, .inr (.inr (.inr (.inr g)))))
    rw [← zAR_cell hfg]
    exact h1
  · rw [List.getElem?_set_ne (Ne.symm hkq)] at hk
    exact h.1.1 k q hk
/-- four things by their place -/
def f4 (a b c d : Nat) : Nat → Nat := fun i => if i = 0 then a else if i = 1 then b else if i = 2 then c else d
def rg (qa : Nat → Nat) : Nat → Option Nat := fun j => if j < 4 then some (qa j) else none
theorem rg_t {qa : Nat → Nat} {k : Nat} (h : k < 4) : rg qa k = some (qa k) := if_pos h
