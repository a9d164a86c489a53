abbrev wm_X6_bestCost : List Cond := .code yX6_bestCost cX6_bestCost 1 (some .int) :: wU
theorem q_X6_bestCost : yX6_bestCost.cls = RX6 ∧ yX6_bestCost.cls ≠ "java/lang/invoke/MethodHandle" ∧ yX6_bestCost.cls ≠ "java/lang/invoke/VarHandle" ∧ (parseMethodDescriptor yX6_bestCost.desc).map (fun d => d.parameters.length) = some 0 := by decide +kernel
set_option maxHeartbeats 4000000 in
set_option maxRecDepth 100000 in
theorem c_X6_bestCost (l : Launch) (D : va_G) (cI cR : ClassId) (o a1 a2 a3 a4 a5 a6 ed C V Ac : Nat) (w : Nat → Nat) (rt : Nat → Nat) (bt : Nat → Nat) (n : Nat) (P X Y L : Nat → Nat) (sz : Nat) (hok : zOk n P X Y L) (hR : zRl w n P X Y L) (hset : zSt C V Ac) : Met l yX6_bestCost wm_X6_bestCost ({ frames := 4, cells := 0, slots := 0, locals := 98 } : Room) (va_Pc [.ref o] (zX D cI cR [(o, .inr (6, [.ref a1, .ref a2, .int (nI ed), .int (nI C), .int (nI V), .int (nI Ac), .ref a3, .ref a4, .ref a5, .ref a6])), (a1, zA cI 49 w), (a3, zA cI 4096 rt), (a4, zA cI 8 bt)] sz)) (zQi D cI cR (va_A [(o, .inr (6, [.ref a1, .ref a2, .int (nI ed), .int (nI C), .int (nI V), .int (nI Ac), .ref a3, .ref a4, .ref a5, .ref a6])), (a1, zA cI 49 w), (a3, zA cI 4096 rt), (a4, zA cI 8 bt)] sz) (fun r w0 => ∃ (rt5 : Nat → Nat) (bt5 : Nat → Nat), (w0 = [(o, .inr (6, [.ref a1, .ref a2, .int (nI ed), .int (nI C), .int (nI V), .int (nI Ac), .ref a3, .ref a4, .ref a5, .ref a6])), (a1, zA cI 49 w), (a3, zA cI 4096 rt5), (a4, zA cI 8 bt5)] ∧ r = nI (btot P X Y C n n)))) 0 0 (va_A [(o, .inr (6, [.ref a1, .ref a2, .int (nI ed), .int (nI C), .int (nI V), .int (nI Ac), .ref a3, .ref a4, .ref a5, .ref a6])), (a1, zA cI 49 w), (a3, zA cI 4096 rt), (a4, zA cI 8 bt)] sz) := by
  refine Met.ofW (cc := cX6_bestCost) (maxL := 1) (ret := (some .int)) (by decide) rfl ?_
  intro p e s m args below meth c s₁ B hml hv
  obtain ⟨rfl, hsz, hG, hD0⟩ := hv
  have S : CallFix p m c cX6_bestCost 1 s ([.ref o] : List Value).toArray wU RX6 := ⟨B.exec, B.bytes, hml, findClass_of_methodNamed B.named, fun w h => atoms_spec (ws := wm_X6_bestCost) B.pre w (List.mem_cons_of_mem _ h)⟩
  have hr := B.returns
  have hlocks := B.notSynchronized
  subst hsz
  have hD := hD0.self (sz := s.heap.size)
  generalize hAe : va_A [(o, .inr (6, [.ref a1, .ref a2, .int (nI ed), .int (nI C), .int (nI V), .int (nI Ac), .ref a3, .ref a4, .ref a5, .ref a6])), (a1, zA cI 49 w), (a3, zA cI 4096 rt), (a4, zA cI 8 bt)] s.heap.size = A at hD ⊢
  have hV : zV D cI cR A [(o, .inr (6, [.ref a1, .ref a2, .int (nI ed), .int (nI C), .int (nI V), .int (nI Ac), .ref a3, .ref a4, .ref a5, .ref a6])), (a1, zA cI 49 w), (a3, zA cI 4096 rt), (a4, zA cI 8 bt)] s s.heap [] := ⟨hG, hD, va_S.rf, fun q h => by rw [← hAe]; exact Or.inr h⟩
  have hl := lv_entry ([.ref o]) (n := 1) (Nat.le_of_ble_eq_true rfl)
  rw [lg_entry_eq]
  generalize (lg_sl ([.ref o]) ++ List.replicate (1 - (lg_sl ([.ref o])).length) Slot.unset).toArray = ls at hl ⊢
  have hl : lv_has ls 1 [(0, .ref o)] := hl
  obtain ⟨⟨hn, hPf, hXY⟩, hLf, hinj⟩ := id hok
  obtain ⟨hC, hV9, hA9⟩ := id hset
  refine lv_aload_n (pc := 0) S.1 S.2.1 dX6_bestCost_0 rfl (lv_at hl 0 rfl) ?_
  refine zz_callM (pc := 1) (As := []) (rest := []) (wr := []) S hV (c_X6_finds l D cI cR o a1 a2 a3 a4 a5 a6 ed C V Ac w rt bt n P X Y L s.heap.size hok hR hset) (zuV wd_550 wd_547 wd_548 wd_549 wd_5) 0 rfl q_X6_finds ⟨⟨rfl, rfl⟩, Nat.le_of_ble_eq_true rfl, Nat.le_of_ble_eq_true rfl⟩ [0, 1, 2, 3] [] rfl rfl (by decide) (by decide) (by decide) 0 rfl rfl rfl rfl rfl (Nat.le_of_ble_eq_true rfl) hl.1 ⟨Nat.zero_le _, Nat.zero_le _⟩ dX6_bestCost_1 (fun r1 w1 H locs hp hV => ?_)
  obtain ⟨rt5x1, bt5x1, ⟨rfl, rfl⟩, hbt5x1⟩ := hp
  have hV : zV D cI cR A [(o, .inr (6, [.ref a1, .ref a2, .int (nI ed), .int (nI C), .int (nI V), .int (nI Ac), .ref a3, .ref a4, .ref a5, .ref a6])), (a1, zA cI 49 w), (a3, zA cI 4096 rt5x1), (a4, zA cI 8 bt5x1)] s H locs := hV.perm [0, 1, 2, 3] (by decide) rfl
  exact zz_iretM (pc := 4) S hr hlocks hV (⟨rt5x1, bt5x1, ⟨rfl, rfl⟩⟩) dX6_bestCost_4
abbrev wm_X6_bestAt : List Cond := .code yX6_bestAt cX6_bestAt 2 (some .int) :: wU
theorem q_X6_bestAt : yX6_bestAt.cls = RX6 ∧ yX6_bestAt.cls ≠ "java/lang/invoke/MethodHandle" ∧ yX6_bestAt.cls ≠ "java/lang/invoke/VarHandle" ∧ (parseMethodDescriptor yX6_bestAt.desc).map (fun d => d.parameters.length) = some 1 := by decide +kernel
set_option maxHeartbeats 4000000 in
set_option maxRecDepth 100000 in
theorem c_X6_bestAt_e (l : Launch) (D : va_G) (cI cR : ClassId) (o a1 a2 a3 a4 a5 a6 ed C V Ac : Nat) (w : Nat → Nat) (n : Nat) (P X Y L : Nat → Nat) (a : Int) (hok : zOk n P X Y L) (hR : zRl w n P X Y L) (hset : zSt C V Ac) (ha : zR a) (hbad : a < 0) : Met l yX6_bestAt wm_X6_bestAt ({ frames := 0, cells := 0, slots := 0, locals := 0 } : Room) (va_Pc [.ref o, .int (zI a)] (zW D cI cR [(o, .inr (6, [.ref a1, .ref a2, .int (nI ed), .int (nI C), .int (nI V), .int (nI Ac), .ref a3, .ref a4, .ref a5, .ref a6])), (a1, zA cI 49 w)])) (vp_Si (fun r => r = zI (-1))) 0 0 (fun _ => False) := by
  refine Met.ofW (cc := cX6_bestAt) (maxL := 2) (ret := (some .int)) (by decide) rfl ?_
  intro p e s m args below meth c s₁ B hml hv
  obtain ⟨rfl, hG⟩ := hv
  have S : CallFix p m c cX6_bestAt 2 s ([.ref o, .int (zI a)] : List Value).toArray wU RX6 := ⟨B.exec, B.bytes, hml, findClass_of_methodNamed B.named, fun w h => atoms_spec (ws := wm_X6_bestAt) B.pre w (List.mem_cons_of_mem _ h)⟩
  have hr := B.returns
  have hlocks := B.notSynchronized
  have hG : zG D cI cR [(o, .inr (6, [.ref a1, .ref a2, .int (nI ed), .int (nI C), .int (nI V), .int (nI Ac), .ref a3, .ref a4, .ref a5, .ref a6])), (a1, zA cI 49 w)] s s.heap := hG
  have hl := lv_entry ([.ref o, .int (zI a)]) (n := 2) (Nat.le_of_ble_eq_true rfl)
  rw [lg_entry_eq]
  generalize (lg_sl ([.ref o, .int (zI a)]) ++ List.replicate (2 - (lg_sl ([.ref o, .int (zI a)])).length) Slot.unset).toArray = ls at hl ⊢
  have hl : lv_has ls 2 [(0, .ref o), (1, .int (zI a))] := hl
  have r_ha := id ha
  unfold zR at r_ha
  obtain ⟨⟨hn, hPf, hXY⟩, hLf, hinj⟩ := id hok
  obtain ⟨hC, hV9, hA9⟩ := id hset
  refine lv_iload_n (pc := 0) S.1 S.2.1 dX6_bestAt_0 rfl (lv_at hl 1 rfl) ?_
  refine zz_if_ge (pc := 1) (tgt := 6) S dX6_bestAt_1 (by decide) (z_ge0 (by unfold zR; omega)) (fun c1 => ?_) (fun c1 => ?_)
  · exfalso; omega
  · refine zz_iconst (pc := 4) (v := zI (-1)) S dX6_bestAt_4 rfl ?_
    exact zz_iretS (pc := 5) S hr hlocks (rfl) dX6_bestAt_5
set_option maxHeartbeats 4000000 in
set_option maxRecDepth 100000 in
theorem c_X6_bestAt_f (l : Launch) (D : va_G) (cI cR : ClassId) (o a1 a2 a3 a4 a5 a6 ed C V Ac : Nat) (w : Nat → Nat) (rt : Nat → Nat) (bt : Nat → Nat) (n : Nat) (P X Y L : Nat → Nat) (a : Int) (sz : Nat) (hok : zOk n P X Y L) (hR : zRl w n P X Y L) (hset : zSt C V Ac) (ha : zR a) (hbad : (n : Int) ≤ a) : Met l yX6_bestAt wm_X6_bestAt ({ frames := 4, cells := 0, slots := 0, locals := 98 } : Room) (va_Pc [.ref o, .int (zI a)] (zX D cI cR [(o, .inr (6, [.ref a1, .ref a2, .int (nI ed), .int (nI C), .int (nI V), .int (nI Ac), .ref a3, .ref a4, .ref a5, .ref a6])), (a1, zA cI 49 w), (a3, zA cI 4096 rt), (a4, zA cI 8 bt)] sz)) (zQi D cI cR (va_A [(o, .inr (6, [.ref a1, .ref a2, .int (nI ed), .int (nI C), .int (nI V), .int (nI Ac), .ref a3, .ref a4, .ref a5, .ref a6])), (a1, zA cI 49 w), (a3, zA cI 4096 rt), (a4, zA cI 8 bt)] sz) (fun r w0 => ∃ (rt5 : Nat → Nat) (bt5 : Nat → Nat), (w0 = [(o, .inr (6, [.ref a1, .ref a2, .int (nI ed), .int (nI C), .int (nI V), .int (nI Ac), .ref a3, .ref a4, .ref a5, .ref a6])), (a1, zA cI 49 w), (a3, zA cI 4096 rt5), (a4, zA cI 8 bt5)] ∧ r = zI (-3)))) 0 0 (va_A [(o, .inr (6, [.ref a1, .ref a2, .int (nI ed), .int (nI C), .int (nI V), .int (nI Ac), .ref a3, .ref a4, .ref a5, .ref a6])), (a1, zA cI 49 w), (a3, zA cI 4096 rt), (a4, zA cI 8 bt)] sz) := by
  refine Met.ofW (cc := cX6_bestAt) (maxL := 2) (ret := (some .int)) (by decide) rfl ?_
  intro p e s m args below meth c s₁ B hml hv
  obtain ⟨rfl, hsz, hG, hD0⟩ := hv
  have S : CallFix p m c cX6_bestAt 2 s ([.ref o, .int (zI a)] : List Value).toArray wU RX6 := ⟨B.exec, B.bytes, hml, findClass_of_methodNamed B.named, fun w h => atoms_spec (ws := wm_X6_bestAt) B.pre w (List.mem_cons_of_mem _ h)⟩
  have hr := B.returns
  have hlocks := B.notSynchronized
  subst hsz
  have hD := hD0.self (sz := s.heap.size)
  generalize hAe : va_A [(o, .inr (6, [.ref a1, .ref a2, .int (nI ed), .int (nI C), .int (nI V), .int (nI Ac), .ref a3, .ref a4, .ref a5, .ref a6])), (a1, zA cI 49 w), (a3, zA cI 4096 rt), (a4, zA cI 8 bt)] s.heap.size = A at hD ⊢
  have hV : zV D cI cR A [(o, .inr (6, [.ref a1, .ref a2, .int (nI ed), .int (nI C), .int (nI V), .int (nI Ac), .ref a3, .ref a4, .ref a5, .ref a6])), (a1, zA cI 49 w), (a3, zA cI 4096 rt), (a4, zA cI 8 bt)] s s.heap [] := ⟨hG, hD, va_S.rf, fun q h => by rw [← hAe]; exact Or.inr h⟩
  have hl := lv_entry ([.ref o, .int (zI a)]) (n := 2) (Nat.le_of_ble_eq_true rfl)
  rw [lg_entry_eq]
  generalize (lg_sl ([.ref o, .int (zI a)]) ++ List.replicate (2 - (lg_sl ([.ref o, .int (zI a)])).length) Slot.unset).toArray = ls at hl ⊢
  have hl : lv_has ls 2 [(0, .ref o), (1, .int (zI a))] := hl
  have r_ha := id ha
  unfold zR at r_ha
  obtain ⟨⟨hn, hPf, hXY⟩, hLf, hinj⟩ := id hok
  obtain ⟨hC, hV9, hA9⟩ := id hset
  refine lv_iload_n (pc := 0) S.1 S.2.1 dX6_bestAt_0 rfl (lv_at hl 1 rfl) ?_
  refine zz_if_ge (pc := 1) (tgt := 6) S dX6_bestAt_1 (by decide) (z_ge0 (by unfold zR; omega)) (fun c1 => ?_) (fun c1 => ?_)
  · refine lv_aload_n (pc := 6) S.1 S.2.1 dX6_bestAt_6 rfl (lv_at hl 0 rfl) ?_
    refine zz_callM (pc := 7) (As := []) (rest := []) (wr := []) S hV (c_X6_finds l D cI cR o a1 a2 a3 a4 a5 a6 ed C V Ac w rt bt n P X Y L s.heap.size hok hR hset) (zuV wd_550 wd_547 wd_548 wd_549 wd_5) 0 rfl q_X6_finds ⟨⟨rfl, rfl⟩, Nat.le_of_ble_eq_true rfl, Nat.le_of_ble_eq_true rfl⟩ [0, 1, 2, 3] [] rfl rfl (by decide) (by decide) (by decide) 0 rfl rfl rfl rfl rfl (Nat.le_of_ble_eq_true rfl) hl.1 ⟨Nat.zero_le _, Nat.zero_le _⟩ dX6_bestAt_7 (fun r1 w1 H locs hp hV => ?_)
    obtain ⟨rt5x1, bt5x1, ⟨rfl, rfl⟩, hbt5x1⟩ := hp
    have hV : zV D cI cR A [(o, .inr (6, [.ref a1, .ref a2, .int (nI ed), .int (nI C), .int (nI V), .int (nI Ac), .ref a3, .ref a4, .ref a5, .ref a6])), (a1, zA cI 49 w), (a3, zA cI 4096 rt5x1), (a4, zA cI 8 bt5x1)] s H locs := hV.perm [0, 1, 2, 3] (by decide) rfl
    refine lv_pop (pc := 10) S.1 S.2.1 dX6_bestAt_10 rfl ?_
    refine lv_aload_n (pc := 11) S.1 S.2.1 dX6_bestAt_11 rfl (lv_at hl 0 rfl) ?_
    refine lv_iload_n (pc := 12) S.1 S.2.1 dX6_bestAt_12 rfl (lv_at hl 1 rfl) ?_
    refine zz_callV (pc := 13) (As := [.int (zI a)]) (rest := []) S (c_X6_isPosition l D cI cR o a1 a2 a3 a4 a5 a6 ed C V Ac w n P X Y L a hok.1 hR hset (by unfold zR; omega)) (zuV wd_360 wd_357 wd_358 wd_359 wd_5) 1 rfl q_X6_isPosition ⟨⟨rfl, rfl⟩, Nat.le_of_ble_eq_true rfl, Nat.le_of_ble_eq_true rfl⟩ hV.1 [0, 1] rfl 0 rfl rfl rfl rfl rfl (Nat.le_of_ble_eq_true rfl) hl.1 ⟨Nat.zero_le _, Nat.zero_le _⟩ dX6_bestAt_13 ?_
    refine zz_ifb_eq (pc := 16) (tgt := 28) S dX6_bestAt_16 (by decide) (fun c16 => ?_) (fun c16 => ?_)
    · refine zz_bipush (pc := 28) (v := zI (-3)) S dX6_bestAt_28 rfl ?_
      exact zz_iretM (pc := 30) S hr hlocks hV (⟨rt5x1, bt5x1, ⟨rfl, rfl⟩⟩) dX6_bestAt_30
    · exfalso; omega
  · exfalso; omega
set_option maxHeartbeats 4000000 in
set_option maxRecDepth 100000 in
theorem c_X6_bestAt_k (l : Launch) (D : va_G) (cI cR : ClassId) (o a1 a2 a3 a4 a5 a6 ed C V Ac : Nat) (w : Nat → Nat) (rt : Nat → Nat) (bt : Nat → Nat) (n : Nat) (P X Y L : Nat → Nat) (a : Nat) (sz : Nat) (hok : zOk n P X Y L) (hR : zRl w n P X Y L) (hset : zSt C V Ac) (ha : a < n) : Met l yX6_bestAt wm_X6_bestAt ({ frames := 4, cells := 0, slots := 0, locals := 98 } : Room) (va_Pc [.ref o, .int (nI a)] (zX D cI cR [(o, .inr (6, [.ref a1, .ref a2, .int (nI ed), .int (nI C), .int (nI V), .int (nI Ac), .ref a3, .ref a4, .ref a5, .ref a6])), (a1, zA cI 49 w), (a3, zA cI 4096 rt), (a4, zA cI 8 bt)] sz)) (zQi D cI cR (va_A [(o, .inr (6, [.ref a1, .ref a2, .int (nI ed), .int (nI C), .int (nI V), .int (nI Ac), .ref a3, .ref a4, .ref a5, .ref a6])), (a1, zA cI 49 w), (a3, zA cI 4096 rt), (a4, zA cI 8 bt)] sz) (fun r w0 => ∃ (rt5 : Nat → Nat) (bt5 : Nat → Nat), (w0 = [(o, .inr (6, [.ref a1, .ref a2, .int (nI ed), .int (nI C), .int (nI V), .int (nI Ac), .ref a3, .ref a4, .ref a5, .ref a6])), (a1, zA cI 49 w), (a3, zA cI 4096 rt5), (a4, zA cI 8 bt5)] ∧ r = nI (bcd P X Y C n a)))) 0 0 (va_A [(o, .inr (6, [.ref a1, .ref a2, .int (nI ed), .int (nI C), .int (nI V), .int (nI Ac), .ref a3, .ref a4, .ref a5, .ref a6])), (a1, zA cI 49 w), (a3, zA cI 4096 rt), (a4, zA cI 8 bt)] sz) := by
  refine Met.ofW (cc := cX6_bestAt) (maxL := 2) (ret := (some .int)) (by decide) rfl ?_
  intro p e s m args below meth c s₁ B hml hv
  obtain ⟨rfl, hsz, hG, hD0⟩ := hv
  have S : CallFix p m c cX6_bestAt 2 s ([.ref o, .int (nI a)] : List Value).toArray wU RX6 := ⟨B.exec, B.bytes, hml, findClass_of_methodNamed B.named, fun w h => atoms_spec (ws := wm_X6_bestAt) B.pre w (List.mem_cons_of_mem _ h)⟩
  have hr := B.returns
  have hlocks := B.notSynchronized
  subst hsz
  have hD := hD0.self (sz := s.heap.size)
  generalize hAe : va_A [(o, .inr (6, [.ref a1, .ref a2, .int (nI ed), .int (nI C), .int (nI V), .int (nI Ac), .ref a3, .ref a4, .ref a5, .ref a6])), (a1, zA cI 49 w), (a3, zA cI 4096 rt), (a4, zA cI 8 bt)] s.heap.size = A at hD ⊢
  have hV : zV D cI cR A [(o, .inr (6, [.ref a1, .ref a2, .int (nI ed), .int (nI C), .int (nI V), .int (nI Ac), .ref a3, .ref a4, .ref a5, .ref a6])), (a1, zA cI 49 w), (a3, zA cI 4096 rt), (a4, zA cI 8 bt)] s s.heap [] := ⟨hG, hD, va_S.rf, fun q h => by rw [← hAe]; exact Or.inr h⟩
  have hl := lv_entry ([.ref o, .int (nI a)]) (n := 2) (Nat.le_of_ble_eq_true rfl)
  rw [lg_entry_eq]
  generalize (lg_sl ([.ref o, .int (nI a)]) ++ List.replicate (2 - (lg_sl ([.ref o, .int (nI a)])).length) Slot.unset).toArray = ls at hl ⊢
  have hl : lv_has ls 2 [(0, .ref o), (1, .int (nI a))] := hl
  obtain ⟨⟨hn, hPf, hXY⟩, hLf, hinj⟩ := id hok
  obtain ⟨hC, hV9, hA9⟩ := id hset
  refine lv_iload_n (pc := 0) S.1 S.2.1 dX6_bestAt_0 rfl (lv_at hl 1 rfl) ?_
  refine zz_if_ge (pc := 1) (tgt := 6) S dX6_bestAt_1 (by decide) (n_ge0 (by omega)) (fun c1 => ?_) (fun c1 => ?_)
  · refine lv_aload_n (pc := 6) S.1 S.2.1 dX6_bestAt_6 rfl (lv_at hl 0 rfl) ?_
    refine zz_callM (pc := 7) (As := []) (rest := []) (wr := []) S hV (c_X6_finds l D cI cR o a1 a2 a3 a4 a5 a6 ed C V Ac w rt bt n P X Y L s.heap.size hok hR hset) (zuV wd_550 wd_547 wd_548 wd_549 wd_5) 0 rfl q_X6_finds ⟨⟨rfl, rfl⟩, Nat.le_of_ble_eq_true rfl, Nat.le_of_ble_eq_true rfl⟩ [0, 1, 2, 3] [] rfl rfl (by decide) (by decide) (by decide) 0 rfl rfl rfl rfl rfl (Nat.le_of_ble_eq_true rfl) hl.1 ⟨Nat.zero_le _, Nat.zero_le _⟩ dX6_bestAt_7 (fun r1 w1 H locs hp hV => ?_)
    obtain ⟨rt5x1, bt5x1, ⟨rfl, rfl⟩, hbt5x1⟩ := hp
    have hV : zV D cI cR A [(o, .inr (6, [.ref a1, .ref a2, .int (nI ed), .int (nI C), .int (nI V), .int (nI Ac), .ref a3, .ref a4, .ref a5, .ref a6])), (a1, zA cI 49 w), (a3, zA cI 4096 rt5x1), (a4, zA cI 8 bt5x1)] s H locs := hV.perm [0, 1, 2, 3] (by decide) rfl
    refine lv_pop (pc := 10) S.1 S.2.1 dX6_bestAt_10 rfl ?_
    refine lv_aload_n (pc := 11) S.1 S.2.1 dX6_bestAt_11 rfl (lv_at hl 0 rfl) ?_
    refine lv_iload_n (pc := 12) S.1 S.2.1 dX6_bestAt_12 rfl (lv_at hl 1 rfl) ?_
    refine zz_callV (pc := 13) (As := [.int (zI ((a : Nat) : Int))]) (rest := []) S (c_X6_isPosition l D cI cR o a1 a2 a3 a4 a5 a6 ed C V Ac w n P X Y L ((a : Nat) : Int) hok.1 hR hset (by unfold zR; omega)) (zuV wd_360 wd_357 wd_358 wd_359 wd_5) 1 rfl q_X6_isPosition ⟨⟨rfl, rfl⟩, Nat.le_of_ble_eq_true rfl, Nat.le_of_ble_eq_true rfl⟩ hV.1 [0, 1] rfl 0 rfl rfl rfl rfl rfl (Nat.le_of_ble_eq_true rfl) hl.1 ⟨Nat.zero_le _, Nat.zero_le _⟩ dX6_bestAt_13 ?_
    refine zz_ifb_eq (pc := 16) (tgt := 28) S dX6_bestAt_16 (by decide) (fun c16 => ?_) (fun c16 => ?_)
    · exfalso; omega
    · refine lv_aload_n (pc := 19) S.1 S.2.1 dX6_bestAt_19 rfl (lv_at hl 0 rfl) ?_
      refine zz_get (pc := 20) S hV.1 iX6 0 rfl rfl 7 (by decide) wd_73 rfl rfl dX6_bestAt_20 ?_
      refine lv_iload_n (pc := 23) S.1 S.2.1 dX6_bestAt_23 rfl (lv_at hl 1 rfl) ?_
      refine zz_iald (pc := 24) (k := a) S hV.1 3 rfl (by omega) dX6_bestAt_24 ?_
      refine lv_goto (pc := 25) (tgt := 30) S.1 S.2.1 dX6_bestAt_25 (by decide) ?_
      exact zz_iretM (pc := 30) S hr hlocks hV (⟨rt5x1, bt5x1, ⟨rfl, congrArg nI (by exact hbt5x1 a ha)⟩⟩) dX6_bestAt_30
  · exfalso; omega
