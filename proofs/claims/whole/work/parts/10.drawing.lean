abbrev wm_X5_isWithin : List Cond := .code yX5_isWithin cX5_isWithin 3 (some .boolean) :: wU
theorem q_X5_isWithin : yX5_isWithin.cls = RX5 ∧ yX5_isWithin.cls ≠ "java/lang/invoke/MethodHandle" ∧ yX5_isWithin.cls ≠ "java/lang/invoke/VarHandle" ∧ (parseMethodDescriptor yX5_isWithin.desc).map (fun d => d.parameters.length) = some 3 := by decide +kernel
set_option maxHeartbeats 4000000 in
set_option maxRecDepth 100000 in
theorem c_X5_isWithin (l : Launch) (D : va_G) (cI cR : ClassId) (v : Int) (lo : Int) (hi : Int) (hv : zR v) (hlo : zR lo) (hhi : zR hi) : Met l yX5_isWithin wm_X5_isWithin ({ frames := 0, cells := 0, slots := 0, locals := 0 } : Room) (va_Pc [.int (zI v), .int (zI lo), .int (zI hi)] (fun _ => True)) (vp_Si (fun r => r = nI (zB (lo ≤ v ∧ v ≤ hi)))) 0 0 (fun _ => False) := by
  refine Met.ofW (cc := cX5_isWithin) (maxL := 3) (ret := (some .boolean)) (by decide) rfl ?_
  intro p e s m args below meth c s₁ B hml hv
  obtain ⟨rfl, hG⟩ := hv
  have S : CallFix p m c cX5_isWithin 3 s ([.int (zI v), .int (zI lo), .int (zI hi)] : List Value).toArray wU RX5 := ⟨B.exec, B.bytes, hml, findClass_of_methodNamed B.named, fun w h => atoms_spec (ws := wm_X5_isWithin) B.pre w (List.mem_cons_of_mem _ h)⟩
  have hr := B.returns
  have hlocks := B.notSynchronized
  have hl := lv_entry ([.int (zI v), .int (zI lo), .int (zI hi)]) (n := 3) (Nat.le_of_ble_eq_true rfl)
  rw [lg_entry_eq]
  generalize (lg_sl ([.int (zI v), .int (zI lo), .int (zI hi)]) ++ List.replicate (3 - (lg_sl ([.int (zI v), .int (zI lo), .int (zI hi)])).length) Slot.unset).toArray = ls at hl ⊢
  have hl : lv_has ls 3 [(0, .int (zI v)), (1, .int (zI lo)), (2, .int (zI hi))] := hl
  have r_hv := id hv
  unfold zR at r_hv
  have r_hlo := id hlo
  unfold zR at r_hlo
  have r_hhi := id hhi
  unfold zR at r_hhi
  refine lv_iload_n (pc := 0) S.1 S.2.1 dX5_isWithin_0 rfl (lv_at hl 0 rfl) ?_
  refine lv_iload_n (pc := 1) S.1 S.2.1 dX5_isWithin_1 rfl (lv_at hl 1 rfl) ?_
  refine zz_icmp_lt (pc := 2) (tgt := 14) S dX5_isWithin_2 (by decide) (zI_lt (a := v) (b := lo) (by unfold zR; omega) (by unfold zR; omega)) (fun c2 => ?_) (fun c2 => ?_)
  · refine zz_iconst (pc := 14) (v := nI 0) S dX5_isWithin_14 rfl ?_
    exact zz_bretS (pc := 15) S hr hlocks (by decide) (congrArg nI (zB_f (by first | omega | rfl)).symm) dX5_isWithin_15
  · refine lv_iload_n (pc := 5) S.1 S.2.1 dX5_isWithin_5 rfl (lv_at hl 0 rfl) ?_
    refine lv_iload_n (pc := 6) S.1 S.2.1 dX5_isWithin_6 rfl (lv_at hl 2 rfl) ?_
    refine zz_icmp_gt (pc := 7) (tgt := 14) S dX5_isWithin_7 (by decide) (zI_lt (a := hi) (b := v) (by unfold zR; omega) (by unfold zR; omega)) (fun c7 => ?_) (fun c7 => ?_)
    · refine zz_iconst (pc := 14) (v := nI 0) S dX5_isWithin_14 rfl ?_
      exact zz_bretS (pc := 15) S hr hlocks (by decide) (congrArg nI (zB_f (by first | omega | rfl)).symm) dX5_isWithin_15
    · refine zz_iconst (pc := 10) (v := nI 1) S dX5_isWithin_10 rfl ?_
      refine lv_goto (pc := 11) (tgt := 15) S.1 S.2.1 dX5_isWithin_11 (by decide) ?_
      exact zz_bretS (pc := 15) S hr hlocks (by decide) (congrArg nI (zB_t (by first | omega | rfl)).symm) dX5_isWithin_15
abbrev wm_X5_isPoint : List Cond := .code yX5_isPoint cX5_isPoint 2 (some .boolean) :: wU
theorem q_X5_isPoint : yX5_isPoint.cls = RX5 ∧ yX5_isPoint.cls ≠ "java/lang/invoke/MethodHandle" ∧ yX5_isPoint.cls ≠ "java/lang/invoke/VarHandle" ∧ (parseMethodDescriptor yX5_isPoint.desc).map (fun d => d.parameters.length) = some 2 := by decide +kernel
set_option maxHeartbeats 4000000 in
set_option maxRecDepth 100000 in
theorem c_X5_isPoint (l : Launch) (D : va_G) (cI cR : ClassId) (x : Int) (y : Int) (hx : zR x) (hy : zR y) : Met l yX5_isPoint wm_X5_isPoint ({ frames := 1, cells := 0, slots := 0, locals := 22 } : Room) (va_Pc [.int (zI x), .int (zI y)] (fun _ => True)) (vp_Si (fun r => r = nI (zB ((0 ≤ x ∧ x ≤ 99) ∧ 0 ≤ y ∧ y ≤ 99)))) 0 0 (fun _ => False) := by
  refine Met.ofW (cc := cX5_isPoint) (maxL := 2) (ret := (some .boolean)) (by decide) rfl ?_
  intro p e s m args below meth c s₁ B hml hv
  obtain ⟨rfl, hG⟩ := hv
  have S : CallFix p m c cX5_isPoint 2 s ([.int (zI x), .int (zI y)] : List Value).toArray wU RX5 := ⟨B.exec, B.bytes, hml, findClass_of_methodNamed B.named, fun w h => atoms_spec (ws := wm_X5_isPoint) B.pre w (List.mem_cons_of_mem _ h)⟩
  have hr := B.returns
  have hlocks := B.notSynchronized
  have hl := lv_entry ([.int (zI x), .int (zI y)]) (n := 2) (Nat.le_of_ble_eq_true rfl)
  rw [lg_entry_eq]
  generalize (lg_sl ([.int (zI x), .int (zI y)]) ++ List.replicate (2 - (lg_sl ([.int (zI x), .int (zI y)])).length) Slot.unset).toArray = ls at hl ⊢
  have hl : lv_has ls 2 [(0, .int (zI x)), (1, .int (zI y))] := hl
  have r_hx := id hx
  unfold zR at r_hx
  have r_hy := id hy
  unfold zR at r_hy
  refine lv_iload_n (pc := 0) S.1 S.2.1 dX5_isPoint_0 rfl (lv_at hl 0 rfl) ?_
  refine zz_iconst (pc := 1) (v := nI 0) S dX5_isPoint_1 rfl ?_
  refine zz_bipush (pc := 2) (v := nI 99) S dX5_isPoint_2 rfl ?_
  refine zz_callS (pc := 4) (As := [.int (zI x), .int (zI 0), .int (zI 99)]) (rest := []) S (c_X5_isWithin l D cI cR x 0 99 (by unfold zR; omega) (by unfold zR; omega) (by unfold zR; omega)) (zuS wd_85 wd_83 wd_84 wd_2) 3 rfl q_X5_isWithin.2 ⟨⟨rfl, rfl⟩, Nat.le_of_ble_eq_true rfl, Nat.le_of_ble_eq_true rfl⟩ rfl rfl (Nat.le_of_ble_eq_true rfl) hl.1 ⟨Nat.zero_le _, Nat.zero_le _⟩ dX5_isPoint_4 ?_
  refine zz_ifb_eq (pc := 7) (tgt := 24) S dX5_isPoint_7 (by decide) (fun c7 => ?_) (fun c7 => ?_)
  · refine zz_iconst (pc := 24) (v := nI 0) S dX5_isPoint_24 rfl ?_
    exact zz_bretS (pc := 25) S hr hlocks (by decide) (congrArg nI (zB_f (by first | omega | rfl)).symm) dX5_isPoint_25
  · refine lv_iload_n (pc := 10) S.1 S.2.1 dX5_isPoint_10 rfl (lv_at hl 1 rfl) ?_
    refine zz_iconst (pc := 11) (v := nI 0) S dX5_isPoint_11 rfl ?_
    refine zz_bipush (pc := 12) (v := nI 99) S dX5_isPoint_12 rfl ?_
    refine zz_callS (pc := 14) (As := [.int (zI y), .int (zI 0), .int (zI 99)]) (rest := []) S (c_X5_isWithin l D cI cR y 0 99 (by unfold zR; omega) (by unfold zR; omega) (by unfold zR; omega)) (zuS wd_85 wd_83 wd_84 wd_2) 3 rfl q_X5_isWithin.2 ⟨⟨rfl, rfl⟩, Nat.le_of_ble_eq_true rfl, Nat.le_of_ble_eq_true rfl⟩ rfl rfl (Nat.le_of_ble_eq_true rfl) hl.1 ⟨Nat.zero_le _, Nat.zero_le _⟩ dX5_isPoint_14 ?_
    refine zz_ifb_eq (pc := 17) (tgt := 24) S dX5_isPoint_17 (by decide) (fun c17 => ?_) (fun c17 => ?_)
    · refine zz_iconst (pc := 24) (v := nI 0) S dX5_isPoint_24 rfl ?_
      exact zz_bretS (pc := 25) S hr hlocks (by decide) (congrArg nI (zB_f (by first | omega | rfl)).symm) dX5_isPoint_25
    · refine zz_iconst (pc := 20) (v := nI 1) S dX5_isPoint_20 rfl ?_
      refine lv_goto (pc := 21) (tgt := 25) S.1 S.2.1 dX5_isPoint_21 (by decide) ?_
      exact zz_bretS (pc := 25) S hr hlocks (by decide) (congrArg nI (zB_t (by first | omega | rfl)).symm) dX5_isPoint_25
abbrev wm_X5_isPen : List Cond := .code yX5_isPen cX5_isPen 1 (some .boolean) :: wU
theorem q_X5_isPen : yX5_isPen.cls = RX5 ∧ yX5_isPen.cls ≠ "java/lang/invoke/MethodHandle" ∧ yX5_isPen.cls ≠ "java/lang/invoke/VarHandle" ∧ (parseMethodDescriptor yX5_isPen.desc).map (fun d => d.parameters.length) = some 1 := by decide +kernel
set_option maxHeartbeats 4000000 in
set_option maxRecDepth 100000 in
theorem c_X5_isPen (l : Launch) (D : va_G) (cI cR : ClassId) (x : Int) (hx : zR x) : Met l yX5_isPen wm_X5_isPen ({ frames := 1, cells := 0, slots := 0, locals := 22 } : Room) (va_Pc [.int (zI x)] (fun _ => True)) (vp_Si (fun r => r = nI (zB (0 ≤ x ∧ x ≤ 3)))) 0 0 (fun _ => False) := by
  refine Met.ofW (cc := cX5_isPen) (maxL := 1) (ret := (some .boolean)) (by decide) rfl ?_
  intro p e s m args below meth c s₁ B hml hv
  obtain ⟨rfl, hG⟩ := hv
  have S : CallFix p m c cX5_isPen 1 s ([.int (zI x)] : List Value).toArray wU RX5 := ⟨B.exec, B.bytes, hml, findClass_of_methodNamed B.named, fun w h => atoms_spec (ws := wm_X5_isPen) B.pre w (List.mem_cons_of_mem _ h)⟩
  have hr := B.returns
  have hlocks := B.notSynchronized
  have hl := lv_entry ([.int (zI x)]) (n := 1) (Nat.le_of_ble_eq_true rfl)
  rw [lg_entry_eq]
  generalize (lg_sl ([.int (zI x)]) ++ List.replicate (1 - (lg_sl ([.int (zI x)])).length) Slot.unset).toArray = ls at hl ⊢
  have hl : lv_has ls 1 [(0, .int (zI x))] := hl
  have r_hx := id hx
  unfold zR at r_hx
  refine lv_iload_n (pc := 0) S.1 S.2.1 dX5_isPen_0 rfl (lv_at hl 0 rfl) ?_
  refine zz_iconst (pc := 1) (v := nI 0) S dX5_isPen_1 rfl ?_
  refine zz_iconst (pc := 2) (v := nI 3) S dX5_isPen_2 rfl ?_
  refine zz_callS (pc := 3) (As := [.int (zI x), .int (zI 0), .int (zI 3)]) (rest := []) S (c_X5_isWithin l D cI cR x 0 3 (by unfold zR; omega) (by unfold zR; omega) (by unfold zR; omega)) (zuS wd_85 wd_83 wd_84 wd_2) 3 rfl q_X5_isWithin.2 ⟨⟨rfl, rfl⟩, Nat.le_of_ble_eq_true rfl, Nat.le_of_ble_eq_true rfl⟩ rfl rfl (Nat.le_of_ble_eq_true rfl) hl.1 ⟨Nat.zero_le _, Nat.zero_le _⟩ dX5_isPen_3 ?_
  exact zz_bretS (pc := 6) S hr hlocks (zB_nar _) (rfl) dX5_isPen_6
abbrev wm_X1_wayLength : List Cond := .code yX1_wayLength cX1_wayLength 4 (some .int) :: wU
theorem q_X1_wayLength : yX1_wayLength.cls = RX1 ∧ yX1_wayLength.cls ≠ "java/lang/invoke/MethodHandle" ∧ yX1_wayLength.cls ≠ "java/lang/invoke/VarHandle" ∧ (parseMethodDescriptor yX1_wayLength.desc).map (fun d => d.parameters.length) = some 4 := by decide +kernel
set_option maxHeartbeats 4000000 in
set_option maxRecDepth 100000 in
theorem c_X1_wayLength (l : Launch) (D : va_G) (cI cR : ClassId) (x1 : Nat) (y1 : Nat) (x2 : Nat) (y2 : Nat) (hb : x1 ≤ 99 ∧ y1 ≤ 99 ∧ x2 ≤ 99 ∧ y2 ≤ 99) : Met l yX1_wayLength wm_X1_wayLength ({ frames := 1, cells := 0, slots := 0, locals := 14 } : Room) (va_Pc [.int (nI x1), .int (nI y1), .int (nI x2), .int (nI y2)] (fun _ => True)) (vp_Si (fun r => r = nI (zfar ((x1 : Int) - (x2 : Int)) ((y1 : Int) - (y2 : Int))))) 0 0 (fun _ => False) := by
  refine Met.ofW (cc := cX1_wayLength) (maxL := 4) (ret := (some .int)) (by decide) rfl ?_
  intro p e s m args below meth c s₁ B hml hv
  obtain ⟨rfl, hG⟩ := hv
  have S : CallFix p m c cX1_wayLength 4 s ([.int (nI x1), .int (nI y1), .int (nI x2), .int (nI y2)] : List Value).toArray wU RX1 := ⟨B.exec, B.bytes, hml, findClass_of_methodNamed B.named, fun w h => atoms_spec (ws := wm_X1_wayLength) B.pre w (List.mem_cons_of_mem _ h)⟩
  have hr := B.returns
  have hlocks := B.notSynchronized
  have hl := lv_entry ([.int (nI x1), .int (nI y1), .int (nI x2), .int (nI y2)]) (n := 4) (Nat.le_of_ble_eq_true rfl)
  rw [lg_entry_eq]
  generalize (lg_sl ([.int (nI x1), .int (nI y1), .int (nI x2), .int (nI y2)]) ++ List.replicate (4 - (lg_sl ([.int (nI x1), .int (nI y1), .int (nI x2), .int (nI y2)])).length) Slot.unset).toArray = ls at hl ⊢
  have hl : lv_has ls 4 [(0, .int (nI x1)), (1, .int (nI y1)), (2, .int (nI x2)), (3, .int (nI y2))] := hl
  refine lv_iload_n (pc := 0) S.1 S.2.1 dX1_wayLength_0 rfl (lv_at hl 0 rfl) ?_
  refine lv_iload_n (pc := 1) S.1 S.2.1 dX1_wayLength_1 rfl (lv_at hl 2 rfl) ?_
  refine zz_isub (pc := 2) (v := zI (((x1 : Nat) : Int) - ((x2 : Nat) : Int))) S dX1_wayLength_2 (zI_sub ((x1 : Nat) : Int) ((x2 : Nat) : Int)) ?_
  refine zz_abs (pc := 3) (v := nI (Int.natAbs (((x1 : Nat) : Int) - ((x2 : Nat) : Int)))) S wd_412 wd_413 wd_106 wd_414 ⟨Nat.le_of_ble_eq_true rfl, Nat.le_of_ble_eq_true rfl⟩ ⟨Nat.zero_le _, Nat.zero_le _⟩ hl.1 dX1_wayLength_3 (z_abs (by unfold zR; omega)) ?_
  refine lv_iload_n (pc := 6) S.1 S.2.1 dX1_wayLength_6 rfl (lv_at hl 1 rfl) ?_
  refine lv_iload_n (pc := 7) S.1 S.2.1 dX1_wayLength_7 rfl (lv_at hl 3 rfl) ?_
  refine zz_isub (pc := 8) (v := zI (((y1 : Nat) : Int) - ((y2 : Nat) : Int))) S dX1_wayLength_8 (zI_sub ((y1 : Nat) : Int) ((y2 : Nat) : Int)) ?_
  refine zz_abs (pc := 9) (v := nI (Int.natAbs (((y1 : Nat) : Int) - ((y2 : Nat) : Int)))) S wd_412 wd_413 wd_106 wd_414 ⟨Nat.le_of_ble_eq_true rfl, Nat.le_of_ble_eq_true rfl⟩ ⟨Nat.zero_le _, Nat.zero_le _⟩ hl.1 dX1_wayLength_9 (z_abs (by unfold zR; omega)) ?_
  refine zz_max (pc := 12) (v := nI (max (Int.natAbs (((x1 : Nat) : Int) - ((x2 : Nat) : Int))) (Int.natAbs (((y1 : Nat) : Int) - ((y2 : Nat) : Int))))) S wd_248 wd_249 wd_106 wd_250 ⟨Nat.le_of_ble_eq_true rfl, Nat.le_of_ble_eq_true rfl⟩ ⟨Nat.zero_le _, Nat.zero_le _⟩ hl.1 dX1_wayLength_12 (n_max (by omega) (by omega)) ?_
  exact zz_iretS (pc := 15) S hr hlocks (congrArg nI (by rfl)) dX1_wayLength_15
abbrev wm_X1_size : List Cond := .code yX1_size cX1_size 1 (some .int) :: wU
theorem q_X1_size : yX1_size.cls = RX1 ∧ yX1_size.cls ≠ "java/lang/invoke/MethodHandle" ∧ yX1_size.cls ≠ "java/lang/invoke/VarHandle" ∧ (parseMethodDescriptor yX1_size.desc).map (fun d => d.parameters.length) = some 0 := by decide +kernel
set_option maxHeartbeats 4000000 in
set_option maxRecDepth 100000 in
theorem c_X1_size (l : Launch) (D : va_G) (cI cR : ClassId) (d e1 e2 e3 e4 n : Nat) (P X Y L : Nat → Nat) (hge : zGe n P X Y) : Met l yX1_size wm_X1_size ({ frames := 0, cells := 0, slots := 0, locals := 0 } : Room) (va_Pc [.ref d] (zW D cI cR [(d, .inr (1, [.int (nI n), .ref e1, .ref e2, .ref e3, .ref e4])), (e1, zA cI 8 P), (e2, zA cI 16 X), (e3, zA cI 16 Y), (e4, zA cI 8 L)])) (vp_Si (fun r => r = nI n)) 0 0 (fun _ => False) := by
  refine Met.ofW (cc := cX1_size) (maxL := 1) (ret := (some .int)) (by decide) rfl ?_
  intro p e s m args below meth c s₁ B hml hv
  obtain ⟨rfl, hG⟩ := hv
  have S : CallFix p m c cX1_size 1 s ([.ref d] : List Value).toArray wU RX1 := ⟨B.exec, B.bytes, hml, findClass_of_methodNamed B.named, fun w h => atoms_spec (ws := wm_X1_size) B.pre w (List.mem_cons_of_mem _ h)⟩
  have hr := B.returns
  have hlocks := B.notSynchronized
  have hG : zG D cI cR [(d, .inr (1, [.int (nI n), .ref e1, .ref e2, .ref e3, .ref e4])), (e1, zA cI 8 P), (e2, zA cI 16 X), (e3, zA cI 16 Y), (e4, zA cI 8 L)] s s.heap := hG
  have hl := lv_entry ([.ref d]) (n := 1) (Nat.le_of_ble_eq_true rfl)
  rw [lg_entry_eq]
  generalize (lg_sl ([.ref d]) ++ List.replicate (1 - (lg_sl ([.ref d])).length) Slot.unset).toArray = ls at hl ⊢
  have hl : lv_has ls 1 [(0, .ref d)] := hl
  obtain ⟨hn, hPf, hXY⟩ := id hge
  refine lv_aload_n (pc := 0) S.1 S.2.1 dX1_size_0 rfl (lv_at hl 0 rfl) ?_
  refine zz_get (pc := 1) S hG iX1 0 rfl rfl 0 (by decide) wd_93 rfl rfl dX1_size_1 ?_
  exact zz_iretS (pc := 4) S hr hlocks (rfl) dX1_size_4
abbrev wm_X1_hasStroke : List Cond := .code yX1_hasStroke cX1_hasStroke 2 (some .boolean) :: wU
theorem q_X1_hasStroke : yX1_hasStroke.cls = RX1 ∧ yX1_hasStroke.cls ≠ "java/lang/invoke/MethodHandle" ∧ yX1_hasStroke.cls ≠ "java/lang/invoke/VarHandle" ∧ (parseMethodDescriptor yX1_hasStroke.desc).map (fun d => d.parameters.length) = some 1 := by decide +kernel
set_option maxHeartbeats 4000000 in
set_option maxRecDepth 100000 in
theorem c_X1_hasStroke (l : Launch) (D : va_G) (cI cR : ClassId) (d e1 e2 e3 e4 n : Nat) (P X Y L : Nat → Nat) (a : Int) (hge : zGe n P X Y) (ha : zR a) : Met l yX1_hasStroke wm_X1_hasStroke ({ frames := 0, cells := 0, slots := 0, locals := 0 } : Room) (va_Pc [.ref d, .int (zI a)] (zW D cI cR [(d, .inr (1, [.int (nI n), .ref e1, .ref e2, .ref e3, .ref e4])), (e1, zA cI 8 P), (e2, zA cI 16 X), (e3, zA cI 16 Y), (e4, zA cI 8 L)])) (vp_Si (fun r => r = nI (zB (0 ≤ a ∧ a < (n : Int))))) 0 0 (fun _ => False) := by
  refine Met.ofW (cc := cX1_hasStroke) (maxL := 2) (ret := (some .boolean)) (by decide) rfl ?_
  intro p e s m args below meth c s₁ B hml hv
  obtain ⟨rfl, hG⟩ := hv
  have S : CallFix p m c cX1_hasStroke 2 s ([.ref d, .int (zI a)] : List Value).toArray wU RX1 := ⟨B.exec, B.bytes, hml, findClass_of_methodNamed B.named, fun w h => atoms_spec (ws := wm_X1_hasStroke) B.pre w (List.mem_cons_of_mem _ h)⟩
  have hr := B.returns
  have hlocks := B.notSynchronized
  have hG : zG D cI cR [(d, .inr (1, [.int (nI n), .ref e1, .ref e2, .ref e3, .ref e4])), (e1, zA cI 8 P), (e2, zA cI 16 X), (e3, zA cI 16 Y), (e4, zA cI 8 L)] s s.heap := hG
  have hl := lv_entry ([.ref d, .int (zI a)]) (n := 2) (Nat.le_of_ble_eq_true rfl)
  rw [lg_entry_eq]
  generalize (lg_sl ([.ref d, .int (zI a)]) ++ List.replicate (2 - (lg_sl ([.ref d, .int (zI a)])).length) Slot.unset).toArray = ls at hl ⊢
  have hl : lv_has ls 2 [(0, .ref d), (1, .int (zI a))] := hl
  have r_ha := id ha
  unfold zR at r_ha
  obtain ⟨hn, hPf, hXY⟩ := id hge
  refine lv_iload_n (pc := 0) S.1 S.2.1 dX1_hasStroke_0 rfl (lv_at hl 1 rfl) ?_
  refine zz_if_lt (pc := 1) (tgt := 16) S dX1_hasStroke_1 (by decide) (z_lt0 (by unfold zR; omega)) (fun c1 => ?_) (fun c1 => ?_)
  · refine zz_iconst (pc := 16) (v := nI 0) S dX1_hasStroke_16 rfl ?_
    exact zz_bretS (pc := 17) S hr hlocks (by decide) (congrArg nI (zB_f (by first | omega | rfl)).symm) dX1_hasStroke_17
  · refine lv_iload_n (pc := 4) S.1 S.2.1 dX1_hasStroke_4 rfl (lv_at hl 1 rfl) ?_
    refine lv_aload_n (pc := 5) S.1 S.2.1 dX1_hasStroke_5 rfl (lv_at hl 0 rfl) ?_
    refine zz_get (pc := 6) S hG iX1 0 rfl rfl 0 (by decide) wd_93 rfl rfl dX1_hasStroke_6 ?_
    refine zz_icmp_ge (pc := 9) (tgt := 16) S dX1_hasStroke_9 (by decide) (zI_le (a := ((n : Nat) : Int)) (b := a) (by unfold zR; omega) (by unfold zR; omega)) (fun c9 => ?_) (fun c9 => ?_)
    · refine zz_iconst (pc := 16) (v := nI 0) S dX1_hasStroke_16 rfl ?_
      exact zz_bretS (pc := 17) S hr hlocks (by decide) (congrArg nI (zB_f (by first | omega | rfl)).symm) dX1_hasStroke_17
    · refine zz_iconst (pc := 12) (v := nI 1) S dX1_hasStroke_12 rfl ?_
      refine lv_goto (pc := 13) (tgt := 17) S.1 S.2.1 dX1_hasStroke_13 (by decide) ?_
      exact zz_bretS (pc := 17) S hr hlocks (by decide) (congrArg nI (zB_t (by first | omega | rfl)).symm) dX1_hasStroke_17
abbrev wm_X1_hasPosition : List Cond := .code yX1_hasPosition cX1_hasPosition 2 (some .boolean) :: wU
theorem q_X1_hasPosition : yX1_hasPosition.cls = RX1 ∧ yX1_hasPosition.cls ≠ "java/lang/invoke/MethodHandle" ∧ yX1_hasPosition.cls ≠ "java/lang/invoke/VarHandle" ∧ (parseMethodDescriptor yX1_hasPosition.desc).map (fun d => d.parameters.length) = some 1 := by decide +kernel
set_option maxHeartbeats 4000000 in
set_option maxRecDepth 100000 in
theorem c_X1_hasPosition (l : Launch) (D : va_G) (cI cR : ClassId) (d e1 e2 e3 e4 n : Nat) (P X Y L : Nat → Nat) (a : Int) (hge : zGe n P X Y) (ha : zR a) : Met l yX1_hasPosition wm_X1_hasPosition ({ frames := 0, cells := 0, slots := 0, locals := 0 } : Room) (va_Pc [.ref d, .int (zI a)] (zW D cI cR [(d, .inr (1, [.int (nI n), .ref e1, .ref e2, .ref e3, .ref e4])), (e1, zA cI 8 P), (e2, zA cI 16 X), (e3, zA cI 16 Y), (e4, zA cI 8 L)])) (vp_Si (fun r => r = nI (zB (0 ≤ a ∧ a < (n : Int))))) 0 0 (fun _ => False) := by
  refine Met.ofW (cc := cX1_hasPosition) (maxL := 2) (ret := (some .boolean)) (by decide) rfl ?_
  intro p e s m args below meth c s₁ B hml hv
  obtain ⟨rfl, hG⟩ := hv
  have S : CallFix p m c cX1_hasPosition 2 s ([.ref d, .int (zI a)] : List Value).toArray wU RX1 := ⟨B.exec, B.bytes, hml, findClass_of_methodNamed B.named, fun w h => atoms_spec (ws := wm_X1_hasPosition) B.pre w (List.mem_cons_of_mem _ h)⟩
  have hr := B.returns
  have hlocks := B.notSynchronized
  have hG : zG D cI cR [(d, .inr (1, [.int (nI n), .ref e1, .ref e2, .ref e3, .ref e4])), (e1, zA cI 8 P), (e2, zA cI 16 X), (e3, zA cI 16 Y), (e4, zA cI 8 L)] s s.heap := hG
  have hl := lv_entry ([.ref d, .int (zI a)]) (n := 2) (Nat.le_of_ble_eq_true rfl)
  rw [lg_entry_eq]
  generalize (lg_sl ([.ref d, .int (zI a)]) ++ List.replicate (2 - (lg_sl ([.ref d, .int (zI a)])).length) Slot.unset).toArray = ls at hl ⊢
  have hl : lv_has ls 2 [(0, .ref d), (1, .int (zI a))] := hl
  have r_ha := id ha
  unfold zR at r_ha
  obtain ⟨hn, hPf, hXY⟩ := id hge
  refine lv_iload_n (pc := 0) S.1 S.2.1 dX1_hasPosition_0 rfl (lv_at hl 1 rfl) ?_
  refine zz_if_lt (pc := 1) (tgt := 16) S dX1_hasPosition_1 (by decide) (z_lt0 (by unfold zR; omega)) (fun c1 => ?_) (fun c1 => ?_)
  · refine zz_iconst (pc := 16) (v := nI 0) S dX1_hasPosition_16 rfl ?_
    exact zz_bretS (pc := 17) S hr hlocks (by decide) (congrArg nI (zB_f (by first | omega | rfl)).symm) dX1_hasPosition_17
  · refine lv_iload_n (pc := 4) S.1 S.2.1 dX1_hasPosition_4 rfl (lv_at hl 1 rfl) ?_
    refine lv_aload_n (pc := 5) S.1 S.2.1 dX1_hasPosition_5 rfl (lv_at hl 0 rfl) ?_
    refine zz_get (pc := 6) S hG iX1 0 rfl rfl 0 (by decide) wd_93 rfl rfl dX1_hasPosition_6 ?_
    refine zz_icmp_ge (pc := 9) (tgt := 16) S dX1_hasPosition_9 (by decide) (zI_le (a := ((n : Nat) : Int)) (b := a) (by unfold zR; omega) (by unfold zR; omega)) (fun c9 => ?_) (fun c9 => ?_)
    · refine zz_iconst (pc := 16) (v := nI 0) S dX1_hasPosition_16 rfl ?_
      exact zz_bretS (pc := 17) S hr hlocks (by decide) (congrArg nI (zB_f (by first | omega | rfl)).symm) dX1_hasPosition_17
    · refine zz_iconst (pc := 12) (v := nI 1) S dX1_hasPosition_12 rfl ?_
      refine lv_goto (pc := 13) (tgt := 17) S.1 S.2.1 dX1_hasPosition_13 (by decide) ?_
      exact zz_bretS (pc := 17) S hr hlocks (by decide) (congrArg nI (zB_t (by first | omega | rfl)).symm) dX1_hasPosition_17
abbrev wm_X1_hasCode : List Cond := .code yX1_hasCode cX1_hasCode 2 (some .boolean) :: wU
theorem q_X1_hasCode : yX1_hasCode.cls = RX1 ∧ yX1_hasCode.cls ≠ "java/lang/invoke/MethodHandle" ∧ yX1_hasCode.cls ≠ "java/lang/invoke/VarHandle" ∧ (parseMethodDescriptor yX1_hasCode.desc).map (fun d => d.parameters.length) = some 1 := by decide +kernel
set_option maxHeartbeats 4000000 in
set_option maxRecDepth 100000 in
theorem c_X1_hasCode (l : Launch) (D : va_G) (cI cR : ClassId) (d e1 e2 e3 e4 n : Nat) (P X Y L : Nat → Nat) (a : Int) (hge : zGe n P X Y) (ha : zR a) : Met l yX1_hasCode wm_X1_hasCode ({ frames := 0, cells := 0, slots := 0, locals := 0 } : Room) (va_Pc [.ref d, .int (zI a)] (zW D cI cR [(d, .inr (1, [.int (nI n), .ref e1, .ref e2, .ref e3, .ref e4])), (e1, zA cI 8 P), (e2, zA cI 16 X), (e3, zA cI 16 Y), (e4, zA cI 8 L)])) (vp_Si (fun r => r = nI (zB (0 ≤ a ∧ a < 2 * (n : Int))))) 0 0 (fun _ => False) := by
  refine Met.ofW (cc := cX1_hasCode) (maxL := 2) (ret := (some .boolean)) (by decide) rfl ?_
  intro p e s m args below meth c s₁ B hml hv
  obtain ⟨rfl, hG⟩ := hv
  have S : CallFix p m c cX1_hasCode 2 s ([.ref d, .int (zI a)] : List Value).toArray wU RX1 := ⟨B.exec, B.bytes, hml, findClass_of_methodNamed B.named, fun w h => atoms_spec (ws := wm_X1_hasCode) B.pre w (List.mem_cons_of_mem _ h)⟩
  have hr := B.returns
  have hlocks := B.notSynchronized
  have hG : zG D cI cR [(d, .inr (1, [.int (nI n), .ref e1, .ref e2, .ref e3, .ref e4])), (e1, zA cI 8 P), (e2, zA cI 16 X), (e3, zA cI 16 Y), (e4, zA cI 8 L)] s s.heap := hG
  have hl := lv_entry ([.ref d, .int (zI a)]) (n := 2) (Nat.le_of_ble_eq_true rfl)
  rw [lg_entry_eq]
  generalize (lg_sl ([.ref d, .int (zI a)]) ++ List.replicate (2 - (lg_sl ([.ref d, .int (zI a)])).length) Slot.unset).toArray = ls at hl ⊢
  have hl : lv_has ls 2 [(0, .ref d), (1, .int (zI a))] := hl
  have r_ha := id ha
  unfold zR at r_ha
  obtain ⟨hn, hPf, hXY⟩ := id hge
  refine lv_iload_n (pc := 0) S.1 S.2.1 dX1_hasCode_0 rfl (lv_at hl 1 rfl) ?_
  refine zz_if_lt (pc := 1) (tgt := 18) S dX1_hasCode_1 (by decide) (z_lt0 (by unfold zR; omega)) (fun c1 => ?_) (fun c1 => ?_)
  · refine zz_iconst (pc := 18) (v := nI 0) S dX1_hasCode_18 rfl ?_
    exact zz_bretS (pc := 19) S hr hlocks (by decide) (congrArg nI (zB_f (by first | omega | rfl)).symm) dX1_hasCode_19
  · refine lv_iload_n (pc := 4) S.1 S.2.1 dX1_hasCode_4 rfl (lv_at hl 1 rfl) ?_
    refine zz_iconst (pc := 5) (v := nI 2) S dX1_hasCode_5 rfl ?_
    refine lv_aload_n (pc := 6) S.1 S.2.1 dX1_hasCode_6 rfl (lv_at hl 0 rfl) ?_
    refine zz_get (pc := 7) S hG iX1 0 rfl rfl 0 (by decide) wd_93 rfl rfl dX1_hasCode_7 ?_
    refine zz_imul (pc := 10) (v := nI (2 * n)) S dX1_hasCode_10 (n_mul _ _) ?_
    refine zz_icmp_ge (pc := 11) (tgt := 18) S dX1_hasCode_11 (by decide) (zI_le (a := ((2 * n : Nat) : Int)) (b := a) (by unfold zR; omega) (by unfold zR; omega)) (fun c11 => ?_) (fun c11 => ?_)
    · refine zz_iconst (pc := 18) (v := nI 0) S dX1_hasCode_18 rfl ?_
      exact zz_bretS (pc := 19) S hr hlocks (by decide) (congrArg nI (zB_f (by first | omega | rfl)).symm) dX1_hasCode_19
    · refine zz_iconst (pc := 14) (v := nI 1) S dX1_hasCode_14 rfl ?_
      refine lv_goto (pc := 15) (tgt := 19) S.1 S.2.1 dX1_hasCode_15 (by decide) ?_
      exact zz_bretS (pc := 19) S hr hlocks (by decide) (congrArg nI (zB_t (by first | omega | rfl)).symm) dX1_hasCode_19
abbrev wm_X1_penOfStroke : List Cond := .code yX1_penOfStroke cX1_penOfStroke 2 (some .int) :: wU
theorem q_X1_penOfStroke : yX1_penOfStroke.cls = RX1 ∧ yX1_penOfStroke.cls ≠ "java/lang/invoke/MethodHandle" ∧ yX1_penOfStroke.cls ≠ "java/lang/invoke/VarHandle" ∧ (parseMethodDescriptor yX1_penOfStroke.desc).map (fun d => d.parameters.length) = some 1 := by decide +kernel
set_option maxHeartbeats 4000000 in
set_option maxRecDepth 100000 in
theorem c_X1_penOfStroke (l : Launch) (D : va_G) (cI cR : ClassId) (d e1 e2 e3 e4 n : Nat) (P X Y L : Nat → Nat) (a : Nat) (hge : zGe n P X Y) (ha : a < n) : Met l yX1_penOfStroke wm_X1_penOfStroke ({ frames := 1, cells := 0, slots := 0, locals := 21 } : Room) (va_Pc [.ref d, .int (nI a)] (zW D cI cR [(d, .inr (1, [.int (nI n), .ref e1, .ref e2, .ref e3, .ref e4])), (e1, zA cI 8 P), (e2, zA cI 16 X), (e3, zA cI 16 Y), (e4, zA cI 8 L)])) (vp_Si (fun r => r = nI (P a))) 0 0 (fun _ => False) := by
  refine Met.ofW (cc := cX1_penOfStroke) (maxL := 2) (ret := (some .int)) (by decide) rfl ?_
  intro p e s m args below meth c s₁ B hml hv
  obtain ⟨rfl, hG⟩ := hv
  have S : CallFix p m c cX1_penOfStroke 2 s ([.ref d, .int (nI a)] : List Value).toArray wU RX1 := ⟨B.exec, B.bytes, hml, findClass_of_methodNamed B.named, fun w h => atoms_spec (ws := wm_X1_penOfStroke) B.pre w (List.mem_cons_of_mem _ h)⟩
  have hr := B.returns
  have hlocks := B.notSynchronized
  have hG : zG D cI cR [(d, .inr (1, [.int (nI n), .ref e1, .ref e2, .ref e3, .ref e4])), (e1, zA cI 8 P), (e2, zA cI 16 X), (e3, zA cI 16 Y), (e4, zA cI 8 L)] s s.heap := hG
  have hl := lv_entry ([.ref d, .int (nI a)]) (n := 2) (Nat.le_of_ble_eq_true rfl)
  rw [lg_entry_eq]
  generalize (lg_sl ([.ref d, .int (nI a)]) ++ List.replicate (2 - (lg_sl ([.ref d, .int (nI a)])).length) Slot.unset).toArray = ls at hl ⊢
  have hl : lv_has ls 2 [(0, .ref d), (1, .int (nI a))] := hl
  obtain ⟨hn, hPf, hXY⟩ := id hge
  refine lv_aload_n (pc := 0) S.1 S.2.1 dX1_penOfStroke_0 rfl (lv_at hl 0 rfl) ?_
  refine lv_iload_n (pc := 1) S.1 S.2.1 dX1_penOfStroke_1 rfl (lv_at hl 1 rfl) ?_
  refine zz_callV (pc := 2) (As := [.int (zI ((a : Nat) : Int))]) (rest := []) S (c_X1_hasStroke l D cI cR d e1 e2 e3 e4 n P X Y L ((a : Nat) : Int) hge (by unfold zR; omega)) (zuV wd_148 wd_153 wd_146 wd_147 wd_14) 1 rfl q_X1_hasStroke ⟨⟨rfl, rfl⟩, Nat.le_of_ble_eq_true rfl, Nat.le_of_ble_eq_true rfl⟩ hG [0, 1, 2, 3, 4] rfl 0 rfl rfl rfl rfl rfl (Nat.le_of_ble_eq_true rfl) hl.1 ⟨Nat.zero_le _, Nat.zero_le _⟩ dX1_penOfStroke_2 ?_
  refine zz_ifb_eq (pc := 5) (tgt := 17) S dX1_penOfStroke_5 (by decide) (fun c5 => ?_) (fun c5 => ?_)
  · exfalso; omega
  · refine lv_aload_n (pc := 8) S.1 S.2.1 dX1_penOfStroke_8 rfl (lv_at hl 0 rfl) ?_
    refine zz_get (pc := 9) S hG iX1 0 rfl rfl 1 (by decide) wd_39 rfl rfl dX1_penOfStroke_9 ?_
    refine lv_iload_n (pc := 12) S.1 S.2.1 dX1_penOfStroke_12 rfl (lv_at hl 1 rfl) ?_
    refine zz_iald (pc := 13) (k := a) S hG 1 rfl (by omega) dX1_penOfStroke_13 ?_
    have g1 := hPf a (by omega)
    refine lv_goto (pc := 14) (tgt := 18) S.1 S.2.1 dX1_penOfStroke_14 (by decide) ?_
    exact zz_iretS (pc := 18) S hr hlocks (rfl) dX1_penOfStroke_18
abbrev wm_X1_codeAt : List Cond := .code yX1_codeAt cX1_codeAt 2 (some .int) :: wU
theorem q_X1_codeAt : yX1_codeAt.cls = RX1 ∧ yX1_codeAt.cls ≠ "java/lang/invoke/MethodHandle" ∧ yX1_codeAt.cls ≠ "java/lang/invoke/VarHandle" ∧ (parseMethodDescriptor yX1_codeAt.desc).map (fun d => d.parameters.length) = some 1 := by decide +kernel
set_option maxHeartbeats 4000000 in
set_option maxRecDepth 100000 in
theorem c_X1_codeAt (l : Launch) (D : va_G) (cI cR : ClassId) (d e1 e2 e3 e4 n : Nat) (P X Y L : Nat → Nat) (a : Nat) (hok : zOk n P X Y L) (ha : a < n) : Met l yX1_codeAt wm_X1_codeAt ({ frames := 1, cells := 0, slots := 0, locals := 21 } : Room) (va_Pc [.ref d, .int (nI a)] (zW D cI cR [(d, .inr (1, [.int (nI n), .ref e1, .ref e2, .ref e3, .ref e4])), (e1, zA cI 8 P), (e2, zA cI 16 X), (e3, zA cI 16 Y), (e4, zA cI 8 L)])) (vp_Si (fun r => r = nI (L a))) 0 0 (fun _ => False) := by
  refine Met.ofW (cc := cX1_codeAt) (maxL := 2) (ret := (some .int)) (by decide) rfl ?_
  intro p e s m args below meth c s₁ B hml hv
  obtain ⟨rfl, hG⟩ := hv
  have S : CallFix p m c cX1_codeAt 2 s ([.ref d, .int (nI a)] : List Value).toArray wU RX1 := ⟨B.exec, B.bytes, hml, findClass_of_methodNamed B.named, fun w h => atoms_spec (ws := wm_X1_codeAt) B.pre w (List.mem_cons_of_mem _ h)⟩
  have hr := B.returns
  have hlocks := B.notSynchronized
  have hG : zG D cI cR [(d, .inr (1, [.int (nI n), .ref e1, .ref e2, .ref e3, .ref e4])), (e1, zA cI 8 P), (e2, zA cI 16 X), (e3, zA cI 16 Y), (e4, zA cI 8 L)] s s.heap := hG
  have hl := lv_entry ([.ref d, .int (nI a)]) (n := 2) (Nat.le_of_ble_eq_true rfl)
  rw [lg_entry_eq]
  generalize (lg_sl ([.ref d, .int (nI a)]) ++ List.replicate (2 - (lg_sl ([.ref d, .int (nI a)])).length) Slot.unset).toArray = ls at hl ⊢
  have hl : lv_has ls 2 [(0, .ref d), (1, .int (nI a))] := hl
  obtain ⟨⟨hn, hPf, hXY⟩, hLf, hinj⟩ := id hok
  refine lv_aload_n (pc := 0) S.1 S.2.1 dX1_codeAt_0 rfl (lv_at hl 0 rfl) ?_
  refine lv_iload_n (pc := 1) S.1 S.2.1 dX1_codeAt_1 rfl (lv_at hl 1 rfl) ?_
  refine zz_callV (pc := 2) (As := [.int (zI ((a : Nat) : Int))]) (rest := []) S (c_X1_hasPosition l D cI cR d e1 e2 e3 e4 n P X Y L ((a : Nat) : Int) hok.1 (by unfold zR; omega)) (zuV wd_347 wd_352 wd_345 wd_346 wd_14) 1 rfl q_X1_hasPosition ⟨⟨rfl, rfl⟩, Nat.le_of_ble_eq_true rfl, Nat.le_of_ble_eq_true rfl⟩ hG [0, 1, 2, 3, 4] rfl 0 rfl rfl rfl rfl rfl (Nat.le_of_ble_eq_true rfl) hl.1 ⟨Nat.zero_le _, Nat.zero_le _⟩ dX1_codeAt_2 ?_
  refine zz_ifb_eq (pc := 5) (tgt := 17) S dX1_codeAt_5 (by decide) (fun c5 => ?_) (fun c5 => ?_)
  · exfalso; omega
  · refine lv_aload_n (pc := 8) S.1 S.2.1 dX1_codeAt_8 rfl (lv_at hl 0 rfl) ?_
    refine zz_get (pc := 9) S hG iX1 0 rfl rfl 4 (by decide) wd_42 rfl rfl dX1_codeAt_9 ?_
    refine lv_iload_n (pc := 12) S.1 S.2.1 dX1_codeAt_12 rfl (lv_at hl 1 rfl) ?_
    refine zz_iald (pc := 13) (k := a) S hG 4 rfl (by omega) dX1_codeAt_13 ?_
    have g1 := hLf a (by omega)
    refine lv_goto (pc := 14) (tgt := 18) S.1 S.2.1 dX1_codeAt_14 (by decide) ?_
    exact zz_iretS (pc := 18) S hr hlocks (rfl) dX1_codeAt_18
abbrev wm_X1_beginXOf : List Cond := .code yX1_beginXOf cX1_beginXOf 2 (some .int) :: wU
theorem q_X1_beginXOf : yX1_beginXOf.cls = RX1 ∧ yX1_beginXOf.cls ≠ "java/lang/invoke/MethodHandle" ∧ yX1_beginXOf.cls ≠ "java/lang/invoke/VarHandle" ∧ (parseMethodDescriptor yX1_beginXOf.desc).map (fun d => d.parameters.length) = some 1 := by decide +kernel
set_option maxHeartbeats 4000000 in
set_option maxRecDepth 100000 in
theorem c_X1_beginXOf (l : Launch) (D : va_G) (cI cR : ClassId) (d e1 e2 e3 e4 n : Nat) (P X Y L : Nat → Nat) (a : Nat) (hge : zGe n P X Y) (ha : a < 2 * n) : Met l yX1_beginXOf wm_X1_beginXOf ({ frames := 1, cells := 0, slots := 0, locals := 21 } : Room) (va_Pc [.ref d, .int (nI a)] (zW D cI cR [(d, .inr (1, [.int (nI n), .ref e1, .ref e2, .ref e3, .ref e4])), (e1, zA cI 8 P), (e2, zA cI 16 X), (e3, zA cI 16 Y), (e4, zA cI 8 L)])) (vp_Si (fun r => r = nI (X a))) 0 0 (fun _ => False) := by
  refine Met.ofW (cc := cX1_beginXOf) (maxL := 2) (ret := (some .int)) (by decide) rfl ?_
  intro p e s m args below meth c s₁ B hml hv
  obtain ⟨rfl, hG⟩ := hv
  have S : CallFix p m c cX1_beginXOf 2 s ([.ref d, .int (nI a)] : List Value).toArray wU RX1 := ⟨B.exec, B.bytes, hml, findClass_of_methodNamed B.named, fun w h => atoms_spec (ws := wm_X1_beginXOf) B.pre w (List.mem_cons_of_mem _ h)⟩
  have hr := B.returns
  have hlocks := B.notSynchronized
  have hG : zG D cI cR [(d, .inr (1, [.int (nI n), .ref e1, .ref e2, .ref e3, .ref e4])), (e1, zA cI 8 P), (e2, zA cI 16 X), (e3, zA cI 16 Y), (e4, zA cI 8 L)] s s.heap := hG
  have hl := lv_entry ([.ref d, .int (nI a)]) (n := 2) (Nat.le_of_ble_eq_true rfl)
  rw [lg_entry_eq]
  generalize (lg_sl ([.ref d, .int (nI a)]) ++ List.replicate (2 - (lg_sl ([.ref d, .int (nI a)])).length) Slot.unset).toArray = ls at hl ⊢
  have hl : lv_has ls 2 [(0, .ref d), (1, .int (nI a))] := hl
  obtain ⟨hn, hPf, hXY⟩ := id hge
  refine lv_aload_n (pc := 0) S.1 S.2.1 dX1_beginXOf_0 rfl (lv_at hl 0 rfl) ?_
  refine lv_iload_n (pc := 1) S.1 S.2.1 dX1_beginXOf_1 rfl (lv_at hl 1 rfl) ?_
  refine zz_callV (pc := 2) (As := [.int (zI ((a : Nat) : Int))]) (rest := []) S (c_X1_hasCode l D cI cR d e1 e2 e3 e4 n P X Y L ((a : Nat) : Int) hge (by unfold zR; omega)) (zuV wd_218 wd_215 wd_216 wd_217 wd_14) 1 rfl q_X1_hasCode ⟨⟨rfl, rfl⟩, Nat.le_of_ble_eq_true rfl, Nat.le_of_ble_eq_true rfl⟩ hG [0, 1, 2, 3, 4] rfl 0 rfl rfl rfl rfl rfl (Nat.le_of_ble_eq_true rfl) hl.1 ⟨Nat.zero_le _, Nat.zero_le _⟩ dX1_beginXOf_2 ?_
  refine zz_ifb_eq (pc := 5) (tgt := 17) S dX1_beginXOf_5 (by decide) (fun c5 => ?_) (fun c5 => ?_)
  · exfalso; omega
  · refine lv_aload_n (pc := 8) S.1 S.2.1 dX1_beginXOf_8 rfl (lv_at hl 0 rfl) ?_
    refine zz_get (pc := 9) S hG iX1 0 rfl rfl 2 (by decide) wd_40 rfl rfl dX1_beginXOf_9 ?_
    refine lv_iload_n (pc := 12) S.1 S.2.1 dX1_beginXOf_12 rfl (lv_at hl 1 rfl) ?_
    refine zz_iald (pc := 13) (k := a) S hG 2 rfl (by omega) dX1_beginXOf_13 ?_
    have g1 := (hXY a (by omega)).1
    refine lv_goto (pc := 14) (tgt := 18) S.1 S.2.1 dX1_beginXOf_14 (by decide) ?_
    exact zz_iretS (pc := 18) S hr hlocks (rfl) dX1_beginXOf_18
abbrev wm_X1_beginYOf : List Cond := .code yX1_beginYOf cX1_beginYOf 2 (some .int) :: wU
theorem q_X1_beginYOf : yX1_beginYOf.cls = RX1 ∧ yX1_beginYOf.cls ≠ "java/lang/invoke/MethodHandle" ∧ yX1_beginYOf.cls ≠ "java/lang/invoke/VarHandle" ∧ (parseMethodDescriptor yX1_beginYOf.desc).map (fun d => d.parameters.length) = some 1 := by decide +kernel
set_option maxHeartbeats 4000000 in
set_option maxRecDepth 100000 in
theorem c_X1_beginYOf (l : Launch) (D : va_G) (cI cR : ClassId) (d e1 e2 e3 e4 n : Nat) (P X Y L : Nat → Nat) (a : Nat) (hge : zGe n P X Y) (ha : a < 2 * n) : Met l yX1_beginYOf wm_X1_beginYOf ({ frames := 1, cells := 0, slots := 0, locals := 21 } : Room) (va_Pc [.ref d, .int (nI a)] (zW D cI cR [(d, .inr (1, [.int (nI n), .ref e1, .ref e2, .ref e3, .ref e4])), (e1, zA cI 8 P), (e2, zA cI 16 X), (e3, zA cI 16 Y), (e4, zA cI 8 L)])) (vp_Si (fun r => r = nI (Y a))) 0 0 (fun _ => False) := by
  refine Met.ofW (cc := cX1_beginYOf) (maxL := 2) (ret := (some .int)) (by decide) rfl ?_
  intro p e s m args below meth c s₁ B hml hv
  obtain ⟨rfl, hG⟩ := hv
  have S : CallFix p m c cX1_beginYOf 2 s ([.ref d, .int (nI a)] : List Value).toArray wU RX1 := ⟨B.exec, B.bytes, hml, findClass_of_methodNamed B.named, fun w h => atoms_spec (ws := wm_X1_beginYOf) B.pre w (List.mem_cons_of_mem _ h)⟩
  have hr := B.returns
  have hlocks := B.notSynchronized
  have hG : zG D cI cR [(d, .inr (1, [.int (nI n), .ref e1, .ref e2, .ref e3, .ref e4])), (e1, zA cI 8 P), (e2, zA cI 16 X), (e3, zA cI 16 Y), (e4, zA cI 8 L)] s s.heap := hG
  have hl := lv_entry ([.ref d, .int (nI a)]) (n := 2) (Nat.le_of_ble_eq_true rfl)
  rw [lg_entry_eq]
  generalize (lg_sl ([.ref d, .int (nI a)]) ++ List.replicate (2 - (lg_sl ([.ref d, .int (nI a)])).length) Slot.unset).toArray = ls at hl ⊢
  have hl : lv_has ls 2 [(0, .ref d), (1, .int (nI a))] := hl
  obtain ⟨hn, hPf, hXY⟩ := id hge
  refine lv_aload_n (pc := 0) S.1 S.2.1 dX1_beginYOf_0 rfl (lv_at hl 0 rfl) ?_
  refine lv_iload_n (pc := 1) S.1 S.2.1 dX1_beginYOf_1 rfl (lv_at hl 1 rfl) ?_
  refine zz_callV (pc := 2) (As := [.int (zI ((a : Nat) : Int))]) (rest := []) S (c_X1_hasCode l D cI cR d e1 e2 e3 e4 n P X Y L ((a : Nat) : Int) hge (by unfold zR; omega)) (zuV wd_218 wd_215 wd_216 wd_217 wd_14) 1 rfl q_X1_hasCode ⟨⟨rfl, rfl⟩, Nat.le_of_ble_eq_true rfl, Nat.le_of_ble_eq_true rfl⟩ hG [0, 1, 2, 3, 4] rfl 0 rfl rfl rfl rfl rfl (Nat.le_of_ble_eq_true rfl) hl.1 ⟨Nat.zero_le _, Nat.zero_le _⟩ dX1_beginYOf_2 ?_
  refine zz_ifb_eq (pc := 5) (tgt := 17) S dX1_beginYOf_5 (by decide) (fun c5 => ?_) (fun c5 => ?_)
  · exfalso; omega
  · refine lv_aload_n (pc := 8) S.1 S.2.1 dX1_beginYOf_8 rfl (lv_at hl 0 rfl) ?_
    refine zz_get (pc := 9) S hG iX1 0 rfl rfl 3 (by decide) wd_41 rfl rfl dX1_beginYOf_9 ?_
    refine lv_iload_n (pc := 12) S.1 S.2.1 dX1_beginYOf_12 rfl (lv_at hl 1 rfl) ?_
    refine zz_iald (pc := 13) (k := a) S hG 3 rfl (by omega) dX1_beginYOf_13 ?_
    have g1 := (hXY a (by omega)).2
    refine lv_goto (pc := 14) (tgt := 18) S.1 S.2.1 dX1_beginYOf_14 (by decide) ?_
    exact zz_iretS (pc := 18) S hr hlocks (rfl) dX1_beginYOf_18
abbrev wm_X1_endXOf : List Cond := .code yX1_endXOf cX1_endXOf 2 (some .int) :: wU
theorem q_X1_endXOf : yX1_endXOf.cls = RX1 ∧ yX1_endXOf.cls ≠ "java/lang/invoke/MethodHandle" ∧ yX1_endXOf.cls ≠ "java/lang/invoke/VarHandle" ∧ (parseMethodDescriptor yX1_endXOf.desc).map (fun d => d.parameters.length) = some 1 := by decide +kernel
set_option maxHeartbeats 4000000 in
set_option maxRecDepth 100000 in
theorem c_X1_endXOf (l : Launch) (D : va_G) (cI cR : ClassId) (d e1 e2 e3 e4 n : Nat) (P X Y L : Nat → Nat) (a : Int) (hge : zGe n P X Y) (ha : -1 ≤ a ∧ a < 2 * (n : Int)) : Met l yX1_endXOf wm_X1_endXOf ({ frames := 1, cells := 0, slots := 0, locals := 21 } : Room) (va_Pc [.ref d, .int (zI a)] (zW D cI cR [(d, .inr (1, [.int (nI n), .ref e1, .ref e2, .ref e3, .ref e4])), (e1, zA cI 8 P), (e2, zA cI 16 X), (e3, zA cI 16 Y), (e4, zA cI 8 L)])) (vp_Si (fun r => r = nI (oX X a))) 0 0 (fun _ => False) := by
  refine Met.ofW (cc := cX1_endXOf) (maxL := 2) (ret := (some .int)) (by decide) rfl ?_
  intro p e s m args below meth c s₁ B hml hv
  obtain ⟨rfl, hG⟩ := hv
  have S : CallFix p m c cX1_endXOf 2 s ([.ref d, .int (zI a)] : List Value).toArray wU RX1 := ⟨B.exec, B.bytes, hml, findClass_of_methodNamed B.named, fun w h => atoms_spec (ws := wm_X1_endXOf) B.pre w (List.mem_cons_of_mem _ h)⟩
  have hr := B.returns
  have hlocks := B.notSynchronized
  have hG : zG D cI cR [(d, .inr (1, [.int (nI n), .ref e1, .ref e2, .ref e3, .ref e4])), (e1, zA cI 8 P), (e2, zA cI 16 X), (e3, zA cI 16 Y), (e4, zA cI 8 L)] s s.heap := hG
  have hl := lv_entry ([.ref d, .int (zI a)]) (n := 2) (Nat.le_of_ble_eq_true rfl)
  rw [lg_entry_eq]
  generalize (lg_sl ([.ref d, .int (zI a)]) ++ List.replicate (2 - (lg_sl ([.ref d, .int (zI a)])).length) Slot.unset).toArray = ls at hl ⊢
  have hl : lv_has ls 2 [(0, .ref d), (1, .int (zI a))] := hl
  obtain ⟨hn, hPf, hXY⟩ := id hge
  refine lv_aload_n (pc := 0) S.1 S.2.1 dX1_endXOf_0 rfl (lv_at hl 0 rfl) ?_
  refine lv_iload_n (pc := 1) S.1 S.2.1 dX1_endXOf_1 rfl (lv_at hl 1 rfl) ?_
  refine zz_callV (pc := 2) (As := [.int (zI a)]) (rest := []) S (c_X1_hasCode l D cI cR d e1 e2 e3 e4 n P X Y L a hge (by unfold zR; omega)) (zuV wd_218 wd_215 wd_216 wd_217 wd_14) 1 rfl q_X1_hasCode ⟨⟨rfl, rfl⟩, Nat.le_of_ble_eq_true rfl, Nat.le_of_ble_eq_true rfl⟩ hG [0, 1, 2, 3, 4] rfl 0 rfl rfl rfl rfl rfl (Nat.le_of_ble_eq_true rfl) hl.1 ⟨Nat.zero_le _, Nat.zero_le _⟩ dX1_endXOf_2 ?_
  refine zz_ifb_eq (pc := 5) (tgt := 19) S dX1_endXOf_5 (by decide) (fun c5 => ?_) (fun c5 => ?_)
  · refine zz_iconst (pc := 19) (v := nI 0) S dX1_endXOf_19 rfl ?_
    exact zz_iretS (pc := 20) S hr hlocks (congrArg nI (by simp only [oX]; first | rw [if_pos (by omega)] | rw [if_neg (by omega)])) dX1_endXOf_20
  · refine lv_aload_n (pc := 8) S.1 S.2.1 dX1_endXOf_8 rfl (lv_at hl 0 rfl) ?_
    refine zz_get (pc := 9) S hG iX1 0 rfl rfl 2 (by decide) wd_40 rfl rfl dX1_endXOf_9 ?_
    have hsw := sw_lt (c := a.toNat) (n := n) (by omega)
    refine lv_iload_n (pc := 12) S.1 S.2.1 dX1_endXOf_12 rfl (lv_at hl 1 rfl) ?_
    refine zz_cast (v := nI a.toNat) (zn_of (by omega)) ?_
    refine zz_iconst (pc := 13) (v := nI 1) S dX1_endXOf_13 rfl ?_
    refine zz_ixor (pc := 14) (v := nI (sw a.toNat)) S dX1_endXOf_14 (n_xor1 _) ?_
    refine zz_iald (pc := 15) (k := sw a.toNat) S hG 2 rfl (by omega) dX1_endXOf_15 ?_
    have g1 := (hXY (sw a.toNat) (by omega)).1
    refine lv_goto (pc := 16) (tgt := 20) S.1 S.2.1 dX1_endXOf_16 (by decide) ?_
    exact zz_iretS (pc := 20) S hr hlocks (congrArg nI (by simp only [oX]; first | rw [if_pos (by omega)] | rw [if_neg (by omega)])) dX1_endXOf_20
abbrev wm_X1_endYOf : List Cond := .code yX1_endYOf cX1_endYOf 2 (some .int) :: wU
theorem q_X1_endYOf : yX1_endYOf.cls = RX1 ∧ yX1_endYOf.cls ≠ "java/lang/invoke/MethodHandle" ∧ yX1_endYOf.cls ≠ "java/lang/invoke/VarHandle" ∧ (parseMethodDescriptor yX1_endYOf.desc).map (fun d => d.parameters.length) = some 1 := by decide +kernel
set_option maxHeartbeats 4000000 in
set_option maxRecDepth 100000 in
theorem c_X1_endYOf (l : Launch) (D : va_G) (cI cR : ClassId) (d e1 e2 e3 e4 n : Nat) (P X Y L : Nat → Nat) (a : Int) (hge : zGe n P X Y) (ha : -1 ≤ a ∧ a < 2 * (n : Int)) : Met l yX1_endYOf wm_X1_endYOf ({ frames := 1, cells := 0, slots := 0, locals := 21 } : Room) (va_Pc [.ref d, .int (zI a)] (zW D cI cR [(d, .inr (1, [.int (nI n), .ref e1, .ref e2, .ref e3, .ref e4])), (e1, zA cI 8 P), (e2, zA cI 16 X), (e3, zA cI 16 Y), (e4, zA cI 8 L)])) (vp_Si (fun r => r = nI (oX Y a))) 0 0 (fun _ => False) := by
  refine Met.ofW (cc := cX1_endYOf) (maxL := 2) (ret := (some .int)) (by decide) rfl ?_
  intro p e s m args below meth c s₁ B hml hv
  obtain ⟨rfl, hG⟩ := hv
  have S : CallFix p m c cX1_endYOf 2 s ([.ref d, .int (zI a)] : List Value).toArray wU RX1 := ⟨B.exec, B.bytes, hml, findClass_of_methodNamed B.named, fun w h => atoms_spec (ws := wm_X1_endYOf) B.pre w (List.mem_cons_of_mem _ h)⟩
  have hr := B.returns
  have hlocks := B.notSynchronized
  have hG : zG D cI cR [(d, .inr (1, [.int (nI n), .ref e1, .ref e2, .ref e3, .ref e4])), (e1, zA cI 8 P), (e2, zA cI 16 X), (e3, zA cI 16 Y), (e4, zA cI 8 L)] s s.heap := hG
  have hl := lv_entry ([.ref d, .int (zI a)]) (n := 2) (Nat.le_of_ble_eq_true rfl)
  rw [lg_entry_eq]
  generalize (lg_sl ([.ref d, .int (zI a)]) ++ List.replicate (2 - (lg_sl ([.ref d, .int (zI a)])).length) Slot.unset).toArray = ls at hl ⊢
  have hl : lv_has ls 2 [(0, .ref d), (1, .int (zI a))] := hl
  obtain ⟨hn, hPf, hXY⟩ := id hge
  refine lv_aload_n (pc := 0) S.1 S.2.1 dX1_endYOf_0 rfl (lv_at hl 0 rfl) ?_
  refine lv_iload_n (pc := 1) S.1 S.2.1 dX1_endYOf_1 rfl (lv_at hl 1 rfl) ?_
  refine zz_callV (pc := 2) (As := [.int (zI a)]) (rest := []) S (c_X1_hasCode l D cI cR d e1 e2 e3 e4 n P X Y L a hge (by unfold zR; omega)) (zuV wd_218 wd_215 wd_216 wd_217 wd_14) 1 rfl q_X1_hasCode ⟨⟨rfl, rfl⟩, Nat.le_of_ble_eq_true rfl, Nat.le_of_ble_eq_true rfl⟩ hG [0, 1, 2, 3, 4] rfl 0 rfl rfl rfl rfl rfl (Nat.le_of_ble_eq_true rfl) hl.1 ⟨Nat.zero_le _, Nat.zero_le _⟩ dX1_endYOf_2 ?_
  refine zz_ifb_eq (pc := 5) (tgt := 19) S dX1_endYOf_5 (by decide) (fun c5 => ?_) (fun c5 => ?_)
  · refine zz_iconst (pc := 19) (v := nI 0) S dX1_endYOf_19 rfl ?_
    exact zz_iretS (pc := 20) S hr hlocks (congrArg nI (by simp only [oX]; first | rw [if_pos (by omega)] | rw [if_neg (by omega)])) dX1_endYOf_20
  · refine lv_aload_n (pc := 8) S.1 S.2.1 dX1_endYOf_8 rfl (lv_at hl 0 rfl) ?_
    refine zz_get (pc := 9) S hG iX1 0 rfl rfl 3 (by decide) wd_41 rfl rfl dX1_endYOf_9 ?_
    have hsw := sw_lt (c := a.toNat) (n := n) (by omega)
    refine lv_iload_n (pc := 12) S.1 S.2.1 dX1_endYOf_12 rfl (lv_at hl 1 rfl) ?_
    refine zz_cast (v := nI a.toNat) (zn_of (by omega)) ?_
    refine zz_iconst (pc := 13) (v := nI 1) S dX1_endYOf_13 rfl ?_
    refine zz_ixor (pc := 14) (v := nI (sw a.toNat)) S dX1_endYOf_14 (n_xor1 _) ?_
    refine zz_iald (pc := 15) (k := sw a.toNat) S hG 3 rfl (by omega) dX1_endYOf_15 ?_
    have g1 := (hXY (sw a.toNat) (by omega)).2
    refine lv_goto (pc := 16) (tgt := 20) S.1 S.2.1 dX1_endYOf_16 (by decide) ?_
    exact zz_iretS (pc := 20) S hr hlocks (congrArg nI (by simp only [oX]; first | rw [if_pos (by omega)] | rw [if_neg (by omega)])) dX1_endYOf_20
abbrev wm_X1_penOfCode : List Cond := .code yX1_penOfCode cX1_penOfCode 2 (some .int) :: wU
theorem q_X1_penOfCode : yX1_penOfCode.cls = RX1 ∧ yX1_penOfCode.cls ≠ "java/lang/invoke/MethodHandle" ∧ yX1_penOfCode.cls ≠ "java/lang/invoke/VarHandle" ∧ (parseMethodDescriptor yX1_penOfCode.desc).map (fun d => d.parameters.length) = some 1 := by decide +kernel
set_option maxHeartbeats 4000000 in
set_option maxRecDepth 100000 in
theorem c_X1_penOfCode (l : Launch) (D : va_G) (cI cR : ClassId) (d e1 e2 e3 e4 n : Nat) (P X Y L : Nat → Nat) (a : Int) (hge : zGe n P X Y) (ha : -1 ≤ a ∧ a < 2 * (n : Int)) : Met l yX1_penOfCode wm_X1_penOfCode ({ frames := 1, cells := 0, slots := 0, locals := 21 } : Room) (va_Pc [.ref d, .int (zI a)] (zW D cI cR [(d, .inr (1, [.int (nI n), .ref e1, .ref e2, .ref e3, .ref e4])), (e1, zA cI 8 P), (e2, zA cI 16 X), (e3, zA cI 16 Y), (e4, zA cI 8 L)])) (vp_Si (fun r => r = zI (oP P a))) 0 0 (fun _ => False) := by
  refine Met.ofW (cc := cX1_penOfCode) (maxL := 2) (ret := (some .int)) (by decide) rfl ?_
  intro p e s m args below meth c s₁ B hml hv
  obtain ⟨rfl, hG⟩ := hv
  have S : CallFix p m c cX1_penOfCode 2 s ([.ref d, .int (zI a)] : List Value).toArray wU RX1 := ⟨B.exec, B.bytes, hml, findClass_of_methodNamed B.named, fun w h => atoms_spec (ws := wm_X1_penOfCode) B.pre w (List.mem_cons_of_mem _ h)⟩
  have hr := B.returns
  have hlocks := B.notSynchronized
  have hG : zG D cI cR [(d, .inr (1, [.int (nI n), .ref e1, .ref e2, .ref e3, .ref e4])), (e1, zA cI 8 P), (e2, zA cI 16 X), (e3, zA cI 16 Y), (e4, zA cI 8 L)] s s.heap := hG
  have hl := lv_entry ([.ref d, .int (zI a)]) (n := 2) (Nat.le_of_ble_eq_true rfl)
  rw [lg_entry_eq]
  generalize (lg_sl ([.ref d, .int (zI a)]) ++ List.replicate (2 - (lg_sl ([.ref d, .int (zI a)])).length) Slot.unset).toArray = ls at hl ⊢
  have hl : lv_has ls 2 [(0, .ref d), (1, .int (zI a))] := hl
  obtain ⟨hn, hPf, hXY⟩ := id hge
  refine lv_aload_n (pc := 0) S.1 S.2.1 dX1_penOfCode_0 rfl (lv_at hl 0 rfl) ?_
  refine lv_iload_n (pc := 1) S.1 S.2.1 dX1_penOfCode_1 rfl (lv_at hl 1 rfl) ?_
  refine zz_callV (pc := 2) (As := [.int (zI a)]) (rest := []) S (c_X1_hasCode l D cI cR d e1 e2 e3 e4 n P X Y L a hge (by unfold zR; omega)) (zuV wd_218 wd_215 wd_216 wd_217 wd_14) 1 rfl q_X1_hasCode ⟨⟨rfl, rfl⟩, Nat.le_of_ble_eq_true rfl, Nat.le_of_ble_eq_true rfl⟩ hG [0, 1, 2, 3, 4] rfl 0 rfl rfl rfl rfl rfl (Nat.le_of_ble_eq_true rfl) hl.1 ⟨Nat.zero_le _, Nat.zero_le _⟩ dX1_penOfCode_2 ?_
  refine zz_ifb_eq (pc := 5) (tgt := 19) S dX1_penOfCode_5 (by decide) (fun c5 => ?_) (fun c5 => ?_)
  · refine zz_iconst (pc := 19) (v := zI (-1)) S dX1_penOfCode_19 rfl ?_
    exact zz_iretS (pc := 20) S hr hlocks (congrArg zI (a₁ := (-1)) (by simp only [oP]; first | rw [if_pos (by omega)] | rw [if_neg (by omega)])) dX1_penOfCode_20
  · refine lv_aload_n (pc := 8) S.1 S.2.1 dX1_penOfCode_8 rfl (lv_at hl 0 rfl) ?_
    refine zz_get (pc := 9) S hG iX1 0 rfl rfl 1 (by decide) wd_39 rfl rfl dX1_penOfCode_9 ?_
    refine lv_iload_n (pc := 12) S.1 S.2.1 dX1_penOfCode_12 rfl (lv_at hl 1 rfl) ?_
    refine zz_cast (v := nI a.toNat) (zn_of (by omega)) ?_
    refine zz_iconst (pc := 13) (v := nI 2) S dX1_penOfCode_13 rfl ?_
    refine zz_idiv (pc := 14) (v := nI (a.toNat / 2)) S dX1_penOfCode_14 (by decide) (n_div (by omega) (by decide) (by decide)) ?_
    refine zz_iald (pc := 15) (k := a.toNat / 2) S hG 1 rfl (by omega) dX1_penOfCode_15 ?_
    have g1 := hPf (a.toNat / 2) (by omega)
    refine lv_goto (pc := 16) (tgt := 20) S.1 S.2.1 dX1_penOfCode_16 (by decide) ?_
    exact zz_iretS (pc := 20) S hr hlocks (congrArg zI (a₁ := ((P (a.toNat / 2) : Nat) : Int)) (by simp only [oP]; first | rw [if_pos (by omega)] | rw [if_neg (by omega)])) dX1_penOfCode_20
abbrev wm_X1_changesPen : List Cond := .code yX1_changesPen cX1_changesPen 3 (some .boolean) :: wU
theorem q_X1_changesPen : yX1_changesPen.cls = RX1 ∧ yX1_changesPen.cls ≠ "java/lang/invoke/MethodHandle" ∧ yX1_changesPen.cls ≠ "java/lang/invoke/VarHandle" ∧ (parseMethodDescriptor yX1_changesPen.desc).map (fun d => d.parameters.length) = some 2 := by decide +kernel
set_option maxHeartbeats 4000000 in
set_option maxRecDepth 100000 in
theorem c_X1_changesPen (l : Launch) (D : va_G) (cI cR : ClassId) (d e1 e2 e3 e4 n : Nat) (P X Y L : Nat → Nat) (a : Int) (b : Int) (hge : zGe n P X Y) (ha : -1 ≤ a ∧ a < 2 * (n : Int)) (hb : -1 ≤ b ∧ b < 2 * (n : Int)) : Met l yX1_changesPen wm_X1_changesPen ({ frames := 2, cells := 0, slots := 0, locals := 42 } : Room) (va_Pc [.ref d, .int (zI a), .int (zI b)] (zW D cI cR [(d, .inr (1, [.int (nI n), .ref e1, .ref e2, .ref e3, .ref e4])), (e1, zA cI 8 P), (e2, zA cI 16 X), (e3, zA cI 16 Y), (e4, zA cI 8 L)])) (vp_Si (fun r => r = nI (zB (¬ oP P a = oP P b)))) 0 0 (fun _ => False) := by
  refine Met.ofW (cc := cX1_changesPen) (maxL := 3) (ret := (some .boolean)) (by decide) rfl ?_
  intro p e s m args below meth c s₁ B hml hv
  obtain ⟨rfl, hG⟩ := hv
  have S : CallFix p m c cX1_changesPen 3 s ([.ref d, .int (zI a), .int (zI b)] : List Value).toArray wU RX1 := ⟨B.exec, B.bytes, hml, findClass_of_methodNamed B.named, fun w h => atoms_spec (ws := wm_X1_changesPen) B.pre w (List.mem_cons_of_mem _ h)⟩
  have hr := B.returns
  have hlocks := B.notSynchronized
  have hG : zG D cI cR [(d, .inr (1, [.int (nI n), .ref e1, .ref e2, .ref e3, .ref e4])), (e1, zA cI 8 P), (e2, zA cI 16 X), (e3, zA cI 16 Y), (e4, zA cI 8 L)] s s.heap := hG
  have hl := lv_entry ([.ref d, .int (zI a), .int (zI b)]) (n := 3) (Nat.le_of_ble_eq_true rfl)
  rw [lg_entry_eq]
  generalize (lg_sl ([.ref d, .int (zI a), .int (zI b)]) ++ List.replicate (3 - (lg_sl ([.ref d, .int (zI a), .int (zI b)])).length) Slot.unset).toArray = ls at hl ⊢
  have hl : lv_has ls 3 [(0, .ref d), (1, .int (zI a)), (2, .int (zI b))] := hl
  obtain ⟨hn, hPf, hXY⟩ := id hge
  refine lv_aload_n (pc := 0) S.1 S.2.1 dX1_changesPen_0 rfl (lv_at hl 0 rfl) ?_
  refine lv_iload_n (pc := 1) S.1 S.2.1 dX1_changesPen_1 rfl (lv_at hl 1 rfl) ?_
  refine zz_callV (pc := 2) (As := [.int (zI a)]) (rest := []) S (c_X1_penOfCode l D cI cR d e1 e2 e3 e4 n P X Y L a hge (by omega)) (zuV wd_422 wd_419 wd_420 wd_421 wd_14) 1 rfl q_X1_penOfCode ⟨⟨rfl, rfl⟩, Nat.le_of_ble_eq_true rfl, Nat.le_of_ble_eq_true rfl⟩ hG [0, 1, 2, 3, 4] rfl 0 rfl rfl rfl rfl rfl (Nat.le_of_ble_eq_true rfl) hl.1 ⟨Nat.zero_le _, Nat.zero_le _⟩ dX1_changesPen_2 ?_
  have g1 := oP_le (a := a) (P := P) (n := n) hPf (by omega)
  refine lv_aload_n (pc := 5) S.1 S.2.1 dX1_changesPen_5 rfl (lv_at hl 0 rfl) ?_
  refine lv_iload_n (pc := 6) S.1 S.2.1 dX1_changesPen_6 rfl (lv_at hl 2 rfl) ?_
  refine zz_callV (pc := 7) (As := [.int (zI b)]) (rest := [.int (zI (oP P a))]) S (c_X1_penOfCode l D cI cR d e1 e2 e3 e4 n P X Y L b hge (by omega)) (zuV wd_422 wd_419 wd_420 wd_421 wd_14) 1 rfl q_X1_penOfCode ⟨⟨rfl, rfl⟩, Nat.le_of_ble_eq_true rfl, Nat.le_of_ble_eq_true rfl⟩ hG [0, 1, 2, 3, 4] rfl 0 rfl rfl rfl rfl rfl (Nat.le_of_ble_eq_true rfl) hl.1 ⟨Nat.zero_le _, Nat.zero_le _⟩ dX1_changesPen_7 ?_
  have g2 := oP_le (a := b) (P := P) (n := n) hPf (by omega)
  refine zz_icmp_eq (pc := 10) (tgt := 17) S dX1_changesPen_10 (by decide) (zI_eq (a := oP P a) (b := oP P b) (by unfold zR; omega) (by unfold zR; omega)) (fun c10 => ?_) (fun c10 => ?_)
  · refine zz_iconst (pc := 17) (v := nI 0) S dX1_changesPen_17 rfl ?_
    exact zz_bretS (pc := 18) S hr hlocks (by decide) (congrArg nI (zB_f (by first | omega | simp [*])).symm) dX1_changesPen_18
  · refine zz_iconst (pc := 13) (v := nI 1) S dX1_changesPen_13 rfl ?_
    refine lv_goto (pc := 14) (tgt := 18) S.1 S.2.1 dX1_changesPen_14 (by decide) ?_
    exact zz_bretS (pc := 18) S hr hlocks (by decide) (congrArg nI (zB_t (by first | omega | simp [*])).symm) dX1_changesPen_18
abbrev wm_X1_stepCost : List Cond := .code yX1_stepCost cX1_stepCost 5 (some .int) :: wU
theorem q_X1_stepCost : yX1_stepCost.cls = RX1 ∧ yX1_stepCost.cls ≠ "java/lang/invoke/MethodHandle" ∧ yX1_stepCost.cls ≠ "java/lang/invoke/VarHandle" ∧ (parseMethodDescriptor yX1_stepCost.desc).map (fun d => d.parameters.length) = some 3 := by decide +kernel
set_option maxHeartbeats 4000000 in
set_option maxRecDepth 100000 in
theorem c_X1_stepCost (l : Launch) (D : va_G) (cI cR : ClassId) (d e1 e2 e3 e4 n : Nat) (P X Y L : Nat → Nat) (a : Int) (b : Nat) (C : Nat) (hge : zGe n P X Y) (ha : -1 ≤ a ∧ a < 2 * (n : Int)) (hb : b < 2 * n) (hC : C ≤ 500) : Met l yX1_stepCost wm_X1_stepCost ({ frames := 3, cells := 0, slots := 0, locals := 64 } : Room) (va_Pc [.ref d, .int (zI a), .int (nI b), .int (nI C)] (zW D cI cR [(d, .inr (1, [.int (nI n), .ref e1, .ref e2, .ref e3, .ref e4])), (e1, zA cI 8 P), (e2, zA cI 16 X), (e3, zA cI 16 Y), (e4, zA cI 8 L)])) (vp_Si (fun r => r = nI (stp P X Y C a b))) 0 0 (fun _ => False) := by
  refine Met.ofW (cc := cX1_stepCost) (maxL := 5) (ret := (some .int)) (by decide) rfl ?_
  intro p e s m args below meth c s₁ B hml hv
  obtain ⟨rfl, hG⟩ := hv
  have S : CallFix p m c cX1_stepCost 5 s ([.ref d, .int (zI a), .int (nI b), .int (nI C)] : List Value).toArray wU RX1 := ⟨B.exec, B.bytes, hml, findClass_of_methodNamed B.named, fun w h => atoms_spec (ws := wm_X1_stepCost) B.pre w (List.mem_cons_of_mem _ h)⟩
  have hr := B.returns
  have hlocks := B.notSynchronized
  have hG : zG D cI cR [(d, .inr (1, [.int (nI n), .ref e1, .ref e2, .ref e3, .ref e4])), (e1, zA cI 8 P), (e2, zA cI 16 X), (e3, zA cI 16 Y), (e4, zA cI 8 L)] s s.heap := hG
  have hl := lv_entry ([.ref d, .int (zI a), .int (nI b), .int (nI C)]) (n := 5) (Nat.le_of_ble_eq_true rfl)
  rw [lg_entry_eq]
  generalize (lg_sl ([.ref d, .int (zI a), .int (nI b), .int (nI C)]) ++ List.replicate (5 - (lg_sl ([.ref d, .int (zI a), .int (nI b), .int (nI C)])).length) Slot.unset).toArray = ls at hl ⊢
  have hl : lv_has ls 5 [(0, .ref d), (1, .int (zI a)), (2, .int (nI b)), (3, .int (nI C))] := hl
  obtain ⟨hn, hPf, hXY⟩ := id hge
  refine lv_aload_n (pc := 0) S.1 S.2.1 dX1_stepCost_0 rfl (lv_at hl 0 rfl) ?_
  refine lv_iload_n (pc := 1) S.1 S.2.1 dX1_stepCost_1 rfl (lv_at hl 1 rfl) ?_
  refine zz_callV (pc := 2) (As := [.int (zI a)]) (rest := []) S (c_X1_endXOf l D cI cR d e1 e2 e3 e4 n P X Y L a hge (by omega)) (zuV wd_254 wd_251 wd_252 wd_253 wd_14) 1 rfl q_X1_endXOf ⟨⟨rfl, rfl⟩, Nat.le_of_ble_eq_true rfl, Nat.le_of_ble_eq_true rfl⟩ hG [0, 1, 2, 3, 4] rfl 0 rfl rfl rfl rfl rfl (Nat.le_of_ble_eq_true rfl) hl.1 ⟨Nat.zero_le _, Nat.zero_le _⟩ dX1_stepCost_2 ?_
  have g1 := oX_le (a := a) (X := X) (n := n) (fun c h => (hXY c h).1) (by omega)
  refine lv_aload_n (pc := 5) S.1 S.2.1 dX1_stepCost_5 rfl (lv_at hl 0 rfl) ?_
  refine lv_iload_n (pc := 6) S.1 S.2.1 dX1_stepCost_6 rfl (lv_at hl 1 rfl) ?_
  refine zz_callV (pc := 7) (As := [.int (zI a)]) (rest := [.int (nI (oX X a))]) S (c_X1_endYOf l D cI cR d e1 e2 e3 e4 n P X Y L a hge (by omega)) (zuV wd_258 wd_255 wd_256 wd_257 wd_14) 1 rfl q_X1_endYOf ⟨⟨rfl, rfl⟩, Nat.le_of_ble_eq_true rfl, Nat.le_of_ble_eq_true rfl⟩ hG [0, 1, 2, 3, 4] rfl 0 rfl rfl rfl rfl rfl (Nat.le_of_ble_eq_true rfl) hl.1 ⟨Nat.zero_le _, Nat.zero_le _⟩ dX1_stepCost_7 ?_
  have g2 := oX_le (a := a) (X := Y) (n := n) (fun c h => (hXY c h).2) (by omega)
  refine lv_aload_n (pc := 10) S.1 S.2.1 dX1_stepCost_10 rfl (lv_at hl 0 rfl) ?_
  refine lv_iload_n (pc := 11) S.1 S.2.1 dX1_stepCost_11 rfl (lv_at hl 2 rfl) ?_
  refine zz_callV (pc := 12) (As := [.int (nI b)]) (rest := [.int (nI (oX Y a)), .int (nI (oX X a))]) S (c_X1_beginXOf l D cI cR d e1 e2 e3 e4 n P X Y L b hge (by omega)) (zuV wd_214 wd_211 wd_212 wd_213 wd_14) 1 rfl q_X1_beginXOf ⟨⟨rfl, rfl⟩, Nat.le_of_ble_eq_true rfl, Nat.le_of_ble_eq_true rfl⟩ hG [0, 1, 2, 3, 4] rfl 0 rfl rfl rfl rfl rfl (Nat.le_of_ble_eq_true rfl) hl.1 ⟨Nat.zero_le _, Nat.zero_le _⟩ dX1_stepCost_12 ?_
  have g3 := (hXY b (by omega)).1
  refine lv_aload_n (pc := 15) S.1 S.2.1 dX1_stepCost_15 rfl (lv_at hl 0 rfl) ?_
  refine lv_iload_n (pc := 16) S.1 S.2.1 dX1_stepCost_16 rfl (lv_at hl 2 rfl) ?_
  refine zz_callV (pc := 17) (As := [.int (nI b)]) (rest := [.int (nI (X b)), .int (nI (oX Y a)), .int (nI (oX X a))]) S (c_X1_beginYOf l D cI cR d e1 e2 e3 e4 n P X Y L b hge (by omega)) (zuV wd_222 wd_219 wd_220 wd_221 wd_14) 1 rfl q_X1_beginYOf ⟨⟨rfl, rfl⟩, Nat.le_of_ble_eq_true rfl, Nat.le_of_ble_eq_true rfl⟩ hG [0, 1, 2, 3, 4] rfl 0 rfl rfl rfl rfl rfl (Nat.le_of_ble_eq_true rfl) hl.1 ⟨Nat.zero_le _, Nat.zero_le _⟩ dX1_stepCost_17 ?_
  have g4 := (hXY b (by omega)).2
  refine zz_callS (pc := 20) (As := [.int (nI (oX X a)), .int (nI (oX Y a)), .int (nI (X b)), .int (nI (Y b))]) (rest := []) S (c_X1_wayLength l D cI cR (oX X a) (oX Y a) (X b) (Y b) (by omega)) (zuS wd_411 wd_409 wd_410 wd_14) 4 rfl q_X1_wayLength.2 ⟨⟨rfl, rfl⟩, Nat.le_of_ble_eq_true rfl, Nat.le_of_ble_eq_true rfl⟩ rfl rfl (Nat.le_of_ble_eq_true rfl) hl.1 ⟨Nat.zero_le _, Nat.zero_le _⟩ dX1_stepCost_20 ?_
  have g5 := zfar_le (x1 := (oX X a)) (x2 := (X b)) (y1 := (oX Y a)) (y2 := (Y b)) (by omega)
  refine lv_istore (pc := 23) (lv' := [(4, .int (nI (zfar (((oX X a) : Int) - ((X b) : Int)) (((oX Y a) : Int) - ((Y b) : Int))))), (0, .ref d), (1, .int (zI a)), (2, .int (nI b)), (3, .int (nI C))]) S.1 S.2.1 dX1_stepCost_23 hl (by decide) rfl (fun ls hl => ?_)
  refine lv_iload (pc := 25) S.1 S.2.1 dX1_stepCost_25 (lv_at hl 0 rfl) ?_
  refine lv_aload_n (pc := 27) S.1 S.2.1 dX1_stepCost_27 rfl (lv_at hl 1 rfl) ?_
  refine lv_iload_n (pc := 28) S.1 S.2.1 dX1_stepCost_28 rfl (lv_at hl 2 rfl) ?_
  refine lv_iload_n (pc := 29) S.1 S.2.1 dX1_stepCost_29 rfl (lv_at hl 3 rfl) ?_
  have J6 : ∀ ls : Array Slot, lv_has ls 5 [(0, .ref d), (1, .int (zI a)), (2, .int (nI b)), (3, .int (nI C)), (4, .int (nI (zfar (((oX X a) : Int) - ((X b) : Int)) (((oX Y a) : Int) - ((Y b) : Int)))))] → W p l e (headSpec wm_X1_stepCost ({ frames := 3, cells := 0, slots := 0, locals := 64 } : Room)).room s m ([.ref d, .int (zI a), .int (nI b), .int (nI C)] : List Value).toArray below meth c s.heap [] 0 0 (MQ below (vp_Si (fun r => r = nI (stp P X Y C a b))) ([.ref d, .int (zI a), .int (nI b), .int (nI C)] : List Value).toArray s 0 0 (fun _ => False)) (F0 m 41 ls [.int (nI (if oP P a = oP P (b : Int) then 0 else C)), .int (nI (zfar (((oX X a) : Int) - ((X b) : Int)) (((oX Y a) : Int) - ((Y b) : Int))))]) := by
    intro ls hl
    have hif : (if oP P a = oP P (b : Int) then 0 else C) ≤ 500 := by split <;> omega
    refine zz_iadd (pc := 41) (v := nI (zfar (((oX X a) : Int) - ((X b) : Int)) (((oX Y a) : Int) - ((Y b) : Int)) + (if oP P a = oP P (b : Int) then 0 else C))) S dX1_stepCost_41 (n_add _ _) ?_
    exact zz_iretS (pc := 42) S hr hlocks (congrArg nI (by rfl)) dX1_stepCost_42
  refine zz_callV (pc := 30) (As := [.int (zI a), .int (zI ((b : Nat) : Int))]) (rest := [.int (nI (zfar (((oX X a) : Int) - ((X b) : Int)) (((oX Y a) : Int) - ((Y b) : Int))))]) S (c_X1_changesPen l D cI cR d e1 e2 e3 e4 n P X Y L a ((b : Nat) : Int) hge (by omega) (by omega)) (zuV wd_418 wd_415 wd_416 wd_417 wd_14) 2 rfl q_X1_changesPen ⟨⟨rfl, rfl⟩, Nat.le_of_ble_eq_true rfl, Nat.le_of_ble_eq_true rfl⟩ hG [0, 1, 2, 3, 4] rfl 0 rfl rfl rfl rfl rfl (Nat.le_of_ble_eq_true rfl) hl.1 ⟨Nat.zero_le _, Nat.zero_le _⟩ dX1_stepCost_30 ?_
  refine zz_ifb_eq (pc := 33) (tgt := 40) S dX1_stepCost_33 (by decide) (fun c33 => ?_) (fun c33 => ?_)
  · refine zz_iconst (pc := 40) (v := nI 0) S dX1_stepCost_40 rfl ?_
    refine zz_cast (v := nI (if oP P a = oP P (b : Int) then 0 else C)) (congrArg nI (by first | rw [if_pos (by omega)] | rw [if_neg (by omega)])) ?_
    exact J6 ls (lv_sub hl [1, 2, 3, 4, 0] rfl)
  · refine lv_iload_n (pc := 36) S.1 S.2.1 dX1_stepCost_36 rfl (lv_at hl 4 rfl) ?_
    refine lv_goto (pc := 37) (tgt := 41) S.1 S.2.1 dX1_stepCost_37 (by decide) ?_
    refine zz_cast (v := nI (if oP P a = oP P (b : Int) then 0 else C)) (congrArg nI (by first | rw [if_pos (by omega)] | rw [if_neg (by omega)])) ?_
    exact J6 ls (lv_sub hl [1, 2, 3, 4, 0] rfl)
abbrev wm_X1_samePoint : List Cond := .code yX1_samePoint cX1_samePoint 3 (some .boolean) :: wU
theorem q_X1_samePoint : yX1_samePoint.cls = RX1 ∧ yX1_samePoint.cls ≠ "java/lang/invoke/MethodHandle" ∧ yX1_samePoint.cls ≠ "java/lang/invoke/VarHandle" ∧ (parseMethodDescriptor yX1_samePoint.desc).map (fun d => d.parameters.length) = some 2 := by decide +kernel
set_option maxHeartbeats 4000000 in
set_option maxRecDepth 100000 in
theorem c_X1_samePoint (l : Launch) (D : va_G) (cI cR : ClassId) (d e1 e2 e3 e4 n : Nat) (P X Y L : Nat → Nat) (a : Nat) (b : Nat) (hge : zGe n P X Y) (ha : a < 2 * n) (hb : b < 2 * n) : Met l yX1_samePoint wm_X1_samePoint ({ frames := 2, cells := 0, slots := 0, locals := 42 } : Room) (va_Pc [.ref d, .int (nI a), .int (nI b)] (zW D cI cR [(d, .inr (1, [.int (nI n), .ref e1, .ref e2, .ref e3, .ref e4])), (e1, zA cI 8 P), (e2, zA cI 16 X), (e3, zA cI 16 Y), (e4, zA cI 8 L)])) (vp_Si (fun r => r = nI (zB (X a = X b ∧ Y a = Y b)))) 0 0 (fun _ => False) := by
  refine Met.ofW (cc := cX1_samePoint) (maxL := 3) (ret := (some .boolean)) (by decide) rfl ?_
  intro p e s m args below meth c s₁ B hml hv
  obtain ⟨rfl, hG⟩ := hv
  have S : CallFix p m c cX1_samePoint 3 s ([.ref d, .int (nI a), .int (nI b)] : List Value).toArray wU RX1 := ⟨B.exec, B.bytes, hml, findClass_of_methodNamed B.named, fun w h => atoms_spec (ws := wm_X1_samePoint) B.pre w (List.mem_cons_of_mem _ h)⟩
  have hr := B.returns
  have hlocks := B.notSynchronized
  have hG : zG D cI cR [(d, .inr (1, [.int (nI n), .ref e1, .ref e2, .ref e3, .ref e4])), (e1, zA cI 8 P), (e2, zA cI 16 X), (e3, zA cI 16 Y), (e4, zA cI 8 L)] s s.heap := hG
  have hl := lv_entry ([.ref d, .int (nI a), .int (nI b)]) (n := 3) (Nat.le_of_ble_eq_true rfl)
  rw [lg_entry_eq]
  generalize (lg_sl ([.ref d, .int (nI a), .int (nI b)]) ++ List.replicate (3 - (lg_sl ([.ref d, .int (nI a), .int (nI b)])).length) Slot.unset).toArray = ls at hl ⊢
  have hl : lv_has ls 3 [(0, .ref d), (1, .int (nI a)), (2, .int (nI b))] := hl
  obtain ⟨hn, hPf, hXY⟩ := id hge
  refine lv_aload_n (pc := 0) S.1 S.2.1 dX1_samePoint_0 rfl (lv_at hl 0 rfl) ?_
  refine lv_iload_n (pc := 1) S.1 S.2.1 dX1_samePoint_1 rfl (lv_at hl 1 rfl) ?_
  refine zz_callV (pc := 2) (As := [.int (nI a)]) (rest := []) S (c_X1_beginXOf l D cI cR d e1 e2 e3 e4 n P X Y L a hge (by omega)) (zuV wd_214 wd_211 wd_212 wd_213 wd_14) 1 rfl q_X1_beginXOf ⟨⟨rfl, rfl⟩, Nat.le_of_ble_eq_true rfl, Nat.le_of_ble_eq_true rfl⟩ hG [0, 1, 2, 3, 4] rfl 0 rfl rfl rfl rfl rfl (Nat.le_of_ble_eq_true rfl) hl.1 ⟨Nat.zero_le _, Nat.zero_le _⟩ dX1_samePoint_2 ?_
  have g1 := (hXY a (by omega)).1
  refine lv_aload_n (pc := 5) S.1 S.2.1 dX1_samePoint_5 rfl (lv_at hl 0 rfl) ?_
  refine lv_iload_n (pc := 6) S.1 S.2.1 dX1_samePoint_6 rfl (lv_at hl 2 rfl) ?_
  refine zz_callV (pc := 7) (As := [.int (nI b)]) (rest := [.int (nI (X a))]) S (c_X1_beginXOf l D cI cR d e1 e2 e3 e4 n P X Y L b hge (by omega)) (zuV wd_214 wd_211 wd_212 wd_213 wd_14) 1 rfl q_X1_beginXOf ⟨⟨rfl, rfl⟩, Nat.le_of_ble_eq_true rfl, Nat.le_of_ble_eq_true rfl⟩ hG [0, 1, 2, 3, 4] rfl 0 rfl rfl rfl rfl rfl (Nat.le_of_ble_eq_true rfl) hl.1 ⟨Nat.zero_le _, Nat.zero_le _⟩ dX1_samePoint_7 ?_
  have g2 := (hXY b (by omega)).1
  refine zz_icmp_ne (pc := 10) (tgt := 30) S dX1_samePoint_10 (by decide) (n_eq (by omega) (by omega)) (fun c10 => ?_) (fun c10 => ?_)
  · refine zz_iconst (pc := 30) (v := nI 0) S dX1_samePoint_30 rfl ?_
    exact zz_bretS (pc := 31) S hr hlocks (by decide) (congrArg nI (zB_f (by first | omega | rfl)).symm) dX1_samePoint_31
  · refine lv_aload_n (pc := 13) S.1 S.2.1 dX1_samePoint_13 rfl (lv_at hl 0 rfl) ?_
    refine lv_iload_n (pc := 14) S.1 S.2.1 dX1_samePoint_14 rfl (lv_at hl 1 rfl) ?_
    refine zz_callV (pc := 15) (As := [.int (nI a)]) (rest := []) S (c_X1_beginYOf l D cI cR d e1 e2 e3 e4 n P X Y L a hge (by omega)) (zuV wd_222 wd_219 wd_220 wd_221 wd_14) 1 rfl q_X1_beginYOf ⟨⟨rfl, rfl⟩, Nat.le_of_ble_eq_true rfl, Nat.le_of_ble_eq_true rfl⟩ hG [0, 1, 2, 3, 4] rfl 0 rfl rfl rfl rfl rfl (Nat.le_of_ble_eq_true rfl) hl.1 ⟨Nat.zero_le _, Nat.zero_le _⟩ dX1_samePoint_15 ?_
    have g3 := (hXY a (by omega)).2
    refine lv_aload_n (pc := 18) S.1 S.2.1 dX1_samePoint_18 rfl (lv_at hl 0 rfl) ?_
    refine lv_iload_n (pc := 19) S.1 S.2.1 dX1_samePoint_19 rfl (lv_at hl 2 rfl) ?_
    refine zz_callV (pc := 20) (As := [.int (nI b)]) (rest := [.int (nI (Y a))]) S (c_X1_beginYOf l D cI cR d e1 e2 e3 e4 n P X Y L b hge (by omega)) (zuV wd_222 wd_219 wd_220 wd_221 wd_14) 1 rfl q_X1_beginYOf ⟨⟨rfl, rfl⟩, Nat.le_of_ble_eq_true rfl, Nat.le_of_ble_eq_true rfl⟩ hG [0, 1, 2, 3, 4] rfl 0 rfl rfl rfl rfl rfl (Nat.le_of_ble_eq_true rfl) hl.1 ⟨Nat.zero_le _, Nat.zero_le _⟩ dX1_samePoint_20 ?_
    have g4 := (hXY b (by omega)).2
    refine zz_icmp_ne (pc := 23) (tgt := 30) S dX1_samePoint_23 (by decide) (n_eq (by omega) (by omega)) (fun c23 => ?_) (fun c23 => ?_)
    · refine zz_iconst (pc := 30) (v := nI 0) S dX1_samePoint_30 rfl ?_
      exact zz_bretS (pc := 31) S hr hlocks (by decide) (congrArg nI (zB_f (by first | omega | rfl)).symm) dX1_samePoint_31
    · refine zz_iconst (pc := 26) (v := nI 1) S dX1_samePoint_26 rfl ?_
      refine lv_goto (pc := 27) (tgt := 31) S.1 S.2.1 dX1_samePoint_27 (by decide) ?_
      exact zz_bretS (pc := 31) S hr hlocks (by decide) (congrArg nI (zB_t (by first | omega | rfl)).symm) dX1_samePoint_31
abbrev wm_X1_lengthAt : List Cond := .code yX1_lengthAt cX1_lengthAt 3 (some .int) :: wU
theorem q_X1_lengthAt : yX1_lengthAt.cls = RX1 ∧ yX1_lengthAt.cls ≠ "java/lang/invoke/MethodHandle" ∧ yX1_lengthAt.cls ≠ "java/lang/invoke/VarHandle" ∧ (parseMethodDescriptor yX1_lengthAt.desc).map (fun d => d.parameters.length) = some 1 := by decide +kernel
set_option maxHeartbeats 4000000 in
set_option maxRecDepth 100000 in
theorem c_X1_lengthAt (l : Launch) (D : va_G) (cI cR : ClassId) (d e1 e2 e3 e4 n : Nat) (P X Y L : Nat → Nat) (a : Nat) (hok : zOk n P X Y L) (ha : a < n) : Met l yX1_lengthAt wm_X1_lengthAt ({ frames := 2, cells := 0, slots := 0, locals := 42 } : Room) (va_Pc [.ref d, .int (nI a)] (zW D cI cR [(d, .inr (1, [.int (nI n), .ref e1, .ref e2, .ref e3, .ref e4])), (e1, zA cI 8 P), (e2, zA cI 16 X), (e3, zA cI 16 Y), (e4, zA cI 8 L)])) (vp_Si (fun r => r = nI (lng X Y (L a)))) 0 0 (fun _ => False) := by
  refine Met.ofW (cc := cX1_lengthAt) (maxL := 3) (ret := (some .int)) (by decide) rfl ?_
  intro p e s m args below meth c s₁ B hml hv
  obtain ⟨rfl, hG⟩ := hv
  have S : CallFix p m c cX1_lengthAt 3 s ([.ref d, .int (nI a)] : List Value).toArray wU RX1 := ⟨B.exec, B.bytes, hml, findClass_of_methodNamed B.named, fun w h => atoms_spec (ws := wm_X1_lengthAt) B.pre w (List.mem_cons_of_mem _ h)⟩
  have hr := B.returns
  have hlocks := B.notSynchronized
  have hG : zG D cI cR [(d, .inr (1, [.int (nI n), .ref e1, .ref e2, .ref e3, .ref e4])), (e1, zA cI 8 P), (e2, zA cI 16 X), (e3, zA cI 16 Y), (e4, zA cI 8 L)] s s.heap := hG
  have hl := lv_entry ([.ref d, .int (nI a)]) (n := 3) (Nat.le_of_ble_eq_true rfl)
  rw [lg_entry_eq]
  generalize (lg_sl ([.ref d, .int (nI a)]) ++ List.replicate (3 - (lg_sl ([.ref d, .int (nI a)])).length) Slot.unset).toArray = ls at hl ⊢
  have hl : lv_has ls 3 [(0, .ref d), (1, .int (nI a))] := hl
  obtain ⟨⟨hn, hPf, hXY⟩, hLf, hinj⟩ := id hok
  refine lv_aload_n (pc := 0) S.1 S.2.1 dX1_lengthAt_0 rfl (lv_at hl 0 rfl) ?_
  refine lv_iload_n (pc := 1) S.1 S.2.1 dX1_lengthAt_1 rfl (lv_at hl 1 rfl) ?_
  refine zz_callV (pc := 2) (As := [.int (nI a)]) (rest := []) S (c_X1_codeAt l D cI cR d e1 e2 e3 e4 n P X Y L a hok (by omega)) (zuV wd_351 wd_622 wd_349 wd_350 wd_14) 1 rfl q_X1_codeAt ⟨⟨rfl, rfl⟩, Nat.le_of_ble_eq_true rfl, Nat.le_of_ble_eq_true rfl⟩ hG [0, 1, 2, 3, 4] rfl 0 rfl rfl rfl rfl rfl (Nat.le_of_ble_eq_true rfl) hl.1 ⟨Nat.zero_le _, Nat.zero_le _⟩ dX1_lengthAt_2 ?_
  have g1 := hLf a (by omega)
  refine lv_istore_n (pc := 5) (lv' := [(2, .int (nI (L a))), (0, .ref d), (1, .int (nI a))]) S.1 S.2.1 dX1_lengthAt_5 rfl hl (by decide) rfl (fun ls hl => ?_)
  refine lv_aload_n (pc := 6) S.1 S.2.1 dX1_lengthAt_6 rfl (lv_at hl 1 rfl) ?_
  refine lv_iload_n (pc := 7) S.1 S.2.1 dX1_lengthAt_7 rfl (lv_at hl 0 rfl) ?_
  refine zz_callV (pc := 8) (As := [.int (nI (L a))]) (rest := []) S (c_X1_beginXOf l D cI cR d e1 e2 e3 e4 n P X Y L (L a) hok.1 (by omega)) (zuV wd_214 wd_211 wd_212 wd_213 wd_14) 1 rfl q_X1_beginXOf ⟨⟨rfl, rfl⟩, Nat.le_of_ble_eq_true rfl, Nat.le_of_ble_eq_true rfl⟩ hG [0, 1, 2, 3, 4] rfl 0 rfl rfl rfl rfl rfl (Nat.le_of_ble_eq_true rfl) hl.1 ⟨Nat.zero_le _, Nat.zero_le _⟩ dX1_lengthAt_8 ?_
  have g2 := (hXY (L a) (by omega)).1
  refine lv_aload_n (pc := 11) S.1 S.2.1 dX1_lengthAt_11 rfl (lv_at hl 1 rfl) ?_
  refine lv_iload_n (pc := 12) S.1 S.2.1 dX1_lengthAt_12 rfl (lv_at hl 0 rfl) ?_
  refine zz_callV (pc := 13) (As := [.int (nI (L a))]) (rest := [.int (nI (X (L a)))]) S (c_X1_beginYOf l D cI cR d e1 e2 e3 e4 n P X Y L (L a) hok.1 (by omega)) (zuV wd_222 wd_219 wd_220 wd_221 wd_14) 1 rfl q_X1_beginYOf ⟨⟨rfl, rfl⟩, Nat.le_of_ble_eq_true rfl, Nat.le_of_ble_eq_true rfl⟩ hG [0, 1, 2, 3, 4] rfl 0 rfl rfl rfl rfl rfl (Nat.le_of_ble_eq_true rfl) hl.1 ⟨Nat.zero_le _, Nat.zero_le _⟩ dX1_lengthAt_13 ?_
  have g3 := (hXY (L a) (by omega)).2
  refine lv_aload_n (pc := 16) S.1 S.2.1 dX1_lengthAt_16 rfl (lv_at hl 1 rfl) ?_
  refine lv_iload_n (pc := 17) S.1 S.2.1 dX1_lengthAt_17 rfl (lv_at hl 0 rfl) ?_
  refine zz_callV (pc := 18) (As := [.int (zI ((L a : Nat) : Int))]) (rest := [.int (nI (Y (L a))), .int (nI (X (L a)))]) S (c_X1_endXOf l D cI cR d e1 e2 e3 e4 n P X Y L ((L a : Nat) : Int) hok.1 (by omega)) (zuV wd_254 wd_251 wd_252 wd_253 wd_14) 1 rfl q_X1_endXOf ⟨⟨rfl, rfl⟩, Nat.le_of_ble_eq_true rfl, Nat.le_of_ble_eq_true rfl⟩ hG [0, 1, 2, 3, 4] rfl 0 rfl rfl rfl rfl rfl (Nat.le_of_ble_eq_true rfl) hl.1 ⟨Nat.zero_le _, Nat.zero_le _⟩ dX1_lengthAt_18 ?_
  refine zz_cast (v := nI (X (sw (L a)))) (congrArg nI (oX_n X (L a))) ?_
  have g4 := (hXY (sw (L a)) (sw_lt (by omega))).1
  refine lv_aload_n (pc := 21) S.1 S.2.1 dX1_lengthAt_21 rfl (lv_at hl 1 rfl) ?_
  refine lv_iload_n (pc := 22) S.1 S.2.1 dX1_lengthAt_22 rfl (lv_at hl 0 rfl) ?_
  refine zz_callV (pc := 23) (As := [.int (zI ((L a : Nat) : Int))]) (rest := [.int (nI (X (sw (L a)))), .int (nI (Y (L a))), .int (nI (X (L a)))]) S (c_X1_endYOf l D cI cR d e1 e2 e3 e4 n P X Y L ((L a : Nat) : Int) hok.1 (by omega)) (zuV wd_258 wd_255 wd_256 wd_257 wd_14) 1 rfl q_X1_endYOf ⟨⟨rfl, rfl⟩, Nat.le_of_ble_eq_true rfl, Nat.le_of_ble_eq_true rfl⟩ hG [0, 1, 2, 3, 4] rfl 0 rfl rfl rfl rfl rfl (Nat.le_of_ble_eq_true rfl) hl.1 ⟨Nat.zero_le _, Nat.zero_le _⟩ dX1_lengthAt_23 ?_
  refine zz_cast (v := nI (Y (sw (L a)))) (congrArg nI (oX_n Y (L a))) ?_
  have g5 := (hXY (sw (L a)) (sw_lt (by omega))).2
  refine zz_callS (pc := 26) (As := [.int (nI (X (L a))), .int (nI (Y (L a))), .int (nI (X (sw (L a)))), .int (nI (Y (sw (L a))))]) (rest := []) S (c_X1_wayLength l D cI cR (X (L a)) (Y (L a)) (X (sw (L a))) (Y (sw (L a))) (by omega)) (zuS wd_411 wd_409 wd_410 wd_14) 4 rfl q_X1_wayLength.2 ⟨⟨rfl, rfl⟩, Nat.le_of_ble_eq_true rfl, Nat.le_of_ble_eq_true rfl⟩ rfl rfl (Nat.le_of_ble_eq_true rfl) hl.1 ⟨Nat.zero_le _, Nat.zero_le _⟩ dX1_lengthAt_26 ?_
  have g6 := zfar_le (x1 := (X (L a))) (x2 := (X (sw (L a)))) (y1 := (Y (L a))) (y2 := (Y (sw (L a)))) (by omega)
  exact zz_iretS (pc := 29) S hr hlocks (congrArg nI (by first | rfl | (unfold lng dxx zfar; omega))) dX1_lengthAt_29
abbrev wm_X1_isLinkedToNext : List Cond := .code yX1_isLinkedToNext cX1_isLinkedToNext 4 (some .boolean) :: wU
theorem q_X1_isLinkedToNext : yX1_isLinkedToNext.cls = RX1 ∧ yX1_isLinkedToNext.cls ≠ "java/lang/invoke/MethodHandle" ∧ yX1_isLinkedToNext.cls ≠ "java/lang/invoke/VarHandle" ∧ (parseMethodDescriptor yX1_isLinkedToNext.desc).map (fun d => d.parameters.length) = some 1 := by decide +kernel
set_option maxHeartbeats 4000000 in
set_option maxRecDepth 100000 in
theorem c_X1_isLinkedToNext (l : Launch) (D : va_G) (cI cR : ClassId) (d e1 e2 e3 e4 n : Nat) (P X Y L : Nat → Nat) (a : Nat) (hok : zOk n P X Y L) (ha : a < n) : Met l yX1_isLinkedToNext wm_X1_isLinkedToNext ({ frames := 3, cells := 0, slots := 0, locals := 64 } : Room) (va_Pc [.ref d, .int (nI a)] (zW D cI cR [(d, .inr (1, [.int (nI n), .ref e1, .ref e2, .ref e3, .ref e4])), (e1, zA cI 8 P), (e2, zA cI 16 X), (e3, zA cI 16 Y), (e4, zA cI 8 L)])) (vp_Si (fun r => r = nI (zB (lnk n P X Y L a)))) 0 0 (fun _ => False) := by
  refine Met.ofW (cc := cX1_isLinkedToNext) (maxL := 4) (ret := (some .boolean)) (by decide) rfl ?_
  intro p e s m args below meth c s₁ B hml hv
  obtain ⟨rfl, hG⟩ := hv
  have S : CallFix p m c cX1_isLinkedToNext 4 s ([.ref d, .int (nI a)] : List Value).toArray wU RX1 := ⟨B.exec, B.bytes, hml, findClass_of_methodNamed B.named, fun w h => atoms_spec (ws := wm_X1_isLinkedToNext) B.pre w (List.mem_cons_of_mem _ h)⟩
  have hr := B.returns
  have hlocks := B.notSynchronized
  have hG : zG D cI cR [(d, .inr (1, [.int (nI n), .ref e1, .ref e2, .ref e3, .ref e4])), (e1, zA cI 8 P), (e2, zA cI 16 X), (e3, zA cI 16 Y), (e4, zA cI 8 L)] s s.heap := hG
  have hl := lv_entry ([.ref d, .int (nI a)]) (n := 4) (Nat.le_of_ble_eq_true rfl)
  rw [lg_entry_eq]
  generalize (lg_sl ([.ref d, .int (nI a)]) ++ List.replicate (4 - (lg_sl ([.ref d, .int (nI a)])).length) Slot.unset).toArray = ls at hl ⊢
  have hl : lv_has ls 4 [(0, .ref d), (1, .int (nI a))] := hl
  obtain ⟨⟨hn, hPf, hXY⟩, hLf, hinj⟩ := id hok
  refine lv_aload_n (pc := 0) S.1 S.2.1 dX1_isLinkedToNext_0 rfl (lv_at hl 0 rfl) ?_
  refine lv_iload_n (pc := 1) S.1 S.2.1 dX1_isLinkedToNext_1 rfl (lv_at hl 1 rfl) ?_
  refine zz_callV (pc := 2) (As := [.int (zI ((a : Nat) : Int))]) (rest := []) S (c_X1_hasPosition l D cI cR d e1 e2 e3 e4 n P X Y L ((a : Nat) : Int) hok.1 (by unfold zR; omega)) (zuV wd_347 wd_352 wd_345 wd_346 wd_14) 1 rfl q_X1_hasPosition ⟨⟨rfl, rfl⟩, Nat.le_of_ble_eq_true rfl, Nat.le_of_ble_eq_true rfl⟩ hG [0, 1, 2, 3, 4] rfl 0 rfl rfl rfl rfl rfl (Nat.le_of_ble_eq_true rfl) hl.1 ⟨Nat.zero_le _, Nat.zero_le _⟩ dX1_isLinkedToNext_2 ?_
  refine zz_ifb_eq (pc := 5) (tgt := 18) S dX1_isLinkedToNext_5 (by decide) (fun c5 => ?_) (fun c5 => ?_)
  · refine zz_iconst (pc := 18) (v := nI 0) S dX1_isLinkedToNext_18 rfl ?_
    exact zz_bretS (pc := 19) S hr hlocks (by decide) (congrArg nI (zB_f (by first | omega | (exact ⟨by omega, by omega, by omega, by omega⟩) | (intro q; obtain ⟨q1, q2, q3, q4⟩ := q; omega))).symm) dX1_isLinkedToNext_19
  · refine lv_aload_n (pc := 8) S.1 S.2.1 dX1_isLinkedToNext_8 rfl (lv_at hl 0 rfl) ?_
    refine lv_iload_n (pc := 9) S.1 S.2.1 dX1_isLinkedToNext_9 rfl (lv_at hl 1 rfl) ?_
    refine zz_iconst (pc := 10) (v := nI 1) S dX1_isLinkedToNext_10 rfl ?_
    refine zz_iadd (pc := 11) (v := nI (a + 1)) S dX1_isLinkedToNext_11 (n_add _ _) ?_
    refine zz_callV (pc := 12) (As := [.int (zI ((a + 1 : Nat) : Int))]) (rest := []) S (c_X1_hasPosition l D cI cR d e1 e2 e3 e4 n P X Y L ((a + 1 : Nat) : Int) hok.1 (by unfold zR; omega)) (zuV wd_347 wd_352 wd_345 wd_346 wd_14) 1 rfl q_X1_hasPosition ⟨⟨rfl, rfl⟩, Nat.le_of_ble_eq_true rfl, Nat.le_of_ble_eq_true rfl⟩ hG [0, 1, 2, 3, 4] rfl 0 rfl rfl rfl rfl rfl (Nat.le_of_ble_eq_true rfl) hl.1 ⟨Nat.zero_le _, Nat.zero_le _⟩ dX1_isLinkedToNext_12 ?_
    refine zz_ifb_ne (pc := 15) (tgt := 20) S dX1_isLinkedToNext_15 (by decide) (fun c15 => ?_) (fun c15 => ?_)
    · refine lv_aload_n (pc := 20) S.1 S.2.1 dX1_isLinkedToNext_20 rfl (lv_at hl 0 rfl) ?_
      refine zz_get (pc := 21) S hG iX1 0 rfl rfl 4 (by decide) wd_42 rfl rfl dX1_isLinkedToNext_21 ?_
      refine lv_iload_n (pc := 24) S.1 S.2.1 dX1_isLinkedToNext_24 rfl (lv_at hl 1 rfl) ?_
      refine zz_iald (pc := 25) (k := a) S hG 4 rfl (by omega) dX1_isLinkedToNext_25 ?_
      have g1 := hLf a (by omega)
      refine lv_istore_n (pc := 26) (lv' := [(2, .int (nI (L a))), (0, .ref d), (1, .int (nI a))]) S.1 S.2.1 dX1_isLinkedToNext_26 rfl hl (by decide) rfl (fun ls hl => ?_)
      refine lv_aload_n (pc := 27) S.1 S.2.1 dX1_isLinkedToNext_27 rfl (lv_at hl 1 rfl) ?_
      refine zz_get (pc := 28) S hG iX1 0 rfl rfl 4 (by decide) wd_42 rfl rfl dX1_isLinkedToNext_28 ?_
      refine lv_iload_n (pc := 31) S.1 S.2.1 dX1_isLinkedToNext_31 rfl (lv_at hl 2 rfl) ?_
      refine zz_iconst (pc := 32) (v := nI 1) S dX1_isLinkedToNext_32 rfl ?_
      refine zz_iadd (pc := 33) (v := nI (a + 1)) S dX1_isLinkedToNext_33 (n_add _ _) ?_
      refine zz_iald (pc := 34) (k := a + 1) S hG 4 rfl (by omega) dX1_isLinkedToNext_34 ?_
      have g2 := hLf (a + 1) (by omega)
      refine lv_istore_n (pc := 35) (lv' := [(3, .int (nI (L (a + 1)))), (2, .int (nI (L a))), (0, .ref d), (1, .int (nI a))]) S.1 S.2.1 dX1_isLinkedToNext_35 rfl hl (by decide) rfl (fun ls hl => ?_)
      refine lv_aload_n (pc := 36) S.1 S.2.1 dX1_isLinkedToNext_36 rfl (lv_at hl 2 rfl) ?_
      refine lv_iload_n (pc := 37) S.1 S.2.1 dX1_isLinkedToNext_37 rfl (lv_at hl 1 rfl) ?_
      refine lv_iload_n (pc := 38) S.1 S.2.1 dX1_isLinkedToNext_38 rfl (lv_at hl 0 rfl) ?_
      refine zz_callV (pc := 39) (As := [.int (zI ((L a : Nat) : Int)), .int (zI ((L (a + 1) : Nat) : Int))]) (rest := []) S (c_X1_changesPen l D cI cR d e1 e2 e3 e4 n P X Y L ((L a : Nat) : Int) ((L (a + 1) : Nat) : Int) hok.1 (by omega) (by omega)) (zuV wd_418 wd_415 wd_416 wd_417 wd_14) 2 rfl q_X1_changesPen ⟨⟨rfl, rfl⟩, Nat.le_of_ble_eq_true rfl, Nat.le_of_ble_eq_true rfl⟩ hG [0, 1, 2, 3, 4] rfl 0 rfl rfl rfl rfl rfl (Nat.le_of_ble_eq_true rfl) hl.1 ⟨Nat.zero_le _, Nat.zero_le _⟩ dX1_isLinkedToNext_39 ?_
      refine zz_ifb_ne (pc := 42) (tgt := 75) S dX1_isLinkedToNext_42 (by decide) (fun c42 => ?_) (fun c42 => ?_)
      · have w1 : ¬ P (L a / 2) = P (L (a + 1) / 2) := by intro q; apply c42; rw [oP_n, oP_n, q]
        refine zz_iconst (pc := 75) (v := nI 0) S dX1_isLinkedToNext_75 rfl ?_
        exact zz_bretS (pc := 76) S hr hlocks (by decide) (congrArg nI (zB_f (by first | omega | (exact ⟨by omega, by omega, by omega, by omega⟩) | (intro q; obtain ⟨q1, q2, q3, q4⟩ := q; omega))).symm) dX1_isLinkedToNext_76
      · have w1 : P (L a / 2) = P (L (a + 1) / 2) := by have q := Decidable.not_not.mp c42; rw [oP_n, oP_n] at q; omega
        refine lv_aload_n (pc := 45) S.1 S.2.1 dX1_isLinkedToNext_45 rfl (lv_at hl 2 rfl) ?_
        refine lv_iload_n (pc := 46) S.1 S.2.1 dX1_isLinkedToNext_46 rfl (lv_at hl 1 rfl) ?_
        refine zz_callV (pc := 47) (As := [.int (zI ((L a : Nat) : Int))]) (rest := []) S (c_X1_endXOf l D cI cR d e1 e2 e3 e4 n P X Y L ((L a : Nat) : Int) hok.1 (by omega)) (zuV wd_254 wd_251 wd_252 wd_253 wd_14) 1 rfl q_X1_endXOf ⟨⟨rfl, rfl⟩, Nat.le_of_ble_eq_true rfl, Nat.le_of_ble_eq_true rfl⟩ hG [0, 1, 2, 3, 4] rfl 0 rfl rfl rfl rfl rfl (Nat.le_of_ble_eq_true rfl) hl.1 ⟨Nat.zero_le _, Nat.zero_le _⟩ dX1_isLinkedToNext_47 ?_
        refine zz_cast (v := nI (X (sw (L a)))) (congrArg nI (oX_n X (L a))) ?_
        have g3 := (hXY (sw (L a)) (sw_lt (by omega))).1
        refine lv_aload_n (pc := 50) S.1 S.2.1 dX1_isLinkedToNext_50 rfl (lv_at hl 2 rfl) ?_
        refine lv_iload_n (pc := 51) S.1 S.2.1 dX1_isLinkedToNext_51 rfl (lv_at hl 0 rfl) ?_
        refine zz_callV (pc := 52) (As := [.int (nI (L (a + 1)))]) (rest := [.int (nI (X (sw (L a))))]) S (c_X1_beginXOf l D cI cR d e1 e2 e3 e4 n P X Y L (L (a + 1)) hok.1 (by omega)) (zuV wd_214 wd_211 wd_212 wd_213 wd_14) 1 rfl q_X1_beginXOf ⟨⟨rfl, rfl⟩, Nat.le_of_ble_eq_true rfl, Nat.le_of_ble_eq_true rfl⟩ hG [0, 1, 2, 3, 4] rfl 0 rfl rfl rfl rfl rfl (Nat.le_of_ble_eq_true rfl) hl.1 ⟨Nat.zero_le _, Nat.zero_le _⟩ dX1_isLinkedToNext_52 ?_
        have g4 := (hXY (L (a + 1)) (by omega)).1
        refine zz_icmp_ne (pc := 55) (tgt := 75) S dX1_isLinkedToNext_55 (by decide) (n_eq (by omega) (by omega)) (fun c55 => ?_) (fun c55 => ?_)
        · refine zz_iconst (pc := 75) (v := nI 0) S dX1_isLinkedToNext_75 rfl ?_
          exact zz_bretS (pc := 76) S hr hlocks (by decide) (congrArg nI (zB_f (by first | omega | (exact ⟨by omega, by omega, by omega, by omega⟩) | (intro q; obtain ⟨q1, q2, q3, q4⟩ := q; omega))).symm) dX1_isLinkedToNext_76
        · refine lv_aload_n (pc := 58) S.1 S.2.1 dX1_isLinkedToNext_58 rfl (lv_at hl 2 rfl) ?_
          refine lv_iload_n (pc := 59) S.1 S.2.1 dX1_isLinkedToNext_59 rfl (lv_at hl 1 rfl) ?_
          refine zz_callV (pc := 60) (As := [.int (zI ((L a : Nat) : Int))]) (rest := []) S (c_X1_endYOf l D cI cR d e1 e2 e3 e4 n P X Y L ((L a : Nat) : Int) hok.1 (by omega)) (zuV wd_258 wd_255 wd_256 wd_257 wd_14) 1 rfl q_X1_endYOf ⟨⟨rfl, rfl⟩, Nat.le_of_ble_eq_true rfl, Nat.le_of_ble_eq_true rfl⟩ hG [0, 1, 2, 3, 4] rfl 0 rfl rfl rfl rfl rfl (Nat.le_of_ble_eq_true rfl) hl.1 ⟨Nat.zero_le _, Nat.zero_le _⟩ dX1_isLinkedToNext_60 ?_
          refine zz_cast (v := nI (Y (sw (L a)))) (congrArg nI (oX_n Y (L a))) ?_
          have g5 := (hXY (sw (L a)) (sw_lt (by omega))).2
          refine lv_aload_n (pc := 63) S.1 S.2.1 dX1_isLinkedToNext_63 rfl (lv_at hl 2 rfl) ?_
          refine lv_iload_n (pc := 64) S.1 S.2.1 dX1_isLinkedToNext_64 rfl (lv_at hl 0 rfl) ?_
          refine zz_callV (pc := 65) (As := [.int (nI (L (a + 1)))]) (rest := [.int (nI (Y (sw (L a))))]) S (c_X1_beginYOf l D cI cR d e1 e2 e3 e4 n P X Y L (L (a + 1)) hok.1 (by omega)) (zuV wd_222 wd_219 wd_220 wd_221 wd_14) 1 rfl q_X1_beginYOf ⟨⟨rfl, rfl⟩, Nat.le_of_ble_eq_true rfl, Nat.le_of_ble_eq_true rfl⟩ hG [0, 1, 2, 3, 4] rfl 0 rfl rfl rfl rfl rfl (Nat.le_of_ble_eq_true rfl) hl.1 ⟨Nat.zero_le _, Nat.zero_le _⟩ dX1_isLinkedToNext_65 ?_
          have g6 := (hXY (L (a + 1)) (by omega)).2
          refine zz_icmp_ne (pc := 68) (tgt := 75) S dX1_isLinkedToNext_68 (by decide) (n_eq (by omega) (by omega)) (fun c68 => ?_) (fun c68 => ?_)
          · refine zz_iconst (pc := 75) (v := nI 0) S dX1_isLinkedToNext_75 rfl ?_
            exact zz_bretS (pc := 76) S hr hlocks (by decide) (congrArg nI (zB_f (by first | omega | (exact ⟨by omega, by omega, by omega, by omega⟩) | (intro q; obtain ⟨q1, q2, q3, q4⟩ := q; omega))).symm) dX1_isLinkedToNext_76
          · refine zz_iconst (pc := 71) (v := nI 1) S dX1_isLinkedToNext_71 rfl ?_
            refine lv_goto (pc := 72) (tgt := 76) S.1 S.2.1 dX1_isLinkedToNext_72 (by decide) ?_
            exact zz_bretS (pc := 76) S hr hlocks (by decide) (congrArg nI (zB_t (by first | omega | (exact ⟨by omega, by omega, by omega, by omega⟩) | (intro q; obtain ⟨q1, q2, q3, q4⟩ := q; omega))).symm) dX1_isLinkedToNext_76
    · refine zz_iconst (pc := 18) (v := nI 0) S dX1_isLinkedToNext_18 rfl ?_
      exact zz_bretS (pc := 19) S hr hlocks (by decide) (congrArg nI (zB_f (by first | omega | (exact ⟨by omega, by omega, by omega, by omega⟩) | (intro q; obtain ⟨q1, q2, q3, q4⟩ := q; omega))).symm) dX1_isLinkedToNext_19
abbrev wm_X1_areAlike : List Cond := .code yX1_areAlike cX1_areAlike 5 (some .boolean) :: wU
theorem q_X1_areAlike : yX1_areAlike.cls = RX1 ∧ yX1_areAlike.cls ≠ "java/lang/invoke/MethodHandle" ∧ yX1_areAlike.cls ≠ "java/lang/invoke/VarHandle" ∧ (parseMethodDescriptor yX1_areAlike.desc).map (fun d => d.parameters.length) = some 2 := by decide +kernel
set_option maxHeartbeats 4000000 in
set_option maxRecDepth 100000 in
theorem c_X1_areAlike (l : Launch) (D : va_G) (cI cR : ClassId) (d e1 e2 e3 e4 n : Nat) (P X Y L : Nat → Nat) (a : Nat) (b : Nat) (hge : zGe n P X Y) (ha : a < n) (hb : b < n) : Met l yX1_areAlike wm_X1_areAlike ({ frames := 3, cells := 0, slots := 0, locals := 64 } : Room) (va_Pc [.ref d, .int (nI a), .int (nI b)] (zW D cI cR [(d, .inr (1, [.int (nI n), .ref e1, .ref e2, .ref e3, .ref e4])), (e1, zA cI 8 P), (e2, zA cI 16 X), (e3, zA cI 16 Y), (e4, zA cI 8 L)])) (vp_Si (fun r => r = nI (zB (alk P X Y a b)))) 0 0 (fun _ => False) := by
  refine Met.ofW (cc := cX1_areAlike) (maxL := 5) (ret := (some .boolean)) (by decide) rfl ?_
  intro p e s m args below meth c s₁ B hml hv
  obtain ⟨rfl, hG⟩ := hv
  have S : CallFix p m c cX1_areAlike 5 s ([.ref d, .int (nI a), .int (nI b)] : List Value).toArray wU RX1 := ⟨B.exec, B.bytes, hml, findClass_of_methodNamed B.named, fun w h => atoms_spec (ws := wm_X1_areAlike) B.pre w (List.mem_cons_of_mem _ h)⟩
  have hr := B.returns
  have hlocks := B.notSynchronized
  have hG : zG D cI cR [(d, .inr (1, [.int (nI n), .ref e1, .ref e2, .ref e3, .ref e4])), (e1, zA cI 8 P), (e2, zA cI 16 X), (e3, zA cI 16 Y), (e4, zA cI 8 L)] s s.heap := hG
  have hl := lv_entry ([.ref d, .int (nI a), .int (nI b)]) (n := 5) (Nat.le_of_ble_eq_true rfl)
  rw [lg_entry_eq]
  generalize (lg_sl ([.ref d, .int (nI a), .int (nI b)]) ++ List.replicate (5 - (lg_sl ([.ref d, .int (nI a), .int (nI b)])).length) Slot.unset).toArray = ls at hl ⊢
  have hl : lv_has ls 5 [(0, .ref d), (1, .int (nI a)), (2, .int (nI b))] := hl
  obtain ⟨hn, hPf, hXY⟩ := id hge
  refine lv_aload_n (pc := 0) S.1 S.2.1 dX1_areAlike_0 rfl (lv_at hl 0 rfl) ?_
  refine lv_iload_n (pc := 1) S.1 S.2.1 dX1_areAlike_1 rfl (lv_at hl 1 rfl) ?_
  refine zz_callV (pc := 2) (As := [.int (nI a)]) (rest := []) S (c_X1_penOfStroke l D cI cR d e1 e2 e3 e4 n P X Y L a hge (by omega)) (zuV wd_185 wd_206 wd_183 wd_184 wd_14) 1 rfl q_X1_penOfStroke ⟨⟨rfl, rfl⟩, Nat.le_of_ble_eq_true rfl, Nat.le_of_ble_eq_true rfl⟩ hG [0, 1, 2, 3, 4] rfl 0 rfl rfl rfl rfl rfl (Nat.le_of_ble_eq_true rfl) hl.1 ⟨Nat.zero_le _, Nat.zero_le _⟩ dX1_areAlike_2 ?_
  have g1 := hPf a (by omega)
  refine lv_aload_n (pc := 5) S.1 S.2.1 dX1_areAlike_5 rfl (lv_at hl 0 rfl) ?_
  refine lv_iload_n (pc := 6) S.1 S.2.1 dX1_areAlike_6 rfl (lv_at hl 2 rfl) ?_
  refine zz_callV (pc := 7) (As := [.int (nI b)]) (rest := [.int (nI (P a))]) S (c_X1_penOfStroke l D cI cR d e1 e2 e3 e4 n P X Y L b hge (by omega)) (zuV wd_185 wd_206 wd_183 wd_184 wd_14) 1 rfl q_X1_penOfStroke ⟨⟨rfl, rfl⟩, Nat.le_of_ble_eq_true rfl, Nat.le_of_ble_eq_true rfl⟩ hG [0, 1, 2, 3, 4] rfl 0 rfl rfl rfl rfl rfl (Nat.le_of_ble_eq_true rfl) hl.1 ⟨Nat.zero_le _, Nat.zero_le _⟩ dX1_areAlike_7 ?_
  have g2 := hPf b (by omega)
  refine zz_icmp_eq (pc := 10) (tgt := 15) S dX1_areAlike_10 (by decide) (n_eq (by omega) (by omega)) (fun c10 => ?_) (fun c10 => ?_)
  · refine zz_iconst (pc := 15) (v := nI 2) S dX1_areAlike_15 rfl ?_
    refine lv_iload_n (pc := 16) S.1 S.2.1 dX1_areAlike_16 rfl (lv_at hl 1 rfl) ?_
    refine zz_imul (pc := 17) (v := nI (2 * a)) S dX1_areAlike_17 (n_mul _ _) ?_
    refine lv_istore_n (pc := 18) (lv' := [(3, .int (nI (2 * a))), (0, .ref d), (1, .int (nI a)), (2, .int (nI b))]) S.1 S.2.1 dX1_areAlike_18 rfl hl (by decide) rfl (fun ls hl => ?_)
    refine lv_iload_n (pc := 19) S.1 S.2.1 dX1_areAlike_19 rfl (lv_at hl 0 rfl) ?_
    refine zz_iconst (pc := 20) (v := nI 1) S dX1_areAlike_20 rfl ?_
    refine zz_iadd (pc := 21) (v := nI (2 * a + 1)) S dX1_areAlike_21 (n_add _ _) ?_
    refine lv_istore (pc := 22) (lv' := [(4, .int (nI (2 * a + 1))), (3, .int (nI (2 * a))), (0, .ref d), (1, .int (nI a)), (2, .int (nI b))]) S.1 S.2.1 dX1_areAlike_22 hl (by decide) rfl (fun ls hl => ?_)
    refine lv_aload_n (pc := 24) S.1 S.2.1 dX1_areAlike_24 rfl (lv_at hl 2 rfl) ?_
    refine lv_iload_n (pc := 25) S.1 S.2.1 dX1_areAlike_25 rfl (lv_at hl 1 rfl) ?_
    refine zz_iconst (pc := 26) (v := nI 2) S dX1_areAlike_26 rfl ?_
    refine lv_iload_n (pc := 27) S.1 S.2.1 dX1_areAlike_27 rfl (lv_at hl 4 rfl) ?_
    refine zz_imul (pc := 28) (v := nI (2 * b)) S dX1_areAlike_28 (n_mul _ _) ?_
    refine zz_callV (pc := 29) (As := [.int (nI (2 * a)), .int (nI (2 * b))]) (rest := []) S (c_X1_samePoint l D cI cR d e1 e2 e3 e4 n P X Y L (2 * a) (2 * b) hge (by omega) (by omega)) (zuV wd_210 wd_207 wd_208 wd_209 wd_14) 2 rfl q_X1_samePoint ⟨⟨rfl, rfl⟩, Nat.le_of_ble_eq_true rfl, Nat.le_of_ble_eq_true rfl⟩ hG [0, 1, 2, 3, 4] rfl 0 rfl rfl rfl rfl rfl (Nat.le_of_ble_eq_true rfl) hl.1 ⟨Nat.zero_le _, Nat.zero_le _⟩ dX1_areAlike_29 ?_
    refine zz_ifb_eq (pc := 32) (tgt := 49) S dX1_areAlike_32 (by decide) (fun c32 => ?_) (fun c32 => ?_)
    · refine lv_aload_n (pc := 49) S.1 S.2.1 dX1_areAlike_49 rfl (lv_at hl 2 rfl) ?_
      refine lv_iload_n (pc := 50) S.1 S.2.1 dX1_areAlike_50 rfl (lv_at hl 1 rfl) ?_
      refine zz_iconst (pc := 51) (v := nI 2) S dX1_areAlike_51 rfl ?_
      refine lv_iload_n (pc := 52) S.1 S.2.1 dX1_areAlike_52 rfl (lv_at hl 4 rfl) ?_
      refine zz_imul (pc := 53) (v := nI (2 * b)) S dX1_areAlike_53 (n_mul _ _) ?_
      refine zz_iconst (pc := 54) (v := nI 1) S dX1_areAlike_54 rfl ?_
      refine zz_iadd (pc := 55) (v := nI (2 * b + 1)) S dX1_areAlike_55 (n_add _ _) ?_
      refine zz_callV (pc := 56) (As := [.int (nI (2 * a)), .int (nI (2 * b + 1))]) (rest := []) S (c_X1_samePoint l D cI cR d e1 e2 e3 e4 n P X Y L (2 * a) (2 * b + 1) hge (by omega) (by omega)) (zuV wd_210 wd_207 wd_208 wd_209 wd_14) 2 rfl q_X1_samePoint ⟨⟨rfl, rfl⟩, Nat.le_of_ble_eq_true rfl, Nat.le_of_ble_eq_true rfl⟩ hG [0, 1, 2, 3, 4] rfl 0 rfl rfl rfl rfl rfl (Nat.le_of_ble_eq_true rfl) hl.1 ⟨Nat.zero_le _, Nat.zero_le _⟩ dX1_areAlike_56 ?_
      refine zz_ifb_eq (pc := 59) (tgt := 78) S dX1_areAlike_59 (by decide) (fun c59 => ?_) (fun c59 => ?_)
      · refine zz_iconst (pc := 78) (v := nI 0) S dX1_areAlike_78 rfl ?_
        exact zz_bretS (pc := 79) S hr hlocks (by decide) (congrArg nI (zB_f (by first | omega | (unfold alk; omega) | grind)).symm) dX1_areAlike_79
      · refine lv_aload_n (pc := 62) S.1 S.2.1 dX1_areAlike_62 rfl (lv_at hl 2 rfl) ?_
        refine lv_iload (pc := 63) S.1 S.2.1 dX1_areAlike_63 (lv_at hl 0 rfl) ?_
        refine zz_iconst (pc := 65) (v := nI 2) S dX1_areAlike_65 rfl ?_
        refine lv_iload_n (pc := 66) S.1 S.2.1 dX1_areAlike_66 rfl (lv_at hl 4 rfl) ?_
        refine zz_imul (pc := 67) (v := nI (2 * b)) S dX1_areAlike_67 (n_mul _ _) ?_
        refine zz_callV (pc := 68) (As := [.int (nI (2 * a + 1)), .int (nI (2 * b))]) (rest := []) S (c_X1_samePoint l D cI cR d e1 e2 e3 e4 n P X Y L (2 * a + 1) (2 * b) hge (by omega) (by omega)) (zuV wd_210 wd_207 wd_208 wd_209 wd_14) 2 rfl q_X1_samePoint ⟨⟨rfl, rfl⟩, Nat.le_of_ble_eq_true rfl, Nat.le_of_ble_eq_true rfl⟩ hG [0, 1, 2, 3, 4] rfl 0 rfl rfl rfl rfl rfl (Nat.le_of_ble_eq_true rfl) hl.1 ⟨Nat.zero_le _, Nat.zero_le _⟩ dX1_areAlike_68 ?_
        refine zz_ifb_eq (pc := 71) (tgt := 78) S dX1_areAlike_71 (by decide) (fun c71 => ?_) (fun c71 => ?_)
        · refine zz_iconst (pc := 78) (v := nI 0) S dX1_areAlike_78 rfl ?_
          exact zz_bretS (pc := 79) S hr hlocks (by decide) (congrArg nI (zB_f (by first | omega | (unfold alk; omega) | grind)).symm) dX1_areAlike_79
        · refine zz_iconst (pc := 74) (v := nI 1) S dX1_areAlike_74 rfl ?_
          refine lv_goto (pc := 75) (tgt := 79) S.1 S.2.1 dX1_areAlike_75 (by decide) ?_
          exact zz_bretS (pc := 79) S hr hlocks (by decide) (congrArg nI (zB_t (by first | omega | (unfold alk; omega) | grind)).symm) dX1_areAlike_79
    · refine lv_aload_n (pc := 35) S.1 S.2.1 dX1_areAlike_35 rfl (lv_at hl 2 rfl) ?_
      refine lv_iload (pc := 36) S.1 S.2.1 dX1_areAlike_36 (lv_at hl 0 rfl) ?_
      refine zz_iconst (pc := 38) (v := nI 2) S dX1_areAlike_38 rfl ?_
      refine lv_iload_n (pc := 39) S.1 S.2.1 dX1_areAlike_39 rfl (lv_at hl 4 rfl) ?_
      refine zz_imul (pc := 40) (v := nI (2 * b)) S dX1_areAlike_40 (n_mul _ _) ?_
      refine zz_iconst (pc := 41) (v := nI 1) S dX1_areAlike_41 rfl ?_
      refine zz_iadd (pc := 42) (v := nI (2 * b + 1)) S dX1_areAlike_42 (n_add _ _) ?_
      refine zz_callV (pc := 43) (As := [.int (nI (2 * a + 1)), .int (nI (2 * b + 1))]) (rest := []) S (c_X1_samePoint l D cI cR d e1 e2 e3 e4 n P X Y L (2 * a + 1) (2 * b + 1) hge (by omega) (by omega)) (zuV wd_210 wd_207 wd_208 wd_209 wd_14) 2 rfl q_X1_samePoint ⟨⟨rfl, rfl⟩, Nat.le_of_ble_eq_true rfl, Nat.le_of_ble_eq_true rfl⟩ hG [0, 1, 2, 3, 4] rfl 0 rfl rfl rfl rfl rfl (Nat.le_of_ble_eq_true rfl) hl.1 ⟨Nat.zero_le _, Nat.zero_le _⟩ dX1_areAlike_43 ?_
      refine zz_ifb_ne (pc := 46) (tgt := 74) S dX1_areAlike_46 (by decide) (fun c46 => ?_) (fun c46 => ?_)
      · refine zz_iconst (pc := 74) (v := nI 1) S dX1_areAlike_74 rfl ?_
        refine lv_goto (pc := 75) (tgt := 79) S.1 S.2.1 dX1_areAlike_75 (by decide) ?_
        exact zz_bretS (pc := 79) S hr hlocks (by decide) (congrArg nI (zB_t (by first | omega | (unfold alk; omega) | grind)).symm) dX1_areAlike_79
      · refine lv_aload_n (pc := 49) S.1 S.2.1 dX1_areAlike_49 rfl (lv_at hl 2 rfl) ?_
        refine lv_iload_n (pc := 50) S.1 S.2.1 dX1_areAlike_50 rfl (lv_at hl 1 rfl) ?_
        refine zz_iconst (pc := 51) (v := nI 2) S dX1_areAlike_51 rfl ?_
        refine lv_iload_n (pc := 52) S.1 S.2.1 dX1_areAlike_52 rfl (lv_at hl 4 rfl) ?_
        refine zz_imul (pc := 53) (v := nI (2 * b)) S dX1_areAlike_53 (n_mul _ _) ?_
        refine zz_iconst (pc := 54) (v := nI 1) S dX1_areAlike_54 rfl ?_
        refine zz_iadd (pc := 55) (v := nI (2 * b + 1)) S dX1_areAlike_55 (n_add _ _) ?_
        refine zz_callV (pc := 56) (As := [.int (nI (2 * a)), .int (nI (2 * b + 1))]) (rest := []) S (c_X1_samePoint l D cI cR d e1 e2 e3 e4 n P X Y L (2 * a) (2 * b + 1) hge (by omega) (by omega)) (zuV wd_210 wd_207 wd_208 wd_209 wd_14) 2 rfl q_X1_samePoint ⟨⟨rfl, rfl⟩, Nat.le_of_ble_eq_true rfl, Nat.le_of_ble_eq_true rfl⟩ hG [0, 1, 2, 3, 4] rfl 0 rfl rfl rfl rfl rfl (Nat.le_of_ble_eq_true rfl) hl.1 ⟨Nat.zero_le _, Nat.zero_le _⟩ dX1_areAlike_56 ?_
        refine zz_ifb_eq (pc := 59) (tgt := 78) S dX1_areAlike_59 (by decide) (fun c59 => ?_) (fun c59 => ?_)
        · refine zz_iconst (pc := 78) (v := nI 0) S dX1_areAlike_78 rfl ?_
          exact zz_bretS (pc := 79) S hr hlocks (by decide) (congrArg nI (zB_f (by first | omega | (unfold alk; omega) | grind)).symm) dX1_areAlike_79
        · refine lv_aload_n (pc := 62) S.1 S.2.1 dX1_areAlike_62 rfl (lv_at hl 2 rfl) ?_
          refine lv_iload (pc := 63) S.1 S.2.1 dX1_areAlike_63 (lv_at hl 0 rfl) ?_
          refine zz_iconst (pc := 65) (v := nI 2) S dX1_areAlike_65 rfl ?_
          refine lv_iload_n (pc := 66) S.1 S.2.1 dX1_areAlike_66 rfl (lv_at hl 4 rfl) ?_
          refine zz_imul (pc := 67) (v := nI (2 * b)) S dX1_areAlike_67 (n_mul _ _) ?_
          refine zz_callV (pc := 68) (As := [.int (nI (2 * a + 1)), .int (nI (2 * b))]) (rest := []) S (c_X1_samePoint l D cI cR d e1 e2 e3 e4 n P X Y L (2 * a + 1) (2 * b) hge (by omega) (by omega)) (zuV wd_210 wd_207 wd_208 wd_209 wd_14) 2 rfl q_X1_samePoint ⟨⟨rfl, rfl⟩, Nat.le_of_ble_eq_true rfl, Nat.le_of_ble_eq_true rfl⟩ hG [0, 1, 2, 3, 4] rfl 0 rfl rfl rfl rfl rfl (Nat.le_of_ble_eq_true rfl) hl.1 ⟨Nat.zero_le _, Nat.zero_le _⟩ dX1_areAlike_68 ?_
          refine zz_ifb_eq (pc := 71) (tgt := 78) S dX1_areAlike_71 (by decide) (fun c71 => ?_) (fun c71 => ?_)
          · refine zz_iconst (pc := 78) (v := nI 0) S dX1_areAlike_78 rfl ?_
            exact zz_bretS (pc := 79) S hr hlocks (by decide) (congrArg nI (zB_f (by first | omega | (unfold alk; omega) | grind)).symm) dX1_areAlike_79
          · refine zz_iconst (pc := 74) (v := nI 1) S dX1_areAlike_74 rfl ?_
            refine lv_goto (pc := 75) (tgt := 79) S.1 S.2.1 dX1_areAlike_75 (by decide) ?_
            exact zz_bretS (pc := 79) S hr hlocks (by decide) (congrArg nI (zB_t (by first | omega | (unfold alk; omega) | grind)).symm) dX1_areAlike_79
  · refine zz_iconst (pc := 13) (v := nI 0) S dX1_areAlike_13 rfl ?_
    exact zz_bretS (pc := 14) S hr hlocks (by decide) (congrArg nI (zB_f (by first | omega | (unfold alk; omega) | grind)).symm) dX1_areAlike_14
abbrev wm_X1_liesOn : List Cond := .code yX1_liesOn cX1_liesOn 9 (some .boolean) :: wU
theorem q_X1_liesOn : yX1_liesOn.cls = RX1 ∧ yX1_liesOn.cls ≠ "java/lang/invoke/MethodHandle" ∧ yX1_liesOn.cls ≠ "java/lang/invoke/VarHandle" ∧ (parseMethodDescriptor yX1_liesOn.desc).map (fun d => d.parameters.length) = some 2 := by decide +kernel
set_option maxHeartbeats 4000000 in
set_option maxRecDepth 100000 in
theorem c_X1_liesOn (l : Launch) (D : va_G) (cI cR : ClassId) (d e1 e2 e3 e4 n : Nat) (P X Y L : Nat → Nat) (a : Nat) (b : Nat) (hge : zGe n P X Y) (ha : a < 2 * n) (hb : b < n) : Met l yX1_liesOn wm_X1_liesOn ({ frames := 2, cells := 0, slots := 0, locals := 42 } : Room) (va_Pc [.ref d, .int (nI a), .int (nI b)] (zW D cI cR [(d, .inr (1, [.int (nI n), .ref e1, .ref e2, .ref e3, .ref e4])), (e1, zA cI 8 P), (e2, zA cI 16 X), (e3, zA cI 16 Y), (e4, zA cI 8 L)])) (vp_Si (fun r => r = nI (zB (lon X Y a b)))) 0 0 (fun _ => False) := by
  refine Met.ofW (cc := cX1_liesOn) (maxL := 9) (ret := (some .boolean)) (by decide) rfl ?_
  intro p e s m args below meth c s₁ B hml hv
  obtain ⟨rfl, hG⟩ := hv
  have S : CallFix p m c cX1_liesOn 9 s ([.ref d, .int (nI a), .int (nI b)] : List Value).toArray wU RX1 := ⟨B.exec, B.bytes, hml, findClass_of_methodNamed B.named, fun w h => atoms_spec (ws := wm_X1_liesOn) B.pre w (List.mem_cons_of_mem _ h)⟩
  have hr := B.returns
  have hlocks := B.notSynchronized
  have hG : zG D cI cR [(d, .inr (1, [.int (nI n), .ref e1, .ref e2, .ref e3, .ref e4])), (e1, zA cI 8 P), (e2, zA cI 16 X), (e3, zA cI 16 Y), (e4, zA cI 8 L)] s s.heap := hG
  have hl := lv_entry ([.ref d, .int (nI a), .int (nI b)]) (n := 9) (Nat.le_of_ble_eq_true rfl)
  rw [lg_entry_eq]
  generalize (lg_sl ([.ref d, .int (nI a), .int (nI b)]) ++ List.replicate (9 - (lg_sl ([.ref d, .int (nI a), .int (nI b)])).length) Slot.unset).toArray = ls at hl ⊢
  have hl : lv_has ls 9 [(0, .ref d), (1, .int (nI a)), (2, .int (nI b))] := hl
  obtain ⟨hn, hPf, hXY⟩ := id hge
  refine lv_aload_n (pc := 0) S.1 S.2.1 dX1_liesOn_0 rfl (lv_at hl 0 rfl) ?_
  refine lv_iload_n (pc := 1) S.1 S.2.1 dX1_liesOn_1 rfl (lv_at hl 1 rfl) ?_
  refine zz_callV (pc := 2) (As := [.int (nI a)]) (rest := []) S (c_X1_beginXOf l D cI cR d e1 e2 e3 e4 n P X Y L a hge (by omega)) (zuV wd_214 wd_211 wd_212 wd_213 wd_14) 1 rfl q_X1_beginXOf ⟨⟨rfl, rfl⟩, Nat.le_of_ble_eq_true rfl, Nat.le_of_ble_eq_true rfl⟩ hG [0, 1, 2, 3, 4] rfl 0 rfl rfl rfl rfl rfl (Nat.le_of_ble_eq_true rfl) hl.1 ⟨Nat.zero_le _, Nat.zero_le _⟩ dX1_liesOn_2 ?_
  have g1 := (hXY a (by omega)).1
  refine lv_istore_n (pc := 5) (lv' := [(3, .int (nI (X a))), (0, .ref d), (1, .int (nI a)), (2, .int (nI b))]) S.1 S.2.1 dX1_liesOn_5 rfl hl (by decide) rfl (fun ls hl => ?_)
  refine lv_aload_n (pc := 6) S.1 S.2.1 dX1_liesOn_6 rfl (lv_at hl 1 rfl) ?_
  refine lv_iload_n (pc := 7) S.1 S.2.1 dX1_liesOn_7 rfl (lv_at hl 2 rfl) ?_
  refine zz_callV (pc := 8) (As := [.int (nI a)]) (rest := []) S (c_X1_beginYOf l D cI cR d e1 e2 e3 e4 n P X Y L a hge (by omega)) (zuV wd_222 wd_219 wd_220 wd_221 wd_14) 1 rfl q_X1_beginYOf ⟨⟨rfl, rfl⟩, Nat.le_of_ble_eq_true rfl, Nat.le_of_ble_eq_true rfl⟩ hG [0, 1, 2, 3, 4] rfl 0 rfl rfl rfl rfl rfl (Nat.le_of_ble_eq_true rfl) hl.1 ⟨Nat.zero_le _, Nat.zero_le _⟩ dX1_liesOn_8 ?_
  have g2 := (hXY a (by omega)).2
  refine lv_istore (pc := 11) (lv' := [(4, .int (nI (Y a))), (3, .int (nI (X a))), (0, .ref d), (1, .int (nI a)), (2, .int (nI b))]) S.1 S.2.1 dX1_liesOn_11 hl (by decide) rfl (fun ls hl => ?_)
  refine lv_aload_n (pc := 13) S.1 S.2.1 dX1_liesOn_13 rfl (lv_at hl 2 rfl) ?_
  refine zz_iconst (pc := 14) (v := nI 2) S dX1_liesOn_14 rfl ?_
  refine lv_iload_n (pc := 15) S.1 S.2.1 dX1_liesOn_15 rfl (lv_at hl 4 rfl) ?_
  refine zz_imul (pc := 16) (v := nI (2 * b)) S dX1_liesOn_16 (n_mul _ _) ?_
  refine zz_callV (pc := 17) (As := [.int (nI (2 * b))]) (rest := []) S (c_X1_beginXOf l D cI cR d e1 e2 e3 e4 n P X Y L (2 * b) hge (by omega)) (zuV wd_214 wd_211 wd_212 wd_213 wd_14) 1 rfl q_X1_beginXOf ⟨⟨rfl, rfl⟩, Nat.le_of_ble_eq_true rfl, Nat.le_of_ble_eq_true rfl⟩ hG [0, 1, 2, 3, 4] rfl 0 rfl rfl rfl rfl rfl (Nat.le_of_ble_eq_true rfl) hl.1 ⟨Nat.zero_le _, Nat.zero_le _⟩ dX1_liesOn_17 ?_
  have g3 := (hXY (2 * b) (by omega)).1
  refine lv_istore (pc := 20) (lv' := [(5, .int (nI (X (2 * b)))), (4, .int (nI (Y a))), (3, .int (nI (X a))), (0, .ref d), (1, .int (nI a)), (2, .int (nI b))]) S.1 S.2.1 dX1_liesOn_20 hl (by decide) rfl (fun ls hl => ?_)
  refine lv_aload_n (pc := 22) S.1 S.2.1 dX1_liesOn_22 rfl (lv_at hl 3 rfl) ?_
  refine zz_iconst (pc := 23) (v := nI 2) S dX1_liesOn_23 rfl ?_
  refine lv_iload_n (pc := 24) S.1 S.2.1 dX1_liesOn_24 rfl (lv_at hl 5 rfl) ?_
  refine zz_imul (pc := 25) (v := nI (2 * b)) S dX1_liesOn_25 (n_mul _ _) ?_
  refine zz_callV (pc := 26) (As := [.int (nI (2 * b))]) (rest := []) S (c_X1_beginYOf l D cI cR d e1 e2 e3 e4 n P X Y L (2 * b) hge (by omega)) (zuV wd_222 wd_219 wd_220 wd_221 wd_14) 1 rfl q_X1_beginYOf ⟨⟨rfl, rfl⟩, Nat.le_of_ble_eq_true rfl, Nat.le_of_ble_eq_true rfl⟩ hG [0, 1, 2, 3, 4] rfl 0 rfl rfl rfl rfl rfl (Nat.le_of_ble_eq_true rfl) hl.1 ⟨Nat.zero_le _, Nat.zero_le _⟩ dX1_liesOn_26 ?_
  have g4 := (hXY (2 * b) (by omega)).2
  refine lv_istore (pc := 29) (lv' := [(6, .int (nI (Y (2 * b)))), (5, .int (nI (X (2 * b)))), (4, .int (nI (Y a))), (3, .int (nI (X a))), (0, .ref d), (1, .int (nI a)), (2, .int (nI b))]) S.1 S.2.1 dX1_liesOn_29 hl (by decide) rfl (fun ls hl => ?_)
  refine lv_aload_n (pc := 31) S.1 S.2.1 dX1_liesOn_31 rfl (lv_at hl 4 rfl) ?_
  refine zz_iconst (pc := 32) (v := nI 2) S dX1_liesOn_32 rfl ?_
  refine lv_iload_n (pc := 33) S.1 S.2.1 dX1_liesOn_33 rfl (lv_at hl 6 rfl) ?_
  refine zz_imul (pc := 34) (v := nI (2 * b)) S dX1_liesOn_34 (n_mul _ _) ?_
  refine zz_callV (pc := 35) (As := [.int (zI ((2 * b : Nat) : Int))]) (rest := []) S (c_X1_endXOf l D cI cR d e1 e2 e3 e4 n P X Y L ((2 * b : Nat) : Int) hge (by omega)) (zuV wd_254 wd_251 wd_252 wd_253 wd_14) 1 rfl q_X1_endXOf ⟨⟨rfl, rfl⟩, Nat.le_of_ble_eq_true rfl, Nat.le_of_ble_eq_true rfl⟩ hG [0, 1, 2, 3, 4] rfl 0 rfl rfl rfl rfl rfl (Nat.le_of_ble_eq_true rfl) hl.1 ⟨Nat.zero_le _, Nat.zero_le _⟩ dX1_liesOn_35 ?_
  refine zz_cast (v := nI (X (2 * b + 1))) (congrArg nI ((oX_n X (2 * b)).trans (congrArg X (sw_e b)))) ?_
  have g5 := (hXY (2 * b + 1) (by omega)).1
  refine lv_istore (pc := 38) (lv' := [(7, .int (nI (X (2 * b + 1)))), (6, .int (nI (Y (2 * b)))), (5, .int (nI (X (2 * b)))), (4, .int (nI (Y a))), (3, .int (nI (X a))), (0, .ref d), (1, .int (nI a)), (2, .int (nI b))]) S.1 S.2.1 dX1_liesOn_38 hl (by decide) rfl (fun ls hl => ?_)
  refine lv_aload_n (pc := 40) S.1 S.2.1 dX1_liesOn_40 rfl (lv_at hl 5 rfl) ?_
  refine zz_iconst (pc := 41) (v := nI 2) S dX1_liesOn_41 rfl ?_
  refine lv_iload_n (pc := 42) S.1 S.2.1 dX1_liesOn_42 rfl (lv_at hl 7 rfl) ?_
  refine zz_imul (pc := 43) (v := nI (2 * b)) S dX1_liesOn_43 (n_mul _ _) ?_
  refine zz_callV (pc := 44) (As := [.int (zI ((2 * b : Nat) : Int))]) (rest := []) S (c_X1_endYOf l D cI cR d e1 e2 e3 e4 n P X Y L ((2 * b : Nat) : Int) hge (by omega)) (zuV wd_258 wd_255 wd_256 wd_257 wd_14) 1 rfl q_X1_endYOf ⟨⟨rfl, rfl⟩, Nat.le_of_ble_eq_true rfl, Nat.le_of_ble_eq_true rfl⟩ hG [0, 1, 2, 3, 4] rfl 0 rfl rfl rfl rfl rfl (Nat.le_of_ble_eq_true rfl) hl.1 ⟨Nat.zero_le _, Nat.zero_le _⟩ dX1_liesOn_44 ?_
  refine zz_cast (v := nI (Y (2 * b + 1))) (congrArg nI ((oX_n Y (2 * b)).trans (congrArg Y (sw_e b)))) ?_
  have g6 := (hXY (2 * b + 1) (by omega)).2
  refine lv_istore (pc := 47) (lv' := [(8, .int (nI (Y (2 * b + 1)))), (7, .int (nI (X (2 * b + 1)))), (6, .int (nI (Y (2 * b)))), (5, .int (nI (X (2 * b)))), (4, .int (nI (Y a))), (3, .int (nI (X a))), (0, .ref d), (1, .int (nI a)), (2, .int (nI b))]) S.1 S.2.1 dX1_liesOn_47 hl (by decide) rfl (fun ls hl => ?_)
  have m1 := mul_bd (a := ((X (2 * b + 1) : Nat) : Int) - ((X (2 * b) : Nat) : Int)) (b := ((Y a : Nat) : Int) - ((Y (2 * b) : Nat) : Int)) 99 99 (by omega) (by omega) (by omega)
  have m2 := mul_bd (a := ((Y (2 * b + 1) : Nat) : Int) - ((Y (2 * b) : Nat) : Int)) (b := ((X a : Nat) : Int) - ((X (2 * b) : Nat) : Int)) 99 99 (by omega) (by omega) (by omega)
  refine lv_iload (pc := 49) S.1 S.2.1 dX1_liesOn_49 (lv_at hl 1 rfl) ?_
  refine lv_iload (pc := 51) S.1 S.2.1 dX1_liesOn_51 (lv_at hl 3 rfl) ?_
  refine zz_isub (pc := 53) (v := zI (((X (2 * b + 1) : Nat) : Int) - ((X (2 * b) : Nat) : Int))) S dX1_liesOn_53 (zI_sub ((X (2 * b + 1) : Nat) : Int) ((X (2 * b) : Nat) : Int)) ?_
  refine lv_iload (pc := 54) S.1 S.2.1 dX1_liesOn_54 (lv_at hl 4 rfl) ?_
  refine lv_iload (pc := 56) S.1 S.2.1 dX1_liesOn_56 (lv_at hl 2 rfl) ?_
  refine zz_isub (pc := 58) (v := zI (((Y a : Nat) : Int) - ((Y (2 * b) : Nat) : Int))) S dX1_liesOn_58 (zI_sub ((Y a : Nat) : Int) ((Y (2 * b) : Nat) : Int)) ?_
  refine zz_imul (pc := 59) (v := zI ((((X (2 * b + 1) : Nat) : Int) - ((X (2 * b) : Nat) : Int)) * (((Y a : Nat) : Int) - ((Y (2 * b) : Nat) : Int)))) S dX1_liesOn_59 (zI_mul (((X (2 * b + 1) : Nat) : Int) - ((X (2 * b) : Nat) : Int)) (((Y a : Nat) : Int) - ((Y (2 * b) : Nat) : Int))) ?_
  refine lv_iload (pc := 60) S.1 S.2.1 dX1_liesOn_60 (lv_at hl 0 rfl) ?_
  refine lv_iload (pc := 62) S.1 S.2.1 dX1_liesOn_62 (lv_at hl 2 rfl) ?_
  refine zz_isub (pc := 64) (v := zI (((Y (2 * b + 1) : Nat) : Int) - ((Y (2 * b) : Nat) : Int))) S dX1_liesOn_64 (zI_sub ((Y (2 * b + 1) : Nat) : Int) ((Y (2 * b) : Nat) : Int)) ?_
  refine lv_iload_n (pc := 65) S.1 S.2.1 dX1_liesOn_65 rfl (lv_at hl 5 rfl) ?_
  refine lv_iload (pc := 66) S.1 S.2.1 dX1_liesOn_66 (lv_at hl 3 rfl) ?_
  refine zz_isub (pc := 68) (v := zI (((X a : Nat) : Int) - ((X (2 * b) : Nat) : Int))) S dX1_liesOn_68 (zI_sub ((X a : Nat) : Int) ((X (2 * b) : Nat) : Int)) ?_
  refine zz_imul (pc := 69) (v := zI ((((Y (2 * b + 1) : Nat) : Int) - ((Y (2 * b) : Nat) : Int)) * (((X a : Nat) : Int) - ((X (2 * b) : Nat) : Int)))) S dX1_liesOn_69 (zI_mul (((Y (2 * b + 1) : Nat) : Int) - ((Y (2 * b) : Nat) : Int)) (((X a : Nat) : Int) - ((X (2 * b) : Nat) : Int))) ?_
  refine zz_icmp_ne (pc := 70) (tgt := 120) S dX1_liesOn_70 (by decide) (zI_eq (a := (((X (2 * b + 1) : Nat) : Int) - ((X (2 * b) : Nat) : Int)) * (((Y a : Nat) : Int) - ((Y (2 * b) : Nat) : Int))) (b := (((Y (2 * b + 1) : Nat) : Int) - ((Y (2 * b) : Nat) : Int)) * (((X a : Nat) : Int) - ((X (2 * b) : Nat) : Int))) (by unfold zR; omega) (by unfold zR; omega)) (fun c70 => ?_) (fun c70 => ?_)
  · refine zz_iconst (pc := 120) (v := nI 0) S dX1_liesOn_120 rfl ?_
    exact zz_bretS (pc := 121) S hr hlocks (by decide) (congrArg nI (zB_f (by first | exact ⟨c70, by omega, by omega⟩ | (intro q; obtain ⟨q1, q2, q3⟩ := q; first | exact c70 q1 | omega))).symm) dX1_liesOn_121
  · refine lv_iload_n (pc := 73) S.1 S.2.1 dX1_liesOn_73 rfl (lv_at hl 5 rfl) ?_
    refine lv_iload (pc := 74) S.1 S.2.1 dX1_liesOn_74 (lv_at hl 3 rfl) ?_
    refine lv_iload (pc := 76) S.1 S.2.1 dX1_liesOn_76 (lv_at hl 1 rfl) ?_
    refine zz_min (pc := 78) (v := nI (min (X (2 * b)) (X (2 * b + 1)))) S wd_247 wd_105 wd_106 wd_107 ⟨Nat.le_of_ble_eq_true rfl, Nat.le_of_ble_eq_true rfl⟩ ⟨Nat.zero_le _, Nat.zero_le _⟩ hl.1 dX1_liesOn_78 (n_min (by omega) (by omega)) ?_
    refine lv_iload (pc := 81) S.1 S.2.1 dX1_liesOn_81 (lv_at hl 3 rfl) ?_
    refine lv_iload (pc := 83) S.1 S.2.1 dX1_liesOn_83 (lv_at hl 1 rfl) ?_
    refine zz_max (pc := 85) (v := nI (max (X (2 * b)) (X (2 * b + 1)))) S wd_248 wd_249 wd_106 wd_250 ⟨Nat.le_of_ble_eq_true rfl, Nat.le_of_ble_eq_true rfl⟩ ⟨Nat.zero_le _, Nat.zero_le _⟩ hl.1 dX1_liesOn_85 (n_max (by omega) (by omega)) ?_
    refine zz_callSN (pc := 88) (As := [.int (zI ((X a : Nat) : Int)), .int (zI ((min (X (2 * b)) (X (2 * b + 1)) : Nat) : Int)), .int (zI ((max (X (2 * b)) (X (2 * b + 1)) : Nat) : Int))]) (rest := []) S (c_X5_isWithin l D cI cR ((X a : Nat) : Int) ((min (X (2 * b)) (X (2 * b + 1)) : Nat) : Int) ((max (X (2 * b)) (X (2 * b + 1)) : Nat) : Int) (by unfold zR; omega) (by unfold zR; omega) (by unfold zR; omega)) (zu0 wd_85) 3 rfl q_X5_isWithin.2 ⟨⟨rfl, rfl⟩, Nat.le_of_ble_eq_true rfl, Nat.le_of_ble_eq_true rfl⟩ (hG.2.2.2.1) wd_2 wd_84 rfl rfl (Nat.le_of_ble_eq_true rfl) hl.1 ⟨Nat.zero_le _, Nat.zero_le _⟩ dX1_liesOn_88 ?_
    refine zz_ifb_eq (pc := 91) (tgt := 120) S dX1_liesOn_91 (by decide) (fun c91 => ?_) (fun c91 => ?_)
    · refine zz_iconst (pc := 120) (v := nI 0) S dX1_liesOn_120 rfl ?_
      exact zz_bretS (pc := 121) S hr hlocks (by decide) (congrArg nI (zB_f (by first | exact ⟨c70, by omega, by omega⟩ | (intro q; obtain ⟨q1, q2, q3⟩ := q; first | exact c70 q1 | omega))).symm) dX1_liesOn_121
    · refine lv_iload (pc := 94) S.1 S.2.1 dX1_liesOn_94 (lv_at hl 4 rfl) ?_
      refine lv_iload (pc := 96) S.1 S.2.1 dX1_liesOn_96 (lv_at hl 2 rfl) ?_
      refine lv_iload (pc := 98) S.1 S.2.1 dX1_liesOn_98 (lv_at hl 0 rfl) ?_
      refine zz_min (pc := 100) (v := nI (min (Y (2 * b)) (Y (2 * b + 1)))) S wd_247 wd_105 wd_106 wd_107 ⟨Nat.le_of_ble_eq_true rfl, Nat.le_of_ble_eq_true rfl⟩ ⟨Nat.zero_le _, Nat.zero_le _⟩ hl.1 dX1_liesOn_100 (n_min (by omega) (by omega)) ?_
      refine lv_iload (pc := 103) S.1 S.2.1 dX1_liesOn_103 (lv_at hl 2 rfl) ?_
      refine lv_iload (pc := 105) S.1 S.2.1 dX1_liesOn_105 (lv_at hl 0 rfl) ?_
      refine zz_max (pc := 107) (v := nI (max (Y (2 * b)) (Y (2 * b + 1)))) S wd_248 wd_249 wd_106 wd_250 ⟨Nat.le_of_ble_eq_true rfl, Nat.le_of_ble_eq_true rfl⟩ ⟨Nat.zero_le _, Nat.zero_le _⟩ hl.1 dX1_liesOn_107 (n_max (by omega) (by omega)) ?_
      refine zz_callSN (pc := 110) (As := [.int (zI ((Y a : Nat) : Int)), .int (zI ((min (Y (2 * b)) (Y (2 * b + 1)) : Nat) : Int)), .int (zI ((max (Y (2 * b)) (Y (2 * b + 1)) : Nat) : Int))]) (rest := []) S (c_X5_isWithin l D cI cR ((Y a : Nat) : Int) ((min (Y (2 * b)) (Y (2 * b + 1)) : Nat) : Int) ((max (Y (2 * b)) (Y (2 * b + 1)) : Nat) : Int) (by unfold zR; omega) (by unfold zR; omega) (by unfold zR; omega)) (zu0 wd_85) 3 rfl q_X5_isWithin.2 ⟨⟨rfl, rfl⟩, Nat.le_of_ble_eq_true rfl, Nat.le_of_ble_eq_true rfl⟩ (hG.2.2.2.1) wd_2 wd_84 rfl rfl (Nat.le_of_ble_eq_true rfl) hl.1 ⟨Nat.zero_le _, Nat.zero_le _⟩ dX1_liesOn_110 ?_
      refine zz_ifb_eq (pc := 113) (tgt := 120) S dX1_liesOn_113 (by decide) (fun c113 => ?_) (fun c113 => ?_)
      · refine zz_iconst (pc := 120) (v := nI 0) S dX1_liesOn_120 rfl ?_
        exact zz_bretS (pc := 121) S hr hlocks (by decide) (congrArg nI (zB_f (by first | exact ⟨c70, by omega, by omega⟩ | (intro q; obtain ⟨q1, q2, q3⟩ := q; first | exact c70 q1 | omega))).symm) dX1_liesOn_121
      · refine zz_iconst (pc := 116) (v := nI 1) S dX1_liesOn_116 rfl ?_
        refine lv_goto (pc := 117) (tgt := 121) S.1 S.2.1 dX1_liesOn_117 (by decide) ?_
        exact zz_bretS (pc := 121) S hr hlocks (by decide) (congrArg nI (zB_t (by first | exact ⟨c70, by omega, by omega⟩ | (intro q; obtain ⟨q1, q2, q3⟩ := q; first | exact c70 q1 | omega))).symm) dX1_liesOn_121
abbrev wm_X1_covers : List Cond := .code yX1_covers cX1_covers 3 (some .boolean) :: wU
theorem q_X1_covers : yX1_covers.cls = RX1 ∧ yX1_covers.cls ≠ "java/lang/invoke/MethodHandle" ∧ yX1_covers.cls ≠ "java/lang/invoke/VarHandle" ∧ (parseMethodDescriptor yX1_covers.desc).map (fun d => d.parameters.length) = some 2 := by decide +kernel
set_option maxHeartbeats 4000000 in
set_option maxRecDepth 100000 in
theorem c_X1_covers (l : Launch) (D : va_G) (cI cR : ClassId) (d e1 e2 e3 e4 n : Nat) (P X Y L : Nat → Nat) (a : Nat) (b : Nat) (hge : zGe n P X Y) (ha : a < n) (hb : b < n) : Met l yX1_covers wm_X1_covers ({ frames := 4, cells := 0, slots := 0, locals := 88 } : Room) (va_Pc [.ref d, .int (nI a), .int (nI b)] (zW D cI cR [(d, .inr (1, [.int (nI n), .ref e1, .ref e2, .ref e3, .ref e4])), (e1, zA cI 8 P), (e2, zA cI 16 X), (e3, zA cI 16 Y), (e4, zA cI 8 L)])) (vp_Si (fun r => r = nI (zB (cov P X Y a b)))) 0 0 (fun _ => False) := by
  refine Met.ofW (cc := cX1_covers) (maxL := 3) (ret := (some .boolean)) (by decide) rfl ?_
  intro p e s m args below meth c s₁ B hml hv
  obtain ⟨rfl, hG⟩ := hv
  have S : CallFix p m c cX1_covers 3 s ([.ref d, .int (nI a), .int (nI b)] : List Value).toArray wU RX1 := ⟨B.exec, B.bytes, hml, findClass_of_methodNamed B.named, fun w h => atoms_spec (ws := wm_X1_covers) B.pre w (List.mem_cons_of_mem _ h)⟩
  have hr := B.returns
  have hlocks := B.notSynchronized
  have hG : zG D cI cR [(d, .inr (1, [.int (nI n), .ref e1, .ref e2, .ref e3, .ref e4])), (e1, zA cI 8 P), (e2, zA cI 16 X), (e3, zA cI 16 Y), (e4, zA cI 8 L)] s s.heap := hG
  have hl := lv_entry ([.ref d, .int (nI a), .int (nI b)]) (n := 3) (Nat.le_of_ble_eq_true rfl)
  rw [lg_entry_eq]
  generalize (lg_sl ([.ref d, .int (nI a), .int (nI b)]) ++ List.replicate (3 - (lg_sl ([.ref d, .int (nI a), .int (nI b)])).length) Slot.unset).toArray = ls at hl ⊢
  have hl : lv_has ls 3 [(0, .ref d), (1, .int (nI a)), (2, .int (nI b))] := hl
  obtain ⟨hn, hPf, hXY⟩ := id hge
  refine lv_aload_n (pc := 0) S.1 S.2.1 dX1_covers_0 rfl (lv_at hl 0 rfl) ?_
  refine lv_iload_n (pc := 1) S.1 S.2.1 dX1_covers_1 rfl (lv_at hl 1 rfl) ?_
  refine zz_callV (pc := 2) (As := [.int (nI a)]) (rest := []) S (c_X1_penOfStroke l D cI cR d e1 e2 e3 e4 n P X Y L a hge (by omega)) (zuV wd_185 wd_206 wd_183 wd_184 wd_14) 1 rfl q_X1_penOfStroke ⟨⟨rfl, rfl⟩, Nat.le_of_ble_eq_true rfl, Nat.le_of_ble_eq_true rfl⟩ hG [0, 1, 2, 3, 4] rfl 0 rfl rfl rfl rfl rfl (Nat.le_of_ble_eq_true rfl) hl.1 ⟨Nat.zero_le _, Nat.zero_le _⟩ dX1_covers_2 ?_
  have g1 := hPf a (by omega)
  refine lv_aload_n (pc := 5) S.1 S.2.1 dX1_covers_5 rfl (lv_at hl 0 rfl) ?_
  refine lv_iload_n (pc := 6) S.1 S.2.1 dX1_covers_6 rfl (lv_at hl 2 rfl) ?_
  refine zz_callV (pc := 7) (As := [.int (nI b)]) (rest := [.int (nI (P a))]) S (c_X1_penOfStroke l D cI cR d e1 e2 e3 e4 n P X Y L b hge (by omega)) (zuV wd_185 wd_206 wd_183 wd_184 wd_14) 1 rfl q_X1_penOfStroke ⟨⟨rfl, rfl⟩, Nat.le_of_ble_eq_true rfl, Nat.le_of_ble_eq_true rfl⟩ hG [0, 1, 2, 3, 4] rfl 0 rfl rfl rfl rfl rfl (Nat.le_of_ble_eq_true rfl) hl.1 ⟨Nat.zero_le _, Nat.zero_le _⟩ dX1_covers_7 ?_
  have g2 := hPf b (by omega)
  refine zz_icmp_ne (pc := 10) (tgt := 50) S dX1_covers_10 (by decide) (n_eq (by omega) (by omega)) (fun c10 => ?_) (fun c10 => ?_)
  · refine zz_iconst (pc := 50) (v := nI 0) S dX1_covers_50 rfl ?_
    exact zz_bretS (pc := 51) S hr hlocks (by decide) (congrArg nI (zB_f (by first | omega | grind)).symm) dX1_covers_51
  · refine lv_aload_n (pc := 13) S.1 S.2.1 dX1_covers_13 rfl (lv_at hl 0 rfl) ?_
    refine lv_iload_n (pc := 14) S.1 S.2.1 dX1_covers_14 rfl (lv_at hl 1 rfl) ?_
    refine lv_iload_n (pc := 15) S.1 S.2.1 dX1_covers_15 rfl (lv_at hl 2 rfl) ?_
    refine zz_callV (pc := 16) (As := [.int (nI a), .int (nI b)]) (rest := []) S (c_X1_areAlike l D cI cR d e1 e2 e3 e4 n P X Y L a b hge (by omega) (by omega)) (zuV wd_205 wd_202 wd_203 wd_204 wd_14) 2 rfl q_X1_areAlike ⟨⟨rfl, rfl⟩, Nat.le_of_ble_eq_true rfl, Nat.le_of_ble_eq_true rfl⟩ hG [0, 1, 2, 3, 4] rfl 0 rfl rfl rfl rfl rfl (Nat.le_of_ble_eq_true rfl) hl.1 ⟨Nat.zero_le _, Nat.zero_le _⟩ dX1_covers_16 ?_
    refine zz_ifb_ne (pc := 19) (tgt := 50) S dX1_covers_19 (by decide) (fun c19 => ?_) (fun c19 => ?_)
    · refine zz_iconst (pc := 50) (v := nI 0) S dX1_covers_50 rfl ?_
      exact zz_bretS (pc := 51) S hr hlocks (by decide) (congrArg nI (zB_f (by first | omega | grind)).symm) dX1_covers_51
    · refine lv_aload_n (pc := 22) S.1 S.2.1 dX1_covers_22 rfl (lv_at hl 0 rfl) ?_
      refine zz_iconst (pc := 23) (v := nI 2) S dX1_covers_23 rfl ?_
      refine lv_iload_n (pc := 24) S.1 S.2.1 dX1_covers_24 rfl (lv_at hl 2 rfl) ?_
      refine zz_imul (pc := 25) (v := nI (2 * b)) S dX1_covers_25 (n_mul _ _) ?_
      refine lv_iload_n (pc := 26) S.1 S.2.1 dX1_covers_26 rfl (lv_at hl 1 rfl) ?_
      refine zz_callV (pc := 27) (As := [.int (nI (2 * b)), .int (nI a)]) (rest := []) S (c_X1_liesOn l D cI cR d e1 e2 e3 e4 n P X Y L (2 * b) a hge (by omega) (by omega)) (zuV wd_246 wd_243 wd_244 wd_245 wd_14) 2 rfl q_X1_liesOn ⟨⟨rfl, rfl⟩, Nat.le_of_ble_eq_true rfl, Nat.le_of_ble_eq_true rfl⟩ hG [0, 1, 2, 3, 4] rfl 0 rfl rfl rfl rfl rfl (Nat.le_of_ble_eq_true rfl) hl.1 ⟨Nat.zero_le _, Nat.zero_le _⟩ dX1_covers_27 ?_
      refine zz_ifb_eq (pc := 30) (tgt := 50) S dX1_covers_30 (by decide) (fun c30 => ?_) (fun c30 => ?_)
      · refine zz_iconst (pc := 50) (v := nI 0) S dX1_covers_50 rfl ?_
        exact zz_bretS (pc := 51) S hr hlocks (by decide) (congrArg nI (zB_f (by first | omega | grind)).symm) dX1_covers_51
      · refine lv_aload_n (pc := 33) S.1 S.2.1 dX1_covers_33 rfl (lv_at hl 0 rfl) ?_
        refine zz_iconst (pc := 34) (v := nI 2) S dX1_covers_34 rfl ?_
        refine lv_iload_n (pc := 35) S.1 S.2.1 dX1_covers_35 rfl (lv_at hl 2 rfl) ?_
        refine zz_imul (pc := 36) (v := nI (2 * b)) S dX1_covers_36 (n_mul _ _) ?_
        refine zz_iconst (pc := 37) (v := nI 1) S dX1_covers_37 rfl ?_
        refine zz_iadd (pc := 38) (v := nI (2 * b + 1)) S dX1_covers_38 (n_add _ _) ?_
        refine lv_iload_n (pc := 39) S.1 S.2.1 dX1_covers_39 rfl (lv_at hl 1 rfl) ?_
        refine zz_callV (pc := 40) (As := [.int (nI (2 * b + 1)), .int (nI a)]) (rest := []) S (c_X1_liesOn l D cI cR d e1 e2 e3 e4 n P X Y L (2 * b + 1) a hge (by omega) (by omega)) (zuV wd_246 wd_243 wd_244 wd_245 wd_14) 2 rfl q_X1_liesOn ⟨⟨rfl, rfl⟩, Nat.le_of_ble_eq_true rfl, Nat.le_of_ble_eq_true rfl⟩ hG [0, 1, 2, 3, 4] rfl 0 rfl rfl rfl rfl rfl (Nat.le_of_ble_eq_true rfl) hl.1 ⟨Nat.zero_le _, Nat.zero_le _⟩ dX1_covers_40 ?_
        refine zz_ifb_eq (pc := 43) (tgt := 50) S dX1_covers_43 (by decide) (fun c43 => ?_) (fun c43 => ?_)
        · refine zz_iconst (pc := 50) (v := nI 0) S dX1_covers_50 rfl ?_
          exact zz_bretS (pc := 51) S hr hlocks (by decide) (congrArg nI (zB_f (by first | omega | grind)).symm) dX1_covers_51
        · refine zz_iconst (pc := 46) (v := nI 1) S dX1_covers_46 rfl ?_
          refine lv_goto (pc := 47) (tgt := 51) S.1 S.2.1 dX1_covers_47 (by decide) ?_
          exact zz_bretS (pc := 51) S hr hlocks (by decide) (congrArg nI (zB_t (by first | omega | grind)).symm) dX1_covers_51
abbrev wm_X1_cornerSquare : List Cond := .code yX1_cornerSquare cX1_cornerSquare 9 (some .int) :: wU
theorem q_X1_cornerSquare : yX1_cornerSquare.cls = RX1 ∧ yX1_cornerSquare.cls ≠ "java/lang/invoke/MethodHandle" ∧ yX1_cornerSquare.cls ≠ "java/lang/invoke/VarHandle" ∧ (parseMethodDescriptor yX1_cornerSquare.desc).map (fun d => d.parameters.length) = some 2 := by decide +kernel
set_option maxHeartbeats 4000000 in
set_option maxRecDepth 100000 in
theorem c_X1_cornerSquare (l : Launch) (D : va_G) (cI cR : ClassId) (d e1 e2 e3 e4 n : Nat) (P X Y L : Nat → Nat) (a : Nat) (V : Nat) (hok : zOk n P X Y L) (ha : a + 1 < n) (hV : V ≤ 9999) : Met l yX1_cornerSquare wm_X1_cornerSquare ({ frames := 2, cells := 0, slots := 0, locals := 42 } : Room) (va_Pc [.ref d, .int (nI a), .int (nI V)] (zW D cI cR [(d, .inr (1, [.int (nI n), .ref e1, .ref e2, .ref e3, .ref e4])), (e1, zA cI 8 P), (e2, zA cI 16 X), (e3, zA cI 16 Y), (e4, zA cI 8 L)])) (vp_Si (fun r => r = nI (crn X Y V (L a) (L (a + 1))))) 0 0 (fun _ => False) := by
  refine Met.ofW (cc := cX1_cornerSquare) (maxL := 9) (ret := (some .int)) (by decide) rfl ?_
  intro p e s m args below meth c s₁ B hml hv
  obtain ⟨rfl, hG⟩ := hv
  have S : CallFix p m c cX1_cornerSquare 9 s ([.ref d, .int (nI a), .int (nI V)] : List Value).toArray wU RX1 := ⟨B.exec, B.bytes, hml, findClass_of_methodNamed B.named, fun w h => atoms_spec (ws := wm_X1_cornerSquare) B.pre w (List.mem_cons_of_mem _ h)⟩
  have hr := B.returns
  have hlocks := B.notSynchronized
  have hG : zG D cI cR [(d, .inr (1, [.int (nI n), .ref e1, .ref e2, .ref e3, .ref e4])), (e1, zA cI 8 P), (e2, zA cI 16 X), (e3, zA cI 16 Y), (e4, zA cI 8 L)] s s.heap := hG
  have hl := lv_entry ([.ref d, .int (nI a), .int (nI V)]) (n := 9) (Nat.le_of_ble_eq_true rfl)
  rw [lg_entry_eq]
  generalize (lg_sl ([.ref d, .int (nI a), .int (nI V)]) ++ List.replicate (9 - (lg_sl ([.ref d, .int (nI a), .int (nI V)])).length) Slot.unset).toArray = ls at hl ⊢
  have hl : lv_has ls 9 [(0, .ref d), (1, .int (nI a)), (2, .int (nI V))] := hl
  obtain ⟨⟨hn, hPf, hXY⟩, hLf, hinj⟩ := id hok
  refine lv_aload_n (pc := 0) S.1 S.2.1 dX1_cornerSquare_0 rfl (lv_at hl 0 rfl) ?_
  refine lv_iload_n (pc := 1) S.1 S.2.1 dX1_cornerSquare_1 rfl (lv_at hl 1 rfl) ?_
  refine zz_callV (pc := 2) (As := [.int (nI a)]) (rest := []) S (c_X1_codeAt l D cI cR d e1 e2 e3 e4 n P X Y L a hok (by omega)) (zuV wd_351 wd_622 wd_349 wd_350 wd_14) 1 rfl q_X1_codeAt ⟨⟨rfl, rfl⟩, Nat.le_of_ble_eq_true rfl, Nat.le_of_ble_eq_true rfl⟩ hG [0, 1, 2, 3, 4] rfl 0 rfl rfl rfl rfl rfl (Nat.le_of_ble_eq_true rfl) hl.1 ⟨Nat.zero_le _, Nat.zero_le _⟩ dX1_cornerSquare_2 ?_
  have g1 := hLf a (by omega)
  refine lv_istore_n (pc := 5) (lv' := [(3, .int (nI (L a))), (0, .ref d), (1, .int (nI a)), (2, .int (nI V))]) S.1 S.2.1 dX1_cornerSquare_5 rfl hl (by decide) rfl (fun ls hl => ?_)
  refine lv_aload_n (pc := 6) S.1 S.2.1 dX1_cornerSquare_6 rfl (lv_at hl 1 rfl) ?_
  refine lv_iload_n (pc := 7) S.1 S.2.1 dX1_cornerSquare_7 rfl (lv_at hl 2 rfl) ?_
  refine zz_iconst (pc := 8) (v := nI 1) S dX1_cornerSquare_8 rfl ?_
  refine zz_iadd (pc := 9) (v := nI (a + 1)) S dX1_cornerSquare_9 (n_add _ _) ?_
  refine zz_callV (pc := 10) (As := [.int (nI (a + 1))]) (rest := []) S (c_X1_codeAt l D cI cR d e1 e2 e3 e4 n P X Y L (a + 1) hok (by omega)) (zuV wd_351 wd_622 wd_349 wd_350 wd_14) 1 rfl q_X1_codeAt ⟨⟨rfl, rfl⟩, Nat.le_of_ble_eq_true rfl, Nat.le_of_ble_eq_true rfl⟩ hG [0, 1, 2, 3, 4] rfl 0 rfl rfl rfl rfl rfl (Nat.le_of_ble_eq_true rfl) hl.1 ⟨Nat.zero_le _, Nat.zero_le _⟩ dX1_cornerSquare_10 ?_
  have g2 := hLf (a + 1) (by omega)
  refine lv_istore (pc := 13) (lv' := [(4, .int (nI (L (a + 1)))), (3, .int (nI (L a))), (0, .ref d), (1, .int (nI a)), (2, .int (nI V))]) S.1 S.2.1 dX1_cornerSquare_13 hl (by decide) rfl (fun ls hl => ?_)
  refine lv_aload_n (pc := 15) S.1 S.2.1 dX1_cornerSquare_15 rfl (lv_at hl 2 rfl) ?_
  refine lv_iload_n (pc := 16) S.1 S.2.1 dX1_cornerSquare_16 rfl (lv_at hl 1 rfl) ?_
  refine zz_callV (pc := 17) (As := [.int (zI ((L a : Nat) : Int))]) (rest := []) S (c_X1_endXOf l D cI cR d e1 e2 e3 e4 n P X Y L ((L a : Nat) : Int) hok.1 (by omega)) (zuV wd_254 wd_251 wd_252 wd_253 wd_14) 1 rfl q_X1_endXOf ⟨⟨rfl, rfl⟩, Nat.le_of_ble_eq_true rfl, Nat.le_of_ble_eq_true rfl⟩ hG [0, 1, 2, 3, 4] rfl 0 rfl rfl rfl rfl rfl (Nat.le_of_ble_eq_true rfl) hl.1 ⟨Nat.zero_le _, Nat.zero_le _⟩ dX1_cornerSquare_17 ?_
  refine zz_cast (v := nI (X (sw (L a)))) (congrArg nI (oX_n X (L a))) ?_
  have g3 := (hXY (sw (L a)) (sw_lt (by omega))).1
  refine lv_aload_n (pc := 20) S.1 S.2.1 dX1_cornerSquare_20 rfl (lv_at hl 2 rfl) ?_
  refine lv_iload_n (pc := 21) S.1 S.2.1 dX1_cornerSquare_21 rfl (lv_at hl 1 rfl) ?_
  refine zz_callV (pc := 22) (As := [.int (nI (L a))]) (rest := [.int (nI (X (sw (L a))))]) S (c_X1_beginXOf l D cI cR d e1 e2 e3 e4 n P X Y L (L a) hok.1 (by omega)) (zuV wd_214 wd_211 wd_212 wd_213 wd_14) 1 rfl q_X1_beginXOf ⟨⟨rfl, rfl⟩, Nat.le_of_ble_eq_true rfl, Nat.le_of_ble_eq_true rfl⟩ hG [0, 1, 2, 3, 4] rfl 0 rfl rfl rfl rfl rfl (Nat.le_of_ble_eq_true rfl) hl.1 ⟨Nat.zero_le _, Nat.zero_le _⟩ dX1_cornerSquare_22 ?_
  have g4 := (hXY (L a) (by omega)).1
  refine zz_isub (pc := 25) (v := zI (((X (sw (L a)) : Nat) : Int) - ((X (L a) : Nat) : Int))) S dX1_cornerSquare_25 (zI_sub ((X (sw (L a)) : Nat) : Int) ((X (L a) : Nat) : Int)) ?_
  refine lv_istore (pc := 26) (lv' := [(5, .int (zI (((X (sw (L a)) : Nat) : Int) - ((X (L a) : Nat) : Int)))), (4, .int (nI (L (a + 1)))), (3, .int (nI (L a))), (0, .ref d), (1, .int (nI a)), (2, .int (nI V))]) S.1 S.2.1 dX1_cornerSquare_26 hl (by decide) rfl (fun ls hl => ?_)
  refine lv_aload_n (pc := 28) S.1 S.2.1 dX1_cornerSquare_28 rfl (lv_at hl 3 rfl) ?_
  refine lv_iload_n (pc := 29) S.1 S.2.1 dX1_cornerSquare_29 rfl (lv_at hl 2 rfl) ?_
  refine zz_callV (pc := 30) (As := [.int (zI ((L a : Nat) : Int))]) (rest := []) S (c_X1_endYOf l D cI cR d e1 e2 e3 e4 n P X Y L ((L a : Nat) : Int) hok.1 (by omega)) (zuV wd_258 wd_255 wd_256 wd_257 wd_14) 1 rfl q_X1_endYOf ⟨⟨rfl, rfl⟩, Nat.le_of_ble_eq_true rfl, Nat.le_of_ble_eq_true rfl⟩ hG [0, 1, 2, 3, 4] rfl 0 rfl rfl rfl rfl rfl (Nat.le_of_ble_eq_true rfl) hl.1 ⟨Nat.zero_le _, Nat.zero_le _⟩ dX1_cornerSquare_30 ?_
  refine zz_cast (v := nI (Y (sw (L a)))) (congrArg nI (oX_n Y (L a))) ?_
  have g5 := (hXY (sw (L a)) (sw_lt (by omega))).2
  refine lv_aload_n (pc := 33) S.1 S.2.1 dX1_cornerSquare_33 rfl (lv_at hl 3 rfl) ?_
  refine lv_iload_n (pc := 34) S.1 S.2.1 dX1_cornerSquare_34 rfl (lv_at hl 2 rfl) ?_
  refine zz_callV (pc := 35) (As := [.int (nI (L a))]) (rest := [.int (nI (Y (sw (L a))))]) S (c_X1_beginYOf l D cI cR d e1 e2 e3 e4 n P X Y L (L a) hok.1 (by omega)) (zuV wd_222 wd_219 wd_220 wd_221 wd_14) 1 rfl q_X1_beginYOf ⟨⟨rfl, rfl⟩, Nat.le_of_ble_eq_true rfl, Nat.le_of_ble_eq_true rfl⟩ hG [0, 1, 2, 3, 4] rfl 0 rfl rfl rfl rfl rfl (Nat.le_of_ble_eq_true rfl) hl.1 ⟨Nat.zero_le _, Nat.zero_le _⟩ dX1_cornerSquare_35 ?_
  have g6 := (hXY (L a) (by omega)).2
  refine zz_isub (pc := 38) (v := zI (((Y (sw (L a)) : Nat) : Int) - ((Y (L a) : Nat) : Int))) S dX1_cornerSquare_38 (zI_sub ((Y (sw (L a)) : Nat) : Int) ((Y (L a) : Nat) : Int)) ?_
  refine lv_istore (pc := 39) (lv' := [(6, .int (zI (((Y (sw (L a)) : Nat) : Int) - ((Y (L a) : Nat) : Int)))), (5, .int (zI (((X (sw (L a)) : Nat) : Int) - ((X (L a) : Nat) : Int)))), (4, .int (nI (L (a + 1)))), (3, .int (nI (L a))), (0, .ref d), (1, .int (nI a)), (2, .int (nI V))]) S.1 S.2.1 dX1_cornerSquare_39 hl (by decide) rfl (fun ls hl => ?_)
  refine lv_aload_n (pc := 41) S.1 S.2.1 dX1_cornerSquare_41 rfl (lv_at hl 4 rfl) ?_
  refine lv_iload (pc := 42) S.1 S.2.1 dX1_cornerSquare_42 (lv_at hl 2 rfl) ?_
  refine zz_callV (pc := 44) (As := [.int (zI ((L (a + 1) : Nat) : Int))]) (rest := []) S (c_X1_endXOf l D cI cR d e1 e2 e3 e4 n P X Y L ((L (a + 1) : Nat) : Int) hok.1 (by omega)) (zuV wd_254 wd_251 wd_252 wd_253 wd_14) 1 rfl q_X1_endXOf ⟨⟨rfl, rfl⟩, Nat.le_of_ble_eq_true rfl, Nat.le_of_ble_eq_true rfl⟩ hG [0, 1, 2, 3, 4] rfl 0 rfl rfl rfl rfl rfl (Nat.le_of_ble_eq_true rfl) hl.1 ⟨Nat.zero_le _, Nat.zero_le _⟩ dX1_cornerSquare_44 ?_
  refine zz_cast (v := nI (X (sw (L (a + 1))))) (congrArg nI (oX_n X (L (a + 1)))) ?_
  have g7 := (hXY (sw (L (a + 1))) (sw_lt (by omega))).1
  refine lv_aload_n (pc := 47) S.1 S.2.1 dX1_cornerSquare_47 rfl (lv_at hl 4 rfl) ?_
  refine lv_iload (pc := 48) S.1 S.2.1 dX1_cornerSquare_48 (lv_at hl 2 rfl) ?_
  refine zz_callV (pc := 50) (As := [.int (nI (L (a + 1)))]) (rest := [.int (nI (X (sw (L (a + 1)))))]) S (c_X1_beginXOf l D cI cR d e1 e2 e3 e4 n P X Y L (L (a + 1)) hok.1 (by omega)) (zuV wd_214 wd_211 wd_212 wd_213 wd_14) 1 rfl q_X1_beginXOf ⟨⟨rfl, rfl⟩, Nat.le_of_ble_eq_true rfl, Nat.le_of_ble_eq_true rfl⟩ hG [0, 1, 2, 3, 4] rfl 0 rfl rfl rfl rfl rfl (Nat.le_of_ble_eq_true rfl) hl.1 ⟨Nat.zero_le _, Nat.zero_le _⟩ dX1_cornerSquare_50 ?_
  have g8 := (hXY (L (a + 1)) (by omega)).1
  refine zz_isub (pc := 53) (v := zI (((X (sw (L (a + 1))) : Nat) : Int) - ((X (L (a + 1)) : Nat) : Int))) S dX1_cornerSquare_53 (zI_sub ((X (sw (L (a + 1))) : Nat) : Int) ((X (L (a + 1)) : Nat) : Int)) ?_
  refine lv_istore (pc := 54) (lv' := [(7, .int (zI (((X (sw (L (a + 1))) : Nat) : Int) - ((X (L (a + 1)) : Nat) : Int)))), (6, .int (zI (((Y (sw (L a)) : Nat) : Int) - ((Y (L a) : Nat) : Int)))), (5, .int (zI (((X (sw (L a)) : Nat) : Int) - ((X (L a) : Nat) : Int)))), (4, .int (nI (L (a + 1)))), (3, .int (nI (L a))), (0, .ref d), (1, .int (nI a)), (2, .int (nI V))]) S.1 S.2.1 dX1_cornerSquare_54 hl (by decide) rfl (fun ls hl => ?_)
  refine lv_aload_n (pc := 56) S.1 S.2.1 dX1_cornerSquare_56 rfl (lv_at hl 5 rfl) ?_
  refine lv_iload (pc := 57) S.1 S.2.1 dX1_cornerSquare_57 (lv_at hl 3 rfl) ?_
  refine zz_callV (pc := 59) (As := [.int (zI ((L (a + 1) : Nat) : Int))]) (rest := []) S (c_X1_endYOf l D cI cR d e1 e2 e3 e4 n P X Y L ((L (a + 1) : Nat) : Int) hok.1 (by omega)) (zuV wd_258 wd_255 wd_256 wd_257 wd_14) 1 rfl q_X1_endYOf ⟨⟨rfl, rfl⟩, Nat.le_of_ble_eq_true rfl, Nat.le_of_ble_eq_true rfl⟩ hG [0, 1, 2, 3, 4] rfl 0 rfl rfl rfl rfl rfl (Nat.le_of_ble_eq_true rfl) hl.1 ⟨Nat.zero_le _, Nat.zero_le _⟩ dX1_cornerSquare_59 ?_
  refine zz_cast (v := nI (Y (sw (L (a + 1))))) (congrArg nI (oX_n Y (L (a + 1)))) ?_
  have g9 := (hXY (sw (L (a + 1))) (sw_lt (by omega))).2
  refine lv_aload_n (pc := 62) S.1 S.2.1 dX1_cornerSquare_62 rfl (lv_at hl 5 rfl) ?_
  refine lv_iload (pc := 63) S.1 S.2.1 dX1_cornerSquare_63 (lv_at hl 3 rfl) ?_
  refine zz_callV (pc := 65) (As := [.int (nI (L (a + 1)))]) (rest := [.int (nI (Y (sw (L (a + 1)))))]) S (c_X1_beginYOf l D cI cR d e1 e2 e3 e4 n P X Y L (L (a + 1)) hok.1 (by omega)) (zuV wd_222 wd_219 wd_220 wd_221 wd_14) 1 rfl q_X1_beginYOf ⟨⟨rfl, rfl⟩, Nat.le_of_ble_eq_true rfl, Nat.le_of_ble_eq_true rfl⟩ hG [0, 1, 2, 3, 4] rfl 0 rfl rfl rfl rfl rfl (Nat.le_of_ble_eq_true rfl) hl.1 ⟨Nat.zero_le _, Nat.zero_le _⟩ dX1_cornerSquare_65 ?_
  have g10 := (hXY (L (a + 1)) (by omega)).2
  refine zz_isub (pc := 68) (v := zI (((Y (sw (L (a + 1))) : Nat) : Int) - ((Y (L (a + 1)) : Nat) : Int))) S dX1_cornerSquare_68 (zI_sub ((Y (sw (L (a + 1))) : Nat) : Int) ((Y (L (a + 1)) : Nat) : Int)) ?_
  refine lv_istore (pc := 69) (lv' := [(8, .int (zI (((Y (sw (L (a + 1))) : Nat) : Int) - ((Y (L (a + 1)) : Nat) : Int)))), (7, .int (zI (((X (sw (L (a + 1))) : Nat) : Int) - ((X (L (a + 1)) : Nat) : Int)))), (6, .int (zI (((Y (sw (L a)) : Nat) : Int) - ((Y (L a) : Nat) : Int)))), (5, .int (zI (((X (sw (L a)) : Nat) : Int) - ((X (L a) : Nat) : Int)))), (4, .int (nI (L (a + 1)))), (3, .int (nI (L a))), (0, .ref d), (1, .int (nI a)), (2, .int (nI V))]) S.1 S.2.1 dX1_cornerSquare_69 hl (by decide) rfl (fun ls hl => ?_)
  have m1 := mul_bd (a := ((X (sw (L a)) : Nat) : Int) - ((X (L a) : Nat) : Int)) (b := ((X (sw (L (a + 1))) : Nat) : Int) - ((X (L (a + 1)) : Nat) : Int)) 99 99 (by omega) (by omega) (by omega)
  have m2 := mul_bd (a := ((Y (sw (L a)) : Nat) : Int) - ((Y (L a) : Nat) : Int)) (b := ((Y (sw (L (a + 1))) : Nat) : Int) - ((Y (L (a + 1)) : Nat) : Int)) 99 99 (by omega) (by omega) (by omega)
  have m3 := mul_bd (a := ((X (sw (L a)) : Nat) : Int) - ((X (L a) : Nat) : Int)) (b := ((Y (sw (L (a + 1))) : Nat) : Int) - ((Y (L (a + 1)) : Nat) : Int)) 99 99 (by omega) (by omega) (by omega)
  have m4 := mul_bd (a := ((Y (sw (L a)) : Nat) : Int) - ((Y (L a) : Nat) : Int)) (b := ((X (sw (L (a + 1))) : Nat) : Int) - ((X (L (a + 1)) : Nat) : Int)) 99 99 (by omega) (by omega) (by omega)
  refine lv_iload (pc := 71) S.1 S.2.1 dX1_cornerSquare_71 (lv_at hl 3 rfl) ?_
  refine lv_iload (pc := 73) S.1 S.2.1 dX1_cornerSquare_73 (lv_at hl 1 rfl) ?_
  refine zz_imul (pc := 75) (v := zI ((((X (sw (L a)) : Nat) : Int) - ((X (L a) : Nat) : Int)) * (((X (sw (L (a + 1))) : Nat) : Int) - ((X (L (a + 1)) : Nat) : Int)))) S dX1_cornerSquare_75 (zI_mul (((X (sw (L a)) : Nat) : Int) - ((X (L a) : Nat) : Int)) (((X (sw (L (a + 1))) : Nat) : Int) - ((X (L (a + 1)) : Nat) : Int))) ?_
  refine lv_iload (pc := 76) S.1 S.2.1 dX1_cornerSquare_76 (lv_at hl 2 rfl) ?_
  refine lv_iload (pc := 78) S.1 S.2.1 dX1_cornerSquare_78 (lv_at hl 0 rfl) ?_
  refine zz_imul (pc := 80) (v := zI ((((Y (sw (L a)) : Nat) : Int) - ((Y (L a) : Nat) : Int)) * (((Y (sw (L (a + 1))) : Nat) : Int) - ((Y (L (a + 1)) : Nat) : Int)))) S dX1_cornerSquare_80 (zI_mul (((Y (sw (L a)) : Nat) : Int) - ((Y (L a) : Nat) : Int)) (((Y (sw (L (a + 1))) : Nat) : Int) - ((Y (L (a + 1)) : Nat) : Int))) ?_
  refine zz_iadd (pc := 81) (v := zI ((((X (sw (L a)) : Nat) : Int) - ((X (L a) : Nat) : Int)) * (((X (sw (L (a + 1))) : Nat) : Int) - ((X (L (a + 1)) : Nat) : Int)) + ((((Y (sw (L a)) : Nat) : Int) - ((Y (L a) : Nat) : Int)) * (((Y (sw (L (a + 1))) : Nat) : Int) - ((Y (L (a + 1)) : Nat) : Int))))) S dX1_cornerSquare_81 (zI_add ((((X (sw (L a)) : Nat) : Int) - ((X (L a) : Nat) : Int)) * (((X (sw (L (a + 1))) : Nat) : Int) - ((X (L (a + 1)) : Nat) : Int))) ((((Y (sw (L a)) : Nat) : Int) - ((Y (L a) : Nat) : Int)) * (((Y (sw (L (a + 1))) : Nat) : Int) - ((Y (L (a + 1)) : Nat) : Int)))) ?_
  refine zz_if_gt (pc := 82) (tgt := 87) S dX1_cornerSquare_82 (by decide) (z_gt0 (by unfold zR; omega)) (fun c82 => ?_) (fun c82 => ?_)
  · refine lv_iload (pc := 87) S.1 S.2.1 dX1_cornerSquare_87 (lv_at hl 3 rfl) ?_
    refine lv_iload (pc := 89) S.1 S.2.1 dX1_cornerSquare_89 (lv_at hl 0 rfl) ?_
    refine zz_imul (pc := 91) (v := zI ((((X (sw (L a)) : Nat) : Int) - ((X (L a) : Nat) : Int)) * (((Y (sw (L (a + 1))) : Nat) : Int) - ((Y (L (a + 1)) : Nat) : Int)))) S dX1_cornerSquare_91 (zI_mul (((X (sw (L a)) : Nat) : Int) - ((X (L a) : Nat) : Int)) (((Y (sw (L (a + 1))) : Nat) : Int) - ((Y (L (a + 1)) : Nat) : Int))) ?_
    refine lv_iload (pc := 92) S.1 S.2.1 dX1_cornerSquare_92 (lv_at hl 2 rfl) ?_
    refine lv_iload (pc := 94) S.1 S.2.1 dX1_cornerSquare_94 (lv_at hl 1 rfl) ?_
    refine zz_imul (pc := 96) (v := zI ((((Y (sw (L a)) : Nat) : Int) - ((Y (L a) : Nat) : Int)) * (((X (sw (L (a + 1))) : Nat) : Int) - ((X (L (a + 1)) : Nat) : Int)))) S dX1_cornerSquare_96 (zI_mul (((Y (sw (L a)) : Nat) : Int) - ((Y (L a) : Nat) : Int)) (((X (sw (L (a + 1))) : Nat) : Int) - ((X (L (a + 1)) : Nat) : Int))) ?_
    refine zz_icmp_ne (pc := 97) (tgt := 104) S dX1_cornerSquare_97 (by decide) (zI_eq (a := (((X (sw (L a)) : Nat) : Int) - ((X (L a) : Nat) : Int)) * (((Y (sw (L (a + 1))) : Nat) : Int) - ((Y (L (a + 1)) : Nat) : Int))) (b := (((Y (sw (L a)) : Nat) : Int) - ((Y (L a) : Nat) : Int)) * (((X (sw (L (a + 1))) : Nat) : Int) - ((X (L (a + 1)) : Nat) : Int))) (by unfold zR; omega) (by unfold zR; omega)) (fun c97 => ?_) (fun c97 => ?_)
    · refine lv_iload_n (pc := 104) S.1 S.2.1 dX1_cornerSquare_104 rfl (lv_at hl 8 rfl) ?_
      refine zz_iconst (pc := 105) (v := nI 4) S dX1_cornerSquare_105 rfl ?_
      refine zz_idiv (pc := 106) (v := nI (V / 4)) S dX1_cornerSquare_106 (by decide) (n_div (by omega) (by decide) (by decide)) ?_
      exact zz_iretS (pc := 107) S hr hlocks (congrArg nI (by first | exact (crn_0 (by unfold dxx; omega)).symm | exact (crn_1 (by unfold dxx; omega) (by unfold dxx; omega)).symm | exact (crn_4 (by unfold dxx; omega) (by unfold dxx; omega)).symm)) dX1_cornerSquare_107
    · refine lv_iload_n (pc := 100) S.1 S.2.1 dX1_cornerSquare_100 rfl (lv_at hl 8 rfl) ?_
      refine lv_goto (pc := 101) (tgt := 107) S.1 S.2.1 dX1_cornerSquare_101 (by decide) ?_
      exact zz_iretS (pc := 107) S hr hlocks (congrArg nI (by first | exact (crn_0 (by unfold dxx; omega)).symm | exact (crn_1 (by unfold dxx; omega) (by unfold dxx; omega)).symm | exact (crn_4 (by unfold dxx; omega) (by unfold dxx; omega)).symm)) dX1_cornerSquare_107
  · refine zz_iconst (pc := 85) (v := nI 0) S dX1_cornerSquare_85 rfl ?_
    exact zz_iretS (pc := 86) S hr hlocks (congrArg nI (by first | exact (crn_0 (by unfold dxx; omega)).symm | exact (crn_1 (by unfold dxx; omega) (by unfold dxx; omega)).symm | exact (crn_4 (by unfold dxx; omega) (by unfold dxx; omega)).symm)) dX1_cornerSquare_86
abbrev wm_X1_planCost : List Cond := .code yX1_planCost cX1_planCost 5 (some .int) :: wU
theorem q_X1_planCost : yX1_planCost.cls = RX1 ∧ yX1_planCost.cls ≠ "java/lang/invoke/MethodHandle" ∧ yX1_planCost.cls ≠ "java/lang/invoke/VarHandle" ∧ (parseMethodDescriptor yX1_planCost.desc).map (fun d => d.parameters.length) = some 1 := by decide +kernel
set_option maxHeartbeats 4000000 in
set_option maxRecDepth 100000 in
theorem c_X1_planCost (l : Launch) (D : va_G) (cI cR : ClassId) (d e1 e2 e3 e4 n : Nat) (P X Y L : Nat → Nat) (C : Nat) (hok : zOk n P X Y L) (hC : C ≤ 500) : Met l yX1_planCost wm_X1_planCost ({ frames := 4, cells := 0, slots := 0, locals := 88 } : Room) (va_Pc [.ref d, .int (nI C)] (zW D cI cR [(d, .inr (1, [.int (nI n), .ref e1, .ref e2, .ref e3, .ref e4])), (e1, zA cI 8 P), (e2, zA cI 16 X), (e3, zA cI 16 Y), (e4, zA cI 8 L)])) (vp_Si (fun r => r = nI (zs (fun j => stp P X Y C (prv L j) (L j)) n))) 0 0 (fun _ => False) := by
  refine Met.ofW (cc := cX1_planCost) (maxL := 5) (ret := (some .int)) (by decide) rfl ?_
  intro p e s m args below meth c s₁ B hml hv
  obtain ⟨rfl, hG⟩ := hv
  have S : CallFix p m c cX1_planCost 5 s ([.ref d, .int (nI C)] : List Value).toArray wU RX1 := ⟨B.exec, B.bytes, hml, findClass_of_methodNamed B.named, fun w h => atoms_spec (ws := wm_X1_planCost) B.pre w (List.mem_cons_of_mem _ h)⟩
  have hr := B.returns
  have hlocks := B.notSynchronized
  have hG : zG D cI cR [(d, .inr (1, [.int (nI n), .ref e1, .ref e2, .ref e3, .ref e4])), (e1, zA cI 8 P), (e2, zA cI 16 X), (e3, zA cI 16 Y), (e4, zA cI 8 L)] s s.heap := hG
  have hl := lv_entry ([.ref d, .int (nI C)]) (n := 5) (Nat.le_of_ble_eq_true rfl)
  rw [lg_entry_eq]
  generalize (lg_sl ([.ref d, .int (nI C)]) ++ List.replicate (5 - (lg_sl ([.ref d, .int (nI C)])).length) Slot.unset).toArray = ls at hl ⊢
  have hl : lv_has ls 5 [(0, .ref d), (1, .int (nI C))] := hl
  obtain ⟨⟨hn, hPf, hXY⟩, hLf, hinj⟩ := id hok
  refine zz_iconst (pc := 0) (v := nI 0) S dX1_planCost_0 rfl ?_
  refine lv_istore_n (pc := 1) (lv' := [(2, .int (nI 0)), (0, .ref d), (1, .int (nI C))]) S.1 S.2.1 dX1_planCost_1 rfl hl (by decide) rfl (fun ls hl => ?_)
  refine zz_iconst (pc := 2) (v := zI (-1)) S dX1_planCost_2 rfl ?_
  refine lv_istore_n (pc := 3) (lv' := [(3, .int (zI (-1))), (2, .int (nI 0)), (0, .ref d), (1, .int (nI C))]) S.1 S.2.1 dX1_planCost_3 rfl hl (by decide) rfl (fun ls hl => ?_)
  refine zz_iconst (pc := 4) (v := nI 0) S dX1_planCost_4 rfl ?_
  refine lv_istore (pc := 5) (lv' := [(4, .int (nI 0)), (3, .int (zI (-1))), (2, .int (nI 0)), (0, .ref d), (1, .int (nI C))]) S.1 S.2.1 dX1_planCost_5 hl (by decide) rfl (fun ls hl => ?_)
  have L1 : ∀ (f : Nat) (k : Nat), (k ≤ n) → n - k < f → ∀ ls : Array Slot, lv_has ls 5 [(0, .ref d), (1, .int (nI C)), (2, .int (nI (zs (fun j => stp P X Y C (prv L j) (L j)) k))), (3, .int (zI (prv L k))), (4, .int (nI k))] → W p l e (headSpec wm_X1_planCost ({ frames := 4, cells := 0, slots := 0, locals := 88 } : Room)).room s m ([.ref d, .int (nI C)] : List Value).toArray below meth c s.heap [] 0 0 (MQ below (vp_Si (fun r => r = nI (zs (fun j => stp P X Y C (prv L j) (L j)) n))) ([.ref d, .int (nI C)] : List Value).toArray s 0 0 (fun _ => False)) (F0 m 7 ls []) := by
    intro f
    induction f with
    | zero => intro k hk hf; exact absurd hf (Nat.not_lt_zero _)
    | succ f ih2 =>
      intro k hk hf ls hl
      have hp := prv_rng (L := L) (n := n) hLf hk
      refine lv_iload (pc := 7) S.1 S.2.1 dX1_planCost_7 (lv_at hl 4 rfl) ?_
      refine lv_aload_n (pc := 9) S.1 S.2.1 dX1_planCost_9 rfl (lv_at hl 0 rfl) ?_
      refine zz_get (pc := 10) S hG iX1 0 rfl rfl 0 (by decide) wd_93 rfl rfl dX1_planCost_10 ?_
      refine zz_icmp_ge (pc := 13) (tgt := 46) S dX1_planCost_13 (by decide) (n_le (by omega) (by omega)) (fun c13 => ?_) (fun c13 => ?_)
      · refine lv_iload_n (pc := 46) S.1 S.2.1 dX1_planCost_46 rfl (lv_at hl 2 rfl) ?_
        exact zz_iretS (pc := 47) S hr hlocks (congrArg nI (by rw [show k = n by omega])) dX1_planCost_47
      · refine lv_iload_n (pc := 16) S.1 S.2.1 dX1_planCost_16 rfl (lv_at hl 2 rfl) ?_
        refine lv_aload_n (pc := 17) S.1 S.2.1 dX1_planCost_17 rfl (lv_at hl 0 rfl) ?_
        refine lv_iload_n (pc := 18) S.1 S.2.1 dX1_planCost_18 rfl (lv_at hl 3 rfl) ?_
        refine lv_aload_n (pc := 19) S.1 S.2.1 dX1_planCost_19 rfl (lv_at hl 0 rfl) ?_
        refine zz_get (pc := 20) S hG iX1 0 rfl rfl 4 (by decide) wd_42 rfl rfl dX1_planCost_20 ?_
        refine lv_iload (pc := 23) S.1 S.2.1 dX1_planCost_23 (lv_at hl 4 rfl) ?_
        refine zz_iald (pc := 25) (k := k) S hG 4 rfl (by omega) dX1_planCost_25 ?_
        have g3 := hLf k (by omega)
        refine lv_iload_n (pc := 26) S.1 S.2.1 dX1_planCost_26 rfl (lv_at hl 1 rfl) ?_
        refine zz_callV (pc := 27) (As := [.int (zI (prv L k)), .int (nI (L k)), .int (nI C)]) (rest := [.int (nI (zs (fun j => stp P X Y C (prv L j) (L j)) k))]) S (c_X1_stepCost l D cI cR d e1 e2 e3 e4 n P X Y L (prv L k) (L k) C hok.1 (by omega) (by omega) (by omega)) (zuV wd_408 wd_405 wd_406 wd_407 wd_14) 3 rfl q_X1_stepCost ⟨⟨rfl, rfl⟩, Nat.le_of_ble_eq_true rfl, Nat.le_of_ble_eq_true rfl⟩ hG [0, 1, 2, 3, 4] rfl 0 rfl rfl rfl rfl rfl (Nat.le_of_ble_eq_true rfl) hl.1 ⟨Nat.zero_le _, Nat.zero_le _⟩ dX1_planCost_27 ?_
        have g4 := stp_le (P := P) (X := X) (Y := Y) (C := C) (a := (prv L k)) (b := (L k)) (n := n) hXY (by omega) (by omega)
        refine zz_iadd (pc := 30) (v := nI (zs (fun j => stp P X Y C (prv L j) (L j)) k + (stp P X Y C (prv L k) (L k)))) S dX1_planCost_30 (n_add _ _) ?_
        refine lv_istore_n (pc := 31) (lv' := [(2, .int (nI (zs (fun j => stp P X Y C (prv L j) (L j)) k + (stp P X Y C (prv L k) (L k))))), (0, .ref d), (1, .int (nI C)), (3, .int (zI (prv L k))), (4, .int (nI k))]) S.1 S.2.1 dX1_planCost_31 rfl hl (by decide) rfl (fun ls hl => ?_)
        refine lv_aload_n (pc := 32) S.1 S.2.1 dX1_planCost_32 rfl (lv_at hl 1 rfl) ?_
        refine zz_get (pc := 33) S hG iX1 0 rfl rfl 4 (by decide) wd_42 rfl rfl dX1_planCost_33 ?_
        refine lv_iload (pc := 36) S.1 S.2.1 dX1_planCost_36 (lv_at hl 4 rfl) ?_
        refine zz_iald (pc := 38) (k := k) S hG 4 rfl (by omega) dX1_planCost_38 ?_
        have g5 := hLf k (by omega)
        refine lv_istore_n (pc := 39) (lv' := [(3, .int (nI (L k))), (2, .int (nI (zs (fun j => stp P X Y C (prv L j) (L j)) k + (stp P X Y C (prv L k) (L k))))), (0, .ref d), (1, .int (nI C)), (4, .int (nI k))]) S.1 S.2.1 dX1_planCost_39 rfl hl (by decide) rfl (fun ls hl => ?_)
        refine lv_iinc (pc := 40) (v := nI (k + 1)) (lv' := [(4, .int (nI (k + 1))), (3, .int (nI (L k))), (2, .int (nI (zs (fun j => stp P X Y C (prv L j) (L j)) k + (stp P X Y C (prv L k) (L k))))), (0, .ref d), (1, .int (nI C))]) S.1 S.2.1 dX1_planCost_40 hl (k := 4) rfl (n_add _ _) (by decide) rfl (fun ls hl => ?_)
        refine lv_goto (pc := 43) (tgt := 7) S.1 S.2.1 dX1_planCost_43 (by decide) ?_
        exact ih2 (k + 1) (by omega) (by omega) ls (lv_sub hl [3, 4, 2, 1, 0] rfl)
  exact L1 (n - 0 + 1) 0 (by omega) (Nat.lt_succ_self _) ls (lv_sub hl [3, 4, 2, 1, 0] rfl)
abbrev wm_X1_countPenChanges : List Cond := .code yX1_countPenChanges cX1_countPenChanges 4 (some .int) :: wU
theorem q_X1_countPenChanges : yX1_countPenChanges.cls = RX1 ∧ yX1_countPenChanges.cls ≠ "java/lang/invoke/MethodHandle" ∧ yX1_countPenChanges.cls ≠ "java/lang/invoke/VarHandle" ∧ (parseMethodDescriptor yX1_countPenChanges.desc).map (fun d => d.parameters.length) = some 0 := by decide +kernel
set_option maxHeartbeats 4000000 in
set_option maxRecDepth 100000 in
theorem c_X1_countPenChanges (l : Launch) (D : va_G) (cI cR : ClassId) (d e1 e2 e3 e4 n : Nat) (P X Y L : Nat → Nat) (hok : zOk n P X Y L) : Met l yX1_countPenChanges wm_X1_countPenChanges ({ frames := 3, cells := 0, slots := 0, locals := 64 } : Room) (va_Pc [.ref d] (zW D cI cR [(d, .inr (1, [.int (nI n), .ref e1, .ref e2, .ref e3, .ref e4])), (e1, zA cI 8 P), (e2, zA cI 16 X), (e3, zA cI 16 Y), (e4, zA cI 8 L)])) (vp_Si (fun r => r = nI (zs (fun j => zB (¬ oP P (prv L j) = oP P ((L j : Nat) : Int))) n))) 0 0 (fun _ => False) := by
  refine Met.ofW (cc := cX1_countPenChanges) (maxL := 4) (ret := (some .int)) (by decide) rfl ?_
  intro p e s m args below meth c s₁ B hml hv
  obtain ⟨rfl, hG⟩ := hv
  have S : CallFix p m c cX1_countPenChanges 4 s ([.ref d] : List Value).toArray wU RX1 := ⟨B.exec, B.bytes, hml, findClass_of_methodNamed B.named, fun w h => atoms_spec (ws := wm_X1_countPenChanges) B.pre w (List.mem_cons_of_mem _ h)⟩
  have hr := B.returns
  have hlocks := B.notSynchronized
  have hG : zG D cI cR [(d, .inr (1, [.int (nI n), .ref e1, .ref e2, .ref e3, .ref e4])), (e1, zA cI 8 P), (e2, zA cI 16 X), (e3, zA cI 16 Y), (e4, zA cI 8 L)] s s.heap := hG
  have hl := lv_entry ([.ref d]) (n := 4) (Nat.le_of_ble_eq_true rfl)
  rw [lg_entry_eq]
  generalize (lg_sl ([.ref d]) ++ List.replicate (4 - (lg_sl ([.ref d])).length) Slot.unset).toArray = ls at hl ⊢
  have hl : lv_has ls 4 [(0, .ref d)] := hl
  obtain ⟨⟨hn, hPf, hXY⟩, hLf, hinj⟩ := id hok
  refine zz_iconst (pc := 0) (v := nI 0) S dX1_countPenChanges_0 rfl ?_
  refine lv_istore_n (pc := 1) (lv' := [(1, .int (nI 0)), (0, .ref d)]) S.1 S.2.1 dX1_countPenChanges_1 rfl hl (by decide) rfl (fun ls hl => ?_)
  refine zz_iconst (pc := 2) (v := zI (-1)) S dX1_countPenChanges_2 rfl ?_
  refine lv_istore_n (pc := 3) (lv' := [(2, .int (zI (-1))), (1, .int (nI 0)), (0, .ref d)]) S.1 S.2.1 dX1_countPenChanges_3 rfl hl (by decide) rfl (fun ls hl => ?_)
  refine zz_iconst (pc := 4) (v := nI 0) S dX1_countPenChanges_4 rfl ?_
  refine lv_istore_n (pc := 5) (lv' := [(3, .int (nI 0)), (2, .int (zI (-1))), (1, .int (nI 0)), (0, .ref d)]) S.1 S.2.1 dX1_countPenChanges_5 rfl hl (by decide) rfl (fun ls hl => ?_)
  have L1 : ∀ (f : Nat) (k : Nat), (k ≤ n) → n - k < f → ∀ ls : Array Slot, lv_has ls 4 [(0, .ref d), (1, .int (nI (zs (fun j => zB (¬ oP P (prv L j) = oP P ((L j : Nat) : Int))) k))), (2, .int (zI (prv L k))), (3, .int (nI k))] → W p l e (headSpec wm_X1_countPenChanges ({ frames := 3, cells := 0, slots := 0, locals := 64 } : Room)).room s m ([.ref d] : List Value).toArray below meth c s.heap [] 0 0 (MQ below (vp_Si (fun r => r = nI (zs (fun j => zB (¬ oP P (prv L j) = oP P ((L j : Nat) : Int))) n))) ([.ref d] : List Value).toArray s 0 0 (fun _ => False)) (F0 m 6 ls []) := by
    intro f
    induction f with
    | zero => intro k hk hf; exact absurd hf (Nat.not_lt_zero _)
    | succ f ih2 =>
      intro k hk hf ls hl
      have hp := prv_rng (L := L) (n := n) hLf hk
      refine lv_iload_n (pc := 6) S.1 S.2.1 dX1_countPenChanges_6 rfl (lv_at hl 3 rfl) ?_
      refine lv_aload_n (pc := 7) S.1 S.2.1 dX1_countPenChanges_7 rfl (lv_at hl 0 rfl) ?_
      refine zz_get (pc := 8) S hG iX1 0 rfl rfl 0 (by decide) wd_93 rfl rfl dX1_countPenChanges_8 ?_
      refine zz_icmp_ge (pc := 11) (tgt := 44) S dX1_countPenChanges_11 (by decide) (n_le (by omega) (by omega)) (fun c11 => ?_) (fun c11 => ?_)
      · refine lv_iload_n (pc := 44) S.1 S.2.1 dX1_countPenChanges_44 rfl (lv_at hl 1 rfl) ?_
        exact zz_iretS (pc := 45) S hr hlocks (congrArg nI (by rw [show k = n by omega])) dX1_countPenChanges_45
      · refine lv_aload_n (pc := 14) S.1 S.2.1 dX1_countPenChanges_14 rfl (lv_at hl 0 rfl) ?_
        refine lv_iload_n (pc := 15) S.1 S.2.1 dX1_countPenChanges_15 rfl (lv_at hl 2 rfl) ?_
        refine lv_aload_n (pc := 16) S.1 S.2.1 dX1_countPenChanges_16 rfl (lv_at hl 0 rfl) ?_
        refine zz_get (pc := 17) S hG iX1 0 rfl rfl 4 (by decide) wd_42 rfl rfl dX1_countPenChanges_17 ?_
        refine lv_iload_n (pc := 20) S.1 S.2.1 dX1_countPenChanges_20 rfl (lv_at hl 3 rfl) ?_
        refine zz_iald (pc := 21) (k := k) S hG 4 rfl (by omega) dX1_countPenChanges_21 ?_
        have g3 := hLf k (by omega)
        refine zz_callV (pc := 22) (As := [.int (zI (prv L k)), .int (zI ((L k : Nat) : Int))]) (rest := []) S (c_X1_changesPen l D cI cR d e1 e2 e3 e4 n P X Y L (prv L k) ((L k : Nat) : Int) hok.1 (by omega) (by omega)) (zuV wd_418 wd_415 wd_416 wd_417 wd_14) 2 rfl q_X1_changesPen ⟨⟨rfl, rfl⟩, Nat.le_of_ble_eq_true rfl, Nat.le_of_ble_eq_true rfl⟩ hG [0, 1, 2, 3, 4] rfl 0 rfl rfl rfl rfl rfl (Nat.le_of_ble_eq_true rfl) hl.1 ⟨Nat.zero_le _, Nat.zero_le _⟩ dX1_countPenChanges_22 ?_
        refine zz_ifb_eq (pc := 25) (tgt := 31) S dX1_countPenChanges_25 (by decide) (fun c25 => ?_) (fun c25 => ?_)
        · have w1 : zs (fun j => zB (¬ oP P (prv L j) = oP P ((L j : Nat) : Int))) (k + 1) = zs (fun j => zB (¬ oP P (prv L j) = oP P ((L j : Nat) : Int))) k := zs_f (P := fun j => ¬ oP P (prv L j) = oP P ((L j : Nat) : Int)) c25
          refine lv_aload_n (pc := 31) S.1 S.2.1 dX1_countPenChanges_31 rfl (lv_at hl 0 rfl) ?_
          refine zz_get (pc := 32) S hG iX1 0 rfl rfl 4 (by decide) wd_42 rfl rfl dX1_countPenChanges_32 ?_
          refine lv_iload_n (pc := 35) S.1 S.2.1 dX1_countPenChanges_35 rfl (lv_at hl 3 rfl) ?_
          refine zz_iald (pc := 36) (k := k) S hG 4 rfl (by omega) dX1_countPenChanges_36 ?_
          have g4 := hLf k (by omega)
          refine lv_istore_n (pc := 37) (lv' := [(2, .int (nI (L k))), (0, .ref d), (1, .int (nI (zs (fun j => zB (¬ oP P (prv L j) = oP P ((L j : Nat) : Int))) k))), (3, .int (nI k))]) S.1 S.2.1 dX1_countPenChanges_37 rfl hl (by decide) rfl (fun ls hl => ?_)
          refine lv_iinc (pc := 38) (v := nI (k + 1)) (lv' := [(3, .int (nI (k + 1))), (2, .int (nI (L k))), (0, .ref d), (1, .int (nI (zs (fun j => zB (¬ oP P (prv L j) = oP P ((L j : Nat) : Int))) k)))]) S.1 S.2.1 dX1_countPenChanges_38 hl (k := 3) rfl (n_add _ _) (by decide) rfl (fun ls hl => ?_)
          refine lv_goto (pc := 41) (tgt := 6) S.1 S.2.1 dX1_countPenChanges_41 (by decide) ?_
          exact ih2 (k + 1) (by omega) (by omega) ls (by rw [w1]; exact lv_sub hl [2, 3, 1, 0] rfl)
        · have w1 : zs (fun j => zB (¬ oP P (prv L j) = oP P ((L j : Nat) : Int))) (k + 1) = zs (fun j => zB (¬ oP P (prv L j) = oP P ((L j : Nat) : Int))) k + 1 := zs_t (P := fun j => ¬ oP P (prv L j) = oP P ((L j : Nat) : Int)) c25
          refine lv_iinc (pc := 28) (v := nI (zs (fun j => zB (¬ oP P (prv L j) = oP P ((L j : Nat) : Int))) k + 1)) (lv' := [(1, .int (nI (zs (fun j => zB (¬ oP P (prv L j) = oP P ((L j : Nat) : Int))) k + 1))), (0, .ref d), (2, .int (zI (prv L k))), (3, .int (nI k))]) S.1 S.2.1 dX1_countPenChanges_28 hl (k := 1) rfl (n_add _ _) (by decide) rfl (fun ls hl => ?_)
          refine lv_aload_n (pc := 31) S.1 S.2.1 dX1_countPenChanges_31 rfl (lv_at hl 1 rfl) ?_
          refine zz_get (pc := 32) S hG iX1 0 rfl rfl 4 (by decide) wd_42 rfl rfl dX1_countPenChanges_32 ?_
          refine lv_iload_n (pc := 35) S.1 S.2.1 dX1_countPenChanges_35 rfl (lv_at hl 3 rfl) ?_
          refine zz_iald (pc := 36) (k := k) S hG 4 rfl (by omega) dX1_countPenChanges_36 ?_
          have g5 := hLf k (by omega)
          refine lv_istore_n (pc := 37) (lv' := [(2, .int (nI (L k))), (1, .int (nI (zs (fun j => zB (¬ oP P (prv L j) = oP P ((L j : Nat) : Int))) k + 1))), (0, .ref d), (3, .int (nI k))]) S.1 S.2.1 dX1_countPenChanges_37 rfl hl (by decide) rfl (fun ls hl => ?_)
          refine lv_iinc (pc := 38) (v := nI (k + 1)) (lv' := [(3, .int (nI (k + 1))), (2, .int (nI (L k))), (1, .int (nI (zs (fun j => zB (¬ oP P (prv L j) = oP P ((L j : Nat) : Int))) k + 1))), (0, .ref d)]) S.1 S.2.1 dX1_countPenChanges_38 hl (k := 3) rfl (n_add _ _) (by decide) rfl (fun ls hl => ?_)
          refine lv_goto (pc := 41) (tgt := 6) S.1 S.2.1 dX1_countPenChanges_41 (by decide) ?_
          exact ih2 (k + 1) (by omega) (by omega) ls (by rw [w1]; exact lv_sub hl [3, 2, 1, 0] rfl)
  exact L1 (n - 0 + 1) 0 (by omega) (Nat.lt_succ_self _) ls (lv_sub hl [3, 2, 1, 0] rfl)
abbrev wm_X1_countRuns : List Cond := .code yX1_countRuns cX1_countRuns 3 (some .int) :: wU
theorem q_X1_countRuns : yX1_countRuns.cls = RX1 ∧ yX1_countRuns.cls ≠ "java/lang/invoke/MethodHandle" ∧ yX1_countRuns.cls ≠ "java/lang/invoke/VarHandle" ∧ (parseMethodDescriptor yX1_countRuns.desc).map (fun d => d.parameters.length) = some 0 := by decide +kernel
set_option maxHeartbeats 4000000 in
set_option maxRecDepth 100000 in
theorem c_X1_countRuns (l : Launch) (D : va_G) (cI cR : ClassId) (d e1 e2 e3 e4 n : Nat) (P X Y L : Nat → Nat) (hok : zOk n P X Y L) : Met l yX1_countRuns wm_X1_countRuns ({ frames := 4, cells := 0, slots := 0, locals := 87 } : Room) (va_Pc [.ref d] (zW D cI cR [(d, .inr (1, [.int (nI n), .ref e1, .ref e2, .ref e3, .ref e4])), (e1, zA cI 8 P), (e2, zA cI 16 X), (e3, zA cI 16 Y), (e4, zA cI 8 L)])) (vp_Si (fun r => r = nI (rnk n P X Y L n))) 0 0 (fun _ => False) := by
  refine Met.ofW (cc := cX1_countRuns) (maxL := 3) (ret := (some .int)) (by decide) rfl ?_
  intro p e s m args below meth c s₁ B hml hv
  obtain ⟨rfl, hG⟩ := hv
  have S : CallFix p m c cX1_countRuns 3 s ([.ref d] : List Value).toArray wU RX1 := ⟨B.exec, B.bytes, hml, findClass_of_methodNamed B.named, fun w h => atoms_spec (ws := wm_X1_countRuns) B.pre w (List.mem_cons_of_mem _ h)⟩
  have hr := B.returns
  have hlocks := B.notSynchronized
  have hG : zG D cI cR [(d, .inr (1, [.int (nI n), .ref e1, .ref e2, .ref e3, .ref e4])), (e1, zA cI 8 P), (e2, zA cI 16 X), (e3, zA cI 16 Y), (e4, zA cI 8 L)] s s.heap := hG
  have hl := lv_entry ([.ref d]) (n := 3) (Nat.le_of_ble_eq_true rfl)
  rw [lg_entry_eq]
  generalize (lg_sl ([.ref d]) ++ List.replicate (3 - (lg_sl ([.ref d])).length) Slot.unset).toArray = ls at hl ⊢
  have hl : lv_has ls 3 [(0, .ref d)] := hl
  obtain ⟨⟨hn, hPf, hXY⟩, hLf, hinj⟩ := id hok
  refine zz_iconst (pc := 0) (v := nI 0) S dX1_countRuns_0 rfl ?_
  refine lv_istore_n (pc := 1) (lv' := [(1, .int (nI 0)), (0, .ref d)]) S.1 S.2.1 dX1_countRuns_1 rfl hl (by decide) rfl (fun ls hl => ?_)
  refine zz_iconst (pc := 2) (v := nI 0) S dX1_countRuns_2 rfl ?_
  refine lv_istore_n (pc := 3) (lv' := [(2, .int (nI 0)), (1, .int (nI 0)), (0, .ref d)]) S.1 S.2.1 dX1_countRuns_3 rfl hl (by decide) rfl (fun ls hl => ?_)
  have L1 : ∀ (f : Nat) (k : Nat), (k ≤ n) → n - k < f → ∀ ls : Array Slot, lv_has ls 3 [(0, .ref d), (1, .int (nI (rnk n P X Y L k))), (2, .int (nI k))] → W p l e (headSpec wm_X1_countRuns ({ frames := 4, cells := 0, slots := 0, locals := 87 } : Room)).room s m ([.ref d] : List Value).toArray below meth c s.heap [] 0 0 (MQ below (vp_Si (fun r => r = nI (rnk n P X Y L n))) ([.ref d] : List Value).toArray s 0 0 (fun _ => False)) (F0 m 4 ls []) := by
    intro f
    induction f with
    | zero => intro k hk hf; exact absurd hf (Nat.not_lt_zero _)
    | succ f ih2 =>
      intro k hk hf ls hl
      refine lv_iload_n (pc := 4) S.1 S.2.1 dX1_countRuns_4 rfl (lv_at hl 2 rfl) ?_
      refine lv_aload_n (pc := 5) S.1 S.2.1 dX1_countRuns_5 rfl (lv_at hl 0 rfl) ?_
      refine zz_get (pc := 6) S hG iX1 0 rfl rfl 0 (by decide) wd_93 rfl rfl dX1_countRuns_6 ?_
      refine zz_icmp_ge (pc := 9) (tgt := 29) S dX1_countRuns_9 (by decide) (n_le (by omega) (by omega)) (fun c9 => ?_) (fun c9 => ?_)
      · refine lv_iload_n (pc := 29) S.1 S.2.1 dX1_countRuns_29 rfl (lv_at hl 1 rfl) ?_
        exact zz_iretS (pc := 30) S hr hlocks (congrArg nI (by rw [show k = n by omega])) dX1_countRuns_30
      · refine lv_aload_n (pc := 12) S.1 S.2.1 dX1_countRuns_12 rfl (lv_at hl 0 rfl) ?_
        refine lv_iload_n (pc := 13) S.1 S.2.1 dX1_countRuns_13 rfl (lv_at hl 2 rfl) ?_
        refine zz_callV (pc := 14) (As := [.int (nI k)]) (rest := []) S (c_X1_isLinkedToNext l D cI cR d e1 e2 e3 e4 n P X Y L k hok (by omega)) (zuV wd_463 wd_460 wd_461 wd_462 wd_14) 1 rfl q_X1_isLinkedToNext ⟨⟨rfl, rfl⟩, Nat.le_of_ble_eq_true rfl, Nat.le_of_ble_eq_true rfl⟩ hG [0, 1, 2, 3, 4] rfl 0 rfl rfl rfl rfl rfl (Nat.le_of_ble_eq_true rfl) hl.1 ⟨Nat.zero_le _, Nat.zero_le _⟩ dX1_countRuns_14 ?_
        refine zz_ifb_ne (pc := 17) (tgt := 23) S dX1_countRuns_17 (by decide) (fun c17 => ?_) (fun c17 => ?_)
        · have w1 := rnk_t c17
          refine lv_iinc (pc := 23) (v := nI (k + 1)) (lv' := [(2, .int (nI (k + 1))), (0, .ref d), (1, .int (nI (rnk n P X Y L k)))]) S.1 S.2.1 dX1_countRuns_23 hl (k := 2) rfl (n_add _ _) (by decide) rfl (fun ls hl => ?_)
          refine lv_goto (pc := 26) (tgt := 4) S.1 S.2.1 dX1_countRuns_26 (by decide) ?_
          exact ih2 (k + 1) (by omega) (by omega) ls (by rw [w1]; exact lv_sub hl [1, 2, 0] rfl)
        · have w1 := rnk_f c17
          refine lv_iinc (pc := 20) (v := nI (rnk n P X Y L k + 1)) (lv' := [(1, .int (nI (rnk n P X Y L k + 1))), (0, .ref d), (2, .int (nI k))]) S.1 S.2.1 dX1_countRuns_20 hl (k := 1) rfl (n_add _ _) (by decide) rfl (fun ls hl => ?_)
          refine lv_iinc (pc := 23) (v := nI (k + 1)) (lv' := [(2, .int (nI (k + 1))), (1, .int (nI (rnk n P X Y L k + 1))), (0, .ref d)]) S.1 S.2.1 dX1_countRuns_23 hl (k := 2) rfl (n_add _ _) (by decide) rfl (fun ls hl => ?_)
          refine lv_goto (pc := 26) (tgt := 4) S.1 S.2.1 dX1_countRuns_26 (by decide) ?_
          exact ih2 (k + 1) (by omega) (by omega) ls (by rw [w1]; exact lv_sub hl [2, 1, 0] rfl)
  exact L1 (n - 0 + 1) 0 (by omega) (Nat.lt_succ_self _) ls (lv_sub hl [2, 1, 0] rfl)
abbrev wm_X1_lengthOfRun : List Cond := .code yX1_lengthOfRun cX1_lengthOfRun 5 (some .int) :: wU
theorem q_X1_lengthOfRun : yX1_lengthOfRun.cls = RX1 ∧ yX1_lengthOfRun.cls ≠ "java/lang/invoke/MethodHandle" ∧ yX1_lengthOfRun.cls ≠ "java/lang/invoke/VarHandle" ∧ (parseMethodDescriptor yX1_lengthOfRun.desc).map (fun d => d.parameters.length) = some 1 := by decide +kernel
set_option maxHeartbeats 4000000 in
set_option maxRecDepth 100000 in
theorem c_X1_lengthOfRun (l : Launch) (D : va_G) (cI cR : ClassId) (d e1 e2 e3 e4 n : Nat) (P X Y L : Nat → Nat) (a : Int) (hok : zOk n P X Y L) (ha : zR a) : Met l yX1_lengthOfRun wm_X1_lengthOfRun ({ frames := 4, cells := 0, slots := 0, locals := 87 } : Room) (va_Pc [.ref d, .int (zI a)] (zW D cI cR [(d, .inr (1, [.int (nI n), .ref e1, .ref e2, .ref e3, .ref e4])), (e1, zA cI 8 P), (e2, zA cI 16 X), (e3, zA cI 16 Y), (e4, zA cI 8 L)])) (vp_Si (fun r => r = nI (zs (fun j => zB (((rnk n P X Y L j : Nat) : Int) = a)) n))) 0 0 (fun _ => False) := by
  refine Met.ofW (cc := cX1_lengthOfRun) (maxL := 5) (ret := (some .int)) (by decide) rfl ?_
  intro p e s m args below meth c s₁ B hml hv
  obtain ⟨rfl, hG⟩ := hv
  have S : CallFix p m c cX1_lengthOfRun 5 s ([.ref d, .int (zI a)] : List Value).toArray wU RX1 := ⟨B.exec, B.bytes, hml, findClass_of_methodNamed B.named, fun w h => atoms_spec (ws := wm_X1_lengthOfRun) B.pre w (List.mem_cons_of_mem _ h)⟩
  have hr := B.returns
  have hlocks := B.notSynchronized
  have hG : zG D cI cR [(d, .inr (1, [.int (nI n), .ref e1, .ref e2, .ref e3, .ref e4])), (e1, zA cI 8 P), (e2, zA cI 16 X), (e3, zA cI 16 Y), (e4, zA cI 8 L)] s s.heap := hG
  have hl := lv_entry ([.ref d, .int (zI a)]) (n := 5) (Nat.le_of_ble_eq_true rfl)
  rw [lg_entry_eq]
  generalize (lg_sl ([.ref d, .int (zI a)]) ++ List.replicate (5 - (lg_sl ([.ref d, .int (zI a)])).length) Slot.unset).toArray = ls at hl ⊢
  have hl : lv_has ls 5 [(0, .ref d), (1, .int (zI a))] := hl
  have r_ha := id ha
  unfold zR at r_ha
  obtain ⟨⟨hn, hPf, hXY⟩, hLf, hinj⟩ := id hok
  refine zz_iconst (pc := 0) (v := nI 0) S dX1_lengthOfRun_0 rfl ?_
  refine lv_istore_n (pc := 1) (lv' := [(2, .int (nI 0)), (0, .ref d), (1, .int (zI a))]) S.1 S.2.1 dX1_lengthOfRun_1 rfl hl (by decide) rfl (fun ls hl => ?_)
  refine zz_iconst (pc := 2) (v := nI 0) S dX1_lengthOfRun_2 rfl ?_
  refine lv_istore_n (pc := 3) (lv' := [(3, .int (nI 0)), (2, .int (nI 0)), (0, .ref d), (1, .int (zI a))]) S.1 S.2.1 dX1_lengthOfRun_3 rfl hl (by decide) rfl (fun ls hl => ?_)
  refine zz_iconst (pc := 4) (v := nI 0) S dX1_lengthOfRun_4 rfl ?_
  refine lv_istore (pc := 5) (lv' := [(4, .int (nI 0)), (3, .int (nI 0)), (2, .int (nI 0)), (0, .ref d), (1, .int (zI a))]) S.1 S.2.1 dX1_lengthOfRun_5 hl (by decide) rfl (fun ls hl => ?_)
  have L1 : ∀ (f : Nat) (k : Nat), (k ≤ n) → n - k < f → ∀ ls : Array Slot, lv_has ls 5 [(0, .ref d), (1, .int (zI a)), (2, .int (nI (rnk n P X Y L k))), (3, .int (nI (zs (fun j => zB (((rnk n P X Y L j : Nat) : Int) = a)) k))), (4, .int (nI k))] → W p l e (headSpec wm_X1_lengthOfRun ({ frames := 4, cells := 0, slots := 0, locals := 87 } : Room)).room s m ([.ref d, .int (zI a)] : List Value).toArray below meth c s.heap [] 0 0 (MQ below (vp_Si (fun r => r = nI (zs (fun j => zB (((rnk n P X Y L j : Nat) : Int) = a)) n))) ([.ref d, .int (zI a)] : List Value).toArray s 0 0 (fun _ => False)) (F0 m 7 ls []) := by
    intro f
    induction f with
    | zero => intro k hk hf; exact absurd hf (Nat.not_lt_zero _)
    | succ f ih2 =>
      intro k hk hf ls hl
      have hp := rnk_le n P X Y L k
      refine lv_iload (pc := 7) S.1 S.2.1 dX1_lengthOfRun_7 (lv_at hl 4 rfl) ?_
      refine lv_aload_n (pc := 9) S.1 S.2.1 dX1_lengthOfRun_9 rfl (lv_at hl 0 rfl) ?_
      refine zz_get (pc := 10) S hG iX1 0 rfl rfl 0 (by decide) wd_93 rfl rfl dX1_lengthOfRun_10 ?_
      refine zz_icmp_ge (pc := 13) (tgt := 42) S dX1_lengthOfRun_13 (by decide) (n_le (by omega) (by omega)) (fun c13 => ?_) (fun c13 => ?_)
      · refine lv_iload_n (pc := 42) S.1 S.2.1 dX1_lengthOfRun_42 rfl (lv_at hl 3 rfl) ?_
        exact zz_iretS (pc := 43) S hr hlocks (congrArg nI (by rw [show k = n by omega])) dX1_lengthOfRun_43
      · refine lv_iload_n (pc := 16) S.1 S.2.1 dX1_lengthOfRun_16 rfl (lv_at hl 2 rfl) ?_
        refine lv_iload_n (pc := 17) S.1 S.2.1 dX1_lengthOfRun_17 rfl (lv_at hl 1 rfl) ?_
        refine zz_icmp_ne (pc := 18) (tgt := 24) S dX1_lengthOfRun_18 (by decide) (zI_eq (a := ((rnk n P X Y L k : Nat) : Int)) (b := a) (by unfold zR; omega) (by unfold zR; omega)) (fun c18 => ?_) (fun c18 => ?_)
        · have w1 : zs (fun j => zB (((rnk n P X Y L j : Nat) : Int) = a)) (k + 1) = zs (fun j => zB (((rnk n P X Y L j : Nat) : Int) = a)) k := zs_f (P := fun j => ((rnk n P X Y L j : Nat) : Int) = a) c18
          refine lv_aload_n (pc := 24) S.1 S.2.1 dX1_lengthOfRun_24 rfl (lv_at hl 0 rfl) ?_
          refine lv_iload (pc := 25) S.1 S.2.1 dX1_lengthOfRun_25 (lv_at hl 4 rfl) ?_
          refine zz_callV (pc := 27) (As := [.int (nI k)]) (rest := []) S (c_X1_isLinkedToNext l D cI cR d e1 e2 e3 e4 n P X Y L k hok (by omega)) (zuV wd_463 wd_460 wd_461 wd_462 wd_14) 1 rfl q_X1_isLinkedToNext ⟨⟨rfl, rfl⟩, Nat.le_of_ble_eq_true rfl, Nat.le_of_ble_eq_true rfl⟩ hG [0, 1, 2, 3, 4] rfl 0 rfl rfl rfl rfl rfl (Nat.le_of_ble_eq_true rfl) hl.1 ⟨Nat.zero_le _, Nat.zero_le _⟩ dX1_lengthOfRun_27 ?_
          refine zz_ifb_ne (pc := 30) (tgt := 36) S dX1_lengthOfRun_30 (by decide) (fun c30 => ?_) (fun c30 => ?_)
          · have w2 := rnk_t c30
            refine lv_iinc (pc := 36) (v := nI (k + 1)) (lv' := [(4, .int (nI (k + 1))), (0, .ref d), (1, .int (zI a)), (2, .int (nI (rnk n P X Y L k))), (3, .int (nI (zs (fun j => zB (((rnk n P X Y L j : Nat) : Int) = a)) k)))]) S.1 S.2.1 dX1_lengthOfRun_36 hl (k := 4) rfl (n_add _ _) (by decide) rfl (fun ls hl => ?_)
            refine lv_goto (pc := 39) (tgt := 7) S.1 S.2.1 dX1_lengthOfRun_39 (by decide) ?_
            exact ih2 (k + 1) (by omega) (by omega) ls (by rw [w1, w2]; exact lv_sub hl [1, 2, 3, 4, 0] rfl)
          · have w2 := rnk_f c30
            refine lv_iinc (pc := 33) (v := nI (rnk n P X Y L k + 1)) (lv' := [(2, .int (nI (rnk n P X Y L k + 1))), (0, .ref d), (1, .int (zI a)), (3, .int (nI (zs (fun j => zB (((rnk n P X Y L j : Nat) : Int) = a)) k))), (4, .int (nI k))]) S.1 S.2.1 dX1_lengthOfRun_33 hl (k := 2) rfl (n_add _ _) (by decide) rfl (fun ls hl => ?_)
            refine lv_iinc (pc := 36) (v := nI (k + 1)) (lv' := [(4, .int (nI (k + 1))), (2, .int (nI (rnk n P X Y L k + 1))), (0, .ref d), (1, .int (zI a)), (3, .int (nI (zs (fun j => zB (((rnk n P X Y L j : Nat) : Int) = a)) k)))]) S.1 S.2.1 dX1_lengthOfRun_36 hl (k := 4) rfl (n_add _ _) (by decide) rfl (fun ls hl => ?_)
            refine lv_goto (pc := 39) (tgt := 7) S.1 S.2.1 dX1_lengthOfRun_39 (by decide) ?_
            exact ih2 (k + 1) (by omega) (by omega) ls (by rw [w1, w2]; exact lv_sub hl [2, 3, 1, 4, 0] rfl)
        · have w1 : zs (fun j => zB (((rnk n P X Y L j : Nat) : Int) = a)) (k + 1) = zs (fun j => zB (((rnk n P X Y L j : Nat) : Int) = a)) k + 1 := zs_t (P := fun j => ((rnk n P X Y L j : Nat) : Int) = a) c18
          refine lv_iinc (pc := 21) (v := nI (zs (fun j => zB (((rnk n P X Y L j : Nat) : Int) = a)) k + 1)) (lv' := [(3, .int (nI (zs (fun j => zB (((rnk n P X Y L j : Nat) : Int) = a)) k + 1))), (0, .ref d), (1, .int (zI a)), (2, .int (nI (rnk n P X Y L k))), (4, .int (nI k))]) S.1 S.2.1 dX1_lengthOfRun_21 hl (k := 3) rfl (n_add _ _) (by decide) rfl (fun ls hl => ?_)
          refine lv_aload_n (pc := 24) S.1 S.2.1 dX1_lengthOfRun_24 rfl (lv_at hl 1 rfl) ?_
          refine lv_iload (pc := 25) S.1 S.2.1 dX1_lengthOfRun_25 (lv_at hl 4 rfl) ?_
          refine zz_callV (pc := 27) (As := [.int (nI k)]) (rest := []) S (c_X1_isLinkedToNext l D cI cR d e1 e2 e3 e4 n P X Y L k hok (by omega)) (zuV wd_463 wd_460 wd_461 wd_462 wd_14) 1 rfl q_X1_isLinkedToNext ⟨⟨rfl, rfl⟩, Nat.le_of_ble_eq_true rfl, Nat.le_of_ble_eq_true rfl⟩ hG [0, 1, 2, 3, 4] rfl 0 rfl rfl rfl rfl rfl (Nat.le_of_ble_eq_true rfl) hl.1 ⟨Nat.zero_le _, Nat.zero_le _⟩ dX1_lengthOfRun_27 ?_
          refine zz_ifb_ne (pc := 30) (tgt := 36) S dX1_lengthOfRun_30 (by decide) (fun c30 => ?_) (fun c30 => ?_)
          · have w2 := rnk_t c30
            refine lv_iinc (pc := 36) (v := nI (k + 1)) (lv' := [(4, .int (nI (k + 1))), (3, .int (nI (zs (fun j => zB (((rnk n P X Y L j : Nat) : Int) = a)) k + 1))), (0, .ref d), (1, .int (zI a)), (2, .int (nI (rnk n P X Y L k)))]) S.1 S.2.1 dX1_lengthOfRun_36 hl (k := 4) rfl (n_add _ _) (by decide) rfl (fun ls hl => ?_)
            refine lv_goto (pc := 39) (tgt := 7) S.1 S.2.1 dX1_lengthOfRun_39 (by decide) ?_
            exact ih2 (k + 1) (by omega) (by omega) ls (by rw [w1, w2]; exact lv_sub hl [2, 3, 4, 1, 0] rfl)
          · have w2 := rnk_f c30
            refine lv_iinc (pc := 33) (v := nI (rnk n P X Y L k + 1)) (lv' := [(2, .int (nI (rnk n P X Y L k + 1))), (3, .int (nI (zs (fun j => zB (((rnk n P X Y L j : Nat) : Int) = a)) k + 1))), (0, .ref d), (1, .int (zI a)), (4, .int (nI k))]) S.1 S.2.1 dX1_lengthOfRun_33 hl (k := 3) rfl (n_add _ _) (by decide) rfl (fun ls hl => ?_)
            refine lv_iinc (pc := 36) (v := nI (k + 1)) (lv' := [(4, .int (nI (k + 1))), (2, .int (nI (rnk n P X Y L k + 1))), (3, .int (nI (zs (fun j => zB (((rnk n P X Y L j : Nat) : Int) = a)) k + 1))), (0, .ref d), (1, .int (zI a))]) S.1 S.2.1 dX1_lengthOfRun_36 hl (k := 4) rfl (n_add _ _) (by decide) rfl (fun ls hl => ?_)
            refine lv_goto (pc := 39) (tgt := 7) S.1 S.2.1 dX1_lengthOfRun_39 (by decide) ?_
            exact ih2 (k + 1) (by omega) (by omega) ls (by rw [w1, w2]; exact lv_sub hl [3, 4, 1, 2, 0] rfl)
  exact L1 (n - 0 + 1) 0 (by omega) (Nat.lt_succ_self _) ls (lv_sub hl [3, 4, 2, 1, 0] rfl)
abbrev wm_X1_lowestAlike : List Cond := .code yX1_lowestAlike cX1_lowestAlike 3 (some .int) :: wU
theorem q_X1_lowestAlike : yX1_lowestAlike.cls = RX1 ∧ yX1_lowestAlike.cls ≠ "java/lang/invoke/MethodHandle" ∧ yX1_lowestAlike.cls ≠ "java/lang/invoke/VarHandle" ∧ (parseMethodDescriptor yX1_lowestAlike.desc).map (fun d => d.parameters.length) = some 1 := by decide +kernel
set_option maxHeartbeats 4000000 in
set_option maxRecDepth 100000 in
theorem c_X1_lowestAlike (l : Launch) (D : va_G) (cI cR : ClassId) (d e1 e2 e3 e4 n : Nat) (P X Y L : Nat → Nat) (a : Nat) (hge : zGe n P X Y) (ha : a < n) : Met l yX1_lowestAlike wm_X1_lowestAlike ({ frames := 4, cells := 0, slots := 0, locals := 88 } : Room) (va_Pc [.ref d, .int (nI a)] (zW D cI cR [(d, .inr (1, [.int (nI n), .ref e1, .ref e2, .ref e3, .ref e4])), (e1, zA cI 8 P), (e2, zA cI 16 X), (e3, zA cI 16 Y), (e4, zA cI 8 L)])) (vp_Si (fun r => r = zI (ffn (fun j => ¬ j = a ∧ alk P X Y a j) n 0))) 0 0 (fun _ => False) := by
  refine Met.ofW (cc := cX1_lowestAlike) (maxL := 3) (ret := (some .int)) (by decide) rfl ?_
  intro p e s m args below meth c s₁ B hml hv
  obtain ⟨rfl, hG⟩ := hv
  have S : CallFix p m c cX1_lowestAlike 3 s ([.ref d, .int (nI a)] : List Value).toArray wU RX1 := ⟨B.exec, B.bytes, hml, findClass_of_methodNamed B.named, fun w h => atoms_spec (ws := wm_X1_lowestAlike) B.pre w (List.mem_cons_of_mem _ h)⟩
  have hr := B.returns
  have hlocks := B.notSynchronized
  have hG : zG D cI cR [(d, .inr (1, [.int (nI n), .ref e1, .ref e2, .ref e3, .ref e4])), (e1, zA cI 8 P), (e2, zA cI 16 X), (e3, zA cI 16 Y), (e4, zA cI 8 L)] s s.heap := hG
  have hl := lv_entry ([.ref d, .int (nI a)]) (n := 3) (Nat.le_of_ble_eq_true rfl)
  rw [lg_entry_eq]
  generalize (lg_sl ([.ref d, .int (nI a)]) ++ List.replicate (3 - (lg_sl ([.ref d, .int (nI a)])).length) Slot.unset).toArray = ls at hl ⊢
  have hl : lv_has ls 3 [(0, .ref d), (1, .int (nI a))] := hl
  obtain ⟨hn, hPf, hXY⟩ := id hge
  refine zz_iconst (pc := 0) (v := nI 0) S dX1_lowestAlike_0 rfl ?_
  refine lv_istore_n (pc := 1) (lv' := [(2, .int (nI 0)), (0, .ref d), (1, .int (nI a))]) S.1 S.2.1 dX1_lowestAlike_1 rfl hl (by decide) rfl (fun ls hl => ?_)
  have L1 : ∀ (f : Nat) (k : Nat), (k ≤ n) → (ffn (fun j => ¬ j = a ∧ alk P X Y a j) n 0 = ffn (fun j => ¬ j = a ∧ alk P X Y a j) (n - k) k) → n - k < f → ∀ ls : Array Slot, lv_has ls 3 [(0, .ref d), (1, .int (nI a)), (2, .int (nI k))] → W p l e (headSpec wm_X1_lowestAlike ({ frames := 4, cells := 0, slots := 0, locals := 88 } : Room)).room s m ([.ref d, .int (nI a)] : List Value).toArray below meth c s.heap [] 0 0 (MQ below (vp_Si (fun r => r = zI (ffn (fun j => ¬ j = a ∧ alk P X Y a j) n 0))) ([.ref d, .int (nI a)] : List Value).toArray s 0 0 (fun _ => False)) (F0 m 2 ls []) := by
    intro f
    induction f with
    | zero => intro k hk he hf; exact absurd hf (Nat.not_lt_zero _)
    | succ f ih2 =>
      intro k hk he hf ls hl
      refine lv_iload_n (pc := 2) S.1 S.2.1 dX1_lowestAlike_2 rfl (lv_at hl 2 rfl) ?_
      refine lv_aload_n (pc := 3) S.1 S.2.1 dX1_lowestAlike_3 rfl (lv_at hl 0 rfl) ?_
      refine zz_get (pc := 4) S hG iX1 0 rfl rfl 0 (by decide) wd_93 rfl rfl dX1_lowestAlike_4 ?_
      refine zz_icmp_ge (pc := 7) (tgt := 32) S dX1_lowestAlike_7 (by decide) (n_le (by omega) (by omega)) (fun c7 => ?_) (fun c7 => ?_)
      · refine zz_bipush (pc := 32) (v := zI (-3)) S dX1_lowestAlike_32 rfl ?_
        exact zz_iretS (pc := 34) S hr hlocks (congrArg zI (a₁ := (-3)) (by first | exact (he.trans (ffn_e (by omega))).symm | exact (he.trans (ffn_t (by omega) ⟨by assumption, by assumption⟩)).symm)) dX1_lowestAlike_34
      · refine lv_iload_n (pc := 10) S.1 S.2.1 dX1_lowestAlike_10 rfl (lv_at hl 2 rfl) ?_
        refine lv_iload_n (pc := 11) S.1 S.2.1 dX1_lowestAlike_11 rfl (lv_at hl 1 rfl) ?_
        refine zz_icmp_eq (pc := 12) (tgt := 26) S dX1_lowestAlike_12 (by decide) (n_eq (by omega) (by omega)) (fun c12 => ?_) (fun c12 => ?_)
        · refine lv_iinc (pc := 26) (v := nI (k + 1)) (lv' := [(2, .int (nI (k + 1))), (0, .ref d), (1, .int (nI a))]) S.1 S.2.1 dX1_lowestAlike_26 hl (k := 2) rfl (n_add _ _) (by decide) rfl (fun ls hl => ?_)
          refine lv_goto (pc := 29) (tgt := 2) S.1 S.2.1 dX1_lowestAlike_29 (by decide) ?_
          exact ih2 (k + 1) (by omega) (by exact he.trans (ffn_f (by omega) (by first | omega | (intro q; exact absurd q.2 (by assumption))))) (by omega) ls (lv_sub hl [1, 2, 0] rfl)
        · refine lv_aload_n (pc := 15) S.1 S.2.1 dX1_lowestAlike_15 rfl (lv_at hl 0 rfl) ?_
          refine lv_iload_n (pc := 16) S.1 S.2.1 dX1_lowestAlike_16 rfl (lv_at hl 1 rfl) ?_
          refine lv_iload_n (pc := 17) S.1 S.2.1 dX1_lowestAlike_17 rfl (lv_at hl 2 rfl) ?_
          refine zz_callV (pc := 18) (As := [.int (nI a), .int (nI k)]) (rest := []) S (c_X1_areAlike l D cI cR d e1 e2 e3 e4 n P X Y L a k hge (by omega) (by omega)) (zuV wd_205 wd_202 wd_203 wd_204 wd_14) 2 rfl q_X1_areAlike ⟨⟨rfl, rfl⟩, Nat.le_of_ble_eq_true rfl, Nat.le_of_ble_eq_true rfl⟩ hG [0, 1, 2, 3, 4] rfl 0 rfl rfl rfl rfl rfl (Nat.le_of_ble_eq_true rfl) hl.1 ⟨Nat.zero_le _, Nat.zero_le _⟩ dX1_lowestAlike_18 ?_
          refine zz_ifb_eq (pc := 21) (tgt := 26) S dX1_lowestAlike_21 (by decide) (fun c21 => ?_) (fun c21 => ?_)
          · refine lv_iinc (pc := 26) (v := nI (k + 1)) (lv' := [(2, .int (nI (k + 1))), (0, .ref d), (1, .int (nI a))]) S.1 S.2.1 dX1_lowestAlike_26 hl (k := 2) rfl (n_add _ _) (by decide) rfl (fun ls hl => ?_)
            refine lv_goto (pc := 29) (tgt := 2) S.1 S.2.1 dX1_lowestAlike_29 (by decide) ?_
            exact ih2 (k + 1) (by omega) (by exact he.trans (ffn_f (by omega) (by first | omega | (intro q; exact absurd q.2 (by assumption))))) (by omega) ls (lv_sub hl [1, 2, 0] rfl)
          · refine lv_iload_n (pc := 24) S.1 S.2.1 dX1_lowestAlike_24 rfl (lv_at hl 2 rfl) ?_
            exact zz_iretS (pc := 25) S hr hlocks (congrArg zI (a₁ := ((k : Nat) : Int)) (by first | exact (he.trans (ffn_e (by omega))).symm | exact (he.trans (ffn_t (by omega) ⟨by assumption, by assumption⟩)).symm)) dX1_lowestAlike_25
  exact L1 (n - 0 + 1) 0 (by omega) (by rfl) (Nat.lt_succ_self _) ls (lv_sub hl [1, 2, 0] rfl)
abbrev wm_X1_lowestCover : List Cond := .code yX1_lowestCover cX1_lowestCover 3 (some .int) :: wU
theorem q_X1_lowestCover : yX1_lowestCover.cls = RX1 ∧ yX1_lowestCover.cls ≠ "java/lang/invoke/MethodHandle" ∧ yX1_lowestCover.cls ≠ "java/lang/invoke/VarHandle" ∧ (parseMethodDescriptor yX1_lowestCover.desc).map (fun d => d.parameters.length) = some 1 := by decide +kernel
set_option maxHeartbeats 4000000 in
set_option maxRecDepth 100000 in
theorem c_X1_lowestCover (l : Launch) (D : va_G) (cI cR : ClassId) (d e1 e2 e3 e4 n : Nat) (P X Y L : Nat → Nat) (a : Nat) (hge : zGe n P X Y) (ha : a < n) : Met l yX1_lowestCover wm_X1_lowestCover ({ frames := 5, cells := 0, slots := 0, locals := 110 } : Room) (va_Pc [.ref d, .int (nI a)] (zW D cI cR [(d, .inr (1, [.int (nI n), .ref e1, .ref e2, .ref e3, .ref e4])), (e1, zA cI 8 P), (e2, zA cI 16 X), (e3, zA cI 16 Y), (e4, zA cI 8 L)])) (vp_Si (fun r => r = zI (ffn (fun j => cov P X Y j a) n 0))) 0 0 (fun _ => False) := by
  refine Met.ofW (cc := cX1_lowestCover) (maxL := 3) (ret := (some .int)) (by decide) rfl ?_
  intro p e s m args below meth c s₁ B hml hv
  obtain ⟨rfl, hG⟩ := hv
  have S : CallFix p m c cX1_lowestCover 3 s ([.ref d, .int (nI a)] : List Value).toArray wU RX1 := ⟨B.exec, B.bytes, hml, findClass_of_methodNamed B.named, fun w h => atoms_spec (ws := wm_X1_lowestCover) B.pre w (List.mem_cons_of_mem _ h)⟩
  have hr := B.returns
  have hlocks := B.notSynchronized
  have hG : zG D cI cR [(d, .inr (1, [.int (nI n), .ref e1, .ref e2, .ref e3, .ref e4])), (e1, zA cI 8 P), (e2, zA cI 16 X), (e3, zA cI 16 Y), (e4, zA cI 8 L)] s s.heap := hG
  have hl := lv_entry ([.ref d, .int (nI a)]) (n := 3) (Nat.le_of_ble_eq_true rfl)
  rw [lg_entry_eq]
  generalize (lg_sl ([.ref d, .int (nI a)]) ++ List.replicate (3 - (lg_sl ([.ref d, .int (nI a)])).length) Slot.unset).toArray = ls at hl ⊢
  have hl : lv_has ls 3 [(0, .ref d), (1, .int (nI a))] := hl
  obtain ⟨hn, hPf, hXY⟩ := id hge
  refine zz_iconst (pc := 0) (v := nI 0) S dX1_lowestCover_0 rfl ?_
  refine lv_istore_n (pc := 1) (lv' := [(2, .int (nI 0)), (0, .ref d), (1, .int (nI a))]) S.1 S.2.1 dX1_lowestCover_1 rfl hl (by decide) rfl (fun ls hl => ?_)
  have L1 : ∀ (f : Nat) (k : Nat), (k ≤ n) → (ffn (fun j => cov P X Y j a) n 0 = ffn (fun j => cov P X Y j a) (n - k) k) → n - k < f → ∀ ls : Array Slot, lv_has ls 3 [(0, .ref d), (1, .int (nI a)), (2, .int (nI k))] → W p l e (headSpec wm_X1_lowestCover ({ frames := 5, cells := 0, slots := 0, locals := 110 } : Room)).room s m ([.ref d, .int (nI a)] : List Value).toArray below meth c s.heap [] 0 0 (MQ below (vp_Si (fun r => r = zI (ffn (fun j => cov P X Y j a) n 0))) ([.ref d, .int (nI a)] : List Value).toArray s 0 0 (fun _ => False)) (F0 m 2 ls []) := by
    intro f
    induction f with
    | zero => intro k hk he hf; exact absurd hf (Nat.not_lt_zero _)
    | succ f ih2 =>
      intro k hk he hf ls hl
      refine lv_iload_n (pc := 2) S.1 S.2.1 dX1_lowestCover_2 rfl (lv_at hl 2 rfl) ?_
      refine lv_aload_n (pc := 3) S.1 S.2.1 dX1_lowestCover_3 rfl (lv_at hl 0 rfl) ?_
      refine zz_get (pc := 4) S hG iX1 0 rfl rfl 0 (by decide) wd_93 rfl rfl dX1_lowestCover_4 ?_
      refine zz_icmp_ge (pc := 7) (tgt := 27) S dX1_lowestCover_7 (by decide) (n_le (by omega) (by omega)) (fun c7 => ?_) (fun c7 => ?_)
      · refine zz_bipush (pc := 27) (v := zI (-3)) S dX1_lowestCover_27 rfl ?_
        exact zz_iretS (pc := 29) S hr hlocks (congrArg zI (a₁ := (-3)) (by first | exact (he.trans (ffn_e (by omega))).symm | exact (he.trans (ffn_t (by omega) (by assumption))).symm)) dX1_lowestCover_29
      · refine lv_aload_n (pc := 10) S.1 S.2.1 dX1_lowestCover_10 rfl (lv_at hl 0 rfl) ?_
        refine lv_iload_n (pc := 11) S.1 S.2.1 dX1_lowestCover_11 rfl (lv_at hl 2 rfl) ?_
        refine lv_iload_n (pc := 12) S.1 S.2.1 dX1_lowestCover_12 rfl (lv_at hl 1 rfl) ?_
        refine zz_callV (pc := 13) (As := [.int (nI k), .int (nI a)]) (rest := []) S (c_X1_covers l D cI cR d e1 e2 e3 e4 n P X Y L k a hge (by omega) (by omega)) (zuV wd_242 wd_239 wd_240 wd_241 wd_14) 2 rfl q_X1_covers ⟨⟨rfl, rfl⟩, Nat.le_of_ble_eq_true rfl, Nat.le_of_ble_eq_true rfl⟩ hG [0, 1, 2, 3, 4] rfl 0 rfl rfl rfl rfl rfl (Nat.le_of_ble_eq_true rfl) hl.1 ⟨Nat.zero_le _, Nat.zero_le _⟩ dX1_lowestCover_13 ?_
        refine zz_ifb_eq (pc := 16) (tgt := 21) S dX1_lowestCover_16 (by decide) (fun c16 => ?_) (fun c16 => ?_)
        · refine lv_iinc (pc := 21) (v := nI (k + 1)) (lv' := [(2, .int (nI (k + 1))), (0, .ref d), (1, .int (nI a))]) S.1 S.2.1 dX1_lowestCover_21 hl (k := 2) rfl (n_add _ _) (by decide) rfl (fun ls hl => ?_)
          refine lv_goto (pc := 24) (tgt := 2) S.1 S.2.1 dX1_lowestCover_24 (by decide) ?_
          exact ih2 (k + 1) (by omega) (by exact he.trans (ffn_f (by omega) (by assumption))) (by omega) ls (lv_sub hl [1, 2, 0] rfl)
        · refine lv_iload_n (pc := 19) S.1 S.2.1 dX1_lowestCover_19 rfl (lv_at hl 2 rfl) ?_
          exact zz_iretS (pc := 20) S hr hlocks (congrArg zI (a₁ := ((k : Nat) : Int)) (by first | exact (he.trans (ffn_e (by omega))).symm | exact (he.trans (ffn_t (by omega) (by assumption))).symm)) dX1_lowestCover_20
  exact L1 (n - 0 + 1) 0 (by omega) (by rfl) (Nat.lt_succ_self _) ls (lv_sub hl [1, 2, 0] rfl)
abbrev wm_X1_nearestCode : List Cond := .code yX1_nearestCode cX1_nearestCode 8 (some .int) :: wU
theorem q_X1_nearestCode : yX1_nearestCode.cls = RX1 ∧ yX1_nearestCode.cls ≠ "java/lang/invoke/MethodHandle" ∧ yX1_nearestCode.cls ≠ "java/lang/invoke/VarHandle" ∧ (parseMethodDescriptor yX1_nearestCode.desc).map (fun d => d.parameters.length) = some 3 := by decide +kernel
set_option maxHeartbeats 4000000 in
set_option maxRecDepth 100000 in
theorem c_X1_nearestCode (l : Launch) (D : va_G) (cI cR : ClassId) (d e1 e2 e3 e4 n : Nat) (P X Y L : Nat → Nat) (a : Nat) (b : Int) (C : Nat) (hge : zGe n P X Y) (ha : a < 256) (hb : -1 ≤ b ∧ b < 2 * (n : Int)) (hC : C ≤ 500) : Met l yX1_nearestCode wm_X1_nearestCode ({ frames := 4, cells := 0, slots := 0, locals := 88 } : Room) (va_Pc [.ref d, .int (nI a), .int (zI b), .int (nI C)] (zW D cI cR [(d, .inr (1, [.int (nI n), .ref e1, .ref e2, .ref e3, .ref e4])), (e1, zA cI 8 P), (e2, zA cI 16 X), (e3, zA cI 16 Y), (e4, zA cI 8 L)])) (vp_Si (fun r => r = zI (amf (fun j => inS a j) (fun j => stp P X Y C b j) (2 * n)))) 0 0 (fun _ => False) := by
  refine Met.ofW (cc := cX1_nearestCode) (maxL := 8) (ret := (some .int)) (by decide) rfl ?_
  intro p e s m args below meth c s₁ B hml hv
  obtain ⟨rfl, hG⟩ := hv
  have S : CallFix p m c cX1_nearestCode 8 s ([.ref d, .int (nI a), .int (zI b), .int (nI C)] : List Value).toArray wU RX1 := ⟨B.exec, B.bytes, hml, findClass_of_methodNamed B.named, fun w h => atoms_spec (ws := wm_X1_nearestCode) B.pre w (List.mem_cons_of_mem _ h)⟩
  have hr := B.returns
  have hlocks := B.notSynchronized
  have hG : zG D cI cR [(d, .inr (1, [.int (nI n), .ref e1, .ref e2, .ref e3, .ref e4])), (e1, zA cI 8 P), (e2, zA cI 16 X), (e3, zA cI 16 Y), (e4, zA cI 8 L)] s s.heap := hG
  have hl := lv_entry ([.ref d, .int (nI a), .int (zI b), .int (nI C)]) (n := 8) (Nat.le_of_ble_eq_true rfl)
  rw [lg_entry_eq]
  generalize (lg_sl ([.ref d, .int (nI a), .int (zI b), .int (nI C)]) ++ List.replicate (8 - (lg_sl ([.ref d, .int (nI a), .int (zI b), .int (nI C)])).length) Slot.unset).toArray = ls at hl ⊢
  have hl : lv_has ls 8 [(0, .ref d), (1, .int (nI a)), (2, .int (zI b)), (3, .int (nI C))] := hl
  obtain ⟨hn, hPf, hXY⟩ := id hge
  refine zz_iconst (pc := 0) (v := zI (-1)) S dX1_nearestCode_0 rfl ?_
  refine lv_istore (pc := 1) (lv' := [(4, .int (zI (-1))), (0, .ref d), (1, .int (nI a)), (2, .int (zI b)), (3, .int (nI C))]) S.1 S.2.1 dX1_nearestCode_1 hl (by decide) rfl (fun ls hl => ?_)
  refine zz_iconst (pc := 3) (v := nI 0) S dX1_nearestCode_3 rfl ?_
  refine lv_istore (pc := 4) (lv' := [(5, .int (nI 0)), (4, .int (zI (-1))), (0, .ref d), (1, .int (nI a)), (2, .int (zI b)), (3, .int (nI C))]) S.1 S.2.1 dX1_nearestCode_4 hl (by decide) rfl (fun ls hl => ?_)
  refine zz_iconst (pc := 6) (v := nI 0) S dX1_nearestCode_6 rfl ?_
  refine lv_istore (pc := 7) (lv' := [(6, .int (nI 0)), (5, .int (nI 0)), (4, .int (zI (-1))), (0, .ref d), (1, .int (nI a)), (2, .int (zI b)), (3, .int (nI C))]) S.1 S.2.1 dX1_nearestCode_7 hl (by decide) rfl (fun ls hl => ?_)
  have L1 : ∀ (f : Nat) (k : Nat), (k ≤ 2 * n) → 2 * n - k < f → ∀ ls : Array Slot, lv_has ls 8 [(0, .ref d), (1, .int (nI a)), (2, .int (zI b)), (3, .int (nI C)), (4, .int (zI (amf (fun j => inS a j) (fun j => stp P X Y C b j) k))), (5, .int (nI (amv (fun j => inS a j) (fun j => stp P X Y C b j) k))), (6, .int (nI k))] → W p l e (headSpec wm_X1_nearestCode ({ frames := 4, cells := 0, slots := 0, locals := 88 } : Room)).room s m ([.ref d, .int (nI a), .int (zI b), .int (nI C)] : List Value).toArray below meth c s.heap [] 0 0 (MQ below (vp_Si (fun r => r = zI (amf (fun j => inS a j) (fun j => stp P X Y C b j) (2 * n)))) ([.ref d, .int (nI a), .int (zI b), .int (nI C)] : List Value).toArray s 0 0 (fun _ => False)) (F0 m 9 ls []) := by
    intro f
    induction f with
    | zero => intro k hk hf; exact absurd hf (Nat.not_lt_zero _)
    | succ f ih2 =>
      intro k hk hf ls hl
      have hp := amf_rng (fun j => inS a j) (fun j => stp P X Y C b j) k
      have hv := amv_le (Q := (fun j => inS a j)) (g := (fun j => stp P X Y C b j)) (k := k) (m := 599) (fun j hj => by have q := stp_le (P := P) (X := X) (Y := Y) (C := C) (a := b) (b := j) hXY (by omega) (by omega); omega)
      refine lv_iload (pc := 9) S.1 S.2.1 dX1_nearestCode_9 (lv_at hl 6 rfl) ?_
      refine zz_iconst (pc := 11) (v := nI 2) S dX1_nearestCode_11 rfl ?_
      refine lv_aload_n (pc := 12) S.1 S.2.1 dX1_nearestCode_12 rfl (lv_at hl 0 rfl) ?_
      refine zz_get (pc := 13) S hG iX1 0 rfl rfl 0 (by decide) wd_93 rfl rfl dX1_nearestCode_13 ?_
      refine zz_imul (pc := 16) (v := nI (2 * n)) S dX1_nearestCode_16 (n_mul _ _) ?_
      refine zz_icmp_ge (pc := 17) (tgt := 69) S dX1_nearestCode_17 (by decide) (n_le (by omega) (by omega)) (fun c17 => ?_) (fun c17 => ?_)
      · refine lv_iload (pc := 69) S.1 S.2.1 dX1_nearestCode_69 (lv_at hl 4 rfl) ?_
        exact zz_iretS (pc := 71) S hr hlocks (congrArg zI (a₁ := amf (fun j => inS a j) (fun j => stp P X Y C b j) k) (by rw [show k = 2 * n by omega])) dX1_nearestCode_71
      · refine lv_iload_n (pc := 20) S.1 S.2.1 dX1_nearestCode_20 rfl (lv_at hl 1 rfl) ?_
        refine lv_iload (pc := 21) S.1 S.2.1 dX1_nearestCode_21 (lv_at hl 6 rfl) ?_
        refine zz_iconst (pc := 23) (v := nI 2) S dX1_nearestCode_23 rfl ?_
        refine zz_idiv (pc := 24) (v := nI (k / 2)) S dX1_nearestCode_24 (by decide) (n_div (by omega) (by decide) (by decide)) ?_
        refine zz_ishr (pc := 25) (v := nI (a / 2 ^ (k / 2))) S dX1_nearestCode_25 (n_shr (by omega) (by omega)) ?_
        refine zz_iconst (pc := 26) (v := nI 1) S dX1_nearestCode_26 rfl ?_
        refine zz_iand (pc := 27) (v := nI ((a / 2 ^ (k / 2)) % 2)) S dX1_nearestCode_27 (n_and1 _) ?_
        refine zz_iconst (pc := 28) (v := nI 1) S dX1_nearestCode_28 rfl ?_
        refine zz_icmp_ne (pc := 29) (tgt := 63) S dX1_nearestCode_29 (by decide) (n_eq (by omega) (by omega)) (fun c29 => ?_) (fun c29 => ?_)
        · have w := amf_skip (Q := (fun j => inS a j)) (g := (fun j => stp P X Y C b j)) (k := k) c29
          refine lv_iinc (pc := 63) (v := nI (k + 1)) (lv' := [(6, .int (nI (k + 1))), (0, .ref d), (1, .int (nI a)), (2, .int (zI b)), (3, .int (nI C)), (4, .int (zI (amf (fun j => inS a j) (fun j => stp P X Y C b j) k))), (5, .int (nI (amv (fun j => inS a j) (fun j => stp P X Y C b j) k)))]) S.1 S.2.1 dX1_nearestCode_63 hl (k := 6) rfl (n_add _ _) (by decide) rfl (fun ls hl => ?_)
          refine lv_goto (pc := 66) (tgt := 9) S.1 S.2.1 dX1_nearestCode_66 (by decide) ?_
          exact ih2 (k + 1) (by omega) (by omega) ls (by rw [w.1, w.2]; first | exact lv_sub hl [0, 1, 2, 3, 4, 5, 6] rfl | skip; exact lv_sub hl [1, 2, 3, 4, 5, 6, 0] rfl)
        · refine lv_aload_n (pc := 32) S.1 S.2.1 dX1_nearestCode_32 rfl (lv_at hl 0 rfl) ?_
          refine lv_iload_n (pc := 33) S.1 S.2.1 dX1_nearestCode_33 rfl (lv_at hl 2 rfl) ?_
          refine lv_iload (pc := 34) S.1 S.2.1 dX1_nearestCode_34 (lv_at hl 6 rfl) ?_
          refine lv_iload_n (pc := 36) S.1 S.2.1 dX1_nearestCode_36 rfl (lv_at hl 3 rfl) ?_
          refine zz_callV (pc := 37) (As := [.int (zI b), .int (nI k), .int (nI C)]) (rest := []) S (c_X1_stepCost l D cI cR d e1 e2 e3 e4 n P X Y L b k C hge (by omega) (by omega) (by omega)) (zuV wd_408 wd_405 wd_406 wd_407 wd_14) 3 rfl q_X1_stepCost ⟨⟨rfl, rfl⟩, Nat.le_of_ble_eq_true rfl, Nat.le_of_ble_eq_true rfl⟩ hG [0, 1, 2, 3, 4] rfl 0 rfl rfl rfl rfl rfl (Nat.le_of_ble_eq_true rfl) hl.1 ⟨Nat.zero_le _, Nat.zero_le _⟩ dX1_nearestCode_37 ?_
          have g3 := stp_le (P := P) (X := X) (Y := Y) (C := C) (a := b) (b := k) (n := n) hXY (by omega) (by omega)
          refine lv_istore (pc := 40) (lv' := [(7, .int (nI (stp P X Y C b k))), (0, .ref d), (1, .int (nI a)), (2, .int (zI b)), (3, .int (nI C)), (4, .int (zI (amf (fun j => inS a j) (fun j => stp P X Y C b j) k))), (5, .int (nI (amv (fun j => inS a j) (fun j => stp P X Y C b j) k))), (6, .int (nI k))]) S.1 S.2.1 dX1_nearestCode_40 hl (by decide) rfl (fun ls hl => ?_)
          refine lv_iload (pc := 42) S.1 S.2.1 dX1_nearestCode_42 (lv_at hl 5 rfl) ?_
          refine zz_iconst (pc := 44) (v := zI (-1)) S dX1_nearestCode_44 rfl ?_
          refine zz_icmp_eq (pc := 45) (tgt := 55) S dX1_nearestCode_45 (by decide) (zI_eq (a := amf (fun j => inS a j) (fun j => stp P X Y C b j) k) (b := (-1)) (by unfold zR; omega) (by unfold zR; omega)) (fun c45 => ?_) (fun c45 => ?_)
          · have w := amf_take (Q := (fun j => inS a j)) (g := (fun j => stp P X Y C b j)) (k := k) c29 (Or.inl c45)
            refine lv_iload (pc := 55) S.1 S.2.1 dX1_nearestCode_55 (lv_at hl 7 rfl) ?_
            refine lv_istore (pc := 57) (lv' := [(4, .int (nI k)), (7, .int (nI (stp P X Y C b k))), (0, .ref d), (1, .int (nI a)), (2, .int (zI b)), (3, .int (nI C)), (5, .int (nI (amv (fun j => inS a j) (fun j => stp P X Y C b j) k))), (6, .int (nI k))]) S.1 S.2.1 dX1_nearestCode_57 hl (by decide) rfl (fun ls hl => ?_)
            refine lv_iload (pc := 59) S.1 S.2.1 dX1_nearestCode_59 (lv_at hl 1 rfl) ?_
            refine lv_istore (pc := 61) (lv' := [(5, .int (nI (stp P X Y C b k))), (4, .int (nI k)), (7, .int (nI (stp P X Y C b k))), (0, .ref d), (1, .int (nI a)), (2, .int (zI b)), (3, .int (nI C)), (6, .int (nI k))]) S.1 S.2.1 dX1_nearestCode_61 hl (by decide) rfl (fun ls hl => ?_)
            refine lv_iinc (pc := 63) (v := nI (k + 1)) (lv' := [(6, .int (nI (k + 1))), (5, .int (nI (stp P X Y C b k))), (4, .int (nI k)), (7, .int (nI (stp P X Y C b k))), (0, .ref d), (1, .int (nI a)), (2, .int (zI b)), (3, .int (nI C))]) S.1 S.2.1 dX1_nearestCode_63 hl (k := 7) rfl (n_add _ _) (by decide) rfl (fun ls hl => ?_)
            refine lv_goto (pc := 66) (tgt := 9) S.1 S.2.1 dX1_nearestCode_66 (by decide) ?_
            exact ih2 (k + 1) (by omega) (by omega) ls (by rw [w.1, w.2]; first | exact lv_sub hl [0, 1, 2, 3, 4, 5, 6] rfl | skip; exact lv_sub hl [4, 5, 6, 7, 2, 1, 0] rfl)
          · refine lv_iload (pc := 48) S.1 S.2.1 dX1_nearestCode_48 (lv_at hl 0 rfl) ?_
            refine lv_iload (pc := 50) S.1 S.2.1 dX1_nearestCode_50 (lv_at hl 6 rfl) ?_
            refine zz_icmp_ge (pc := 52) (tgt := 63) S dX1_nearestCode_52 (by decide) (n_le (by omega) (by omega)) (fun c52 => ?_) (fun c52 => ?_)
            · have w := amf_keep (Q := (fun j => inS a j)) (g := (fun j => stp P X Y C b j)) (k := k) c45 (by omega)
              refine lv_iinc (pc := 63) (v := nI (k + 1)) (lv' := [(6, .int (nI (k + 1))), (7, .int (nI (stp P X Y C b k))), (0, .ref d), (1, .int (nI a)), (2, .int (zI b)), (3, .int (nI C)), (4, .int (zI (amf (fun j => inS a j) (fun j => stp P X Y C b j) k))), (5, .int (nI (amv (fun j => inS a j) (fun j => stp P X Y C b j) k)))]) S.1 S.2.1 dX1_nearestCode_63 hl (k := 7) rfl (n_add _ _) (by decide) rfl (fun ls hl => ?_)
              refine lv_goto (pc := 66) (tgt := 9) S.1 S.2.1 dX1_nearestCode_66 (by decide) ?_
              exact ih2 (k + 1) (by omega) (by omega) ls (by rw [w.1, w.2]; first | exact lv_sub hl [0, 1, 2, 3, 4, 5, 6] rfl | skip; exact lv_sub hl [2, 3, 4, 5, 6, 7, 0] rfl)
            · have w := amf_take (Q := (fun j => inS a j)) (g := (fun j => stp P X Y C b j)) (k := k) c29 (Or.inr (by omega))
              refine lv_iload (pc := 55) S.1 S.2.1 dX1_nearestCode_55 (lv_at hl 7 rfl) ?_
              refine lv_istore (pc := 57) (lv' := [(4, .int (nI k)), (7, .int (nI (stp P X Y C b k))), (0, .ref d), (1, .int (nI a)), (2, .int (zI b)), (3, .int (nI C)), (5, .int (nI (amv (fun j => inS a j) (fun j => stp P X Y C b j) k))), (6, .int (nI k))]) S.1 S.2.1 dX1_nearestCode_57 hl (by decide) rfl (fun ls hl => ?_)
              refine lv_iload (pc := 59) S.1 S.2.1 dX1_nearestCode_59 (lv_at hl 1 rfl) ?_
              refine lv_istore (pc := 61) (lv' := [(5, .int (nI (stp P X Y C b k))), (4, .int (nI k)), (7, .int (nI (stp P X Y C b k))), (0, .ref d), (1, .int (nI a)), (2, .int (zI b)), (3, .int (nI C)), (6, .int (nI k))]) S.1 S.2.1 dX1_nearestCode_61 hl (by decide) rfl (fun ls hl => ?_)
              refine lv_iinc (pc := 63) (v := nI (k + 1)) (lv' := [(6, .int (nI (k + 1))), (5, .int (nI (stp P X Y C b k))), (4, .int (nI k)), (7, .int (nI (stp P X Y C b k))), (0, .ref d), (1, .int (nI a)), (2, .int (zI b)), (3, .int (nI C))]) S.1 S.2.1 dX1_nearestCode_63 hl (k := 7) rfl (n_add _ _) (by decide) rfl (fun ls hl => ?_)
              refine lv_goto (pc := 66) (tgt := 9) S.1 S.2.1 dX1_nearestCode_66 (by decide) ?_
              exact ih2 (k + 1) (by omega) (by omega) ls (by rw [w.1, w.2]; first | exact lv_sub hl [0, 1, 2, 3, 4, 5, 6] rfl | skip; exact lv_sub hl [4, 5, 6, 7, 2, 1, 0] rfl)
  exact L1 (2 * n - 0 + 1) 0 (by omega) (Nat.lt_succ_self _) ls (lv_sub hl [3, 4, 5, 6, 2, 1, 0] rfl)
