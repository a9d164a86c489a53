abbrev wm_X0_contains : List Cond := .code yX0_contains cX0_contains 2 (some .boolean) :: wU
theorem q_X0_contains : yX0_contains.cls = RX0 ∧ yX0_contains.cls ≠ "java/lang/invoke/MethodHandle" ∧ yX0_contains.cls ≠ "java/lang/invoke/VarHandle" ∧ (parseMethodDescriptor yX0_contains.desc).map (fun d => d.parameters.length) = some 2 := by decide +kernel
set_option maxHeartbeats 4000000 in
set_option maxRecDepth 100000 in
theorem c_X0_contains (l : Launch) (D : va_G) (cI cR : ClassId) (a : Nat) (b : Nat) (ha : a < 256) (hb : b < 16) : Met l yX0_contains wm_X0_contains ({ frames := 0, cells := 0, slots := 0, locals := 0 } : Room) (va_Pc [.int (nI a), .int (nI b)] (fun _ => True)) (vp_Si (fun r => r = nI (zB (inS a b)))) 0 0 (fun _ => False) := by
  refine Met.ofW (cc := cX0_contains) (maxL := 2) (ret := (some .boolean)) (by decide) rfl ?_
  intro p e s m args below meth c s₁ B hml hv
  obtain ⟨rfl, hG⟩ := hv
  have S : CallFix p m c cX0_contains 2 s ([.int (nI a), .int (nI b)] : List Value).toArray wU RX0 := ⟨B.exec, B.bytes, hml, findClass_of_methodNamed B.named, fun w h => atoms_spec (ws := wm_X0_contains) B.pre w (List.mem_cons_of_mem _ h)⟩
  have hr := B.returns
  have hlocks := B.notSynchronized
  have hl := lv_entry ([.int (nI a), .int (nI b)]) (n := 2) (Nat.le_of_ble_eq_true rfl)
  rw [lg_entry_eq]
  generalize (lg_sl ([.int (nI a), .int (nI b)]) ++ List.replicate (2 - (lg_sl ([.int (nI a), .int (nI b)])).length) Slot.unset).toArray = ls at hl ⊢
  have hl : lv_has ls 2 [(0, .int (nI a)), (1, .int (nI b))] := hl
  refine lv_iload_n (pc := 0) S.1 S.2.1 dX0_contains_0 rfl (lv_at hl 0 rfl) ?_
  refine lv_iload_n (pc := 1) S.1 S.2.1 dX0_contains_1 rfl (lv_at hl 1 rfl) ?_
  refine zz_iconst (pc := 2) (v := nI 2) S dX0_contains_2 rfl ?_
  refine zz_idiv (pc := 3) (v := nI (b / 2)) S dX0_contains_3 (by decide) (n_div (by omega) (by decide) (by decide)) ?_
  refine zz_ishr (pc := 4) (v := nI (a / 2 ^ (b / 2))) S dX0_contains_4 (n_shr (by omega) (by omega)) ?_
  refine zz_iconst (pc := 5) (v := nI 1) S dX0_contains_5 rfl ?_
  refine zz_iand (pc := 6) (v := nI ((a / 2 ^ (b / 2)) % 2)) S dX0_contains_6 (n_and1 _) ?_
  refine zz_iconst (pc := 7) (v := nI 1) S dX0_contains_7 rfl ?_
  refine zz_icmp_ne (pc := 8) (tgt := 15) S dX0_contains_8 (by decide) (n_eq (by omega) (by omega)) (fun c8 => ?_) (fun c8 => ?_)
  · refine zz_iconst (pc := 15) (v := nI 0) S dX0_contains_15 rfl ?_
    exact zz_bretS (pc := 16) S hr hlocks (by decide) (congrArg nI (zB_f (by first | omega | rfl)).symm) dX0_contains_16
  · refine zz_iconst (pc := 11) (v := nI 1) S dX0_contains_11 rfl ?_
    refine lv_goto (pc := 12) (tgt := 16) S.1 S.2.1 dX0_contains_12 (by decide) ?_
    exact zz_bretS (pc := 16) S hr hlocks (by decide) (congrArg nI (zB_t (by first | omega | rfl)).symm) dX0_contains_16
abbrev wm_X0_without : List Cond := .code yX0_without cX0_without 2 (some .int) :: wU
theorem q_X0_without : yX0_without.cls = RX0 ∧ yX0_without.cls ≠ "java/lang/invoke/MethodHandle" ∧ yX0_without.cls ≠ "java/lang/invoke/VarHandle" ∧ (parseMethodDescriptor yX0_without.desc).map (fun d => d.parameters.length) = some 2 := by decide +kernel
set_option maxHeartbeats 4000000 in
set_option maxRecDepth 100000 in
theorem c_X0_without (l : Launch) (D : va_G) (cI cR : ClassId) (a : Nat) (b : Nat) (ha : a < 256) (hb : b < 16) : Met l yX0_without wm_X0_without ({ frames := 0, cells := 0, slots := 0, locals := 0 } : Room) (va_Pc [.int (nI a), .int (nI b)] (fun _ => True)) (vp_Si (fun r => r = nI (clb a (b / 2)))) 0 0 (fun _ => False) := by
  refine Met.ofW (cc := cX0_without) (maxL := 2) (ret := (some .int)) (by decide) rfl ?_
  intro p e s m args below meth c s₁ B hml hv
  obtain ⟨rfl, hG⟩ := hv
  have S : CallFix p m c cX0_without 2 s ([.int (nI a), .int (nI b)] : List Value).toArray wU RX0 := ⟨B.exec, B.bytes, hml, findClass_of_methodNamed B.named, fun w h => atoms_spec (ws := wm_X0_without) B.pre w (List.mem_cons_of_mem _ h)⟩
  have hr := B.returns
  have hlocks := B.notSynchronized
  have hl := lv_entry ([.int (nI a), .int (nI b)]) (n := 2) (Nat.le_of_ble_eq_true rfl)
  rw [lg_entry_eq]
  generalize (lg_sl ([.int (nI a), .int (nI b)]) ++ List.replicate (2 - (lg_sl ([.int (nI a), .int (nI b)])).length) Slot.unset).toArray = ls at hl ⊢
  have hl : lv_has ls 2 [(0, .int (nI a)), (1, .int (nI b))] := hl
  refine lv_iload_n (pc := 0) S.1 S.2.1 dX0_without_0 rfl (lv_at hl 0 rfl) ?_
  refine zz_iconst (pc := 1) (v := nI 1) S dX0_without_1 rfl ?_
  refine lv_iload_n (pc := 2) S.1 S.2.1 dX0_without_2 rfl (lv_at hl 1 rfl) ?_
  refine zz_iconst (pc := 3) (v := nI 2) S dX0_without_3 rfl ?_
  refine zz_idiv (pc := 4) (v := nI (b / 2)) S dX0_without_4 (by decide) (n_div (by omega) (by decide) (by decide)) ?_
  refine zz_ishl (pc := 5) (v := nI (2 ^ (b / 2))) S dX0_without_5 (n_shl1 (by omega)) ?_
  refine zz_iconst (pc := 6) (v := zI (-1)) S dX0_without_6 rfl ?_
  refine zz_ixor (pc := 7) (v := (nI (2 ^ (b / 2)) ^^^ zI (-1))) S dX0_without_7 (rfl) ?_
  refine zz_iand (pc := 8) (v := nI (clb a (b / 2))) S dX0_without_8 (n_clb (by omega) (by omega)) ?_
  exact zz_iretS (pc := 9) S hr hlocks (rfl) dX0_without_9
abbrev wm_X0_total : List Cond := .code yX0_total cX0_total 1 (some .int) :: wU
theorem q_X0_total : yX0_total.cls = RX0 ∧ yX0_total.cls ≠ "java/lang/invoke/MethodHandle" ∧ yX0_total.cls ≠ "java/lang/invoke/VarHandle" ∧ (parseMethodDescriptor yX0_total.desc).map (fun d => d.parameters.length) = some 0 := by decide +kernel
set_option maxHeartbeats 4000000 in
set_option maxRecDepth 100000 in
theorem c_X0_total (l : Launch) (D : va_G) (cI cR : ClassId) (b b1 b2 b3 cc tt kk : Nat) (sg rs cd : Nat → Nat)  : Met l yX0_total wm_X0_total ({ frames := 0, cells := 0, slots := 0, locals := 0 } : Room) (va_Pc [.ref b] (zW D cI cR [(b, .inr (0, [.ref b1, .ref b2, .ref b3, .int (nI cc), .int (nI tt), .int (nI kk)])), (b1, zA cI 272 sg), (b2, zA cI 4096 rs), (b3, zA cI 8 cd)])) (vp_Si (fun r => r = nI tt)) 0 0 (fun _ => False) := by
  refine Met.ofW (cc := cX0_total) (maxL := 1) (ret := (some .int)) (by decide) rfl ?_
  intro p e s m args below meth c s₁ B hml hv
  obtain ⟨rfl, hG⟩ := hv
  have S : CallFix p m c cX0_total 1 s ([.ref b] : List Value).toArray wU RX0 := ⟨B.exec, B.bytes, hml, findClass_of_methodNamed B.named, fun w h => atoms_spec (ws := wm_X0_total) B.pre w (List.mem_cons_of_mem _ h)⟩
  have hr := B.returns
  have hlocks := B.notSynchronized
  have hG : zG D cI cR [(b, .inr (0, [.ref b1, .ref b2, .ref b3, .int (nI cc), .int (nI tt), .int (nI kk)])), (b1, zA cI 272 sg), (b2, zA cI 4096 rs), (b3, zA cI 8 cd)] s s.heap := hG
  have hl := lv_entry ([.ref b]) (n := 1) (Nat.le_of_ble_eq_true rfl)
  rw [lg_entry_eq]
  generalize (lg_sl ([.ref b]) ++ List.replicate (1 - (lg_sl ([.ref b])).length) Slot.unset).toArray = ls at hl ⊢
  have hl : lv_has ls 1 [(0, .ref b)] := hl
  refine lv_aload_n (pc := 0) S.1 S.2.1 dX0_total_0 rfl (lv_at hl 0 rfl) ?_
  refine zz_get (pc := 1) S hG iX0 0 rfl rfl 4 (by decide) wd_538 rfl rfl dX0_total_1 ?_
  exact zz_iretS (pc := 4) S hr hlocks (rfl) dX0_total_4
abbrev wm_X0_codeAt : List Cond := .code yX0_codeAt cX0_codeAt 2 (some .int) :: wU
theorem q_X0_codeAt : yX0_codeAt.cls = RX0 ∧ yX0_codeAt.cls ≠ "java/lang/invoke/MethodHandle" ∧ yX0_codeAt.cls ≠ "java/lang/invoke/VarHandle" ∧ (parseMethodDescriptor yX0_codeAt.desc).map (fun d => d.parameters.length) = some 1 := by decide +kernel
set_option maxHeartbeats 4000000 in
set_option maxRecDepth 100000 in
theorem c_X0_codeAt (l : Launch) (D : va_G) (cI cR : ClassId) (b b1 b2 b3 cc tt kk : Nat) (sg rs cd : Nat → Nat) (a : Nat) (ha : a < 8) : Met l yX0_codeAt wm_X0_codeAt ({ frames := 1, cells := 0, slots := 0, locals := 22 } : Room) (va_Pc [.ref b, .int (nI a)] (zW D cI cR [(b, .inr (0, [.ref b1, .ref b2, .ref b3, .int (nI cc), .int (nI tt), .int (nI kk)])), (b1, zA cI 272 sg), (b2, zA cI 4096 rs), (b3, zA cI 8 cd)])) (vp_Si (fun r => r = nI (cd a))) 0 0 (fun _ => False) := by
  refine Met.ofW (cc := cX0_codeAt) (maxL := 2) (ret := (some .int)) (by decide) rfl ?_
  intro p e s m args below meth c s₁ B hml hv
  obtain ⟨rfl, hG⟩ := hv
  have S : CallFix p m c cX0_codeAt 2 s ([.ref b, .int (nI a)] : List Value).toArray wU RX0 := ⟨B.exec, B.bytes, hml, findClass_of_methodNamed B.named, fun w h => atoms_spec (ws := wm_X0_codeAt) B.pre w (List.mem_cons_of_mem _ h)⟩
  have hr := B.returns
  have hlocks := B.notSynchronized
  have hG : zG D cI cR [(b, .inr (0, [.ref b1, .ref b2, .ref b3, .int (nI cc), .int (nI tt), .int (nI kk)])), (b1, zA cI 272 sg), (b2, zA cI 4096 rs), (b3, zA cI 8 cd)] s s.heap := hG
  have hl := lv_entry ([.ref b, .int (nI a)]) (n := 2) (Nat.le_of_ble_eq_true rfl)
  rw [lg_entry_eq]
  generalize (lg_sl ([.ref b, .int (nI a)]) ++ List.replicate (2 - (lg_sl ([.ref b, .int (nI a)])).length) Slot.unset).toArray = ls at hl ⊢
  have hl : lv_has ls 2 [(0, .ref b), (1, .int (nI a))] := hl
  refine lv_iload_n (pc := 0) S.1 S.2.1 dX0_codeAt_0 rfl (lv_at hl 1 rfl) ?_
  refine zz_iconst (pc := 1) (v := nI 0) S dX0_codeAt_1 rfl ?_
  refine zz_bipush (pc := 2) (v := nI 7) S dX0_codeAt_2 rfl ?_
  refine zz_callSN (pc := 4) (As := [.int (zI ((a : Nat) : Int)), .int (zI 0), .int (zI 7)]) (rest := []) S (c_X5_isWithin l D cI cR ((a : Nat) : Int) 0 7 (by unfold zR; omega) (by unfold zR; omega) (by unfold zR; omega)) (zu0 wd_85) 3 rfl q_X5_isWithin.2 ⟨⟨rfl, rfl⟩, Nat.le_of_ble_eq_true rfl, Nat.le_of_ble_eq_true rfl⟩ (hG.2.2.1) wd_2 wd_84 rfl rfl (Nat.le_of_ble_eq_true rfl) hl.1 ⟨Nat.zero_le _, Nat.zero_le _⟩ dX0_codeAt_4 ?_
  refine zz_ifb_eq (pc := 7) (tgt := 19) S dX0_codeAt_7 (by decide) (fun c7 => ?_) (fun c7 => ?_)
  · exfalso; omega
  · refine lv_aload_n (pc := 10) S.1 S.2.1 dX0_codeAt_10 rfl (lv_at hl 0 rfl) ?_
    refine zz_get (pc := 11) S hG iX0 0 rfl rfl 2 (by decide) wd_54 rfl rfl dX0_codeAt_11 ?_
    refine lv_iload_n (pc := 14) S.1 S.2.1 dX0_codeAt_14 rfl (lv_at hl 1 rfl) ?_
    refine zz_iald (pc := 15) (k := a) S hG 3 rfl (by omega) dX0_codeAt_15 ?_
    refine lv_goto (pc := 16) (tgt := 20) S.1 S.2.1 dX0_codeAt_16 (by decide) ?_
    exact zz_iretS (pc := 20) S hr hlocks (rfl) dX0_codeAt_20
abbrev wm_X0_stepAt : List Cond := .code yX0_stepAt cX0_stepAt 4 (some .int) :: wU
theorem q_X0_stepAt : yX0_stepAt.cls = RX0 ∧ yX0_stepAt.cls ≠ "java/lang/invoke/MethodHandle" ∧ yX0_stepAt.cls ≠ "java/lang/invoke/VarHandle" ∧ (parseMethodDescriptor yX0_stepAt.desc).map (fun d => d.parameters.length) = some 2 := by decide +kernel
set_option maxHeartbeats 4000000 in
set_option maxRecDepth 100000 in
theorem c_X0_stepAt (l : Launch) (D : va_G) (cI cR : ClassId) (b b1 b2 b3 cc tt kk : Nat) (sg rs cd : Nat → Nat) (a : Int) (q : Nat) (ha : -1 ≤ a ∧ a < 16) (hq : q < 16) : Met l yX0_stepAt wm_X0_stepAt ({ frames := 0, cells := 0, slots := 0, locals := 0 } : Room) (va_Pc [.ref b, .int (zI a), .int (nI q)] (zW D cI cR [(b, .inr (0, [.ref b1, .ref b2, .ref b3, .int (nI cc), .int (nI tt), .int (nI kk)])), (b1, zA cI 272 sg), (b2, zA cI 4096 rs), (b3, zA cI 8 cd)])) (vp_Si (fun r => r = nI (sg ((a + 1).toNat * 16 + q)))) 0 0 (fun _ => False) := by
  refine Met.ofW (cc := cX0_stepAt) (maxL := 4) (ret := (some .int)) (by decide) rfl ?_
  intro p e s m args below meth c s₁ B hml hv
  obtain ⟨rfl, hG⟩ := hv
  have S : CallFix p m c cX0_stepAt 4 s ([.ref b, .int (zI a), .int (nI q)] : List Value).toArray wU RX0 := ⟨B.exec, B.bytes, hml, findClass_of_methodNamed B.named, fun w h => atoms_spec (ws := wm_X0_stepAt) B.pre w (List.mem_cons_of_mem _ h)⟩
  have hr := B.returns
  have hlocks := B.notSynchronized
  have hG : zG D cI cR [(b, .inr (0, [.ref b1, .ref b2, .ref b3, .int (nI cc), .int (nI tt), .int (nI kk)])), (b1, zA cI 272 sg), (b2, zA cI 4096 rs), (b3, zA cI 8 cd)] s s.heap := hG
  have hl := lv_entry ([.ref b, .int (zI a), .int (nI q)]) (n := 4) (Nat.le_of_ble_eq_true rfl)
  rw [lg_entry_eq]
  generalize (lg_sl ([.ref b, .int (zI a), .int (nI q)]) ++ List.replicate (4 - (lg_sl ([.ref b, .int (zI a), .int (nI q)])).length) Slot.unset).toArray = ls at hl ⊢
  have hl : lv_has ls 4 [(0, .ref b), (1, .int (zI a)), (2, .int (nI q))] := hl
  refine lv_iload_n (pc := 0) S.1 S.2.1 dX0_stepAt_0 rfl (lv_at hl 1 rfl) ?_
  refine zz_iconst (pc := 1) (v := nI 1) S dX0_stepAt_1 rfl ?_
  refine zz_iadd (pc := 2) (v := zI (a + 1)) S dX0_stepAt_2 (zI_add a 1) ?_
  refine zz_bipush (pc := 3) (v := nI 16) S dX0_stepAt_3 rfl ?_
  refine zz_imul (pc := 5) (v := zI ((a + 1) * 16)) S dX0_stepAt_5 (zI_mul (a + 1) 16) ?_
  refine lv_iload_n (pc := 6) S.1 S.2.1 dX0_stepAt_6 rfl (lv_at hl 2 rfl) ?_
  refine zz_iadd (pc := 7) (v := zI ((a + 1) * 16 + ((q : Nat) : Int))) S dX0_stepAt_7 (zI_add ((a + 1) * 16) ((q : Nat) : Int)) ?_
  refine lv_istore_n (pc := 8) (lv' := [(3, .int (zI ((a + 1) * 16 + ((q : Nat) : Int)))), (0, .ref b), (1, .int (zI a)), (2, .int (nI q))]) S.1 S.2.1 dX0_stepAt_8 rfl hl (by decide) rfl (fun ls hl => ?_)
  refine lv_iload_n (pc := 9) S.1 S.2.1 dX0_stepAt_9 rfl (lv_at hl 0 rfl) ?_
  refine zz_if_lt (pc := 10) (tgt := 31) S dX0_stepAt_10 (by decide) (z_lt0 (by unfold zR; omega)) (fun c10 => ?_) (fun c10 => ?_)
  · exfalso; omega
  · refine lv_iload_n (pc := 13) S.1 S.2.1 dX0_stepAt_13 rfl (lv_at hl 0 rfl) ?_
    refine lv_aload_n (pc := 14) S.1 S.2.1 dX0_stepAt_14 rfl (lv_at hl 1 rfl) ?_
    refine zz_get (pc := 15) S hG iX0 0 rfl rfl 0 (by decide) wd_52 rfl rfl dX0_stepAt_15 ?_
    refine zz_alen (pc := 18) S hG 1 rfl dX0_stepAt_18 ?_
    refine zz_icmp_ge (pc := 19) (tgt := 31) S dX0_stepAt_19 (by decide) (zI_le (a := 272) (b := (a + 1) * 16 + ((q : Nat) : Int)) (by unfold zR; omega) (by unfold zR; omega)) (fun c19 => ?_) (fun c19 => ?_)
    · exfalso; omega
    · refine lv_aload_n (pc := 22) S.1 S.2.1 dX0_stepAt_22 rfl (lv_at hl 1 rfl) ?_
      refine zz_get (pc := 23) S hG iX0 0 rfl rfl 0 (by decide) wd_52 rfl rfl dX0_stepAt_23 ?_
      refine lv_iload_n (pc := 26) S.1 S.2.1 dX0_stepAt_26 rfl (lv_at hl 0 rfl) ?_
      refine zz_cast (v := nI ((a + 1).toNat * 16 + q)) (zn_of (by omega)) ?_
      refine zz_iald (pc := 27) (k := (a + 1).toNat * 16 + q) S hG 1 rfl (by omega) dX0_stepAt_27 ?_
      refine lv_goto (pc := 28) (tgt := 32) S.1 S.2.1 dX0_stepAt_28 (by decide) ?_
      exact zz_iretS (pc := 32) S hr hlocks (rfl) dX0_stepAt_32
abbrev wm_X0_restAt : List Cond := .code yX0_restAt cX0_restAt 4 (some .int) :: wU
theorem q_X0_restAt : yX0_restAt.cls = RX0 ∧ yX0_restAt.cls ≠ "java/lang/invoke/MethodHandle" ∧ yX0_restAt.cls ≠ "java/lang/invoke/VarHandle" ∧ (parseMethodDescriptor yX0_restAt.desc).map (fun d => d.parameters.length) = some 2 := by decide +kernel
set_option maxHeartbeats 4000000 in
set_option maxRecDepth 100000 in
theorem c_X0_restAt (l : Launch) (D : va_G) (cI cR : ClassId) (b b1 b2 b3 cc tt kk : Nat) (sg rs cd : Nat → Nat) (a : Nat) (q : Nat) (ha : a < 256) (hq : q < 16) : Met l yX0_restAt wm_X0_restAt ({ frames := 0, cells := 0, slots := 0, locals := 0 } : Room) (va_Pc [.ref b, .int (nI a), .int (nI q)] (zW D cI cR [(b, .inr (0, [.ref b1, .ref b2, .ref b3, .int (nI cc), .int (nI tt), .int (nI kk)])), (b1, zA cI 272 sg), (b2, zA cI 4096 rs), (b3, zA cI 8 cd)])) (vp_Si (fun r => r = nI (rs (a * 16 + q)))) 0 0 (fun _ => False) := by
  refine Met.ofW (cc := cX0_restAt) (maxL := 4) (ret := (some .int)) (by decide) rfl ?_
  intro p e s m args below meth c s₁ B hml hv
  obtain ⟨rfl, hG⟩ := hv
  have S : CallFix p m c cX0_restAt 4 s ([.ref b, .int (nI a), .int (nI q)] : List Value).toArray wU RX0 := ⟨B.exec, B.bytes, hml, findClass_of_methodNamed B.named, fun w h => atoms_spec (ws := wm_X0_restAt) B.pre w (List.mem_cons_of_mem _ h)⟩
  have hr := B.returns
  have hlocks := B.notSynchronized
  have hG : zG D cI cR [(b, .inr (0, [.ref b1, .ref b2, .ref b3, .int (nI cc), .int (nI tt), .int (nI kk)])), (b1, zA cI 272 sg), (b2, zA cI 4096 rs), (b3, zA cI 8 cd)] s s.heap := hG
  have hl := lv_entry ([.ref b, .int (nI a), .int (nI q)]) (n := 4) (Nat.le_of_ble_eq_true rfl)
  rw [lg_entry_eq]
  generalize (lg_sl ([.ref b, .int (nI a), .int (nI q)]) ++ List.replicate (4 - (lg_sl ([.ref b, .int (nI a), .int (nI q)])).length) Slot.unset).toArray = ls at hl ⊢
  have hl : lv_has ls 4 [(0, .ref b), (1, .int (nI a)), (2, .int (nI q))] := hl
  refine lv_iload_n (pc := 0) S.1 S.2.1 dX0_restAt_0 rfl (lv_at hl 1 rfl) ?_
  refine zz_bipush (pc := 1) (v := nI 16) S dX0_restAt_1 rfl ?_
  refine zz_imul (pc := 3) (v := nI (a * 16)) S dX0_restAt_3 (n_mul _ _) ?_
  refine lv_iload_n (pc := 4) S.1 S.2.1 dX0_restAt_4 rfl (lv_at hl 2 rfl) ?_
  refine zz_iadd (pc := 5) (v := nI (a * 16 + q)) S dX0_restAt_5 (n_add _ _) ?_
  refine lv_istore_n (pc := 6) (lv' := [(3, .int (nI (a * 16 + q))), (0, .ref b), (1, .int (nI a)), (2, .int (nI q))]) S.1 S.2.1 dX0_restAt_6 rfl hl (by decide) rfl (fun ls hl => ?_)
  refine lv_iload_n (pc := 7) S.1 S.2.1 dX0_restAt_7 rfl (lv_at hl 0 rfl) ?_
  refine zz_if_lt (pc := 8) (tgt := 29) S dX0_restAt_8 (by decide) (n_lt0 (by omega)) (fun c8 => ?_) (fun c8 => ?_)
  · exfalso; omega
  · refine lv_iload_n (pc := 11) S.1 S.2.1 dX0_restAt_11 rfl (lv_at hl 0 rfl) ?_
    refine lv_aload_n (pc := 12) S.1 S.2.1 dX0_restAt_12 rfl (lv_at hl 1 rfl) ?_
    refine zz_get (pc := 13) S hG iX0 0 rfl rfl 1 (by decide) wd_53 rfl rfl dX0_restAt_13 ?_
    refine zz_alen (pc := 16) S hG 2 rfl dX0_restAt_16 ?_
    refine zz_icmp_ge (pc := 17) (tgt := 29) S dX0_restAt_17 (by decide) (n_le (by omega) (by omega)) (fun c17 => ?_) (fun c17 => ?_)
    · exfalso; omega
    · refine lv_aload_n (pc := 20) S.1 S.2.1 dX0_restAt_20 rfl (lv_at hl 1 rfl) ?_
      refine zz_get (pc := 21) S hG iX0 0 rfl rfl 1 (by decide) wd_53 rfl rfl dX0_restAt_21 ?_
      refine lv_iload_n (pc := 24) S.1 S.2.1 dX0_restAt_24 rfl (lv_at hl 0 rfl) ?_
      refine zz_iald (pc := 25) (k := a * 16 + q) S hG 2 rfl (by omega) dX0_restAt_25 ?_
      refine lv_goto (pc := 26) (tgt := 30) S.1 S.2.1 dX0_restAt_26 (by decide) ?_
      exact zz_iretS (pc := 30) S hr hlocks (rfl) dX0_restAt_30
abbrev wm_X0_costThrough : List Cond := .code yX0_costThrough cX0_costThrough 4 (some .int) :: wU
theorem q_X0_costThrough : yX0_costThrough.cls = RX0 ∧ yX0_costThrough.cls ≠ "java/lang/invoke/MethodHandle" ∧ yX0_costThrough.cls ≠ "java/lang/invoke/VarHandle" ∧ (parseMethodDescriptor yX0_costThrough.desc).map (fun d => d.parameters.length) = some 3 := by decide +kernel
set_option maxHeartbeats 4000000 in
set_option maxRecDepth 100000 in
theorem c_X0_costThrough (l : Launch) (D : va_G) (cI cR : ClassId) (b b1 b2 b3 cc tt kk : Nat) (sg rs cd : Nat → Nat) (a : Nat) (x : Int) (q : Nat) (ha : a < 256) (hx : -1 ≤ x ∧ x < 16) (hq : q < 16) (hsg : ∀ j, sg j ≤ 599) (hrs : ∀ j, rs j ≤ 5000) : Met l yX0_costThrough wm_X0_costThrough ({ frames := 1, cells := 0, slots := 0, locals := 23 } : Room) (va_Pc [.ref b, .int (nI a), .int (zI x), .int (nI q)] (zW D cI cR [(b, .inr (0, [.ref b1, .ref b2, .ref b3, .int (nI cc), .int (nI tt), .int (nI kk)])), (b1, zA cI 272 sg), (b2, zA cI 4096 rs), (b3, zA cI 8 cd)])) (vp_Si (fun r => r = nI (sg ((x + 1).toNat * 16 + q) + rs (clb a (q / 2) * 16 + q)))) 0 0 (fun _ => False) := by
  refine Met.ofW (cc := cX0_costThrough) (maxL := 4) (ret := (some .int)) (by decide) rfl ?_
  intro p e s m args below meth c s₁ B hml hv
  obtain ⟨rfl, hG⟩ := hv
  have S : CallFix p m c cX0_costThrough 4 s ([.ref b, .int (nI a), .int (zI x), .int (nI q)] : List Value).toArray wU RX0 := ⟨B.exec, B.bytes, hml, findClass_of_methodNamed B.named, fun w h => atoms_spec (ws := wm_X0_costThrough) B.pre w (List.mem_cons_of_mem _ h)⟩
  have hr := B.returns
  have hlocks := B.notSynchronized
  have hG : zG D cI cR [(b, .inr (0, [.ref b1, .ref b2, .ref b3, .int (nI cc), .int (nI tt), .int (nI kk)])), (b1, zA cI 272 sg), (b2, zA cI 4096 rs), (b3, zA cI 8 cd)] s s.heap := hG
  have hl := lv_entry ([.ref b, .int (nI a), .int (zI x), .int (nI q)]) (n := 4) (Nat.le_of_ble_eq_true rfl)
  rw [lg_entry_eq]
  generalize (lg_sl ([.ref b, .int (nI a), .int (zI x), .int (nI q)]) ++ List.replicate (4 - (lg_sl ([.ref b, .int (nI a), .int (zI x), .int (nI q)])).length) Slot.unset).toArray = ls at hl ⊢
  have hl : lv_has ls 4 [(0, .ref b), (1, .int (nI a)), (2, .int (zI x)), (3, .int (nI q))] := hl
  refine lv_aload_n (pc := 0) S.1 S.2.1 dX0_costThrough_0 rfl (lv_at hl 0 rfl) ?_
  refine lv_iload_n (pc := 1) S.1 S.2.1 dX0_costThrough_1 rfl (lv_at hl 2 rfl) ?_
  refine lv_iload_n (pc := 2) S.1 S.2.1 dX0_costThrough_2 rfl (lv_at hl 3 rfl) ?_
  refine zz_callV (pc := 3) (As := [.int (zI x), .int (nI q)]) (rest := []) S (c_X0_stepAt l D cI cR b b1 b2 b3 cc tt kk sg rs cd x q (by omega) (by omega)) (zuV wd_526 wd_523 wd_524 wd_525 wd_22) 2 rfl q_X0_stepAt ⟨⟨rfl, rfl⟩, Nat.le_of_ble_eq_true rfl, Nat.le_of_ble_eq_true rfl⟩ hG [0, 1, 2, 3] rfl 0 rfl rfl rfl rfl rfl (Nat.le_of_ble_eq_true rfl) hl.1 ⟨Nat.zero_le _, Nat.zero_le _⟩ dX0_costThrough_3 ?_
  have g1 := hsg ((x + 1).toNat * 16 + q)
  refine lv_aload_n (pc := 6) S.1 S.2.1 dX0_costThrough_6 rfl (lv_at hl 0 rfl) ?_
  refine lv_iload_n (pc := 7) S.1 S.2.1 dX0_costThrough_7 rfl (lv_at hl 1 rfl) ?_
  refine lv_iload_n (pc := 8) S.1 S.2.1 dX0_costThrough_8 rfl (lv_at hl 3 rfl) ?_
  refine zz_callS (pc := 9) (As := [.int (nI a), .int (nI q)]) (rest := [.ref b, .int (nI (sg ((x + 1).toNat * 16 + q)))]) S (c_X0_without l D cI cR a q (by omega) (by omega)) (zuS wd_529 wd_527 wd_528 wd_22) 2 rfl q_X0_without.2 ⟨⟨rfl, rfl⟩, Nat.le_of_ble_eq_true rfl, Nat.le_of_ble_eq_true rfl⟩ rfl rfl (Nat.le_of_ble_eq_true rfl) hl.1 ⟨Nat.zero_le _, Nat.zero_le _⟩ dX0_costThrough_9 ?_
  have g2 := clb_le a (q / 2)
  refine lv_iload_n (pc := 12) S.1 S.2.1 dX0_costThrough_12 rfl (lv_at hl 3 rfl) ?_
  refine zz_callV (pc := 13) (As := [.int (nI (clb a (q / 2))), .int (nI q)]) (rest := [.int (nI (sg ((x + 1).toNat * 16 + q)))]) S (c_X0_restAt l D cI cR b b1 b2 b3 cc tt kk sg rs cd (clb a (q / 2)) q (by omega) (by omega)) (zuV wd_533 wd_530 wd_531 wd_532 wd_22) 2 rfl q_X0_restAt ⟨⟨rfl, rfl⟩, Nat.le_of_ble_eq_true rfl, Nat.le_of_ble_eq_true rfl⟩ hG [0, 1, 2, 3] rfl 0 rfl rfl rfl rfl rfl (Nat.le_of_ble_eq_true rfl) hl.1 ⟨Nat.zero_le _, Nat.zero_le _⟩ dX0_costThrough_13 ?_
  have g3 := hrs ((clb a (q / 2)) * 16 + q)
  refine zz_iadd (pc := 16) (v := nI (sg ((x + 1).toNat * 16 + q) + (rs ((clb a (q / 2)) * 16 + q)))) S dX0_costThrough_16 (n_add _ _) ?_
  exact zz_iretS (pc := 17) S hr hlocks (congrArg nI (by first | omega | rfl)) dX0_costThrough_17
abbrev wm_X0_cheapestNext : List Cond := .code yX0_cheapestNext cX0_cheapestNext 7 (some .int) :: wU
theorem q_X0_cheapestNext : yX0_cheapestNext.cls = RX0 ∧ yX0_cheapestNext.cls ≠ "java/lang/invoke/MethodHandle" ∧ yX0_cheapestNext.cls ≠ "java/lang/invoke/VarHandle" ∧ (parseMethodDescriptor yX0_cheapestNext.desc).map (fun d => d.parameters.length) = some 2 := by decide +kernel
set_option maxHeartbeats 4000000 in
set_option maxRecDepth 100000 in
theorem c_X0_cheapestNext (l : Launch) (D : va_G) (cI cR : ClassId) (b b1 b2 b3 cc tt kk : Nat) (sg rs cd : Nat → Nat) (a : Nat) (x : Int) (ha : a < 256) (hx : -1 ≤ x ∧ x < 16) (hcc : cc ≤ 16) (hsg : ∀ j, sg j ≤ 599) (hrs : ∀ j, rs j ≤ 5000) : Met l yX0_cheapestNext wm_X0_cheapestNext ({ frames := 2, cells := 0, slots := 0, locals := 46 } : Room) (va_Pc [.ref b, .int (nI a), .int (zI x)] (zW D cI cR [(b, .inr (0, [.ref b1, .ref b2, .ref b3, .int (nI cc), .int (nI tt), .int (nI kk)])), (b1, zA cI 272 sg), (b2, zA cI 4096 rs), (b3, zA cI 8 cd)])) (vp_Si (fun r => r = zI (amf (fun j => inS a j) (fun j => sg ((x + 1).toNat * 16 + j) + rs (clb a (j / 2) * 16 + j)) cc))) 0 0 (fun _ => False) := by
  refine Met.ofW (cc := cX0_cheapestNext) (maxL := 7) (ret := (some .int)) (by decide) rfl ?_
  intro p e s m args below meth c s₁ B hml hv
  obtain ⟨rfl, hG⟩ := hv
  have S : CallFix p m c cX0_cheapestNext 7 s ([.ref b, .int (nI a), .int (zI x)] : List Value).toArray wU RX0 := ⟨B.exec, B.bytes, hml, findClass_of_methodNamed B.named, fun w h => atoms_spec (ws := wm_X0_cheapestNext) B.pre w (List.mem_cons_of_mem _ h)⟩
  have hr := B.returns
  have hlocks := B.notSynchronized
  have hG : zG D cI cR [(b, .inr (0, [.ref b1, .ref b2, .ref b3, .int (nI cc), .int (nI tt), .int (nI kk)])), (b1, zA cI 272 sg), (b2, zA cI 4096 rs), (b3, zA cI 8 cd)] s s.heap := hG
  have hl := lv_entry ([.ref b, .int (nI a), .int (zI x)]) (n := 7) (Nat.le_of_ble_eq_true rfl)
  rw [lg_entry_eq]
  generalize (lg_sl ([.ref b, .int (nI a), .int (zI x)]) ++ List.replicate (7 - (lg_sl ([.ref b, .int (nI a), .int (zI x)])).length) Slot.unset).toArray = ls at hl ⊢
  have hl : lv_has ls 7 [(0, .ref b), (1, .int (nI a)), (2, .int (zI x))] := hl
  refine zz_iconst (pc := 0) (v := zI (-1)) S dX0_cheapestNext_0 rfl ?_
  refine lv_istore_n (pc := 1) (lv' := [(3, .int (zI (-1))), (0, .ref b), (1, .int (nI a)), (2, .int (zI x))]) S.1 S.2.1 dX0_cheapestNext_1 rfl hl (by decide) rfl (fun ls hl => ?_)
  refine zz_iconst (pc := 2) (v := nI 0) S dX0_cheapestNext_2 rfl ?_
  refine lv_istore (pc := 3) (lv' := [(4, .int (nI 0)), (3, .int (zI (-1))), (0, .ref b), (1, .int (nI a)), (2, .int (zI x))]) S.1 S.2.1 dX0_cheapestNext_3 hl (by decide) rfl (fun ls hl => ?_)
  refine zz_iconst (pc := 5) (v := nI 0) S dX0_cheapestNext_5 rfl ?_
  refine lv_istore (pc := 6) (lv' := [(5, .int (nI 0)), (4, .int (nI 0)), (3, .int (zI (-1))), (0, .ref b), (1, .int (nI a)), (2, .int (zI x))]) S.1 S.2.1 dX0_cheapestNext_6 hl (by decide) rfl (fun ls hl => ?_)
  have L1 : ∀ (f : Nat) (k : Nat), (k ≤ cc) → cc - k < f → ∀ ls : Array Slot, lv_has ls 7 [(0, .ref b), (1, .int (nI a)), (2, .int (zI x)), (3, .int (zI (amf (fun j => inS a j) (fun j => sg ((x + 1).toNat * 16 + j) + rs (clb a (j / 2) * 16 + j)) k))), (4, .int (nI (amv (fun j => inS a j) (fun j => sg ((x + 1).toNat * 16 + j) + rs (clb a (j / 2) * 16 + j)) k))), (5, .int (nI k))] → W p l e (headSpec wm_X0_cheapestNext ({ frames := 2, cells := 0, slots := 0, locals := 46 } : Room)).room s m ([.ref b, .int (nI a), .int (zI x)] : List Value).toArray below meth c s.heap [] 0 0 (MQ below (vp_Si (fun r => r = zI (amf (fun j => inS a j) (fun j => sg ((x + 1).toNat * 16 + j) + rs (clb a (j / 2) * 16 + j)) cc))) ([.ref b, .int (nI a), .int (zI x)] : List Value).toArray s 0 0 (fun _ => False)) (F0 m 8 ls []) := by
    intro f
    induction f with
    | zero => intro k hk hf; exact absurd hf (Nat.not_lt_zero _)
    | succ f ih2 =>
      intro k hk hf ls hl
      have hp := amf_rng (fun j => inS a j) (fun j => sg ((x + 1).toNat * 16 + j) + rs (clb a (j / 2) * 16 + j)) k
      have hv := amv_le (Q := (fun j => inS a j)) (g := (fun j => sg ((x + 1).toNat * 16 + j) + rs (clb a (j / 2) * 16 + j))) (k := k) (m := 5599) (fun j hj => by have q1 := hsg ((x + 1).toNat * 16 + j); have q2 := hrs (clb a (j / 2) * 16 + j); omega)
      refine lv_iload (pc := 8) S.1 S.2.1 dX0_cheapestNext_8 (lv_at hl 5 rfl) ?_
      refine lv_aload_n (pc := 10) S.1 S.2.1 dX0_cheapestNext_10 rfl (lv_at hl 0 rfl) ?_
      refine zz_get (pc := 11) S hG iX0 0 rfl rfl 3 (by decide) wd_501 rfl rfl dX0_cheapestNext_11 ?_
      refine zz_icmp_ge (pc := 14) (tgt := 61) S dX0_cheapestNext_14 (by decide) (n_le (by omega) (by omega)) (fun c14 => ?_) (fun c14 => ?_)
      · refine lv_iload_n (pc := 61) S.1 S.2.1 dX0_cheapestNext_61 rfl (lv_at hl 3 rfl) ?_
        exact zz_iretS (pc := 62) S hr hlocks (congrArg zI (a₁ := amf (fun j => inS a j) (fun j => sg ((x + 1).toNat * 16 + j) + rs (clb a (j / 2) * 16 + j)) k) (by rw [show k = cc by omega])) dX0_cheapestNext_62
      · refine lv_iload_n (pc := 17) S.1 S.2.1 dX0_cheapestNext_17 rfl (lv_at hl 1 rfl) ?_
        refine lv_iload (pc := 18) S.1 S.2.1 dX0_cheapestNext_18 (lv_at hl 5 rfl) ?_
        refine zz_callS (pc := 20) (As := [.int (nI a), .int (nI k)]) (rest := []) S (c_X0_contains l D cI cR a k (by omega) (by omega)) (zuS wd_514 wd_512 wd_513 wd_22) 2 rfl q_X0_contains.2 ⟨⟨rfl, rfl⟩, Nat.le_of_ble_eq_true rfl, Nat.le_of_ble_eq_true rfl⟩ rfl rfl (Nat.le_of_ble_eq_true rfl) hl.1 ⟨Nat.zero_le _, Nat.zero_le _⟩ dX0_cheapestNext_20 ?_
        refine zz_ifb_eq (pc := 23) (tgt := 55) S dX0_cheapestNext_23 (by decide) (fun c23 => ?_) (fun c23 => ?_)
        · have w := amf_skip (Q := (fun j => inS a j)) (g := (fun j => sg ((x + 1).toNat * 16 + j) + rs (clb a (j / 2) * 16 + j))) (k := k) c23
          refine lv_iinc (pc := 55) (v := nI (k + 1)) (lv' := [(5, .int (nI (k + 1))), (0, .ref b), (1, .int (nI a)), (2, .int (zI x)), (3, .int (zI (amf (fun j => inS a j) (fun j => sg ((x + 1).toNat * 16 + j) + rs (clb a (j / 2) * 16 + j)) k))), (4, .int (nI (amv (fun j => inS a j) (fun j => sg ((x + 1).toNat * 16 + j) + rs (clb a (j / 2) * 16 + j)) k)))]) S.1 S.2.1 dX0_cheapestNext_55 hl (k := 5) rfl (n_add _ _) (by decide) rfl (fun ls hl => ?_)
          refine lv_goto (pc := 58) (tgt := 8) S.1 S.2.1 dX0_cheapestNext_58 (by decide) ?_
          exact ih2 (k + 1) (by omega) (by omega) ls (by rw [w.1, w.2]; exact lv_sub hl [1, 2, 3, 4, 5, 0] rfl)
        · refine lv_aload_n (pc := 26) S.1 S.2.1 dX0_cheapestNext_26 rfl (lv_at hl 0 rfl) ?_
          refine lv_iload_n (pc := 27) S.1 S.2.1 dX0_cheapestNext_27 rfl (lv_at hl 1 rfl) ?_
          refine lv_iload_n (pc := 28) S.1 S.2.1 dX0_cheapestNext_28 rfl (lv_at hl 2 rfl) ?_
          refine lv_iload (pc := 29) S.1 S.2.1 dX0_cheapestNext_29 (lv_at hl 5 rfl) ?_
          refine zz_callV (pc := 31) (As := [.int (nI a), .int (zI x), .int (nI k)]) (rest := []) S (c_X0_costThrough l D cI cR b b1 b2 b3 cc tt kk sg rs cd a x k (by omega) (by omega) (by omega) hsg hrs) (zuV wd_522 wd_519 wd_520 wd_521 wd_22) 3 rfl q_X0_costThrough ⟨⟨rfl, rfl⟩, Nat.le_of_ble_eq_true rfl, Nat.le_of_ble_eq_true rfl⟩ hG [0, 1, 2, 3] rfl 0 rfl rfl rfl rfl rfl (Nat.le_of_ble_eq_true rfl) hl.1 ⟨Nat.zero_le _, Nat.zero_le _⟩ dX0_cheapestNext_31 ?_
          have g3 := hsg ((x + 1).toNat * 16 + k)
          have g4 := hrs (clb a (k / 2) * 16 + k)
          refine lv_istore (pc := 34) (lv' := [(6, .int (nI (sg ((x + 1).toNat * 16 + k) + rs (clb a (k / 2) * 16 + k)))), (0, .ref b), (1, .int (nI a)), (2, .int (zI x)), (3, .int (zI (amf (fun j => inS a j) (fun j => sg ((x + 1).toNat * 16 + j) + rs (clb a (j / 2) * 16 + j)) k))), (4, .int (nI (amv (fun j => inS a j) (fun j => sg ((x + 1).toNat * 16 + j) + rs (clb a (j / 2) * 16 + j)) k))), (5, .int (nI k))]) S.1 S.2.1 dX0_cheapestNext_34 hl (by decide) rfl (fun ls hl => ?_)
          refine lv_iload_n (pc := 36) S.1 S.2.1 dX0_cheapestNext_36 rfl (lv_at hl 4 rfl) ?_
          refine zz_iconst (pc := 37) (v := zI (-1)) S dX0_cheapestNext_37 rfl ?_
          refine zz_icmp_eq (pc := 38) (tgt := 48) S dX0_cheapestNext_38 (by decide) (zI_eq (a := amf (fun j => inS a j) (fun j => sg ((x + 1).toNat * 16 + j) + rs (clb a (j / 2) * 16 + j)) k) (b := (-1)) (by unfold zR; omega) (by unfold zR; omega)) (fun c38 => ?_) (fun c38 => ?_)
          · have w := amf_take (Q := (fun j => inS a j)) (g := (fun j => sg ((x + 1).toNat * 16 + j) + rs (clb a (j / 2) * 16 + j))) (k := k) c23 (Or.inl c38)
            refine lv_iload (pc := 48) S.1 S.2.1 dX0_cheapestNext_48 (lv_at hl 6 rfl) ?_
            refine lv_istore_n (pc := 50) (lv' := [(3, .int (nI k)), (6, .int (nI (sg ((x + 1).toNat * 16 + k) + rs (clb a (k / 2) * 16 + k)))), (0, .ref b), (1, .int (nI a)), (2, .int (zI x)), (4, .int (nI (amv (fun j => inS a j) (fun j => sg ((x + 1).toNat * 16 + j) + rs (clb a (j / 2) * 16 + j)) k))), (5, .int (nI k))]) S.1 S.2.1 dX0_cheapestNext_50 rfl hl (by decide) rfl (fun ls hl => ?_)
            refine lv_iload (pc := 51) S.1 S.2.1 dX0_cheapestNext_51 (lv_at hl 1 rfl) ?_
            refine lv_istore (pc := 53) (lv' := [(4, .int (nI (sg ((x + 1).toNat * 16 + k) + rs (clb a (k / 2) * 16 + k)))), (3, .int (nI k)), (6, .int (nI (sg ((x + 1).toNat * 16 + k) + rs (clb a (k / 2) * 16 + k)))), (0, .ref b), (1, .int (nI a)), (2, .int (zI x)), (5, .int (nI k))]) S.1 S.2.1 dX0_cheapestNext_53 hl (by decide) rfl (fun ls hl => ?_)
            refine lv_iinc (pc := 55) (v := nI (k + 1)) (lv' := [(5, .int (nI (k + 1))), (4, .int (nI (sg ((x + 1).toNat * 16 + k) + rs (clb a (k / 2) * 16 + k)))), (3, .int (nI k)), (6, .int (nI (sg ((x + 1).toNat * 16 + k) + rs (clb a (k / 2) * 16 + k)))), (0, .ref b), (1, .int (nI a)), (2, .int (zI x))]) S.1 S.2.1 dX0_cheapestNext_55 hl (k := 6) rfl (n_add _ _) (by decide) rfl (fun ls hl => ?_)
            refine lv_goto (pc := 58) (tgt := 8) S.1 S.2.1 dX0_cheapestNext_58 (by decide) ?_
            exact ih2 (k + 1) (by omega) (by omega) ls (by rw [w.1, w.2]; exact lv_sub hl [4, 5, 6, 2, 1, 0] rfl)
          · refine lv_iload (pc := 41) S.1 S.2.1 dX0_cheapestNext_41 (lv_at hl 0 rfl) ?_
            refine lv_iload (pc := 43) S.1 S.2.1 dX0_cheapestNext_43 (lv_at hl 5 rfl) ?_
            refine zz_icmp_ge (pc := 45) (tgt := 55) S dX0_cheapestNext_45 (by decide) (n_le (by omega) (by omega)) (fun c45 => ?_) (fun c45 => ?_)
            · have w := amf_keep (Q := (fun j => inS a j)) (g := (fun j => sg ((x + 1).toNat * 16 + j) + rs (clb a (j / 2) * 16 + j))) (k := k) c38 (by omega)
              refine lv_iinc (pc := 55) (v := nI (k + 1)) (lv' := [(5, .int (nI (k + 1))), (6, .int (nI (sg ((x + 1).toNat * 16 + k) + rs (clb a (k / 2) * 16 + k)))), (0, .ref b), (1, .int (nI a)), (2, .int (zI x)), (3, .int (zI (amf (fun j => inS a j) (fun j => sg ((x + 1).toNat * 16 + j) + rs (clb a (j / 2) * 16 + j)) k))), (4, .int (nI (amv (fun j => inS a j) (fun j => sg ((x + 1).toNat * 16 + j) + rs (clb a (j / 2) * 16 + j)) k)))]) S.1 S.2.1 dX0_cheapestNext_55 hl (k := 6) rfl (n_add _ _) (by decide) rfl (fun ls hl => ?_)
              refine lv_goto (pc := 58) (tgt := 8) S.1 S.2.1 dX0_cheapestNext_58 (by decide) ?_
              exact ih2 (k + 1) (by omega) (by omega) ls (by rw [w.1, w.2]; exact lv_sub hl [2, 3, 4, 5, 6, 0] rfl)
            · have w := amf_take (Q := (fun j => inS a j)) (g := (fun j => sg ((x + 1).toNat * 16 + j) + rs (clb a (j / 2) * 16 + j))) (k := k) c23 (Or.inr (by omega))
              refine lv_iload (pc := 48) S.1 S.2.1 dX0_cheapestNext_48 (lv_at hl 6 rfl) ?_
              refine lv_istore_n (pc := 50) (lv' := [(3, .int (nI k)), (6, .int (nI (sg ((x + 1).toNat * 16 + k) + rs (clb a (k / 2) * 16 + k)))), (0, .ref b), (1, .int (nI a)), (2, .int (zI x)), (4, .int (nI (amv (fun j => inS a j) (fun j => sg ((x + 1).toNat * 16 + j) + rs (clb a (j / 2) * 16 + j)) k))), (5, .int (nI k))]) S.1 S.2.1 dX0_cheapestNext_50 rfl hl (by decide) rfl (fun ls hl => ?_)
              refine lv_iload (pc := 51) S.1 S.2.1 dX0_cheapestNext_51 (lv_at hl 1 rfl) ?_
              refine lv_istore (pc := 53) (lv' := [(4, .int (nI (sg ((x + 1).toNat * 16 + k) + rs (clb a (k / 2) * 16 + k)))), (3, .int (nI k)), (6, .int (nI (sg ((x + 1).toNat * 16 + k) + rs (clb a (k / 2) * 16 + k)))), (0, .ref b), (1, .int (nI a)), (2, .int (zI x)), (5, .int (nI k))]) S.1 S.2.1 dX0_cheapestNext_53 hl (by decide) rfl (fun ls hl => ?_)
              refine lv_iinc (pc := 55) (v := nI (k + 1)) (lv' := [(5, .int (nI (k + 1))), (4, .int (nI (sg ((x + 1).toNat * 16 + k) + rs (clb a (k / 2) * 16 + k)))), (3, .int (nI k)), (6, .int (nI (sg ((x + 1).toNat * 16 + k) + rs (clb a (k / 2) * 16 + k)))), (0, .ref b), (1, .int (nI a)), (2, .int (zI x))]) S.1 S.2.1 dX0_cheapestNext_55 hl (k := 6) rfl (n_add _ _) (by decide) rfl (fun ls hl => ?_)
              refine lv_goto (pc := 58) (tgt := 8) S.1 S.2.1 dX0_cheapestNext_58 (by decide) ?_
              exact ih2 (k + 1) (by omega) (by omega) ls (by rw [w.1, w.2]; exact lv_sub hl [4, 5, 6, 2, 1, 0] rfl)
  exact L1 (cc - 0 + 1) 0 (by omega) (Nat.lt_succ_self _) ls (lv_sub hl [3, 4, 5, 2, 1, 0] rfl)
abbrev wm_X0_forget : List Cond := .code yX0_forget cX0_forget 1 none :: wU
theorem q_X0_forget : yX0_forget.cls = RX0 ∧ yX0_forget.cls ≠ "java/lang/invoke/MethodHandle" ∧ yX0_forget.cls ≠ "java/lang/invoke/VarHandle" ∧ (parseMethodDescriptor yX0_forget.desc).map (fun d => d.parameters.length) = some 0 := by decide +kernel
set_option maxHeartbeats 4000000 in
set_option maxRecDepth 100000 in
theorem c_X0_forget (l : Launch) (D : va_G) (cI cR : ClassId) (b b1 b2 b3 cc tt kk : Nat) (sg rs cd : Nat → Nat) (sz : Nat)  : Met l yX0_forget wm_X0_forget ({ frames := 0, cells := 0, slots := 0, locals := 0 } : Room) (va_Pc [.ref b] (zX D cI cR [(b, .inr (0, [.ref b1, .ref b2, .ref b3, .int (nI cc), .int (nI tt), .int (nI kk)])), (b1, zA cI 272 sg), (b2, zA cI 4096 rs), (b3, zA cI 8 cd)] sz)) (zQv D cI cR (va_A [(b, .inr (0, [.ref b1, .ref b2, .ref b3, .int (nI cc), .int (nI tt), .int (nI kk)])), (b1, zA cI 272 sg), (b2, zA cI 4096 rs), (b3, zA cI 8 cd)] sz) (fun w => w = [(b, .inr (0, [.ref b1, .ref b2, .ref b3, .int (nI cc), .int (nI tt), .int (nI 0)])), (b1, zA cI 272 sg), (b2, zA cI 4096 rs), (b3, zA cI 8 cd)])) 0 0 (va_A [(b, .inr (0, [.ref b1, .ref b2, .ref b3, .int (nI cc), .int (nI tt), .int (nI kk)])), (b1, zA cI 272 sg), (b2, zA cI 4096 rs), (b3, zA cI 8 cd)] sz) := by
  refine Met.ofW (cc := cX0_forget) (maxL := 1) (ret := none) (by decide) rfl ?_
  intro p e s m args below meth c s₁ B hml hv
  obtain ⟨rfl, hsz, hG, hD0⟩ := hv
  have S : CallFix p m c cX0_forget 1 s ([.ref b] : List Value).toArray wU RX0 := ⟨B.exec, B.bytes, hml, findClass_of_methodNamed B.named, fun w h => atoms_spec (ws := wm_X0_forget) B.pre w (List.mem_cons_of_mem _ h)⟩
  have hr := B.returns
  have hlocks := B.notSynchronized
  subst hsz
  have hD := hD0.self (sz := s.heap.size)
  generalize hAe : va_A [(b, .inr (0, [.ref b1, .ref b2, .ref b3, .int (nI cc), .int (nI tt), .int (nI kk)])), (b1, zA cI 272 sg), (b2, zA cI 4096 rs), (b3, zA cI 8 cd)] s.heap.size = A at hD ⊢
  have hV : zV D cI cR A [(b, .inr (0, [.ref b1, .ref b2, .ref b3, .int (nI cc), .int (nI tt), .int (nI kk)])), (b1, zA cI 272 sg), (b2, zA cI 4096 rs), (b3, zA cI 8 cd)] s s.heap [] := ⟨hG, hD, va_S.rf, fun q h => by rw [← hAe]; exact Or.inr h⟩
  have hl := lv_entry ([.ref b]) (n := 1) (Nat.le_of_ble_eq_true rfl)
  rw [lg_entry_eq]
  generalize (lg_sl ([.ref b]) ++ List.replicate (1 - (lg_sl ([.ref b])).length) Slot.unset).toArray = ls at hl ⊢
  have hl : lv_has ls 1 [(0, .ref b)] := hl
  refine lv_aload_n (pc := 0) S.1 S.2.1 dX0_forget_0 rfl (lv_at hl 0 rfl) ?_
  refine zz_iconst (pc := 1) (v := nI 0) S dX0_forget_1 rfl ?_
  refine zz_put (pc := 2) (v := .int (nI 0)) (ty := .boolean) S hV iX0 tyX0 tyX0_ok nmX0 0 rfl rfl 5 (by decide) wd_124 rfl rfl (by decide +kernel) (by decide) (by decide) (Nat.le_of_ble_eq_true rfl) (ws' := [(b, .inr (0, [.ref b1, .ref b2, .ref b3, .int (nI cc), .int (nI tt), .int (nI 0)])), (b1, zA cI 272 sg), (b2, zA cI 4096 rs), (b3, zA cI 8 cd)]) rfl dX0_forget_2 (fun H locs hV => ?_)
  exact zz_vretM (pc := 5) S hr hlocks hV (rfl) dX0_forget_5
abbrev wm_X0_fillSteps : List Cond := .code yX0_fillSteps cX0_fillSteps 5 none :: wU
theorem q_X0_fillSteps : yX0_fillSteps.cls = RX0 ∧ yX0_fillSteps.cls ≠ "java/lang/invoke/MethodHandle" ∧ yX0_fillSteps.cls ≠ "java/lang/invoke/VarHandle" ∧ (parseMethodDescriptor yX0_fillSteps.desc).map (fun d => d.parameters.length) = some 2 := by decide +kernel
set_option maxHeartbeats 4000000 in
set_option maxRecDepth 100000 in
theorem c_X0_fillSteps (l : Launch) (D : va_G) (cI cR : ClassId) (b b1 b2 b3 tt kk : Nat) (sg rs cd : Nat → Nat) (d e1 e2 e3 e4 n : Nat) (P X Y L : Nat → Nat) (C : Nat) (sz : Nat) (hge : zGe n P X Y) (hC : C ≤ 500) (hsg : ∀ j, sg j ≤ 599) : Met l yX0_fillSteps wm_X0_fillSteps ({ frames := 4, cells := 0, slots := 0, locals := 88 } : Room) (va_Pc [.ref b, .ref d, .int (nI C)] (zX D cI cR [(b, .inr (0, [.ref b1, .ref b2, .ref b3, .int (nI (2 * n)), .int (nI tt), .int (nI kk)])), (b1, zA cI 272 sg), (b2, zA cI 4096 rs), (b3, zA cI 8 cd), (d, .inr (1, [.int (nI n), .ref e1, .ref e2, .ref e3, .ref e4])), (e1, zA cI 8 P), (e2, zA cI 16 X), (e3, zA cI 16 Y), (e4, zA cI 8 L)] sz)) (zQv D cI cR (va_A [(b, .inr (0, [.ref b1, .ref b2, .ref b3, .int (nI (2 * n)), .int (nI tt), .int (nI kk)])), (b1, zA cI 272 sg), (b2, zA cI 4096 rs), (b3, zA cI 8 cd), (d, .inr (1, [.int (nI n), .ref e1, .ref e2, .ref e3, .ref e4])), (e1, zA cI 8 P), (e2, zA cI 16 X), (e3, zA cI 16 Y), (e4, zA cI 8 L)] sz) (fun w => ∃ (sg5 : Nat → Nat), w = [(b, .inr (0, [.ref b1, .ref b2, .ref b3, .int (nI (2 * n)), .int (nI tt), .int (nI kk)])), (b1, zA cI 272 sg5), (b2, zA cI 4096 rs), (b3, zA cI 8 cd), (d, .inr (1, [.int (nI n), .ref e1, .ref e2, .ref e3, .ref e4])), (e1, zA cI 8 P), (e2, zA cI 16 X), (e3, zA cI 16 Y), (e4, zA cI 8 L)] ∧ (∀ j, sg5 j ≤ 599) ∧ (fsO P X Y C n sg5 (2 * n + 1) 0))) 0 0 (va_A [(b, .inr (0, [.ref b1, .ref b2, .ref b3, .int (nI (2 * n)), .int (nI tt), .int (nI kk)])), (b1, zA cI 272 sg), (b2, zA cI 4096 rs), (b3, zA cI 8 cd), (d, .inr (1, [.int (nI n), .ref e1, .ref e2, .ref e3, .ref e4])), (e1, zA cI 8 P), (e2, zA cI 16 X), (e3, zA cI 16 Y), (e4, zA cI 8 L)] sz) := by
  refine Met.ofW (cc := cX0_fillSteps) (maxL := 5) (ret := none) (by decide) rfl ?_
  intro p e s m args below meth c s₁ B hml hv
  obtain ⟨rfl, hsz, hG, hD0⟩ := hv
  have S : CallFix p m c cX0_fillSteps 5 s ([.ref b, .ref d, .int (nI C)] : List Value).toArray wU RX0 := ⟨B.exec, B.bytes, hml, findClass_of_methodNamed B.named, fun w h => atoms_spec (ws := wm_X0_fillSteps) B.pre w (List.mem_cons_of_mem _ h)⟩
  have hr := B.returns
  have hlocks := B.notSynchronized
  subst hsz
  have hD := hD0.self (sz := s.heap.size)
  generalize hAe : va_A [(b, .inr (0, [.ref b1, .ref b2, .ref b3, .int (nI (2 * n)), .int (nI tt), .int (nI kk)])), (b1, zA cI 272 sg), (b2, zA cI 4096 rs), (b3, zA cI 8 cd), (d, .inr (1, [.int (nI n), .ref e1, .ref e2, .ref e3, .ref e4])), (e1, zA cI 8 P), (e2, zA cI 16 X), (e3, zA cI 16 Y), (e4, zA cI 8 L)] s.heap.size = A at hD ⊢
  have hV : zV D cI cR A [(b, .inr (0, [.ref b1, .ref b2, .ref b3, .int (nI (2 * n)), .int (nI tt), .int (nI kk)])), (b1, zA cI 272 sg), (b2, zA cI 4096 rs), (b3, zA cI 8 cd), (d, .inr (1, [.int (nI n), .ref e1, .ref e2, .ref e3, .ref e4])), (e1, zA cI 8 P), (e2, zA cI 16 X), (e3, zA cI 16 Y), (e4, zA cI 8 L)] s s.heap [] := ⟨hG, hD, va_S.rf, fun q h => by rw [← hAe]; exact Or.inr h⟩
  have hl := lv_entry ([.ref b, .ref d, .int (nI C)]) (n := 5) (Nat.le_of_ble_eq_true rfl)
  rw [lg_entry_eq]
  generalize (lg_sl ([.ref b, .ref d, .int (nI C)]) ++ List.replicate (5 - (lg_sl ([.ref b, .ref d, .int (nI C)])).length) Slot.unset).toArray = ls at hl ⊢
  have hl : lv_has ls 5 [(0, .ref b), (1, .ref d), (2, .int (nI C))] := hl
  obtain ⟨hn, hPf, hXY⟩ := id hge
  refine zz_iconst (pc := 0) (v := zI (-1)) S dX0_fillSteps_0 rfl ?_
  refine lv_istore_n (pc := 1) (lv' := [(3, .int (zI (-1))), (0, .ref b), (1, .ref d), (2, .int (nI C))]) S.1 S.2.1 dX0_fillSteps_1 rfl hl (by decide) rfl (fun ls hl => ?_)
  have L1 : ∀ (f : Nat) (i : Nat) (sg2 : Nat → Nat), (i ≤ 2 * n + 1) → (∀ j, sg2 j ≤ 599) → (fsO P X Y C n sg2 i 0) → 2 * n + 1 - i < f → ∀ (H : Heap) (locs : List Loc), zV D cI cR A [(b, .inr (0, [.ref b1, .ref b2, .ref b3, .int (nI (2 * n)), .int (nI tt), .int (nI kk)])), (b1, zA cI 272 sg2), (b2, zA cI 4096 rs), (b3, zA cI 8 cd), (d, .inr (1, [.int (nI n), .ref e1, .ref e2, .ref e3, .ref e4])), (e1, zA cI 8 P), (e2, zA cI 16 X), (e3, zA cI 16 Y), (e4, zA cI 8 L)] s H locs → ∀ ls : Array Slot, lv_has ls 5 [(0, .ref b), (1, .ref d), (2, .int (nI C)), (3, .int (zI (((i : Nat) : Int) - 1)))] → W p l e (headSpec wm_X0_fillSteps ({ frames := 4, cells := 0, slots := 0, locals := 88 } : Room)).room s m ([.ref b, .ref d, .int (nI C)] : List Value).toArray below meth c H locs 0 0 (MQ below (zQv D cI cR A (fun w => ∃ (sg5 : Nat → Nat), w = [(b, .inr (0, [.ref b1, .ref b2, .ref b3, .int (nI (2 * n)), .int (nI tt), .int (nI kk)])), (b1, zA cI 272 sg5), (b2, zA cI 4096 rs), (b3, zA cI 8 cd), (d, .inr (1, [.int (nI n), .ref e1, .ref e2, .ref e3, .ref e4])), (e1, zA cI 8 P), (e2, zA cI 16 X), (e3, zA cI 16 Y), (e4, zA cI 8 L)] ∧ (∀ j, sg5 j ≤ 599) ∧ (fsO P X Y C n sg5 (2 * n + 1) 0))) ([.ref b, .ref d, .int (nI C)] : List Value).toArray s 0 0 A) (F0 m 2 ls []) := by
    intro f
    induction f with
    | zero => intro i sg2 hi hs2 hf2 hf; exact absurd hf (Nat.not_lt_zero _)
    | succ f ih2 =>
      intro i sg2 hi hs2 hf2 hf H locs hV ls hl
      refine lv_iload_n (pc := 2) S.1 S.2.1 dX0_fillSteps_2 rfl (lv_at hl 3 rfl) ?_
      refine lv_aload_n (pc := 3) S.1 S.2.1 dX0_fillSteps_3 rfl (lv_at hl 0 rfl) ?_
      refine zz_get (pc := 4) S hV.1 iX0 0 rfl rfl 3 (by decide) wd_501 rfl rfl dX0_fillSteps_4 ?_
      refine zz_icmp_ge (pc := 7) (tgt := 56) S dX0_fillSteps_7 (by decide) (zI_le (a := ((2 * n : Nat) : Int)) (b := ((i : Nat) : Int) - 1) (by unfold zR; omega) (by unfold zR; omega)) (fun c7 => ?_) (fun c7 => ?_)
      · exact zz_vretM (pc := 56) S hr hlocks hV (⟨sg2, rfl, (by exact hs2), (by rw [← show i = 2 * n + 1 by omega]; exact hf2)⟩) dX0_fillSteps_56
      · refine zz_iconst (pc := 10) (v := nI 0) S dX0_fillSteps_10 rfl ?_
        refine lv_istore (pc := 11) (lv' := [(4, .int (nI 0)), (0, .ref b), (1, .ref d), (2, .int (nI C)), (3, .int (zI (((i : Nat) : Int) - 1)))]) S.1 S.2.1 dX0_fillSteps_11 hl (by decide) rfl (fun ls hl => ?_)
        have L3 : ∀ (f : Nat) (j : Nat) (sg3 : Nat → Nat), (j ≤ 2 * n) → (∀ j, sg3 j ≤ 599) → (fsO P X Y C n sg3 i j) → 2 * n - j < f → ∀ (H : Heap) (locs : List Loc), zV D cI cR A [(b, .inr (0, [.ref b1, .ref b2, .ref b3, .int (nI (2 * n)), .int (nI tt), .int (nI kk)])), (b1, zA cI 272 sg3), (b2, zA cI 4096 rs), (b3, zA cI 8 cd), (d, .inr (1, [.int (nI n), .ref e1, .ref e2, .ref e3, .ref e4])), (e1, zA cI 8 P), (e2, zA cI 16 X), (e3, zA cI 16 Y), (e4, zA cI 8 L)] s H locs → ∀ ls : Array Slot, lv_has ls 5 [(0, .ref b), (1, .ref d), (2, .int (nI C)), (3, .int (zI (((i : Nat) : Int) - 1))), (4, .int (nI j))] → W p l e (headSpec wm_X0_fillSteps ({ frames := 4, cells := 0, slots := 0, locals := 88 } : Room)).room s m ([.ref b, .ref d, .int (nI C)] : List Value).toArray below meth c H locs 0 0 (MQ below (zQv D cI cR A (fun w => ∃ (sg5 : Nat → Nat), w = [(b, .inr (0, [.ref b1, .ref b2, .ref b3, .int (nI (2 * n)), .int (nI tt), .int (nI kk)])), (b1, zA cI 272 sg5), (b2, zA cI 4096 rs), (b3, zA cI 8 cd), (d, .inr (1, [.int (nI n), .ref e1, .ref e2, .ref e3, .ref e4])), (e1, zA cI 8 P), (e2, zA cI 16 X), (e3, zA cI 16 Y), (e4, zA cI 8 L)] ∧ (∀ j, sg5 j ≤ 599) ∧ (fsO P X Y C n sg5 (2 * n + 1) 0))) ([.ref b, .ref d, .int (nI C)] : List Value).toArray s 0 0 A) (F0 m 13 ls []) := by
          intro f
          induction f with
          | zero => intro j sg3 hj hs3 hf3 hf; exact absurd hf (Nat.not_lt_zero _)
          | succ f ih4 =>
            intro j sg3 hj hs3 hf3 hf H locs hV ls hl
            refine lv_iload (pc := 13) S.1 S.2.1 dX0_fillSteps_13 (lv_at hl 4 rfl) ?_
            refine lv_aload_n (pc := 15) S.1 S.2.1 dX0_fillSteps_15 rfl (lv_at hl 0 rfl) ?_
            refine zz_get (pc := 16) S hV.1 iX0 0 rfl rfl 3 (by decide) wd_501 rfl rfl dX0_fillSteps_16 ?_
            refine zz_icmp_ge (pc := 19) (tgt := 50) S dX0_fillSteps_19 (by decide) (n_le (by omega) (by omega)) (fun c19 => ?_) (fun c19 => ?_)
            · refine lv_iinc (pc := 50) (v := zI (((i : Nat) : Int) - 1 + (1))) (lv' := [(3, .int (zI (((i : Nat) : Int) - 1 + (1)))), (0, .ref b), (1, .ref d), (2, .int (nI C)), (4, .int (nI j))]) S.1 S.2.1 dX0_fillSteps_50 hl (k := 3) rfl (zI_add _ _) (by decide) rfl (fun ls hl => ?_)
              refine lv_goto (pc := 53) (tgt := 2) S.1 S.2.1 dX0_fillSteps_53 (by decide) ?_
              exact ih2 (i + 1) sg3 (by omega) (by exact hs3) (by exact fsO_n hf3 (by omega)) (by omega) H locs hV ls (by rw [show (((i + 1 : Nat) : Int) - 1) = ((i : Nat) : Int) - 1 + 1 by omega]; exact lv_sub hl [1, 2, 3, 0] rfl)
            · refine lv_aload_n (pc := 22) S.1 S.2.1 dX0_fillSteps_22 rfl (lv_at hl 0 rfl) ?_
              refine zz_get (pc := 23) S hV.1 iX0 0 rfl rfl 0 (by decide) wd_52 rfl rfl dX0_fillSteps_23 ?_
              refine lv_iload_n (pc := 26) S.1 S.2.1 dX0_fillSteps_26 rfl (lv_at hl 3 rfl) ?_
              refine zz_iconst (pc := 27) (v := nI 1) S dX0_fillSteps_27 rfl ?_
              refine zz_iadd (pc := 28) (v := zI (((i : Nat) : Int) - 1 + 1)) S dX0_fillSteps_28 (zI_add (((i : Nat) : Int) - 1) 1) ?_
              refine zz_bipush (pc := 29) (v := nI 16) S dX0_fillSteps_29 rfl ?_
              refine zz_imul (pc := 31) (v := zI ((((i : Nat) : Int) - 1 + 1) * 16)) S dX0_fillSteps_31 (zI_mul (((i : Nat) : Int) - 1 + 1) 16) ?_
              refine lv_iload (pc := 32) S.1 S.2.1 dX0_fillSteps_32 (lv_at hl 4 rfl) ?_
              refine zz_iadd (pc := 34) (v := zI ((((i : Nat) : Int) - 1 + 1) * 16 + ((j : Nat) : Int))) S dX0_fillSteps_34 (zI_add ((((i : Nat) : Int) - 1 + 1) * 16) ((j : Nat) : Int)) ?_
              refine zz_cast (v := nI (i * 16 + j)) (zn_of (by omega)) ?_
              refine lv_aload_n (pc := 35) S.1 S.2.1 dX0_fillSteps_35 rfl (lv_at hl 1 rfl) ?_
              refine lv_iload_n (pc := 36) S.1 S.2.1 dX0_fillSteps_36 rfl (lv_at hl 3 rfl) ?_
              refine lv_iload (pc := 37) S.1 S.2.1 dX0_fillSteps_37 (lv_at hl 4 rfl) ?_
              refine lv_iload_n (pc := 39) S.1 S.2.1 dX0_fillSteps_39 rfl (lv_at hl 2 rfl) ?_
              refine zz_callV (pc := 40) (As := [.int (zI (((i : Nat) : Int) - 1)), .int (nI j), .int (nI C)]) (rest := [.int (nI (i * 16 + j)), .ref b1]) S (c_X1_stepCost l D cI cR d e1 e2 e3 e4 n P X Y L (((i : Nat) : Int) - 1) j C hge (by omega) (by omega) (by omega)) (zuV wd_408 wd_507 wd_406 wd_407 wd_14) 3 rfl q_X1_stepCost ⟨⟨rfl, rfl⟩, Nat.le_of_ble_eq_true rfl, Nat.le_of_ble_eq_true rfl⟩ hV.1 [4, 5, 6, 7, 8] rfl 4 rfl rfl rfl rfl rfl (Nat.le_of_ble_eq_true rfl) hl.1 ⟨Nat.zero_le _, Nat.zero_le _⟩ dX0_fillSteps_40 ?_
              have g5 := stp_le (P := P) (X := X) (Y := Y) (C := C) (a := (((i : Nat) : Int) - 1)) (b := j) (n := n) hXY (by omega) (by omega)
              refine zz_iast (pc := 43) (k := i * 16 + j) (v := stp P X Y C (((i : Nat) : Int) - 1) j) S hV 1 rfl (by omega) (ws' := [(b, .inr (0, [.ref b1, .ref b2, .ref b3, .int (nI (2 * n)), .int (nI tt), .int (nI kk)])), (b1, zA cI 272 (va_up sg3 (i * 16 + j) (stp P X Y C (((i : Nat) : Int) - 1) j))), (b2, zA cI 4096 rs), (b3, zA cI 8 cd), (d, .inr (1, [.int (nI n), .ref e1, .ref e2, .ref e3, .ref e4])), (e1, zA cI 8 P), (e2, zA cI 16 X), (e3, zA cI 16 Y), (e4, zA cI 8 L)]) rfl dX0_fillSteps_43 (fun H locs hV => ?_)
              refine lv_iinc (pc := 44) (v := nI (j + 1)) (lv' := [(4, .int (nI (j + 1))), (0, .ref b), (1, .ref d), (2, .int (nI C)), (3, .int (zI (((i : Nat) : Int) - 1)))]) S.1 S.2.1 dX0_fillSteps_44 hl (k := 4) rfl (n_add _ _) (by decide) rfl (fun ls hl => ?_)
              refine lv_goto (pc := 47) (tgt := 13) S.1 S.2.1 dX0_fillSteps_47 (by decide) ?_
              have hV : zV D cI cR A [(b, .inr (0, [.ref b1, .ref b2, .ref b3, .int (nI (2 * n)), .int (nI tt), .int (nI kk)])), (b1, zA cI 272 (va_up sg3 (i * 16 + j) (stp P X Y C (((i : Nat) : Int) - 1) j))), (b2, zA cI 4096 rs), (b3, zA cI 8 cd), (d, .inr (1, [.int (nI n), .ref e1, .ref e2, .ref e3, .ref e4])), (e1, zA cI 8 P), (e2, zA cI 16 X), (e3, zA cI 16 Y), (e4, zA cI 8 L)] s H locs := hV.arr 1 rfl (fun j hj => by rfl) rfl
              exact ih4 (j + 1) (va_up sg3 (i * 16 + j) (stp P X Y C (((i : Nat) : Int) - 1) j)) (by omega) (by exact up_le hs3 (by omega)) (by exact fsO_s hn hf3 (by omega) rfl) (by omega) H locs hV ls (lv_sub hl [1, 2, 3, 4, 0] rfl)
        exact L3 (2 * n - 0 + 1) 0 sg2 (by omega) (by exact hs2) (by exact hf2) (Nat.lt_succ_self _) H locs hV ls (lv_sub hl [1, 2, 3, 4, 0] rfl)
  exact L1 (2 * n + 1 - 0 + 1) 0 sg (by omega) (by exact hsg) (by intro i' j' h; omega) (Nat.lt_succ_self _) s.heap [] hV ls (lv_sub hl [1, 2, 3, 0] rfl)
abbrev wm_X0_fillRests : List Cond := .code yX0_fillRests cX0_fillRests 6 none :: wU
theorem q_X0_fillRests : yX0_fillRests.cls = RX0 ∧ yX0_fillRests.cls ≠ "java/lang/invoke/MethodHandle" ∧ yX0_fillRests.cls ≠ "java/lang/invoke/VarHandle" ∧ (parseMethodDescriptor yX0_fillRests.desc).map (fun d => d.parameters.length) = some 1 := by decide +kernel
set_option maxHeartbeats 4000000 in
set_option maxRecDepth 100000 in
theorem c_X0_fillRests (l : Launch) (D : va_G) (cI cR : ClassId) (b b1 b2 b3 tt kk : Nat) (sg rs cd : Nat → Nat) (n : Nat) (P X Y : Nat → Nat) (C : Nat) (a : Nat) (sz : Nat) (hge : zGe n P X Y) (hC : C ≤ 500) (hsg : ∀ j, sg j ≤ 599) (hrs : ∀ j, rs j ≤ 5000) (ha : a < 256) (hfs : fsO P X Y C n sg (2 * n + 1) 0) : Met l yX0_fillRests wm_X0_fillRests ({ frames := 3, cells := 0, slots := 0, locals := 72 } : Room) (va_Pc [.ref b, .int (nI a)] (zX D cI cR [(b, .inr (0, [.ref b1, .ref b2, .ref b3, .int (nI (2 * n)), .int (nI tt), .int (nI kk)])), (b1, zA cI 272 sg), (b2, zA cI 4096 rs), (b3, zA cI 8 cd)] sz)) (zQv D cI cR (va_A [(b, .inr (0, [.ref b1, .ref b2, .ref b3, .int (nI (2 * n)), .int (nI tt), .int (nI kk)])), (b1, zA cI 272 sg), (b2, zA cI 4096 rs), (b3, zA cI 8 cd)] sz) (fun w => ∃ (rs5 : Nat → Nat), w = [(b, .inr (0, [.ref b1, .ref b2, .ref b3, .int (nI (2 * n)), .int (nI tt), .int (nI kk)])), (b1, zA cI 272 sg), (b2, zA cI 4096 rs5), (b3, zA cI 8 cd)] ∧ (∀ j, rs5 j ≤ 5000) ∧ (frO P X Y C n rs5 a 0))) 0 0 (va_A [(b, .inr (0, [.ref b1, .ref b2, .ref b3, .int (nI (2 * n)), .int (nI tt), .int (nI kk)])), (b1, zA cI 272 sg), (b2, zA cI 4096 rs), (b3, zA cI 8 cd)] sz) := by
  refine Met.ofW (cc := cX0_fillRests) (maxL := 6) (ret := none) (by decide) rfl ?_
  intro p e s m args below meth c s₁ B hml hv
  obtain ⟨rfl, hsz, hG, hD0⟩ := hv
  have S : CallFix p m c cX0_fillRests 6 s ([.ref b, .int (nI a)] : List Value).toArray wU RX0 := ⟨B.exec, B.bytes, hml, findClass_of_methodNamed B.named, fun w h => atoms_spec (ws := wm_X0_fillRests) B.pre w (List.mem_cons_of_mem _ h)⟩
  have hr := B.returns
  have hlocks := B.notSynchronized
  subst hsz
  have hD := hD0.self (sz := s.heap.size)
  generalize hAe : va_A [(b, .inr (0, [.ref b1, .ref b2, .ref b3, .int (nI (2 * n)), .int (nI tt), .int (nI kk)])), (b1, zA cI 272 sg), (b2, zA cI 4096 rs), (b3, zA cI 8 cd)] s.heap.size = A at hD ⊢
  have hV : zV D cI cR A [(b, .inr (0, [.ref b1, .ref b2, .ref b3, .int (nI (2 * n)), .int (nI tt), .int (nI kk)])), (b1, zA cI 272 sg), (b2, zA cI 4096 rs), (b3, zA cI 8 cd)] s s.heap [] := ⟨hG, hD, va_S.rf, fun q h => by rw [← hAe]; exact Or.inr h⟩
  have hl := lv_entry ([.ref b, .int (nI a)]) (n := 6) (Nat.le_of_ble_eq_true rfl)
  rw [lg_entry_eq]
  generalize (lg_sl ([.ref b, .int (nI a)]) ++ List.replicate (6 - (lg_sl ([.ref b, .int (nI a)])).length) Slot.unset).toArray = ls at hl ⊢
  have hl : lv_has ls 6 [(0, .ref b), (1, .int (nI a))] := hl
  obtain ⟨hn, hPf, hXY⟩ := id hge
  refine zz_iconst (pc := 0) (v := nI 0) S dX0_fillRests_0 rfl ?_
  refine lv_istore_n (pc := 1) (lv' := [(2, .int (nI 0)), (0, .ref b), (1, .int (nI a))]) S.1 S.2.1 dX0_fillRests_1 rfl hl (by decide) rfl (fun ls hl => ?_)
  have L1 : ∀ (f : Nat) (i : Nat) (rs2 : Nat → Nat), (i ≤ a) → (∀ j, rs2 j ≤ 5000) → (frO P X Y C n rs2 i 0) → a - i < f → ∀ (H : Heap) (locs : List Loc), zV D cI cR A [(b, .inr (0, [.ref b1, .ref b2, .ref b3, .int (nI (2 * n)), .int (nI tt), .int (nI kk)])), (b1, zA cI 272 sg), (b2, zA cI 4096 rs2), (b3, zA cI 8 cd)] s H locs → ∀ ls : Array Slot, lv_has ls 6 [(0, .ref b), (1, .int (nI a)), (2, .int (nI i))] → W p l e (headSpec wm_X0_fillRests ({ frames := 3, cells := 0, slots := 0, locals := 72 } : Room)).room s m ([.ref b, .int (nI a)] : List Value).toArray below meth c H locs 0 0 (MQ below (zQv D cI cR A (fun w => ∃ (rs5 : Nat → Nat), w = [(b, .inr (0, [.ref b1, .ref b2, .ref b3, .int (nI (2 * n)), .int (nI tt), .int (nI kk)])), (b1, zA cI 272 sg), (b2, zA cI 4096 rs5), (b3, zA cI 8 cd)] ∧ (∀ j, rs5 j ≤ 5000) ∧ (frO P X Y C n rs5 a 0))) ([.ref b, .int (nI a)] : List Value).toArray s 0 0 A) (F0 m 2 ls []) := by
    intro f
    induction f with
    | zero => intro i rs2 hi hr2 hf2 hf; exact absurd hf (Nat.not_lt_zero _)
    | succ f ih2 =>
      intro i rs2 hi hr2 hf2 hf H locs hV ls hl
      refine lv_iload_n (pc := 2) S.1 S.2.1 dX0_fillRests_2 rfl (lv_at hl 2 rfl) ?_
      refine lv_iload_n (pc := 3) S.1 S.2.1 dX0_fillRests_3 rfl (lv_at hl 1 rfl) ?_
      refine zz_icmp_ge (pc := 4) (tgt := 78) S dX0_fillRests_4 (by decide) (n_le (by omega) (by omega)) (fun c4 => ?_) (fun c4 => ?_)
      · exact zz_vretM (pc := 78) S hr hlocks hV (⟨rs2, rfl, (by exact hr2), (by rw [← show i = a by omega]; exact hf2)⟩) dX0_fillRests_78
      · refine zz_iconst (pc := 7) (v := nI 0) S dX0_fillRests_7 rfl ?_
        refine lv_istore_n (pc := 8) (lv' := [(3, .int (nI 0)), (0, .ref b), (1, .int (nI a)), (2, .int (nI i))]) S.1 S.2.1 dX0_fillRests_8 rfl hl (by decide) rfl (fun ls hl => ?_)
        have L3 : ∀ (f : Nat) (j : Nat) (rs3 : Nat → Nat), (j ≤ 2 * n) → (∀ j, rs3 j ≤ 5000) → (frO P X Y C n rs3 i j) → 2 * n - j < f → ∀ (H : Heap) (locs : List Loc), zV D cI cR A [(b, .inr (0, [.ref b1, .ref b2, .ref b3, .int (nI (2 * n)), .int (nI tt), .int (nI kk)])), (b1, zA cI 272 sg), (b2, zA cI 4096 rs3), (b3, zA cI 8 cd)] s H locs → ∀ ls : Array Slot, lv_has ls 6 [(0, .ref b), (1, .int (nI a)), (2, .int (nI i)), (3, .int (nI j))] → W p l e (headSpec wm_X0_fillRests ({ frames := 3, cells := 0, slots := 0, locals := 72 } : Room)).room s m ([.ref b, .int (nI a)] : List Value).toArray below meth c H locs 0 0 (MQ below (zQv D cI cR A (fun w => ∃ (rs5 : Nat → Nat), w = [(b, .inr (0, [.ref b1, .ref b2, .ref b3, .int (nI (2 * n)), .int (nI tt), .int (nI kk)])), (b1, zA cI 272 sg), (b2, zA cI 4096 rs5), (b3, zA cI 8 cd)] ∧ (∀ j, rs5 j ≤ 5000) ∧ (frO P X Y C n rs5 a 0))) ([.ref b, .int (nI a)] : List Value).toArray s 0 0 A) (F0 m 9 ls []) := by
          intro f
          induction f with
          | zero => intro j rs3 hj hr3 hf3 hf; exact absurd hf (Nat.not_lt_zero _)
          | succ f ih4 =>
            intro j rs3 hj hr3 hf3 hf H locs hV ls hl
            refine lv_iload_n (pc := 9) S.1 S.2.1 dX0_fillRests_9 rfl (lv_at hl 3 rfl) ?_
            refine lv_aload_n (pc := 10) S.1 S.2.1 dX0_fillRests_10 rfl (lv_at hl 0 rfl) ?_
            refine zz_get (pc := 11) S hV.1 iX0 0 rfl rfl 3 (by decide) wd_501 rfl rfl dX0_fillRests_11 ?_
            refine zz_icmp_ge (pc := 14) (tgt := 72) S dX0_fillRests_14 (by decide) (n_le (by omega) (by omega)) (fun c14 => ?_) (fun c14 => ?_)
            · refine lv_iinc (pc := 72) (v := nI (i + 1)) (lv' := [(2, .int (nI (i + 1))), (0, .ref b), (1, .int (nI a)), (3, .int (nI j))]) S.1 S.2.1 dX0_fillRests_72 hl (k := 2) rfl (n_add _ _) (by decide) rfl (fun ls hl => ?_)
              refine lv_goto (pc := 75) (tgt := 2) S.1 S.2.1 dX0_fillRests_75 (by decide) ?_
              exact ih2 (i + 1) rs3 (by omega) (by exact hr3) (by exact frO_n hf3 (by omega)) (by omega) H locs hV ls (lv_sub hl [1, 2, 0] rfl)
            · refine lv_iload_n (pc := 17) S.1 S.2.1 dX0_fillRests_17 rfl (lv_at hl 2 rfl) ?_
              refine lv_iload_n (pc := 18) S.1 S.2.1 dX0_fillRests_18 rfl (lv_at hl 3 rfl) ?_
              refine zz_callS (pc := 19) (As := [.int (nI i), .int (nI j)]) (rest := []) S (c_X0_contains l D cI cR i j (by omega) (by omega)) (zuS wd_514 wd_512 wd_513 wd_22) 2 rfl q_X0_contains.2 ⟨⟨rfl, rfl⟩, Nat.le_of_ble_eq_true rfl, Nat.le_of_ble_eq_true rfl⟩ rfl rfl (Nat.le_of_ble_eq_true rfl) hl.1 ⟨Nat.zero_le _, Nat.zero_le _⟩ dX0_fillRests_19 ?_
              refine zz_ifb_ne (pc := 22) (tgt := 66) S dX0_fillRests_22 (by decide) (fun c22 => ?_) (fun c22 => ?_)
              · refine lv_iinc (pc := 66) (v := nI (j + 1)) (lv' := [(3, .int (nI (j + 1))), (0, .ref b), (1, .int (nI a)), (2, .int (nI i))]) S.1 S.2.1 dX0_fillRests_66 hl (k := 3) rfl (n_add _ _) (by decide) rfl (fun ls hl => ?_)
                refine lv_goto (pc := 69) (tgt := 9) S.1 S.2.1 dX0_fillRests_69 (by decide) ?_
                exact ih4 (j + 1) rs3 (by omega) (by exact hr3) (by exact frO_k hf3 c22) (by omega) H locs hV ls (lv_sub hl [1, 2, 3, 0] rfl)
              · have hb0 := bgo_eq (P := P) (X := X) (Y := Y) (C := C) (n := n) (sg := sg) (rs := rs3) (S := i) (i := i) (a := ((j : Nat) : Int)) hn (by omega) (by omega) hfs (fun i2 j2 h => hf3 i2 j2 (by omega)) (Nat.le_refl i)
                have hb1 := vl_bd (P := P) (X := X) (Y := Y) (C := C) (n := n) (S := i) (a := ((j : Nat) : Int)) hn hXY hC (by omega) (by omega)
                refine lv_aload_n (pc := 25) S.1 S.2.1 dX0_fillRests_25 rfl (lv_at hl 0 rfl) ?_
                refine lv_iload_n (pc := 26) S.1 S.2.1 dX0_fillRests_26 rfl (lv_at hl 2 rfl) ?_
                refine lv_iload_n (pc := 27) S.1 S.2.1 dX0_fillRests_27 rfl (lv_at hl 3 rfl) ?_
                refine zz_callV (pc := 28) (As := [.int (nI i), .int (zI ((j : Nat) : Int))]) (rest := []) S (c_X0_cheapestNext l D cI cR b b1 b2 b3 (2 * n) tt kk sg rs3 cd i ((j : Nat) : Int) (by omega) (by omega) (by omega) hsg hr3) (zuV wd_518 wd_515 wd_516 wd_517 wd_22) 2 rfl q_X0_cheapestNext ⟨⟨rfl, rfl⟩, Nat.le_of_ble_eq_true rfl, Nat.le_of_ble_eq_true rfl⟩ hV.1 [0, 1, 2, 3] rfl 0 rfl rfl rfl rfl rfl (Nat.le_of_ble_eq_true rfl) hl.1 ⟨Nat.zero_le _, Nat.zero_le _⟩ dX0_fillRests_28 ?_
                have g5 := amf_rng (fun j => inS i j) (fun j => sg ((((j : Nat) : Int) + 1).toNat * 16 + j) + rs3 (clb i (j / 2) * 16 + j)) (2 * n)
                refine zz_cast (v := zI (bgo P X Y C n i ((j : Nat) : Int))) (congrArg zI hb0.1) ?_
                refine lv_istore (pc := 31) (lv' := [(4, .int (zI (bgo P X Y C n i ((j : Nat) : Int)))), (0, .ref b), (1, .int (nI a)), (2, .int (nI i)), (3, .int (nI j))]) S.1 S.2.1 dX0_fillRests_31 hl (by decide) rfl (fun ls hl => ?_)
                have hb2 : -1 ≤ bgo P X Y C n i ((j : Nat) : Int) ∧ bgo P X Y C n i ((j : Nat) : Int) < ((2 * n : Nat) : Int) := amf_rng _ _ _
                have J6 : ∀ ls : Array Slot, lv_has ls 6 [(0, .ref b), (1, .int (nI a)), (2, .int (nI i)), (3, .int (nI j)), (4, .int (zI (bgo P X Y C n i ((j : Nat) : Int))))] → W p l e (headSpec wm_X0_fillRests ({ frames := 3, cells := 0, slots := 0, locals := 72 } : Room)).room s m ([.ref b, .int (nI a)] : List Value).toArray below meth c H locs 0 0 (MQ below (zQv D cI cR A (fun w => ∃ (rs5 : Nat → Nat), w = [(b, .inr (0, [.ref b1, .ref b2, .ref b3, .int (nI (2 * n)), .int (nI tt), .int (nI kk)])), (b1, zA cI 272 sg), (b2, zA cI 4096 rs5), (b3, zA cI 8 cd)] ∧ (∀ j, rs5 j ≤ 5000) ∧ (frO P X Y C n rs5 a 0))) ([.ref b, .int (nI a)] : List Value).toArray s 0 0 A) (F0 m 51 ls [.int (nI (vl P X Y C n i ((j : Nat) : Int)))]) := by
                  intro ls hl
                  refine lv_istore (pc := 51) (lv' := [(5, .int (nI (vl P X Y C n i ((j : Nat) : Int)))), (0, .ref b), (1, .int (nI a)), (2, .int (nI i)), (3, .int (nI j)), (4, .int (zI (bgo P X Y C n i ((j : Nat) : Int))))]) S.1 S.2.1 dX0_fillRests_51 hl (by decide) rfl (fun ls hl => ?_)
                  refine lv_aload_n (pc := 53) S.1 S.2.1 dX0_fillRests_53 rfl (lv_at hl 1 rfl) ?_
                  refine zz_get (pc := 54) S hV.1 iX0 0 rfl rfl 1 (by decide) wd_53 rfl rfl dX0_fillRests_54 ?_
                  refine lv_iload_n (pc := 57) S.1 S.2.1 dX0_fillRests_57 rfl (lv_at hl 3 rfl) ?_
                  refine zz_bipush (pc := 58) (v := nI 16) S dX0_fillRests_58 rfl ?_
                  refine zz_imul (pc := 60) (v := nI (i * 16)) S dX0_fillRests_60 (n_mul _ _) ?_
                  refine lv_iload_n (pc := 61) S.1 S.2.1 dX0_fillRests_61 rfl (lv_at hl 4 rfl) ?_
                  refine zz_iadd (pc := 62) (v := nI (i * 16 + j)) S dX0_fillRests_62 (n_add _ _) ?_
                  refine lv_iload (pc := 63) S.1 S.2.1 dX0_fillRests_63 (lv_at hl 0 rfl) ?_
                  refine zz_iast (pc := 65) (k := i * 16 + j) (v := vl P X Y C n i ((j : Nat) : Int)) S hV 2 rfl (by omega) (ws' := [(b, .inr (0, [.ref b1, .ref b2, .ref b3, .int (nI (2 * n)), .int (nI tt), .int (nI kk)])), (b1, zA cI 272 sg), (b2, zA cI 4096 (va_up rs3 (i * 16 + j) (vl P X Y C n i ((j : Nat) : Int)))), (b3, zA cI 8 cd)]) rfl dX0_fillRests_65 (fun H locs hV => ?_)
                  refine lv_iinc (pc := 66) (v := nI (j + 1)) (lv' := [(3, .int (nI (j + 1))), (5, .int (nI (vl P X Y C n i ((j : Nat) : Int)))), (0, .ref b), (1, .int (nI a)), (2, .int (nI i)), (4, .int (zI (bgo P X Y C n i ((j : Nat) : Int))))]) S.1 S.2.1 dX0_fillRests_66 hl (k := 4) rfl (n_add _ _) (by decide) rfl (fun ls hl => ?_)
                  refine lv_goto (pc := 69) (tgt := 9) S.1 S.2.1 dX0_fillRests_69 (by decide) ?_
                  have hV : zV D cI cR A [(b, .inr (0, [.ref b1, .ref b2, .ref b3, .int (nI (2 * n)), .int (nI tt), .int (nI kk)])), (b1, zA cI 272 sg), (b2, zA cI 4096 (va_up rs3 (i * 16 + j) (vl P X Y C n i ((j : Nat) : Int)))), (b3, zA cI 8 cd)] s H locs := hV.arr 2 rfl (fun j hj => by rfl) rfl
                  exact ih4 (j + 1) (va_up rs3 (i * 16 + j) (vl P X Y C n i ((j : Nat) : Int))) (by omega) (by exact up_le hr3 (by omega)) (by exact frO_s hn hf3 (by omega) rfl) (by omega) H locs hV ls (lv_sub hl [2, 3, 4, 0] rfl)
                refine lv_iload (pc := 33) S.1 S.2.1 dX0_fillRests_33 (lv_at hl 0 rfl) ?_
                refine zz_iconst (pc := 35) (v := zI (-1)) S dX0_fillRests_35 rfl ?_
                refine zz_icmp_ne (pc := 36) (tgt := 43) S dX0_fillRests_36 (by decide) (zI_eq (a := bgo P X Y C n i ((j : Nat) : Int)) (b := (-1)) (by unfold zR; omega) (by unfold zR; omega)) (fun c36 => ?_) (fun c36 => ?_)
                · refine lv_aload_n (pc := 43) S.1 S.2.1 dX0_fillRests_43 rfl (lv_at hl 1 rfl) ?_
                  refine lv_iload_n (pc := 44) S.1 S.2.1 dX0_fillRests_44 rfl (lv_at hl 3 rfl) ?_
                  refine lv_iload_n (pc := 45) S.1 S.2.1 dX0_fillRests_45 rfl (lv_at hl 4 rfl) ?_
                  refine lv_iload (pc := 46) S.1 S.2.1 dX0_fillRests_46 (lv_at hl 0 rfl) ?_
                  refine zz_cast (v := nI ((bgo P X Y C n i ((j : Nat) : Int)).toNat)) (zn_of (by omega)) ?_
                  refine zz_callV (pc := 48) (As := [.int (nI i), .int (zI ((j : Nat) : Int)), .int (nI ((bgo P X Y C n i ((j : Nat) : Int)).toNat))]) (rest := []) S (c_X0_costThrough l D cI cR b b1 b2 b3 (2 * n) tt kk sg rs3 cd i ((j : Nat) : Int) ((bgo P X Y C n i ((j : Nat) : Int)).toNat) (by omega) (by omega) (by omega) hsg hr3) (zuV wd_522 wd_519 wd_520 wd_521 wd_22) 3 rfl q_X0_costThrough ⟨⟨rfl, rfl⟩, Nat.le_of_ble_eq_true rfl, Nat.le_of_ble_eq_true rfl⟩ hV.1 [0, 1, 2, 3] rfl 0 rfl rfl rfl rfl rfl (Nat.le_of_ble_eq_true rfl) hl.1 ⟨Nat.zero_le _, Nat.zero_le _⟩ dX0_fillRests_48 ?_
                  have g7 := hsg ((((j : Nat) : Int) + 1).toNat * 16 + ((bgo P X Y C n i ((j : Nat) : Int)).toNat))
                  have g8 := hrs (clb i (((bgo P X Y C n i ((j : Nat) : Int)).toNat) / 2) * 16 + ((bgo P X Y C n i ((j : Nat) : Int)).toNat))
                  refine zz_cast (v := nI (vl P X Y C n i ((j : Nat) : Int))) (congrArg nI (by first | (rw [vl_un]; exact (amv_nil (by assumption)).symm) | (have hq : ¬ bgo P X Y C n i ((j : Nat) : Int) = -1 := c36; rw [← hb0.2, amv_val (by rw [hb0.1]; exact hq), hb0.1]))) ?_
                  exact J6 ls (lv_sub hl [1, 2, 3, 4, 0] rfl)
                · refine zz_iconst (pc := 39) (v := nI 0) S dX0_fillRests_39 rfl ?_
                  refine lv_goto (pc := 40) (tgt := 51) S.1 S.2.1 dX0_fillRests_40 (by decide) ?_
                  refine zz_cast (v := nI (vl P X Y C n i ((j : Nat) : Int))) (congrArg nI (by first | (rw [vl_un]; exact (amv_nil (by assumption)).symm) | (have hq : ¬ bgo P X Y C n i ((j : Nat) : Int) = -1 := c36; rw [← hb0.2, amv_val (by rw [hb0.1]; exact hq), hb0.1]))) ?_
                  exact J6 ls (lv_sub hl [1, 2, 3, 4, 0] rfl)
        exact L3 (2 * n - 0 + 1) 0 rs2 (by omega) (by exact hr2) (by exact hf2) (Nat.lt_succ_self _) H locs hV ls (lv_sub hl [1, 2, 3, 0] rfl)
  exact L1 (a - 0 + 1) 0 rs (by omega) (by exact hrs) (by intro i' j' h; omega) (Nat.lt_succ_self _) s.heap [] hV ls (lv_sub hl [1, 2, 0] rfl)
abbrev wm_X0_follow : List Cond := .code yX0_follow cX0_follow 6 none :: wU
theorem q_X0_follow : yX0_follow.cls = RX0 ∧ yX0_follow.cls ≠ "java/lang/invoke/MethodHandle" ∧ yX0_follow.cls ≠ "java/lang/invoke/VarHandle" ∧ (parseMethodDescriptor yX0_follow.desc).map (fun d => d.parameters.length) = some 1 := by decide +kernel
set_option maxHeartbeats 4000000 in
set_option maxRecDepth 100000 in
theorem c_X0_follow (l : Launch) (D : va_G) (cI cR : ClassId) (b b1 b2 b3 tt kk : Nat) (sg rs cd : Nat → Nat) (n : Nat) (P X Y : Nat → Nat) (C : Nat) (sz : Nat) (hge : zGe n P X Y) (hC : C ≤ 500) (hsg : ∀ j, sg j ≤ 599) (hrs : ∀ j, rs j ≤ 5000) (hfs : fsO P X Y C n sg (2 * n + 1) 0) (hfr : frO P X Y C n rs (2 ^ n - 1) 0) : Met l yX0_follow wm_X0_follow ({ frames := 3, cells := 0, slots := 0, locals := 72 } : Room) (va_Pc [.ref b, .int (nI n)] (zX D cI cR [(b, .inr (0, [.ref b1, .ref b2, .ref b3, .int (nI (2 * n)), .int (nI tt), .int (nI kk)])), (b1, zA cI 272 sg), (b2, zA cI 4096 rs), (b3, zA cI 8 cd)] sz)) (zQv D cI cR (va_A [(b, .inr (0, [.ref b1, .ref b2, .ref b3, .int (nI (2 * n)), .int (nI tt), .int (nI kk)])), (b1, zA cI 272 sg), (b2, zA cI 4096 rs), (b3, zA cI 8 cd)] sz) (fun w => w = [(b, .inr (0, [.ref b1, .ref b2, .ref b3, .int (nI (2 * n)), .int (nI (btot P X Y C n n)), .int (nI kk)])), (b1, zA cI 272 sg), (b2, zA cI 4096 rs), (b3, zA cI 8 (bcL P X Y C n cd n))])) 0 0 (va_A [(b, .inr (0, [.ref b1, .ref b2, .ref b3, .int (nI (2 * n)), .int (nI tt), .int (nI kk)])), (b1, zA cI 272 sg), (b2, zA cI 4096 rs), (b3, zA cI 8 cd)] sz) := by
  refine Met.ofW (cc := cX0_follow) (maxL := 6) (ret := none) (by decide) rfl ?_
  intro p e s m args below meth c s₁ B hml hv
  obtain ⟨rfl, hsz, hG, hD0⟩ := hv
  have S : CallFix p m c cX0_follow 6 s ([.ref b, .int (nI n)] : List Value).toArray wU RX0 := ⟨B.exec, B.bytes, hml, findClass_of_methodNamed B.named, fun w h => atoms_spec (ws := wm_X0_follow) B.pre w (List.mem_cons_of_mem _ h)⟩
  have hr := B.returns
  have hlocks := B.notSynchronized
  subst hsz
  have hD := hD0.self (sz := s.heap.size)
  generalize hAe : va_A [(b, .inr (0, [.ref b1, .ref b2, .ref b3, .int (nI (2 * n)), .int (nI tt), .int (nI kk)])), (b1, zA cI 272 sg), (b2, zA cI 4096 rs), (b3, zA cI 8 cd)] s.heap.size = A at hD ⊢
  have hV : zV D cI cR A [(b, .inr (0, [.ref b1, .ref b2, .ref b3, .int (nI (2 * n)), .int (nI tt), .int (nI kk)])), (b1, zA cI 272 sg), (b2, zA cI 4096 rs), (b3, zA cI 8 cd)] s s.heap [] := ⟨hG, hD, va_S.rf, fun q h => by rw [← hAe]; exact Or.inr h⟩
  have hl := lv_entry ([.ref b, .int (nI n)]) (n := 6) (Nat.le_of_ble_eq_true rfl)
  rw [lg_entry_eq]
  generalize (lg_sl ([.ref b, .int (nI n)]) ++ List.replicate (6 - (lg_sl ([.ref b, .int (nI n)])).length) Slot.unset).toArray = ls at hl ⊢
  have hl : lv_has ls 6 [(0, .ref b), (1, .int (nI n))] := hl
  obtain ⟨hn, hPf, hXY⟩ := id hge
  have hpw : 0 < 2 ^ n := Nat.pow_pos (by decide)
  have hp2 := (crd_full n hn).2
  refine zz_iconst (pc := 0) (v := nI 1) S dX0_follow_0 rfl ?_
  refine lv_iload_n (pc := 1) S.1 S.2.1 dX0_follow_1 rfl (lv_at hl 1 rfl) ?_
  refine zz_ishl (pc := 2) (v := nI (2 ^ n)) S dX0_follow_2 (n_shl1 (by omega)) ?_
  refine zz_iconst (pc := 3) (v := nI 1) S dX0_follow_3 rfl ?_
  refine zz_isub (pc := 4) (v := nI ((2 ^ n) - 1)) S dX0_follow_4 (n_sub (by omega)) ?_
  refine lv_istore_n (pc := 5) (lv' := [(2, .int (nI ((2 ^ n) - 1))), (0, .ref b), (1, .int (nI n))]) S.1 S.2.1 dX0_follow_5 rfl hl (by decide) rfl (fun ls hl => ?_)
  refine zz_iconst (pc := 6) (v := zI (-1)) S dX0_follow_6 rfl ?_
  refine lv_istore_n (pc := 7) (lv' := [(3, .int (zI (-1))), (2, .int (nI ((2 ^ n) - 1))), (0, .ref b), (1, .int (nI n))]) S.1 S.2.1 dX0_follow_7 rfl hl (by decide) rfl (fun ls hl => ?_)
  refine lv_aload_n (pc := 8) S.1 S.2.1 dX0_follow_8 rfl (lv_at hl 2 rfl) ?_
  refine zz_iconst (pc := 9) (v := nI 0) S dX0_follow_9 rfl ?_
  refine zz_put (pc := 10) (v := .int (nI 0)) (ty := .int) S hV iX0 tyX0 tyX0_ok nmX0 0 rfl rfl 4 (by decide) wd_538 rfl rfl (by decide +kernel) rfl rfl (Nat.le_of_ble_eq_true rfl) (ws' := [(b, .inr (0, [.ref b1, .ref b2, .ref b3, .int (nI (2 * n)), .int (nI 0), .int (nI kk)])), (b1, zA cI 272 sg), (b2, zA cI 4096 rs), (b3, zA cI 8 cd)]) rfl dX0_follow_10 (fun H locs hV => ?_)
  refine zz_iconst (pc := 13) (v := nI 0) S dX0_follow_13 rfl ?_
  refine lv_istore (pc := 14) (lv' := [(4, .int (nI 0)), (3, .int (zI (-1))), (2, .int (nI ((2 ^ n) - 1))), (0, .ref b), (1, .int (nI n))]) S.1 S.2.1 dX0_follow_14 hl (by decide) rfl (fun ls hl => ?_)
  have L1 : ∀ (f : Nat) (k : Nat), (k ≤ n) → n - k < f → ∀ (H : Heap) (locs : List Loc), zV D cI cR A [(b, .inr (0, [.ref b1, .ref b2, .ref b3, .int (nI (2 * n)), .int (nI (btot P X Y C n k)), .int (nI kk)])), (b1, zA cI 272 sg), (b2, zA cI 4096 rs), (b3, zA cI 8 (bcL P X Y C n cd k))] s H locs → ∀ ls : Array Slot, lv_has ls 6 [(0, .ref b), (1, .int (nI n)), (2, .int (nI ((bsq P X Y C n k).1))), (3, .int (zI ((bsq P X Y C n k).2))), (4, .int (nI k))] → W p l e (headSpec wm_X0_follow ({ frames := 3, cells := 0, slots := 0, locals := 72 } : Room)).room s m ([.ref b, .int (nI n)] : List Value).toArray below meth c H locs 0 0 (MQ below (zQv D cI cR A (fun w => w = [(b, .inr (0, [.ref b1, .ref b2, .ref b3, .int (nI (2 * n)), .int (nI (btot P X Y C n n)), .int (nI kk)])), (b1, zA cI 272 sg), (b2, zA cI 4096 rs), (b3, zA cI 8 (bcL P X Y C n cd n))])) ([.ref b, .int (nI n)] : List Value).toArray s 0 0 A) (F0 m 16 ls []) := by
    intro f
    induction f with
    | zero => intro k hk hf; exact absurd hf (Nat.not_lt_zero _)
    | succ f ih2 =>
      intro k hk hf H locs hV ls hl
      have hq := bsq_ok P X Y C n hn k hk
      obtain ⟨h2, h3, h4, h5⟩ := hq
      refine lv_iload (pc := 16) S.1 S.2.1 dX0_follow_16 (lv_at hl 4 rfl) ?_
      refine lv_iload_n (pc := 18) S.1 S.2.1 dX0_follow_18 rfl (lv_at hl 1 rfl) ?_
      refine zz_icmp_ge (pc := 19) (tgt := 71) S dX0_follow_19 (by decide) (n_le (by omega) (by omega)) (fun c19 => ?_) (fun c19 => ?_)
      · rw [show k = n by omega] at hV
        exact zz_vretM (pc := 71) S hr hlocks hV (rfl) dX0_follow_71
      · have hz := bcd_z (P := P) (X := X) (Y := Y) (C := C) (n := n) (k := k) hn (by omega)
        obtain ⟨z1, z2, z3⟩ := hz
        have hle := bsq_le P X Y C n k
        have hb0 := bgo_eq (P := P) (X := X) (Y := Y) (C := C) (n := n) (sg := sg) (rs := rs) (S := (bsq P X Y C n k).1) (i := 2 ^ n - 1) (a := (bsq P X Y C n k).2) hn h2 h4 hfs hfr hle
        have hs0 : sg (((bsq P X Y C n k).2 + 1).toNat * 16 + bcd P X Y C n k) = stp P X Y C (bsq P X Y C n k).2 (bcd P X Y C n k) := by have q := hfs ((bsq P X Y C n k).2 + 1).toNat (bcd P X Y C n k) (by omega); rw [show ((((bsq P X Y C n k).2 + 1).toNat : Nat) : Int) - 1 = (bsq P X Y C n k).2 by omega] at q; exact q
        refine lv_aload_n (pc := 22) S.1 S.2.1 dX0_follow_22 rfl (lv_at hl 0 rfl) ?_
        refine lv_iload_n (pc := 23) S.1 S.2.1 dX0_follow_23 rfl (lv_at hl 2 rfl) ?_
        refine lv_iload_n (pc := 24) S.1 S.2.1 dX0_follow_24 rfl (lv_at hl 3 rfl) ?_
        refine zz_callV (pc := 25) (As := [.int (nI ((bsq P X Y C n k).1)), .int (zI ((bsq P X Y C n k).2))]) (rest := []) S (c_X0_cheapestNext l D cI cR b b1 b2 b3 (2 * n) (btot P X Y C n k) kk sg rs (bcL P X Y C n cd k) ((bsq P X Y C n k).1) ((bsq P X Y C n k).2) (by omega) (by omega) (by omega) hsg hrs) (zuV wd_518 wd_515 wd_516 wd_517 wd_22) 2 rfl q_X0_cheapestNext ⟨⟨rfl, rfl⟩, Nat.le_of_ble_eq_true rfl, Nat.le_of_ble_eq_true rfl⟩ hV.1 [0, 1, 2, 3] rfl 0 rfl rfl rfl rfl rfl (Nat.le_of_ble_eq_true rfl) hl.1 ⟨Nat.zero_le _, Nat.zero_le _⟩ dX0_follow_25 ?_
        have g3 := amf_rng (fun j => inS ((bsq P X Y C n k).1) j) (fun j => sg ((((bsq P X Y C n k).2) + 1).toNat * 16 + j) + rs (clb ((bsq P X Y C n k).1) (j / 2) * 16 + j)) (2 * n)
        refine zz_cast (v := nI (bcd P X Y C n k)) ((congrArg zI (hb0.1.trans z1)).trans (zI_nI _)) ?_
        refine lv_istore (pc := 28) (lv' := [(5, .int (nI (bcd P X Y C n k))), (0, .ref b), (1, .int (nI n)), (2, .int (nI ((bsq P X Y C n k).1))), (3, .int (zI ((bsq P X Y C n k).2))), (4, .int (nI k))]) S.1 S.2.1 dX0_follow_28 hl (by decide) rfl (fun ls hl => ?_)
        refine lv_aload_n (pc := 30) S.1 S.2.1 dX0_follow_30 rfl (lv_at hl 1 rfl) ?_
        refine lv_dup (pc := 31) S.1 S.2.1 dX0_follow_31 rfl ?_
        refine zz_get (pc := 32) S hV.1 iX0 0 rfl rfl 4 (by decide) wd_538 rfl rfl dX0_follow_32 ?_
        refine lv_aload_n (pc := 35) S.1 S.2.1 dX0_follow_35 rfl (lv_at hl 1 rfl) ?_
        refine lv_iload_n (pc := 36) S.1 S.2.1 dX0_follow_36 rfl (lv_at hl 4 rfl) ?_
        refine lv_iload (pc := 37) S.1 S.2.1 dX0_follow_37 (lv_at hl 0 rfl) ?_
        refine zz_callV (pc := 39) (As := [.int (zI ((bsq P X Y C n k).2)), .int (nI (bcd P X Y C n k))]) (rest := [.int (nI (btot P X Y C n k)), .ref b]) S (c_X0_stepAt l D cI cR b b1 b2 b3 (2 * n) (btot P X Y C n k) kk sg rs (bcL P X Y C n cd k) ((bsq P X Y C n k).2) (bcd P X Y C n k) (by omega) (by omega)) (zuV wd_526 wd_523 wd_524 wd_525 wd_22) 2 rfl q_X0_stepAt ⟨⟨rfl, rfl⟩, Nat.le_of_ble_eq_true rfl, Nat.le_of_ble_eq_true rfl⟩ hV.1 [0, 1, 2, 3] rfl 0 rfl rfl rfl rfl rfl (Nat.le_of_ble_eq_true rfl) hl.1 ⟨Nat.zero_le _, Nat.zero_le _⟩ dX0_follow_39 ?_
        have g4 := hsg ((((bsq P X Y C n k).2) + 1).toNat * 16 + (bcd P X Y C n k))
        refine zz_cast (v := nI (stp P X Y C (bsq P X Y C n k).2 (bcd P X Y C n k))) (congrArg nI hs0) ?_
        refine zz_iadd (pc := 42) (v := nI (btot P X Y C n k + (stp P X Y C (bsq P X Y C n k).2 (bcd P X Y C n k)))) S dX0_follow_42 (n_add _ _) ?_
        refine zz_put (pc := 43) (v := .int (nI (btot P X Y C n k + (stp P X Y C (bsq P X Y C n k).2 (bcd P X Y C n k))))) (ty := .int) S hV iX0 tyX0 tyX0_ok nmX0 0 rfl rfl 4 (by decide) wd_538 rfl rfl (by decide +kernel) rfl rfl (Nat.le_of_ble_eq_true rfl) (ws' := [(b, .inr (0, [.ref b1, .ref b2, .ref b3, .int (nI (2 * n)), .int (nI (btot P X Y C n k + (stp P X Y C (bsq P X Y C n k).2 (bcd P X Y C n k)))), .int (nI kk)])), (b1, zA cI 272 sg), (b2, zA cI 4096 rs), (b3, zA cI 8 (bcL P X Y C n cd k))]) rfl dX0_follow_43 (fun H locs hV => ?_)
        refine lv_aload_n (pc := 46) S.1 S.2.1 dX0_follow_46 rfl (lv_at hl 1 rfl) ?_
        refine zz_get (pc := 47) S hV.1 iX0 0 rfl rfl 2 (by decide) wd_54 rfl rfl dX0_follow_47 ?_
        refine lv_iload (pc := 50) S.1 S.2.1 dX0_follow_50 (lv_at hl 5 rfl) ?_
        refine lv_iload (pc := 52) S.1 S.2.1 dX0_follow_52 (lv_at hl 0 rfl) ?_
        refine zz_iast (pc := 54) (k := k) (v := bcd P X Y C n k) S hV 3 rfl (by omega) (ws' := [(b, .inr (0, [.ref b1, .ref b2, .ref b3, .int (nI (2 * n)), .int (nI (btot P X Y C n k + (stp P X Y C (bsq P X Y C n k).2 (bcd P X Y C n k)))), .int (nI kk)])), (b1, zA cI 272 sg), (b2, zA cI 4096 rs), (b3, zA cI 8 (va_up (bcL P X Y C n cd k) k (bcd P X Y C n k)))]) rfl dX0_follow_54 (fun H locs hV => ?_)
        refine lv_iload_n (pc := 55) S.1 S.2.1 dX0_follow_55 rfl (lv_at hl 3 rfl) ?_
        refine lv_iload (pc := 56) S.1 S.2.1 dX0_follow_56 (lv_at hl 0 rfl) ?_
        refine zz_callS (pc := 58) (As := [.int (nI ((bsq P X Y C n k).1)), .int (nI (bcd P X Y C n k))]) (rest := []) S (c_X0_without l D cI cR ((bsq P X Y C n k).1) (bcd P X Y C n k) (by omega) (by omega)) (zuS wd_529 wd_527 wd_528 wd_22) 2 rfl q_X0_without.2 ⟨⟨rfl, rfl⟩, Nat.le_of_ble_eq_true rfl, Nat.le_of_ble_eq_true rfl⟩ rfl rfl (Nat.le_of_ble_eq_true rfl) hl.1 ⟨Nat.zero_le _, Nat.zero_le _⟩ dX0_follow_58 ?_
        have g5 := clb_le ((bsq P X Y C n k).1) ((bcd P X Y C n k) / 2)
        refine lv_istore_n (pc := 61) (lv' := [(2, .int (nI (clb ((bsq P X Y C n k).1) ((bcd P X Y C n k) / 2)))), (5, .int (nI (bcd P X Y C n k))), (0, .ref b), (1, .int (nI n)), (3, .int (zI ((bsq P X Y C n k).2))), (4, .int (nI k))]) S.1 S.2.1 dX0_follow_61 rfl hl (by decide) rfl (fun ls hl => ?_)
        refine lv_iload (pc := 62) S.1 S.2.1 dX0_follow_62 (lv_at hl 1 rfl) ?_
        refine lv_istore_n (pc := 64) (lv' := [(3, .int (nI (bcd P X Y C n k))), (2, .int (nI (clb ((bsq P X Y C n k).1) ((bcd P X Y C n k) / 2)))), (5, .int (nI (bcd P X Y C n k))), (0, .ref b), (1, .int (nI n)), (4, .int (nI k))]) S.1 S.2.1 dX0_follow_64 rfl hl (by decide) rfl (fun ls hl => ?_)
        refine lv_iinc (pc := 65) (v := nI (k + 1)) (lv' := [(4, .int (nI (k + 1))), (3, .int (nI (bcd P X Y C n k))), (2, .int (nI (clb ((bsq P X Y C n k).1) ((bcd P X Y C n k) / 2)))), (5, .int (nI (bcd P X Y C n k))), (0, .ref b), (1, .int (nI n))]) S.1 S.2.1 dX0_follow_65 hl (k := 5) rfl (n_add _ _) (by decide) rfl (fun ls hl => ?_)
        refine lv_goto (pc := 68) (tgt := 16) S.1 S.2.1 dX0_follow_68 (by decide) ?_
        have hV : zV D cI cR A [(b, .inr (0, [.ref b1, .ref b2, .ref b3, .int (nI (2 * n)), .int (nI (btot P X Y C n k + (stp P X Y C (bsq P X Y C n k).2 (bcd P X Y C n k)))), .int (nI kk)])), (b1, zA cI 272 sg), (b2, zA cI 4096 rs), (b3, zA cI 8 (bcL P X Y C n cd (k + 1)))] s H locs := hV.arr 3 rfl (fun j hj => by exact bcL_s P X Y C n cd k j) rfl
        exact ih2 (k + 1) (by omega) (by omega) H locs hV ls (by rw [(bcd_z hn (by omega)).1]; exact lv_sub hl [4, 5, 2, 1, 0] rfl)
  have hV : zV D cI cR A [(b, .inr (0, [.ref b1, .ref b2, .ref b3, .int (nI (2 * n)), .int (nI 0), .int (nI kk)])), (b1, zA cI 272 sg), (b2, zA cI 4096 rs), (b3, zA cI 8 (bcL P X Y C n cd 0))] s H locs := hV.arr 3 rfl (fun j hj => by rfl) rfl
  exact L1 (n - 0 + 1) 0 (by omega) (Nat.lt_succ_self _) H locs hV ls (lv_sub hl [3, 4, 2, 1, 0] rfl)
abbrev wm_X0_find : List Cond := .code yX0_find cX0_find 4 none :: wU
theorem q_X0_find : yX0_find.cls = RX0 ∧ yX0_find.cls ≠ "java/lang/invoke/MethodHandle" ∧ yX0_find.cls ≠ "java/lang/invoke/VarHandle" ∧ (parseMethodDescriptor yX0_find.desc).map (fun d => d.parameters.length) = some 2 := by decide +kernel
set_option maxHeartbeats 4000000 in
set_option maxRecDepth 100000 in
theorem c_X0_find (l : Launch) (D : va_G) (cI cR : ClassId) (b b1 b2 b3 cc tt kk : Nat) (sg rs cd : Nat → Nat) (d e1 e2 e3 e4 n : Nat) (P X Y L : Nat → Nat) (C : Nat) (sz : Nat) (hge : zGe n P X Y) (hC : C ≤ 500) (hbp : bpI P X Y C n sg rs cd tt kk) : Met l yX0_find wm_X0_find ({ frames := 5, cells := 0, slots := 0, locals := 112 } : Room) (va_Pc [.ref b, .ref d, .int (nI C)] (zX D cI cR [(b, .inr (0, [.ref b1, .ref b2, .ref b3, .int (nI cc), .int (nI tt), .int (nI kk)])), (b1, zA cI 272 sg), (b2, zA cI 4096 rs), (b3, zA cI 8 cd), (d, .inr (1, [.int (nI n), .ref e1, .ref e2, .ref e3, .ref e4])), (e1, zA cI 8 P), (e2, zA cI 16 X), (e3, zA cI 16 Y), (e4, zA cI 8 L)] sz)) (zQv D cI cR (va_A [(b, .inr (0, [.ref b1, .ref b2, .ref b3, .int (nI cc), .int (nI tt), .int (nI kk)])), (b1, zA cI 272 sg), (b2, zA cI 4096 rs), (b3, zA cI 8 cd), (d, .inr (1, [.int (nI n), .ref e1, .ref e2, .ref e3, .ref e4])), (e1, zA cI 8 P), (e2, zA cI 16 X), (e3, zA cI 16 Y), (e4, zA cI 8 L)] sz) (fun w => ∃ (sg5 : Nat → Nat) (rs5 : Nat → Nat) (cd5 : Nat → Nat) (cc5 : Nat) (tt5 : Nat), w = [(b, .inr (0, [.ref b1, .ref b2, .ref b3, .int (nI cc5), .int (nI tt5), .int (nI 1)])), (b1, zA cI 272 sg5), (b2, zA cI 4096 rs5), (b3, zA cI 8 cd5), (d, .inr (1, [.int (nI n), .ref e1, .ref e2, .ref e3, .ref e4])), (e1, zA cI 8 P), (e2, zA cI 16 X), (e3, zA cI 16 Y), (e4, zA cI 8 L)] ∧ (bpI P X Y C n sg5 rs5 cd5 tt5 1))) 0 0 (va_A [(b, .inr (0, [.ref b1, .ref b2, .ref b3, .int (nI cc), .int (nI tt), .int (nI kk)])), (b1, zA cI 272 sg), (b2, zA cI 4096 rs), (b3, zA cI 8 cd), (d, .inr (1, [.int (nI n), .ref e1, .ref e2, .ref e3, .ref e4])), (e1, zA cI 8 P), (e2, zA cI 16 X), (e3, zA cI 16 Y), (e4, zA cI 8 L)] sz) := by
  refine Met.ofW (cc := cX0_find) (maxL := 4) (ret := none) (by decide) rfl ?_
  intro p e s m args below meth c s₁ B hml hv
  obtain ⟨rfl, hsz, hG, hD0⟩ := hv
  have S : CallFix p m c cX0_find 4 s ([.ref b, .ref d, .int (nI C)] : List Value).toArray wU RX0 := ⟨B.exec, B.bytes, hml, findClass_of_methodNamed B.named, fun w h => atoms_spec (ws := wm_X0_find) B.pre w (List.mem_cons_of_mem _ h)⟩
  have hr := B.returns
  have hlocks := B.notSynchronized
  subst hsz
  have hD := hD0.self (sz := s.heap.size)
  generalize hAe : va_A [(b, .inr (0, [.ref b1, .ref b2, .ref b3, .int (nI cc), .int (nI tt), .int (nI kk)])), (b1, zA cI 272 sg), (b2, zA cI 4096 rs), (b3, zA cI 8 cd), (d, .inr (1, [.int (nI n), .ref e1, .ref e2, .ref e3, .ref e4])), (e1, zA cI 8 P), (e2, zA cI 16 X), (e3, zA cI 16 Y), (e4, zA cI 8 L)] s.heap.size = A at hD ⊢
  have hV : zV D cI cR A [(b, .inr (0, [.ref b1, .ref b2, .ref b3, .int (nI cc), .int (nI tt), .int (nI kk)])), (b1, zA cI 272 sg), (b2, zA cI 4096 rs), (b3, zA cI 8 cd), (d, .inr (1, [.int (nI n), .ref e1, .ref e2, .ref e3, .ref e4])), (e1, zA cI 8 P), (e2, zA cI 16 X), (e3, zA cI 16 Y), (e4, zA cI 8 L)] s s.heap [] := ⟨hG, hD, va_S.rf, fun q h => by rw [← hAe]; exact Or.inr h⟩
  have hl := lv_entry ([.ref b, .ref d, .int (nI C)]) (n := 4) (Nat.le_of_ble_eq_true rfl)
  rw [lg_entry_eq]
  generalize (lg_sl ([.ref b, .ref d, .int (nI C)]) ++ List.replicate (4 - (lg_sl ([.ref b, .ref d, .int (nI C)])).length) Slot.unset).toArray = ls at hl ⊢
  have hl : lv_has ls 4 [(0, .ref b), (1, .ref d), (2, .int (nI C))] := hl
  obtain ⟨hn, hPf, hXY⟩ := id hge
  obtain ⟨hsg, hrs, hkk, hknown⟩ := id hbp
  have hpw : 0 < 2 ^ n := Nat.pow_pos (by decide)
  have hp2 := (crd_full n hn).2
  refine lv_aload_n (pc := 0) S.1 S.2.1 dX0_find_0 rfl (lv_at hl 0 rfl) ?_
  refine zz_get (pc := 1) S hV.1 iX0 0 rfl rfl 5 (by decide) wd_124 rfl rfl dX0_find_1 ?_
  refine zz_if_eq (pc := 4) (tgt := 8) S dX0_find_4 (by decide) (n_eq0 (by omega)) (fun c4 => ?_) (fun c4 => ?_)
  · refine lv_aload_n (pc := 8) S.1 S.2.1 dX0_find_8 rfl (lv_at hl 1 rfl) ?_
    refine zz_callV (pc := 9) (As := []) (rest := []) S (c_X1_size l D cI cR d e1 e2 e3 e4 n P X Y L hge) (zuV wd_92 wd_502 wd_90 wd_91 wd_14) 0 rfl q_X1_size ⟨⟨rfl, rfl⟩, Nat.le_of_ble_eq_true rfl, Nat.le_of_ble_eq_true rfl⟩ hV.1 [4, 5, 6, 7, 8] rfl 4 rfl rfl rfl rfl rfl (Nat.le_of_ble_eq_true rfl) hl.1 ⟨Nat.zero_le _, Nat.zero_le _⟩ dX0_find_9 ?_
    refine zz_bipush (pc := 12) (v := nI 8) S dX0_find_12 rfl ?_
    refine zz_min (pc := 14) (v := nI (min n 8)) S wd_500 wd_105 wd_106 wd_107 ⟨Nat.le_of_ble_eq_true rfl, Nat.le_of_ble_eq_true rfl⟩ ⟨Nat.zero_le _, Nat.zero_le _⟩ hl.1 dX0_find_14 (n_min (by omega) (by omega)) ?_
    refine zz_cast (v := nI n) (congrArg nI (by omega)) ?_
    refine lv_istore_n (pc := 17) (lv' := [(3, .int (nI n)), (0, .ref b), (1, .ref d), (2, .int (nI C))]) S.1 S.2.1 dX0_find_17 rfl hl (by decide) rfl (fun ls hl => ?_)
    refine lv_aload_n (pc := 18) S.1 S.2.1 dX0_find_18 rfl (lv_at hl 1 rfl) ?_
    refine zz_iconst (pc := 19) (v := nI 2) S dX0_find_19 rfl ?_
    refine lv_iload_n (pc := 20) S.1 S.2.1 dX0_find_20 rfl (lv_at hl 0 rfl) ?_
    refine zz_imul (pc := 21) (v := nI (2 * n)) S dX0_find_21 (n_mul _ _) ?_
    refine zz_put (pc := 22) (v := .int (nI (2 * n))) (ty := .int) S hV iX0 tyX0 tyX0_ok nmX0 0 rfl rfl 3 (by decide) wd_501 rfl rfl (by decide +kernel) rfl rfl (Nat.le_of_ble_eq_true rfl) (ws' := [(b, .inr (0, [.ref b1, .ref b2, .ref b3, .int (nI (2 * n)), .int (nI tt), .int (nI kk)])), (b1, zA cI 272 sg), (b2, zA cI 4096 rs), (b3, zA cI 8 cd), (d, .inr (1, [.int (nI n), .ref e1, .ref e2, .ref e3, .ref e4])), (e1, zA cI 8 P), (e2, zA cI 16 X), (e3, zA cI 16 Y), (e4, zA cI 8 L)]) rfl dX0_find_22 (fun H locs hV => ?_)
    refine lv_aload_n (pc := 25) S.1 S.2.1 dX0_find_25 rfl (lv_at hl 1 rfl) ?_
    refine lv_aload_n (pc := 26) S.1 S.2.1 dX0_find_26 rfl (lv_at hl 2 rfl) ?_
    refine lv_iload_n (pc := 27) S.1 S.2.1 dX0_find_27 rfl (lv_at hl 3 rfl) ?_
    refine zz_callMv (pc := 28) (As := [.ref d, .int (nI C)]) (rest := []) (wr := []) S hV (c_X0_fillSteps l D cI cR b b1 b2 b3 tt kk sg rs cd d e1 e2 e3 e4 n P X Y L C H.size hge (by omega) hsg) (zuV wd_506 wd_503 wd_504 wd_505 wd_22) 2 rfl q_X0_fillSteps ⟨⟨rfl, rfl⟩, Nat.le_of_ble_eq_true rfl, Nat.le_of_ble_eq_true rfl⟩ [0, 1, 2, 3, 4, 5, 6, 7, 8] [] rfl rfl (by decide) (by decide) (by decide) 0 rfl rfl rfl rfl rfl (Nat.le_of_ble_eq_true rfl) hl.1 ⟨Nat.zero_le _, Nat.zero_le _⟩ dX0_find_28 (fun w1 H locs hp hV => ?_)
    obtain ⟨sg5x1, rfl, hsg5x1, hfs5x1⟩ := hp
    have hV : zV D cI cR A [(b, .inr (0, [.ref b1, .ref b2, .ref b3, .int (nI (2 * n)), .int (nI tt), .int (nI kk)])), (b1, zA cI 272 sg5x1), (b2, zA cI 4096 rs), (b3, zA cI 8 cd), (d, .inr (1, [.int (nI n), .ref e1, .ref e2, .ref e3, .ref e4])), (e1, zA cI 8 P), (e2, zA cI 16 X), (e3, zA cI 16 Y), (e4, zA cI 8 L)] s H locs := hV.perm [0, 1, 2, 3, 4, 5, 6, 7, 8] (by decide) rfl
    refine lv_aload_n (pc := 31) S.1 S.2.1 dX0_find_31 rfl (lv_at hl 1 rfl) ?_
    refine zz_iconst (pc := 32) (v := nI 1) S dX0_find_32 rfl ?_
    refine lv_iload_n (pc := 33) S.1 S.2.1 dX0_find_33 rfl (lv_at hl 0 rfl) ?_
    refine zz_ishl (pc := 34) (v := nI (2 ^ n)) S dX0_find_34 (n_shl1 (by omega)) ?_
    refine zz_iconst (pc := 35) (v := nI 1) S dX0_find_35 rfl ?_
    refine zz_isub (pc := 36) (v := nI ((2 ^ n) - 1)) S dX0_find_36 (n_sub (by omega)) ?_
    refine zz_callMv (pc := 37) (As := [.int (nI ((2 ^ n) - 1))]) (rest := []) (wr := [(d, .inr (1, [.int (nI n), .ref e1, .ref e2, .ref e3, .ref e4])), (e1, zA cI 8 P), (e2, zA cI 16 X), (e3, zA cI 16 Y), (e4, zA cI 8 L)]) S hV (c_X0_fillRests l D cI cR b b1 b2 b3 tt kk sg5x1 rs cd n P X Y C ((2 ^ n) - 1) H.size hge (by omega) hsg5x1 hrs (by omega) hfs5x1) (zuV wd_511 wd_508 wd_509 wd_510 wd_22) 1 rfl q_X0_fillRests ⟨⟨rfl, rfl⟩, Nat.le_of_ble_eq_true rfl, Nat.le_of_ble_eq_true rfl⟩ [0, 1, 2, 3] [4, 5, 6, 7, 8] rfl rfl (by decide) (by decide) (by decide) 0 rfl rfl rfl rfl rfl (Nat.le_of_ble_eq_true rfl) hl.1 ⟨Nat.zero_le _, Nat.zero_le _⟩ dX0_find_37 (fun w1 H locs hp hV => ?_)
    obtain ⟨rs5x2, rfl, hrs5x2, hfr5x2⟩ := hp
    have hV : zV D cI cR A [(b, .inr (0, [.ref b1, .ref b2, .ref b3, .int (nI (2 * n)), .int (nI tt), .int (nI kk)])), (b1, zA cI 272 sg5x1), (b2, zA cI 4096 rs5x2), (b3, zA cI 8 cd), (d, .inr (1, [.int (nI n), .ref e1, .ref e2, .ref e3, .ref e4])), (e1, zA cI 8 P), (e2, zA cI 16 X), (e3, zA cI 16 Y), (e4, zA cI 8 L)] s H locs := hV.perm [5, 6, 7, 8, 0, 1, 2, 3, 4] (by decide) rfl
    refine lv_aload_n (pc := 40) S.1 S.2.1 dX0_find_40 rfl (lv_at hl 1 rfl) ?_
    refine lv_iload_n (pc := 41) S.1 S.2.1 dX0_find_41 rfl (lv_at hl 0 rfl) ?_
    refine zz_callMv (pc := 42) (As := [.int (nI n)]) (rest := []) (wr := [(d, .inr (1, [.int (nI n), .ref e1, .ref e2, .ref e3, .ref e4])), (e1, zA cI 8 P), (e2, zA cI 16 X), (e3, zA cI 16 Y), (e4, zA cI 8 L)]) S hV (c_X0_follow l D cI cR b b1 b2 b3 tt kk sg5x1 rs5x2 cd n P X Y C H.size hge (by omega) hsg5x1 hrs5x2 hfs5x1 hfr5x2) (zuV wd_537 wd_534 wd_535 wd_536 wd_22) 1 rfl q_X0_follow ⟨⟨rfl, rfl⟩, Nat.le_of_ble_eq_true rfl, Nat.le_of_ble_eq_true rfl⟩ [0, 1, 2, 3] [4, 5, 6, 7, 8] rfl rfl (by decide) (by decide) (by decide) 0 rfl rfl rfl rfl rfl (Nat.le_of_ble_eq_true rfl) hl.1 ⟨Nat.zero_le _, Nat.zero_le _⟩ dX0_find_42 (fun w1 H locs hp hV => ?_)
    obtain rfl := hp
    have hV : zV D cI cR A [(b, .inr (0, [.ref b1, .ref b2, .ref b3, .int (nI (2 * n)), .int (nI (btot P X Y C n n)), .int (nI kk)])), (b1, zA cI 272 sg5x1), (b2, zA cI 4096 rs5x2), (b3, zA cI 8 (bcL P X Y C n cd n)), (d, .inr (1, [.int (nI n), .ref e1, .ref e2, .ref e3, .ref e4])), (e1, zA cI 8 P), (e2, zA cI 16 X), (e3, zA cI 16 Y), (e4, zA cI 8 L)] s H locs := hV.perm [5, 6, 7, 8, 0, 1, 2, 3, 4] (by decide) rfl
    refine lv_aload_n (pc := 45) S.1 S.2.1 dX0_find_45 rfl (lv_at hl 1 rfl) ?_
    refine zz_iconst (pc := 46) (v := nI 1) S dX0_find_46 rfl ?_
    refine zz_put (pc := 47) (v := .int (nI 1)) (ty := .boolean) S hV iX0 tyX0 tyX0_ok nmX0 0 rfl rfl 5 (by decide) wd_124 rfl rfl (by decide +kernel) (by decide) (by decide) (Nat.le_of_ble_eq_true rfl) (ws' := [(b, .inr (0, [.ref b1, .ref b2, .ref b3, .int (nI (2 * n)), .int (nI (btot P X Y C n n)), .int (nI 1)])), (b1, zA cI 272 sg5x1), (b2, zA cI 4096 rs5x2), (b3, zA cI 8 (bcL P X Y C n cd n)), (d, .inr (1, [.int (nI n), .ref e1, .ref e2, .ref e3, .ref e4])), (e1, zA cI 8 P), (e2, zA cI 16 X), (e3, zA cI 16 Y), (e4, zA cI 8 L)]) rfl dX0_find_47 (fun H locs hV => ?_)
    have hV : zV D cI cR A [(b, .inr (0, [.ref b1, .ref b2, .ref b3, .int (nI (2 * n)), .int (nI (btot P X Y C n n)), .int (nI 1)])), (b1, zA cI 272 sg5x1), (b2, zA cI 4096 rs5x2), (b3, zA cI 8 (bcL P X Y C n cd n)), (d, .inr (1, [.int (nI n), .ref e1, .ref e2, .ref e3, .ref e4])), (e1, zA cI 8 P), (e2, zA cI 16 X), (e3, zA cI 16 Y), (e4, zA cI 8 L)] s H locs := hV.arr 3 rfl (fun j hj => by rfl) rfl
    exact zz_vretM (pc := 50) S hr hlocks hV (⟨sg5x1, rs5x2, (bcL P X Y C n cd n), (2 * n), (btot P X Y C n n), rfl, (by exact ⟨hsg5x1, hrs5x2, by omega, fun _ => ⟨rfl, fun k hk => if_pos hk⟩⟩)⟩) dX0_find_50
  · have hk1 : kk = 1 := by omega
    subst hk1
    exact zz_vretM (pc := 7) S hr hlocks hV (⟨sg, rs, cd, cc, tt, rfl, (by exact hbp)⟩) dX0_find_7
