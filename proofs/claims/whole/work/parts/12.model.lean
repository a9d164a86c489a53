abbrev wm_X6_in : List Cond := .code yX6_in cX6_in 3 (some .boolean) :: wU
theorem q_X6_in : yX6_in.cls = RX6 ∧ yX6_in.cls ≠ "java/lang/invoke/MethodHandle" ∧ yX6_in.cls ≠ "java/lang/invoke/VarHandle" ∧ (parseMethodDescriptor yX6_in.desc).map (fun d => d.parameters.length) = some 3 := by decide +kernel
set_option maxHeartbeats 4000000 in
set_option maxRecDepth 100000 in
theorem c_X6_in (l : Launch) (D : va_G) (cI cR : ClassId) (v : Int) (lo : Int) (hi : Int) (hv : zR v) (hlo : zR lo) (hhi : zR hi) : Met l yX6_in wm_X6_in ({ frames := 0, cells := 0, slots := 0, locals := 0 } : Room) (va_Pc [.int (zI v), .int (zI lo), .int (zI hi)] (fun _ => True)) (vp_Si (fun r => r = nI (zB (lo ≤ v ∧ v ≤ hi)))) 0 0 (fun _ => False) := by
  refine Met.ofW (cc := cX6_in) (maxL := 3) (ret := (some .boolean)) (by decide) rfl ?_
  intro p e s m args below meth c s₁ B hml hv
  obtain ⟨rfl, hG⟩ := hv
  have S : CallFix p m c cX6_in 3 s ([.int (zI v), .int (zI lo), .int (zI hi)] : List Value).toArray wU RX6 := ⟨B.exec, B.bytes, hml, findClass_of_methodNamed B.named, fun w h => atoms_spec (ws := wm_X6_in) B.pre w (List.mem_cons_of_mem _ h)⟩
  have hr := B.returns
  have hlocks := B.notSynchronized
  have hl := lv_entry ([.int (zI v), .int (zI lo), .int (zI hi)]) (n := 3) (Nat.le_of_ble_eq_true rfl)
  rw [lg_entry_eq]
  generalize (lg_sl ([.int (zI v), .int (zI lo), .int (zI hi)]) ++ List.replicate (3 - (lg_sl ([.int (zI v), .int (zI lo), .int (zI hi)])).length) Slot.unset).toArray = ls at hl ⊢
  have hl : lv_has ls 3 [(0, .int (zI v)), (1, .int (zI lo)), (2, .int (zI hi))] := hl
  have r_hv := id hv
  unfold zR at r_hv
  have r_hlo := id hlo
  unfold zR at r_hlo
  have r_hhi := id hhi
  unfold zR at r_hhi
  refine lv_iload_n (pc := 0) S.1 S.2.1 dX6_in_0 rfl (lv_at hl 0 rfl) ?_
  refine lv_iload_n (pc := 1) S.1 S.2.1 dX6_in_1 rfl (lv_at hl 1 rfl) ?_
  refine zz_icmp_lt (pc := 2) (tgt := 14) S dX6_in_2 (by decide) (zI_lt (a := v) (b := lo) (by unfold zR; omega) (by unfold zR; omega)) (fun c2 => ?_) (fun c2 => ?_)
  · refine zz_iconst (pc := 14) (v := nI 0) S dX6_in_14 rfl ?_
    exact zz_bretS (pc := 15) S hr hlocks (by decide) (congrArg nI (zB_f (by first | omega | rfl)).symm) dX6_in_15
  · refine lv_iload_n (pc := 5) S.1 S.2.1 dX6_in_5 rfl (lv_at hl 0 rfl) ?_
    refine lv_iload_n (pc := 6) S.1 S.2.1 dX6_in_6 rfl (lv_at hl 2 rfl) ?_
    refine zz_icmp_gt (pc := 7) (tgt := 14) S dX6_in_7 (by decide) (zI_lt (a := hi) (b := v) (by unfold zR; omega) (by unfold zR; omega)) (fun c7 => ?_) (fun c7 => ?_)
    · refine zz_iconst (pc := 14) (v := nI 0) S dX6_in_14 rfl ?_
      exact zz_bretS (pc := 15) S hr hlocks (by decide) (congrArg nI (zB_f (by first | omega | rfl)).symm) dX6_in_15
    · refine zz_iconst (pc := 10) (v := nI 1) S dX6_in_10 rfl ?_
      refine lv_goto (pc := 11) (tgt := 15) S.1 S.2.1 dX6_in_11 (by decide) ?_
      exact zz_bretS (pc := 15) S hr hlocks (by decide) (congrArg nI (zB_t (by first | omega | rfl)).symm) dX6_in_15
abbrev wm_X6_begin : List Cond := .code yX6_begin cX6_begin 1 (some .int) :: wU
theorem q_X6_begin : yX6_begin.cls = RX6 ∧ yX6_begin.cls ≠ "java/lang/invoke/MethodHandle" ∧ yX6_begin.cls ≠ "java/lang/invoke/VarHandle" ∧ (parseMethodDescriptor yX6_begin.desc).map (fun d => d.parameters.length) = some 1 := by decide +kernel
set_option maxHeartbeats 4000000 in
set_option maxRecDepth 100000 in
theorem c_X6_begin (l : Launch) (D : va_G) (cI cR : ClassId) (a : Nat) (ha : a < 16) : Met l yX6_begin wm_X6_begin ({ frames := 0, cells := 0, slots := 0, locals := 0 } : Room) (va_Pc [.int (nI a)] (fun _ => True)) (vp_Si (fun r => r = nI (bg a))) 0 0 (fun _ => False) := by
  refine Met.ofW (cc := cX6_begin) (maxL := 1) (ret := (some .int)) (by decide) rfl ?_
  intro p e s m args below meth c s₁ B hml hv
  obtain ⟨rfl, hG⟩ := hv
  have S : CallFix p m c cX6_begin 1 s ([.int (nI a)] : List Value).toArray wU RX6 := ⟨B.exec, B.bytes, hml, findClass_of_methodNamed B.named, fun w h => atoms_spec (ws := wm_X6_begin) B.pre w (List.mem_cons_of_mem _ h)⟩
  have hr := B.returns
  have hlocks := B.notSynchronized
  have hl := lv_entry ([.int (nI a)]) (n := 1) (Nat.le_of_ble_eq_true rfl)
  rw [lg_entry_eq]
  generalize (lg_sl ([.int (nI a)]) ++ List.replicate (1 - (lg_sl ([.int (nI a)])).length) Slot.unset).toArray = ls at hl ⊢
  have hl : lv_has ls 1 [(0, .int (nI a))] := hl
  refine zz_iconst (pc := 0) (v := nI 5) S dX6_begin_0 rfl ?_
  refine lv_iload_n (pc := 1) S.1 S.2.1 dX6_begin_1 rfl (lv_at hl 0 rfl) ?_
  refine zz_iconst (pc := 2) (v := nI 2) S dX6_begin_2 rfl ?_
  refine zz_idiv (pc := 3) (v := nI (a / 2)) S dX6_begin_3 (by decide) (n_div (by omega) (by decide) (by decide)) ?_
  refine zz_imul (pc := 4) (v := nI (5 * (a / 2))) S dX6_begin_4 (n_mul _ _) ?_
  refine zz_iconst (pc := 5) (v := nI 2) S dX6_begin_5 rfl ?_
  refine lv_iload_n (pc := 6) S.1 S.2.1 dX6_begin_6 rfl (lv_at hl 0 rfl) ?_
  refine zz_iconst (pc := 7) (v := nI 2) S dX6_begin_7 rfl ?_
  refine zz_irem (pc := 8) (v := nI (a % 2)) S dX6_begin_8 (by decide) (n_rem (by omega) (by decide) (by decide)) ?_
  refine zz_imul (pc := 9) (v := nI (2 * (a % 2))) S dX6_begin_9 (n_mul _ _) ?_
  refine zz_iadd (pc := 10) (v := nI (5 * (a / 2) + (2 * (a % 2)))) S dX6_begin_10 (n_add _ _) ?_
  exact zz_iretS (pc := 11) S hr hlocks (congrArg nI (by rfl)) dX6_begin_11
abbrev wm_X6_end : List Cond := .code yX6_end cX6_end 1 (some .int) :: wU
theorem q_X6_end : yX6_end.cls = RX6 ∧ yX6_end.cls ≠ "java/lang/invoke/MethodHandle" ∧ yX6_end.cls ≠ "java/lang/invoke/VarHandle" ∧ (parseMethodDescriptor yX6_end.desc).map (fun d => d.parameters.length) = some 1 := by decide +kernel
set_option maxHeartbeats 4000000 in
set_option maxRecDepth 100000 in
theorem c_X6_end (l : Launch) (D : va_G) (cI cR : ClassId) (a : Nat) (ha : a < 16) : Met l yX6_end wm_X6_end ({ frames := 0, cells := 0, slots := 0, locals := 0 } : Room) (va_Pc [.int (nI a)] (fun _ => True)) (vp_Si (fun r => r = nI (bg (sw a)))) 0 0 (fun _ => False) := by
  refine Met.ofW (cc := cX6_end) (maxL := 1) (ret := (some .int)) (by decide) rfl ?_
  intro p e s m args below meth c s₁ B hml hv
  obtain ⟨rfl, hG⟩ := hv
  have S : CallFix p m c cX6_end 1 s ([.int (nI a)] : List Value).toArray wU RX6 := ⟨B.exec, B.bytes, hml, findClass_of_methodNamed B.named, fun w h => atoms_spec (ws := wm_X6_end) B.pre w (List.mem_cons_of_mem _ h)⟩
  have hr := B.returns
  have hlocks := B.notSynchronized
  have hl := lv_entry ([.int (nI a)]) (n := 1) (Nat.le_of_ble_eq_true rfl)
  rw [lg_entry_eq]
  generalize (lg_sl ([.int (nI a)]) ++ List.replicate (1 - (lg_sl ([.int (nI a)])).length) Slot.unset).toArray = ls at hl ⊢
  have hl : lv_has ls 1 [(0, .int (nI a))] := hl
  refine zz_iconst (pc := 0) (v := nI 5) S dX6_end_0 rfl ?_
  refine lv_iload_n (pc := 1) S.1 S.2.1 dX6_end_1 rfl (lv_at hl 0 rfl) ?_
  refine zz_iconst (pc := 2) (v := nI 2) S dX6_end_2 rfl ?_
  refine zz_idiv (pc := 3) (v := nI (a / 2)) S dX6_end_3 (by decide) (n_div (by omega) (by decide) (by decide)) ?_
  refine zz_imul (pc := 4) (v := nI (5 * (a / 2))) S dX6_end_4 (n_mul _ _) ?_
  refine zz_iconst (pc := 5) (v := nI 2) S dX6_end_5 rfl ?_
  refine zz_iadd (pc := 6) (v := nI (5 * (a / 2) + 2)) S dX6_end_6 (n_add _ _) ?_
  refine zz_iconst (pc := 7) (v := nI 2) S dX6_end_7 rfl ?_
  refine lv_iload_n (pc := 8) S.1 S.2.1 dX6_end_8 rfl (lv_at hl 0 rfl) ?_
  refine zz_iconst (pc := 9) (v := nI 2) S dX6_end_9 rfl ?_
  refine zz_irem (pc := 10) (v := nI (a % 2)) S dX6_end_10 (by decide) (n_rem (by omega) (by decide) (by decide)) ?_
  refine zz_imul (pc := 11) (v := nI (2 * (a % 2))) S dX6_end_11 (n_mul _ _) ?_
  refine zz_isub (pc := 12) (v := nI ((5 * (a / 2) + 2) - (2 * (a % 2)))) S dX6_end_12 (n_sub (by omega)) ?_
  exact zz_iretS (pc := 13) S hr hlocks (congrArg nI (by unfold bg sw; split <;> omega)) dX6_end_13
abbrev wm_X6_far : List Cond := .code yX6_far cX6_far 4 (some .int) :: wU
theorem q_X6_far : yX6_far.cls = RX6 ∧ yX6_far.cls ≠ "java/lang/invoke/MethodHandle" ∧ yX6_far.cls ≠ "java/lang/invoke/VarHandle" ∧ (parseMethodDescriptor yX6_far.desc).map (fun d => d.parameters.length) = some 2 := by decide +kernel
set_option maxHeartbeats 4000000 in
set_option maxRecDepth 100000 in
theorem c_X6_far (l : Launch) (D : va_G) (cI cR : ClassId) (a : Int) (b : Int) (ha : -1000 ≤ a ∧ a ≤ 1000) (hb : -1000 ≤ b ∧ b ≤ 1000) : Met l yX6_far wm_X6_far ({ frames := 0, cells := 0, slots := 0, locals := 0 } : Room) (va_Pc [.int (zI a), .int (zI b)] (fun _ => True)) (vp_Si (fun r => r = nI (zfar a b))) 0 0 (fun _ => False) := by
  refine Met.ofW (cc := cX6_far) (maxL := 4) (ret := (some .int)) (by decide) rfl ?_
  intro p e s m args below meth c s₁ B hml hv
  obtain ⟨rfl, hG⟩ := hv
  have S : CallFix p m c cX6_far 4 s ([.int (zI a), .int (zI b)] : List Value).toArray wU RX6 := ⟨B.exec, B.bytes, hml, findClass_of_methodNamed B.named, fun w h => atoms_spec (ws := wm_X6_far) B.pre w (List.mem_cons_of_mem _ h)⟩
  have hr := B.returns
  have hlocks := B.notSynchronized
  have hl := lv_entry ([.int (zI a), .int (zI b)]) (n := 4) (Nat.le_of_ble_eq_true rfl)
  rw [lg_entry_eq]
  generalize (lg_sl ([.int (zI a), .int (zI b)]) ++ List.replicate (4 - (lg_sl ([.int (zI a), .int (zI b)])).length) Slot.unset).toArray = ls at hl ⊢
  have hl : lv_has ls 4 [(0, .int (zI a)), (1, .int (zI b))] := hl
  refine lv_iload_n (pc := 0) S.1 S.2.1 dX6_far_0 rfl (lv_at hl 0 rfl) ?_
  refine zz_if_ge (pc := 1) (tgt := 9) S dX6_far_1 (by decide) (z_ge0 (by unfold zR; omega)) (fun c1 => ?_) (fun c1 => ?_)
  · refine lv_iload_n (pc := 9) S.1 S.2.1 dX6_far_9 rfl (lv_at hl 0 rfl) ?_
    refine lv_istore_n (pc := 10) (lv' := [(2, .int (zI a)), (0, .int (zI a)), (1, .int (zI b))]) S.1 S.2.1 dX6_far_10 rfl hl (by decide) rfl (fun ls hl => ?_)
    refine lv_iload_n (pc := 11) S.1 S.2.1 dX6_far_11 rfl (lv_at hl 2 rfl) ?_
    refine zz_if_ge (pc := 12) (tgt := 20) S dX6_far_12 (by decide) (z_ge0 (by unfold zR; omega)) (fun c12 => ?_) (fun c12 => ?_)
    · refine lv_iload_n (pc := 20) S.1 S.2.1 dX6_far_20 rfl (lv_at hl 2 rfl) ?_
      refine lv_istore_n (pc := 21) (lv' := [(3, .int (zI b)), (2, .int (zI a)), (0, .int (zI a)), (1, .int (zI b))]) S.1 S.2.1 dX6_far_21 rfl hl (by decide) rfl (fun ls hl => ?_)
      refine lv_iload_n (pc := 22) S.1 S.2.1 dX6_far_22 rfl (lv_at hl 1 rfl) ?_
      refine lv_iload_n (pc := 23) S.1 S.2.1 dX6_far_23 rfl (lv_at hl 0 rfl) ?_
      refine zz_icmp_le (pc := 24) (tgt := 31) S dX6_far_24 (by decide) (zI_le (a := a) (b := b) (by unfold zR; omega) (by unfold zR; omega)) (fun c24 => ?_) (fun c24 => ?_)
      · refine lv_iload_n (pc := 31) S.1 S.2.1 dX6_far_31 rfl (lv_at hl 0 rfl) ?_
        exact zz_iretS (pc := 32) S hr hlocks (zn_of (by unfold zfar; omega)) dX6_far_32
      · refine lv_iload_n (pc := 27) S.1 S.2.1 dX6_far_27 rfl (lv_at hl 1 rfl) ?_
        refine lv_goto (pc := 28) (tgt := 32) S.1 S.2.1 dX6_far_28 (by decide) ?_
        exact zz_iretS (pc := 32) S hr hlocks (zn_of (by unfold zfar; omega)) dX6_far_32
    · refine lv_iload_n (pc := 15) S.1 S.2.1 dX6_far_15 rfl (lv_at hl 2 rfl) ?_
      refine zz_ineg (pc := 16) (x := b) S dX6_far_16 ?_
      refine lv_goto (pc := 17) (tgt := 21) S.1 S.2.1 dX6_far_17 (by decide) ?_
      refine lv_istore_n (pc := 21) (lv' := [(3, .int (zI (-b))), (2, .int (zI a)), (0, .int (zI a)), (1, .int (zI b))]) S.1 S.2.1 dX6_far_21 rfl hl (by decide) rfl (fun ls hl => ?_)
      refine lv_iload_n (pc := 22) S.1 S.2.1 dX6_far_22 rfl (lv_at hl 1 rfl) ?_
      refine lv_iload_n (pc := 23) S.1 S.2.1 dX6_far_23 rfl (lv_at hl 0 rfl) ?_
      refine zz_icmp_le (pc := 24) (tgt := 31) S dX6_far_24 (by decide) (zI_le (a := a) (b := -b) (by unfold zR; omega) (by unfold zR; omega)) (fun c24 => ?_) (fun c24 => ?_)
      · refine lv_iload_n (pc := 31) S.1 S.2.1 dX6_far_31 rfl (lv_at hl 0 rfl) ?_
        exact zz_iretS (pc := 32) S hr hlocks (zn_of (by unfold zfar; omega)) dX6_far_32
      · refine lv_iload_n (pc := 27) S.1 S.2.1 dX6_far_27 rfl (lv_at hl 1 rfl) ?_
        refine lv_goto (pc := 28) (tgt := 32) S.1 S.2.1 dX6_far_28 (by decide) ?_
        exact zz_iretS (pc := 32) S hr hlocks (zn_of (by unfold zfar; omega)) dX6_far_32
  · refine lv_iload_n (pc := 4) S.1 S.2.1 dX6_far_4 rfl (lv_at hl 0 rfl) ?_
    refine zz_ineg (pc := 5) (x := a) S dX6_far_5 ?_
    refine lv_goto (pc := 6) (tgt := 10) S.1 S.2.1 dX6_far_6 (by decide) ?_
    refine lv_istore_n (pc := 10) (lv' := [(2, .int (zI (-a))), (0, .int (zI a)), (1, .int (zI b))]) S.1 S.2.1 dX6_far_10 rfl hl (by decide) rfl (fun ls hl => ?_)
    refine lv_iload_n (pc := 11) S.1 S.2.1 dX6_far_11 rfl (lv_at hl 2 rfl) ?_
    refine zz_if_ge (pc := 12) (tgt := 20) S dX6_far_12 (by decide) (z_ge0 (by unfold zR; omega)) (fun c12 => ?_) (fun c12 => ?_)
    · refine lv_iload_n (pc := 20) S.1 S.2.1 dX6_far_20 rfl (lv_at hl 2 rfl) ?_
      refine lv_istore_n (pc := 21) (lv' := [(3, .int (zI b)), (2, .int (zI (-a))), (0, .int (zI a)), (1, .int (zI b))]) S.1 S.2.1 dX6_far_21 rfl hl (by decide) rfl (fun ls hl => ?_)
      refine lv_iload_n (pc := 22) S.1 S.2.1 dX6_far_22 rfl (lv_at hl 1 rfl) ?_
      refine lv_iload_n (pc := 23) S.1 S.2.1 dX6_far_23 rfl (lv_at hl 0 rfl) ?_
      refine zz_icmp_le (pc := 24) (tgt := 31) S dX6_far_24 (by decide) (zI_le (a := -a) (b := b) (by unfold zR; omega) (by unfold zR; omega)) (fun c24 => ?_) (fun c24 => ?_)
      · refine lv_iload_n (pc := 31) S.1 S.2.1 dX6_far_31 rfl (lv_at hl 0 rfl) ?_
        exact zz_iretS (pc := 32) S hr hlocks (zn_of (by unfold zfar; omega)) dX6_far_32
      · refine lv_iload_n (pc := 27) S.1 S.2.1 dX6_far_27 rfl (lv_at hl 1 rfl) ?_
        refine lv_goto (pc := 28) (tgt := 32) S.1 S.2.1 dX6_far_28 (by decide) ?_
        exact zz_iretS (pc := 32) S hr hlocks (zn_of (by unfold zfar; omega)) dX6_far_32
    · refine lv_iload_n (pc := 15) S.1 S.2.1 dX6_far_15 rfl (lv_at hl 2 rfl) ?_
      refine zz_ineg (pc := 16) (x := b) S dX6_far_16 ?_
      refine lv_goto (pc := 17) (tgt := 21) S.1 S.2.1 dX6_far_17 (by decide) ?_
      refine lv_istore_n (pc := 21) (lv' := [(3, .int (zI (-b))), (2, .int (zI (-a))), (0, .int (zI a)), (1, .int (zI b))]) S.1 S.2.1 dX6_far_21 rfl hl (by decide) rfl (fun ls hl => ?_)
      refine lv_iload_n (pc := 22) S.1 S.2.1 dX6_far_22 rfl (lv_at hl 1 rfl) ?_
      refine lv_iload_n (pc := 23) S.1 S.2.1 dX6_far_23 rfl (lv_at hl 0 rfl) ?_
      refine zz_icmp_le (pc := 24) (tgt := 31) S dX6_far_24 (by decide) (zI_le (a := -a) (b := -b) (by unfold zR; omega) (by unfold zR; omega)) (fun c24 => ?_) (fun c24 => ?_)
      · refine lv_iload_n (pc := 31) S.1 S.2.1 dX6_far_31 rfl (lv_at hl 0 rfl) ?_
        exact zz_iretS (pc := 32) S hr hlocks (zn_of (by unfold zfar; omega)) dX6_far_32
      · refine lv_iload_n (pc := 27) S.1 S.2.1 dX6_far_27 rfl (lv_at hl 1 rfl) ?_
        refine lv_goto (pc := 28) (tgt := 32) S.1 S.2.1 dX6_far_28 (by decide) ?_
        exact zz_iretS (pc := 32) S hr hlocks (zn_of (by unfold zfar; omega)) dX6_far_32
abbrev wm_X6_isBetween : List Cond := .code yX6_isBetween cX6_isBetween 3 (some .boolean) :: wU
theorem q_X6_isBetween : yX6_isBetween.cls = RX6 ∧ yX6_isBetween.cls ≠ "java/lang/invoke/MethodHandle" ∧ yX6_isBetween.cls ≠ "java/lang/invoke/VarHandle" ∧ (parseMethodDescriptor yX6_isBetween.desc).map (fun d => d.parameters.length) = some 3 := by decide +kernel
set_option maxHeartbeats 4000000 in
set_option maxRecDepth 100000 in
theorem c_X6_isBetween (l : Launch) (D : va_G) (cI cR : ClassId) (v : Nat) (a : Nat) (b : Nat) (hb : v ≤ 99 ∧ a ≤ 99 ∧ b ≤ 99) : Met l yX6_isBetween wm_X6_isBetween ({ frames := 1, cells := 0, slots := 0, locals := 22 } : Room) (va_Pc [.int (nI v), .int (nI a), .int (nI b)] (fun _ => True)) (vp_Si (fun r => r = nI (zB (min a b ≤ v ∧ v ≤ max a b)))) 0 0 (fun _ => False) := by
  refine Met.ofW (cc := cX6_isBetween) (maxL := 3) (ret := (some .boolean)) (by decide) rfl ?_
  intro p e s m args below meth c s₁ B hml hv
  obtain ⟨rfl, hG⟩ := hv
  have S : CallFix p m c cX6_isBetween 3 s ([.int (nI v), .int (nI a), .int (nI b)] : List Value).toArray wU RX6 := ⟨B.exec, B.bytes, hml, findClass_of_methodNamed B.named, fun w h => atoms_spec (ws := wm_X6_isBetween) B.pre w (List.mem_cons_of_mem _ h)⟩
  have hr := B.returns
  have hlocks := B.notSynchronized
  have hl := lv_entry ([.int (nI v), .int (nI a), .int (nI b)]) (n := 3) (Nat.le_of_ble_eq_true rfl)
  rw [lg_entry_eq]
  generalize (lg_sl ([.int (nI v), .int (nI a), .int (nI b)]) ++ List.replicate (3 - (lg_sl ([.int (nI v), .int (nI a), .int (nI b)])).length) Slot.unset).toArray = ls at hl ⊢
  have hl : lv_has ls 3 [(0, .int (nI v)), (1, .int (nI a)), (2, .int (nI b))] := hl
  refine lv_iload_n (pc := 0) S.1 S.2.1 dX6_isBetween_0 rfl (lv_at hl 1 rfl) ?_
  refine lv_iload_n (pc := 1) S.1 S.2.1 dX6_isBetween_1 rfl (lv_at hl 2 rfl) ?_
  refine zz_icmp_ge (pc := 2) (tgt := 14) S dX6_isBetween_2 (by decide) (n_le (by omega) (by omega)) (fun c2 => ?_) (fun c2 => ?_)
  · refine lv_iload_n (pc := 14) S.1 S.2.1 dX6_isBetween_14 rfl (lv_at hl 0 rfl) ?_
    refine lv_iload_n (pc := 15) S.1 S.2.1 dX6_isBetween_15 rfl (lv_at hl 2 rfl) ?_
    refine lv_iload_n (pc := 16) S.1 S.2.1 dX6_isBetween_16 rfl (lv_at hl 1 rfl) ?_
    refine zz_callS (pc := 17) (As := [.int (zI ((v : Nat) : Int)), .int (zI ((b : Nat) : Int)), .int (zI ((a : Nat) : Int))]) (rest := []) S (c_X6_in l D cI cR ((v : Nat) : Int) ((b : Nat) : Int) ((a : Nat) : Int) (by unfold zR; omega) (by unfold zR; omega) (by unfold zR; omega)) (zuS wd_135 wd_133 wd_134 wd_5) 3 rfl q_X6_in.2 ⟨⟨rfl, rfl⟩, Nat.le_of_ble_eq_true rfl, Nat.le_of_ble_eq_true rfl⟩ rfl rfl (Nat.le_of_ble_eq_true rfl) hl.1 ⟨Nat.zero_le _, Nat.zero_le _⟩ dX6_isBetween_17 ?_
    exact zz_bretS (pc := 20) S hr hlocks (zB_nar _) (congrArg nI (zB_iff (by first | omega | rfl))) dX6_isBetween_20
  · refine lv_iload_n (pc := 5) S.1 S.2.1 dX6_isBetween_5 rfl (lv_at hl 0 rfl) ?_
    refine lv_iload_n (pc := 6) S.1 S.2.1 dX6_isBetween_6 rfl (lv_at hl 1 rfl) ?_
    refine lv_iload_n (pc := 7) S.1 S.2.1 dX6_isBetween_7 rfl (lv_at hl 2 rfl) ?_
    refine zz_callS (pc := 8) (As := [.int (zI ((v : Nat) : Int)), .int (zI ((a : Nat) : Int)), .int (zI ((b : Nat) : Int))]) (rest := []) S (c_X6_in l D cI cR ((v : Nat) : Int) ((a : Nat) : Int) ((b : Nat) : Int) (by unfold zR; omega) (by unfold zR; omega) (by unfold zR; omega)) (zuS wd_135 wd_133 wd_134 wd_5) 3 rfl q_X6_in.2 ⟨⟨rfl, rfl⟩, Nat.le_of_ble_eq_true rfl, Nat.le_of_ble_eq_true rfl⟩ rfl rfl (Nat.le_of_ble_eq_true rfl) hl.1 ⟨Nat.zero_le _, Nat.zero_le _⟩ dX6_isBetween_8 ?_
    refine lv_goto (pc := 11) (tgt := 20) S.1 S.2.1 dX6_isBetween_11 (by decide) ?_
    exact zz_bretS (pc := 20) S hr hlocks (zB_nar _) (congrArg nI (zB_iff (by first | omega | rfl))) dX6_isBetween_20
abbrev wm_X6_strokeCount : List Cond := .code yX6_strokeCount cX6_strokeCount 1 (some .int) :: wU
theorem q_X6_strokeCount : yX6_strokeCount.cls = RX6 ∧ yX6_strokeCount.cls ≠ "java/lang/invoke/MethodHandle" ∧ yX6_strokeCount.cls ≠ "java/lang/invoke/VarHandle" ∧ (parseMethodDescriptor yX6_strokeCount.desc).map (fun d => d.parameters.length) = some 0 := by decide +kernel
set_option maxHeartbeats 4000000 in
set_option maxRecDepth 100000 in
theorem c_X6_strokeCount (l : Launch) (D : va_G) (cI cR : ClassId) (o a1 a2 a3 a4 a5 a6 ed C V Ac : Nat) (w : Nat → Nat) (n : Nat) (P X Y L : Nat → Nat) (hge : zGe n P X Y) (hR : zRl w n P X Y L) (hset : zSt C V Ac) : Met l yX6_strokeCount wm_X6_strokeCount ({ frames := 0, cells := 0, slots := 0, locals := 0 } : Room) (va_Pc [.ref o] (zW D cI cR [(o, .inr (6, [.ref a1, .ref a2, .int (nI ed), .int (nI C), .int (nI V), .int (nI Ac), .ref a3, .ref a4, .ref a5, .ref a6])), (a1, zA cI 49 w)])) (vp_Si (fun r => r = nI n)) 0 0 (fun _ => False) := by
  refine Met.ofW (cc := cX6_strokeCount) (maxL := 1) (ret := (some .int)) (by decide) rfl ?_
  intro p e s m args below meth c s₁ B hml hv
  obtain ⟨rfl, hG⟩ := hv
  have S : CallFix p m c cX6_strokeCount 1 s ([.ref o] : List Value).toArray wU RX6 := ⟨B.exec, B.bytes, hml, findClass_of_methodNamed B.named, fun w h => atoms_spec (ws := wm_X6_strokeCount) B.pre w (List.mem_cons_of_mem _ h)⟩
  have hr := B.returns
  have hlocks := B.notSynchronized
  have hG : zG D cI cR [(o, .inr (6, [.ref a1, .ref a2, .int (nI ed), .int (nI C), .int (nI V), .int (nI Ac), .ref a3, .ref a4, .ref a5, .ref a6])), (a1, zA cI 49 w)] s s.heap := hG
  have hl := lv_entry ([.ref o]) (n := 1) (Nat.le_of_ble_eq_true rfl)
  rw [lg_entry_eq]
  generalize (lg_sl ([.ref o]) ++ List.replicate (1 - (lg_sl ([.ref o])).length) Slot.unset).toArray = ls at hl ⊢
  have hl : lv_has ls 1 [(0, .ref o)] := hl
  obtain ⟨hn, hPf, hXY⟩ := id hge
  obtain ⟨hC, hV0, hAc⟩ := id hset
  refine lv_aload_n (pc := 0) S.1 S.2.1 dX6_strokeCount_0 rfl (lv_at hl 0 rfl) ?_
  refine zz_get (pc := 1) S hG iX6 0 rfl rfl 0 (by decide) wd_67 rfl rfl dX6_strokeCount_1 ?_
  refine zz_bipush (pc := 4) (v := nI 48) S dX6_strokeCount_4 rfl ?_
  refine zz_iald (pc := 6) (k := 48) S hG 1 rfl (by omega) dX6_strokeCount_6 ?_
  refine zz_cast (v := nI n) (congrArg nI hR.1) ?_
  exact zz_iretS (pc := 7) S hr hlocks (rfl) dX6_strokeCount_7
abbrev wm_X6_isStroke : List Cond := .code yX6_isStroke cX6_isStroke 2 (some .boolean) :: wU
theorem q_X6_isStroke : yX6_isStroke.cls = RX6 ∧ yX6_isStroke.cls ≠ "java/lang/invoke/MethodHandle" ∧ yX6_isStroke.cls ≠ "java/lang/invoke/VarHandle" ∧ (parseMethodDescriptor yX6_isStroke.desc).map (fun d => d.parameters.length) = some 1 := by decide +kernel
set_option maxHeartbeats 4000000 in
set_option maxRecDepth 100000 in
theorem c_X6_isStroke (l : Launch) (D : va_G) (cI cR : ClassId) (o a1 a2 a3 a4 a5 a6 ed C V Ac : Nat) (w : Nat → Nat) (n : Nat) (P X Y L : Nat → Nat) (a : Int) (hge : zGe n P X Y) (hR : zRl w n P X Y L) (hset : zSt C V Ac) (ha : zR a) : Met l yX6_isStroke wm_X6_isStroke ({ frames := 1, cells := 0, slots := 0, locals := 22 } : Room) (va_Pc [.ref o, .int (zI a)] (zW D cI cR [(o, .inr (6, [.ref a1, .ref a2, .int (nI ed), .int (nI C), .int (nI V), .int (nI Ac), .ref a3, .ref a4, .ref a5, .ref a6])), (a1, zA cI 49 w)])) (vp_Si (fun r => r = nI (zB (0 ≤ a ∧ a < (n : Int))))) 0 0 (fun _ => False) := by
  refine Met.ofW (cc := cX6_isStroke) (maxL := 2) (ret := (some .boolean)) (by decide) rfl ?_
  intro p e s m args below meth c s₁ B hml hv
  obtain ⟨rfl, hG⟩ := hv
  have S : CallFix p m c cX6_isStroke 2 s ([.ref o, .int (zI a)] : List Value).toArray wU RX6 := ⟨B.exec, B.bytes, hml, findClass_of_methodNamed B.named, fun w h => atoms_spec (ws := wm_X6_isStroke) B.pre w (List.mem_cons_of_mem _ h)⟩
  have hr := B.returns
  have hlocks := B.notSynchronized
  have hG : zG D cI cR [(o, .inr (6, [.ref a1, .ref a2, .int (nI ed), .int (nI C), .int (nI V), .int (nI Ac), .ref a3, .ref a4, .ref a5, .ref a6])), (a1, zA cI 49 w)] s s.heap := hG
  have hl := lv_entry ([.ref o, .int (zI a)]) (n := 2) (Nat.le_of_ble_eq_true rfl)
  rw [lg_entry_eq]
  generalize (lg_sl ([.ref o, .int (zI a)]) ++ List.replicate (2 - (lg_sl ([.ref o, .int (zI a)])).length) Slot.unset).toArray = ls at hl ⊢
  have hl : lv_has ls 2 [(0, .ref o), (1, .int (zI a))] := hl
  have r_ha := id ha
  unfold zR at r_ha
  obtain ⟨hn, hPf, hXY⟩ := id hge
  obtain ⟨hC, hV0, hAc⟩ := id hset
  refine lv_iload_n (pc := 0) S.1 S.2.1 dX6_isStroke_0 rfl (lv_at hl 1 rfl) ?_
  refine zz_iconst (pc := 1) (v := nI 0) S dX6_isStroke_1 rfl ?_
  refine lv_aload_n (pc := 2) S.1 S.2.1 dX6_isStroke_2 rfl (lv_at hl 0 rfl) ?_
  refine zz_get (pc := 3) S hG iX6 0 rfl rfl 0 (by decide) wd_67 rfl rfl dX6_isStroke_3 ?_
  refine zz_bipush (pc := 6) (v := nI 48) S dX6_isStroke_6 rfl ?_
  refine zz_iald (pc := 8) (k := 48) S hG 1 rfl (by omega) dX6_isStroke_8 ?_
  refine zz_cast (v := nI n) (congrArg nI hR.1) ?_
  refine zz_iconst (pc := 9) (v := nI 1) S dX6_isStroke_9 rfl ?_
  refine zz_isub (pc := 10) (v := zI (((n : Nat) : Int) - 1)) S dX6_isStroke_10 (zI_sub ((n : Nat) : Int) 1) ?_
  refine zz_callS (pc := 11) (As := [.int (zI a), .int (zI 0), .int (zI (((n : Nat) : Int) - 1))]) (rest := []) S (c_X6_in l D cI cR a 0 (((n : Nat) : Int) - 1) (by unfold zR; omega) (by unfold zR; omega) (by unfold zR; omega)) (zuS wd_135 wd_133 wd_134 wd_5) 3 rfl q_X6_in.2 ⟨⟨rfl, rfl⟩, Nat.le_of_ble_eq_true rfl, Nat.le_of_ble_eq_true rfl⟩ rfl rfl (Nat.le_of_ble_eq_true rfl) hl.1 ⟨Nat.zero_le _, Nat.zero_le _⟩ dX6_isStroke_11 ?_
  exact zz_bretS (pc := 14) S hr hlocks (zB_nar _) (congrArg nI (zB_iff (by first | omega | rfl))) dX6_isStroke_14
abbrev wm_X6_isPosition : List Cond := .code yX6_isPosition cX6_isPosition 2 (some .boolean) :: wU
theorem q_X6_isPosition : yX6_isPosition.cls = RX6 ∧ yX6_isPosition.cls ≠ "java/lang/invoke/MethodHandle" ∧ yX6_isPosition.cls ≠ "java/lang/invoke/VarHandle" ∧ (parseMethodDescriptor yX6_isPosition.desc).map (fun d => d.parameters.length) = some 1 := by decide +kernel
set_option maxHeartbeats 4000000 in
set_option maxRecDepth 100000 in
theorem c_X6_isPosition (l : Launch) (D : va_G) (cI cR : ClassId) (o a1 a2 a3 a4 a5 a6 ed C V Ac : Nat) (w : Nat → Nat) (n : Nat) (P X Y L : Nat → Nat) (a : Int) (hge : zGe n P X Y) (hR : zRl w n P X Y L) (hset : zSt C V Ac) (ha : zR a) : Met l yX6_isPosition wm_X6_isPosition ({ frames := 1, cells := 0, slots := 0, locals := 22 } : Room) (va_Pc [.ref o, .int (zI a)] (zW D cI cR [(o, .inr (6, [.ref a1, .ref a2, .int (nI ed), .int (nI C), .int (nI V), .int (nI Ac), .ref a3, .ref a4, .ref a5, .ref a6])), (a1, zA cI 49 w)])) (vp_Si (fun r => r = nI (zB (0 ≤ a ∧ a < (n : Int))))) 0 0 (fun _ => False) := by
  refine Met.ofW (cc := cX6_isPosition) (maxL := 2) (ret := (some .boolean)) (by decide) rfl ?_
  intro p e s m args below meth c s₁ B hml hv
  obtain ⟨rfl, hG⟩ := hv
  have S : CallFix p m c cX6_isPosition 2 s ([.ref o, .int (zI a)] : List Value).toArray wU RX6 := ⟨B.exec, B.bytes, hml, findClass_of_methodNamed B.named, fun w h => atoms_spec (ws := wm_X6_isPosition) B.pre w (List.mem_cons_of_mem _ h)⟩
  have hr := B.returns
  have hlocks := B.notSynchronized
  have hG : zG D cI cR [(o, .inr (6, [.ref a1, .ref a2, .int (nI ed), .int (nI C), .int (nI V), .int (nI Ac), .ref a3, .ref a4, .ref a5, .ref a6])), (a1, zA cI 49 w)] s s.heap := hG
  have hl := lv_entry ([.ref o, .int (zI a)]) (n := 2) (Nat.le_of_ble_eq_true rfl)
  rw [lg_entry_eq]
  generalize (lg_sl ([.ref o, .int (zI a)]) ++ List.replicate (2 - (lg_sl ([.ref o, .int (zI a)])).length) Slot.unset).toArray = ls at hl ⊢
  have hl : lv_has ls 2 [(0, .ref o), (1, .int (zI a))] := hl
  have r_ha := id ha
  unfold zR at r_ha
  obtain ⟨hn, hPf, hXY⟩ := id hge
  obtain ⟨hC, hV0, hAc⟩ := id hset
  refine lv_iload_n (pc := 0) S.1 S.2.1 dX6_isPosition_0 rfl (lv_at hl 1 rfl) ?_
  refine zz_iconst (pc := 1) (v := nI 0) S dX6_isPosition_1 rfl ?_
  refine lv_aload_n (pc := 2) S.1 S.2.1 dX6_isPosition_2 rfl (lv_at hl 0 rfl) ?_
  refine zz_get (pc := 3) S hG iX6 0 rfl rfl 0 (by decide) wd_67 rfl rfl dX6_isPosition_3 ?_
  refine zz_bipush (pc := 6) (v := nI 48) S dX6_isPosition_6 rfl ?_
  refine zz_iald (pc := 8) (k := 48) S hG 1 rfl (by omega) dX6_isPosition_8 ?_
  refine zz_cast (v := nI n) (congrArg nI hR.1) ?_
  refine zz_iconst (pc := 9) (v := nI 1) S dX6_isPosition_9 rfl ?_
  refine zz_isub (pc := 10) (v := zI (((n : Nat) : Int) - 1)) S dX6_isPosition_10 (zI_sub ((n : Nat) : Int) 1) ?_
  refine zz_callS (pc := 11) (As := [.int (zI a), .int (zI 0), .int (zI (((n : Nat) : Int) - 1))]) (rest := []) S (c_X6_in l D cI cR a 0 (((n : Nat) : Int) - 1) (by unfold zR; omega) (by unfold zR; omega) (by unfold zR; omega)) (zuS wd_135 wd_133 wd_134 wd_5) 3 rfl q_X6_in.2 ⟨⟨rfl, rfl⟩, Nat.le_of_ble_eq_true rfl, Nat.le_of_ble_eq_true rfl⟩ rfl rfl (Nat.le_of_ble_eq_true rfl) hl.1 ⟨Nat.zero_le _, Nat.zero_le _⟩ dX6_isPosition_11 ?_
  exact zz_bretS (pc := 14) S hr hlocks (zB_nar _) (congrArg nI (zB_iff (by first | omega | rfl))) dX6_isPosition_14
abbrev wm_X6_penAt : List Cond := .code yX6_penAt cX6_penAt 2 (some .int) :: wU
theorem q_X6_penAt : yX6_penAt.cls = RX6 ∧ yX6_penAt.cls ≠ "java/lang/invoke/MethodHandle" ∧ yX6_penAt.cls ≠ "java/lang/invoke/VarHandle" ∧ (parseMethodDescriptor yX6_penAt.desc).map (fun d => d.parameters.length) = some 1 := by decide +kernel
set_option maxHeartbeats 4000000 in
set_option maxRecDepth 100000 in
theorem c_X6_penAt (l : Launch) (D : va_G) (cI cR : ClassId) (o a1 a2 a3 a4 a5 a6 ed C V Ac : Nat) (w : Nat → Nat) (n : Nat) (P X Y L : Nat → Nat) (a : Nat) (hge : zGe n P X Y) (hR : zRl w n P X Y L) (hset : zSt C V Ac) (ha : a < n) : Met l yX6_penAt wm_X6_penAt ({ frames := 0, cells := 0, slots := 0, locals := 0 } : Room) (va_Pc [.ref o, .int (nI a)] (zW D cI cR [(o, .inr (6, [.ref a1, .ref a2, .int (nI ed), .int (nI C), .int (nI V), .int (nI Ac), .ref a3, .ref a4, .ref a5, .ref a6])), (a1, zA cI 49 w)])) (vp_Si (fun r => r = nI (P a))) 0 0 (fun _ => False) := by
  refine Met.ofW (cc := cX6_penAt) (maxL := 2) (ret := (some .int)) (by decide) rfl ?_
  intro p e s m args below meth c s₁ B hml hv
  obtain ⟨rfl, hG⟩ := hv
  have S : CallFix p m c cX6_penAt 2 s ([.ref o, .int (nI a)] : List Value).toArray wU RX6 := ⟨B.exec, B.bytes, hml, findClass_of_methodNamed B.named, fun w h => atoms_spec (ws := wm_X6_penAt) B.pre w (List.mem_cons_of_mem _ h)⟩
  have hr := B.returns
  have hlocks := B.notSynchronized
  have hG : zG D cI cR [(o, .inr (6, [.ref a1, .ref a2, .int (nI ed), .int (nI C), .int (nI V), .int (nI Ac), .ref a3, .ref a4, .ref a5, .ref a6])), (a1, zA cI 49 w)] s s.heap := hG
  have hl := lv_entry ([.ref o, .int (nI a)]) (n := 2) (Nat.le_of_ble_eq_true rfl)
  rw [lg_entry_eq]
  generalize (lg_sl ([.ref o, .int (nI a)]) ++ List.replicate (2 - (lg_sl ([.ref o, .int (nI a)])).length) Slot.unset).toArray = ls at hl ⊢
  have hl : lv_has ls 2 [(0, .ref o), (1, .int (nI a))] := hl
  obtain ⟨hn, hPf, hXY⟩ := id hge
  obtain ⟨hC, hV0, hAc⟩ := id hset
  refine lv_aload_n (pc := 0) S.1 S.2.1 dX6_penAt_0 rfl (lv_at hl 0 rfl) ?_
  refine zz_get (pc := 1) S hG iX6 0 rfl rfl 0 (by decide) wd_67 rfl rfl dX6_penAt_1 ?_
  refine zz_iconst (pc := 4) (v := nI 5) S dX6_penAt_4 rfl ?_
  refine lv_iload_n (pc := 5) S.1 S.2.1 dX6_penAt_5 rfl (lv_at hl 1 rfl) ?_
  refine zz_imul (pc := 6) (v := nI (5 * a)) S dX6_penAt_6 (n_mul _ _) ?_
  refine zz_iconst (pc := 7) (v := nI 4) S dX6_penAt_7 rfl ?_
  refine zz_iadd (pc := 8) (v := nI (5 * a + 4)) S dX6_penAt_8 (n_add _ _) ?_
  refine zz_iald (pc := 9) (k := 5 * a + 4) S hG 1 rfl (by omega) dX6_penAt_9 ?_
  refine zz_cast (v := nI (P a)) (congrArg nI (hR.2.2.1 a (by omega))) ?_
  have g1 := hPf a (by omega)
  exact zz_iretS (pc := 10) S hr hlocks (rfl) dX6_penAt_10
abbrev wm_X6_at : List Cond := .code yX6_at cX6_at 2 (some .int) :: wU
theorem q_X6_at : yX6_at.cls = RX6 ∧ yX6_at.cls ≠ "java/lang/invoke/MethodHandle" ∧ yX6_at.cls ≠ "java/lang/invoke/VarHandle" ∧ (parseMethodDescriptor yX6_at.desc).map (fun d => d.parameters.length) = some 1 := by decide +kernel
set_option maxHeartbeats 4000000 in
set_option maxRecDepth 100000 in
theorem c_X6_at (l : Launch) (D : va_G) (cI cR : ClassId) (o a1 a2 a3 a4 a5 a6 ed C V Ac : Nat) (w : Nat → Nat) (n : Nat) (P X Y L : Nat → Nat) (a : Nat) (hok : zOk n P X Y L) (hR : zRl w n P X Y L) (hset : zSt C V Ac) (ha : a < n) : Met l yX6_at wm_X6_at ({ frames := 0, cells := 0, slots := 0, locals := 0 } : Room) (va_Pc [.ref o, .int (nI a)] (zW D cI cR [(o, .inr (6, [.ref a1, .ref a2, .int (nI ed), .int (nI C), .int (nI V), .int (nI Ac), .ref a3, .ref a4, .ref a5, .ref a6])), (a1, zA cI 49 w)])) (vp_Si (fun r => r = nI (L a))) 0 0 (fun _ => False) := by
  refine Met.ofW (cc := cX6_at) (maxL := 2) (ret := (some .int)) (by decide) rfl ?_
  intro p e s m args below meth c s₁ B hml hv
  obtain ⟨rfl, hG⟩ := hv
  have S : CallFix p m c cX6_at 2 s ([.ref o, .int (nI a)] : List Value).toArray wU RX6 := ⟨B.exec, B.bytes, hml, findClass_of_methodNamed B.named, fun w h => atoms_spec (ws := wm_X6_at) B.pre w (List.mem_cons_of_mem _ h)⟩
  have hr := B.returns
  have hlocks := B.notSynchronized
  have hG : zG D cI cR [(o, .inr (6, [.ref a1, .ref a2, .int (nI ed), .int (nI C), .int (nI V), .int (nI Ac), .ref a3, .ref a4, .ref a5, .ref a6])), (a1, zA cI 49 w)] s s.heap := hG
  have hl := lv_entry ([.ref o, .int (nI a)]) (n := 2) (Nat.le_of_ble_eq_true rfl)
  rw [lg_entry_eq]
  generalize (lg_sl ([.ref o, .int (nI a)]) ++ List.replicate (2 - (lg_sl ([.ref o, .int (nI a)])).length) Slot.unset).toArray = ls at hl ⊢
  have hl : lv_has ls 2 [(0, .ref o), (1, .int (nI a))] := hl
  obtain ⟨⟨hn, hPf, hXY⟩, hLf, hinj⟩ := id hok
  obtain ⟨hC, hV0, hAc⟩ := id hset
  refine lv_aload_n (pc := 0) S.1 S.2.1 dX6_at_0 rfl (lv_at hl 0 rfl) ?_
  refine zz_get (pc := 1) S hG iX6 0 rfl rfl 0 (by decide) wd_67 rfl rfl dX6_at_1 ?_
  refine zz_bipush (pc := 4) (v := nI 40) S dX6_at_4 rfl ?_
  refine lv_iload_n (pc := 6) S.1 S.2.1 dX6_at_6 rfl (lv_at hl 1 rfl) ?_
  refine zz_iadd (pc := 7) (v := nI (40 + a)) S dX6_at_7 (n_add _ _) ?_
  refine zz_iald (pc := 8) (k := 40 + a) S hG 1 rfl (by omega) dX6_at_8 ?_
  refine zz_cast (v := nI (L a)) (congrArg nI (hR.2.2.2 a (by omega))) ?_
  have g1 := hLf a (by omega)
  exact zz_iretS (pc := 9) S hr hlocks (rfl) dX6_at_9
abbrev wm_X6_penOf : List Cond := .code yX6_penOf cX6_penOf 2 (some .int) :: wU
theorem q_X6_penOf : yX6_penOf.cls = RX6 ∧ yX6_penOf.cls ≠ "java/lang/invoke/MethodHandle" ∧ yX6_penOf.cls ≠ "java/lang/invoke/VarHandle" ∧ (parseMethodDescriptor yX6_penOf.desc).map (fun d => d.parameters.length) = some 1 := by decide +kernel
set_option maxHeartbeats 4000000 in
set_option maxRecDepth 100000 in
theorem c_X6_penOf (l : Launch) (D : va_G) (cI cR : ClassId) (o a1 a2 a3 a4 a5 a6 ed C V Ac : Nat) (w : Nat → Nat) (n : Nat) (P X Y L : Nat → Nat) (a : Int) (hge : zGe n P X Y) (hR : zRl w n P X Y L) (hset : zSt C V Ac) (ha : zR a) : Met l yX6_penOf wm_X6_penOf ({ frames := 2, cells := 0, slots := 0, locals := 43 } : Room) (va_Pc [.ref o, .int (zI a)] (zW D cI cR [(o, .inr (6, [.ref a1, .ref a2, .int (nI ed), .int (nI C), .int (nI V), .int (nI Ac), .ref a3, .ref a4, .ref a5, .ref a6])), (a1, zA cI 49 w)])) (vp_Si (fun r => r = zI (an_penOf n P a))) 0 0 (fun _ => False) := by
  refine Met.ofW (cc := cX6_penOf) (maxL := 2) (ret := (some .int)) (by decide) rfl ?_
  intro p e s m args below meth c s₁ B hml hv
  obtain ⟨rfl, hG⟩ := hv
  have S : CallFix p m c cX6_penOf 2 s ([.ref o, .int (zI a)] : List Value).toArray wU RX6 := ⟨B.exec, B.bytes, hml, findClass_of_methodNamed B.named, fun w h => atoms_spec (ws := wm_X6_penOf) B.pre w (List.mem_cons_of_mem _ h)⟩
  have hr := B.returns
  have hlocks := B.notSynchronized
  have hG : zG D cI cR [(o, .inr (6, [.ref a1, .ref a2, .int (nI ed), .int (nI C), .int (nI V), .int (nI Ac), .ref a3, .ref a4, .ref a5, .ref a6])), (a1, zA cI 49 w)] s s.heap := hG
  have hl := lv_entry ([.ref o, .int (zI a)]) (n := 2) (Nat.le_of_ble_eq_true rfl)
  rw [lg_entry_eq]
  generalize (lg_sl ([.ref o, .int (zI a)]) ++ List.replicate (2 - (lg_sl ([.ref o, .int (zI a)])).length) Slot.unset).toArray = ls at hl ⊢
  have hl : lv_has ls 2 [(0, .ref o), (1, .int (zI a))] := hl
  have r_ha := id ha
  unfold zR at r_ha
  obtain ⟨hn, hPf, hXY⟩ := id hge
  obtain ⟨hC, hV0, hAc⟩ := id hset
  refine lv_aload_n (pc := 0) S.1 S.2.1 dX6_penOf_0 rfl (lv_at hl 0 rfl) ?_
  refine lv_iload_n (pc := 1) S.1 S.2.1 dX6_penOf_1 rfl (lv_at hl 1 rfl) ?_
  refine zz_callV (pc := 2) (As := [.int (zI a)]) (rest := []) S (c_X6_isStroke l D cI cR o a1 a2 a3 a4 a5 a6 ed C V Ac w n P X Y L a hge hR hset (by unfold zR; omega)) (zuV wd_165 wd_162 wd_163 wd_164 wd_5) 1 rfl q_X6_isStroke ⟨⟨rfl, rfl⟩, Nat.le_of_ble_eq_true rfl, Nat.le_of_ble_eq_true rfl⟩ hG [0, 1] rfl 0 rfl rfl rfl rfl rfl (Nat.le_of_ble_eq_true rfl) hl.1 ⟨Nat.zero_le _, Nat.zero_le _⟩ dX6_penOf_2 ?_
  refine zz_ifb_eq (pc := 5) (tgt := 16) S dX6_penOf_5 (by decide) (fun c5 => ?_) (fun c5 => ?_)
  · refine zz_iconst (pc := 16) (v := zI (-1)) S dX6_penOf_16 rfl ?_
    exact zz_iretS (pc := 17) S hr hlocks (congrArg zI (a₁ := (-1)) (by unfold an_penOf; first | rw [if_pos (by omega)] | rw [if_neg (by omega)])) dX6_penOf_17
  · have hl : lv_has ls 2 [(0, .ref o), (1, .int (nI a.toNat))] := by rw [← (zn_of (z := a) (n := a.toNat) (by omega))]; exact hl
    refine lv_aload_n (pc := 8) S.1 S.2.1 dX6_penOf_8 rfl (lv_at hl 0 rfl) ?_
    refine lv_iload_n (pc := 9) S.1 S.2.1 dX6_penOf_9 rfl (lv_at hl 1 rfl) ?_
    refine zz_callV (pc := 10) (As := [.int (nI a.toNat)]) (rest := []) S (c_X6_penAt l D cI cR o a1 a2 a3 a4 a5 a6 ed C V Ac w n P X Y L a.toNat hge hR hset (by omega)) (zuV wd_193 wd_190 wd_191 wd_192 wd_5) 1 rfl q_X6_penAt ⟨⟨rfl, rfl⟩, Nat.le_of_ble_eq_true rfl, Nat.le_of_ble_eq_true rfl⟩ hG [0, 1] rfl 0 rfl rfl rfl rfl rfl (Nat.le_of_ble_eq_true rfl) hl.1 ⟨Nat.zero_le _, Nat.zero_le _⟩ dX6_penOf_10 ?_
    have g1 := hPf a.toNat (by omega)
    refine lv_goto (pc := 13) (tgt := 17) S.1 S.2.1 dX6_penOf_13 (by decide) ?_
    exact zz_iretS (pc := 17) S hr hlocks (congrArg zI (a₁ := ((P a.toNat : Nat) : Int)) (by unfold an_penOf; first | rw [if_pos (by omega)] | rw [if_neg (by omega)])) dX6_penOf_17
abbrev wm_X6_areAlike : List Cond := .code yX6_areAlike cX6_areAlike 5 (some .boolean) :: wU
theorem q_X6_areAlike : yX6_areAlike.cls = RX6 ∧ yX6_areAlike.cls ≠ "java/lang/invoke/MethodHandle" ∧ yX6_areAlike.cls ≠ "java/lang/invoke/VarHandle" ∧ (parseMethodDescriptor yX6_areAlike.desc).map (fun d => d.parameters.length) = some 2 := by decide +kernel
set_option maxHeartbeats 4000000 in
set_option maxRecDepth 100000 in
theorem c_X6_areAlike (l : Launch) (D : va_G) (cI cR : ClassId) (o a1 a2 a3 a4 a5 a6 ed C V Ac : Nat) (w : Nat → Nat) (n : Nat) (P X Y L : Nat → Nat) (a : Nat) (b : Nat) (hge : zGe n P X Y) (hR : zRl w n P X Y L) (hset : zSt C V Ac) (ha : a < n) (hb : b < n) : Met l yX6_areAlike wm_X6_areAlike ({ frames := 1, cells := 0, slots := 0, locals := 21 } : Room) (va_Pc [.ref o, .int (nI a), .int (nI b)] (zW D cI cR [(o, .inr (6, [.ref a1, .ref a2, .int (nI ed), .int (nI C), .int (nI V), .int (nI Ac), .ref a3, .ref a4, .ref a5, .ref a6])), (a1, zA cI 49 w)])) (vp_Si (fun r => r = nI (zB (alk P X Y a b)))) 0 0 (fun _ => False) := by
  refine Met.ofW (cc := cX6_areAlike) (maxL := 5) (ret := (some .boolean)) (by decide) rfl ?_
  intro p e s m args below meth c s₁ B hml hv
  obtain ⟨rfl, hG⟩ := hv
  have S : CallFix p m c cX6_areAlike 5 s ([.ref o, .int (nI a), .int (nI b)] : List Value).toArray wU RX6 := ⟨B.exec, B.bytes, hml, findClass_of_methodNamed B.named, fun w h => atoms_spec (ws := wm_X6_areAlike) B.pre w (List.mem_cons_of_mem _ h)⟩
  have hr := B.returns
  have hlocks := B.notSynchronized
  have hG : zG D cI cR [(o, .inr (6, [.ref a1, .ref a2, .int (nI ed), .int (nI C), .int (nI V), .int (nI Ac), .ref a3, .ref a4, .ref a5, .ref a6])), (a1, zA cI 49 w)] s s.heap := hG
  have hl := lv_entry ([.ref o, .int (nI a), .int (nI b)]) (n := 5) (Nat.le_of_ble_eq_true rfl)
  rw [lg_entry_eq]
  generalize (lg_sl ([.ref o, .int (nI a), .int (nI b)]) ++ List.replicate (5 - (lg_sl ([.ref o, .int (nI a), .int (nI b)])).length) Slot.unset).toArray = ls at hl ⊢
  have hl : lv_has ls 5 [(0, .ref o), (1, .int (nI a)), (2, .int (nI b))] := hl
  obtain ⟨hn, hPf, hXY⟩ := id hge
  obtain ⟨hC, hV0, hAc⟩ := id hset
  have J1 : ∀ ls : Array Slot, lv_has ls 5 [(0, .ref o), (1, .int (nI a)), (2, .int (nI b))] → W p l e (headSpec wm_X6_areAlike ({ frames := 1, cells := 0, slots := 0, locals := 21 } : Room)).room s m ([.ref o, .int (nI a), .int (nI b)] : List Value).toArray below meth c s.heap [] 0 0 (MQ below (vp_Si (fun r => r = nI (zB (alk P X Y a b)))) ([.ref o, .int (nI a), .int (nI b)] : List Value).toArray s 0 0 (fun _ => False)) (F0 m 93 ls [.int (nI (zB (X (2 * a) = X (2 * b) ∧ Y (2 * a) = Y (2 * b) ∧ X (2 * a + 1) = X (2 * b + 1) ∧ Y (2 * a + 1) = Y (2 * b + 1))))]) := by
    intro ls hl
    refine lv_istore_n (pc := 93) (lv' := [(3, .int (nI (zB (X (2 * a) = X (2 * b) ∧ Y (2 * a) = Y (2 * b) ∧ X (2 * a + 1) = X (2 * b + 1) ∧ Y (2 * a + 1) = Y (2 * b + 1))))), (0, .ref o), (1, .int (nI a)), (2, .int (nI b))]) S.1 S.2.1 dX6_areAlike_93 rfl hl (by decide) rfl (fun ls hl => ?_)
    have J2 : ∀ ls : Array Slot, lv_has ls 5 [(0, .ref o), (1, .int (nI a)), (2, .int (nI b)), (3, .int (nI (zB (X (2 * a) = X (2 * b) ∧ Y (2 * a) = Y (2 * b) ∧ X (2 * a + 1) = X (2 * b + 1) ∧ Y (2 * a + 1) = Y (2 * b + 1)))))] → W p l e (headSpec wm_X6_areAlike ({ frames := 1, cells := 0, slots := 0, locals := 21 } : Room)).room s m ([.ref o, .int (nI a), .int (nI b)] : List Value).toArray below meth c s.heap [] 0 0 (MQ below (vp_Si (fun r => r = nI (zB (alk P X Y a b)))) ([.ref o, .int (nI a), .int (nI b)] : List Value).toArray s 0 0 (fun _ => False)) (F0 m 187 ls [.int (nI (zB (X (2 * a) = X (2 * b + 1) ∧ Y (2 * a) = Y (2 * b + 1) ∧ X (2 * a + 1) = X (2 * b) ∧ Y (2 * a + 1) = Y (2 * b))))]) := by
      intro ls hl
      refine lv_istore (pc := 187) (lv' := [(4, .int (nI (zB (X (2 * a) = X (2 * b + 1) ∧ Y (2 * a) = Y (2 * b + 1) ∧ X (2 * a + 1) = X (2 * b) ∧ Y (2 * a + 1) = Y (2 * b))))), (0, .ref o), (1, .int (nI a)), (2, .int (nI b)), (3, .int (nI (zB (X (2 * a) = X (2 * b) ∧ Y (2 * a) = Y (2 * b) ∧ X (2 * a + 1) = X (2 * b + 1) ∧ Y (2 * a + 1) = Y (2 * b + 1)))))]) S.1 S.2.1 dX6_areAlike_187 hl (by decide) rfl (fun ls hl => ?_)
      refine lv_aload_n (pc := 189) S.1 S.2.1 dX6_areAlike_189 rfl (lv_at hl 1 rfl) ?_
      refine lv_iload_n (pc := 190) S.1 S.2.1 dX6_areAlike_190 rfl (lv_at hl 2 rfl) ?_
      refine zz_callV (pc := 191) (As := [.int (nI a)]) (rest := []) S (c_X6_penAt l D cI cR o a1 a2 a3 a4 a5 a6 ed C V Ac w n P X Y L a hge hR hset (by omega)) (zuV wd_193 wd_190 wd_191 wd_192 wd_5) 1 rfl q_X6_penAt ⟨⟨rfl, rfl⟩, Nat.le_of_ble_eq_true rfl, Nat.le_of_ble_eq_true rfl⟩ hG [0, 1] rfl 0 rfl rfl rfl rfl rfl (Nat.le_of_ble_eq_true rfl) hl.1 ⟨Nat.zero_le _, Nat.zero_le _⟩ dX6_areAlike_191 ?_
      have g3 := hPf a (by omega)
      refine lv_aload_n (pc := 194) S.1 S.2.1 dX6_areAlike_194 rfl (lv_at hl 1 rfl) ?_
      refine lv_iload_n (pc := 195) S.1 S.2.1 dX6_areAlike_195 rfl (lv_at hl 3 rfl) ?_
      refine zz_callV (pc := 196) (As := [.int (nI b)]) (rest := [.int (nI (P a))]) S (c_X6_penAt l D cI cR o a1 a2 a3 a4 a5 a6 ed C V Ac w n P X Y L b hge hR hset (by omega)) (zuV wd_193 wd_190 wd_191 wd_192 wd_5) 1 rfl q_X6_penAt ⟨⟨rfl, rfl⟩, Nat.le_of_ble_eq_true rfl, Nat.le_of_ble_eq_true rfl⟩ hG [0, 1] rfl 0 rfl rfl rfl rfl rfl (Nat.le_of_ble_eq_true rfl) hl.1 ⟨Nat.zero_le _, Nat.zero_le _⟩ dX6_areAlike_196 ?_
      have g4 := hPf b (by omega)
      refine zz_icmp_ne (pc := 199) (tgt := 215) S dX6_areAlike_199 (by decide) (n_eq (by omega) (by omega)) (fun c199 => ?_) (fun c199 => ?_)
      · refine zz_iconst (pc := 215) (v := nI 0) S dX6_areAlike_215 rfl ?_
        exact zz_bretS (pc := 216) S hr hlocks (by decide) (congrArg nI (zB_f (by first | omega | exact ⟨by omega, Or.inl (by assumption)⟩ | exact ⟨by omega, Or.inr (by assumption)⟩ | (intro q; obtain ⟨q1, q2 | q2⟩ := q <;> first | omega | contradiction))).symm) dX6_areAlike_216
      · refine lv_iload_n (pc := 202) S.1 S.2.1 dX6_areAlike_202 rfl (lv_at hl 4 rfl) ?_
        refine zz_ifb_ne (pc := 203) (tgt := 211) S dX6_areAlike_203 (by decide) (fun c203 => ?_) (fun c203 => ?_)
        · refine zz_iconst (pc := 211) (v := nI 1) S dX6_areAlike_211 rfl ?_
          refine lv_goto (pc := 212) (tgt := 216) S.1 S.2.1 dX6_areAlike_212 (by decide) ?_
          exact zz_bretS (pc := 216) S hr hlocks (by decide) (congrArg nI (zB_t (by first | omega | exact ⟨by omega, Or.inl (by assumption)⟩ | exact ⟨by omega, Or.inr (by assumption)⟩ | (intro q; obtain ⟨q1, q2 | q2⟩ := q <;> first | omega | contradiction))).symm) dX6_areAlike_216
        · refine lv_iload (pc := 206) S.1 S.2.1 dX6_areAlike_206 (lv_at hl 0 rfl) ?_
          refine zz_ifb_eq (pc := 208) (tgt := 215) S dX6_areAlike_208 (by decide) (fun c208 => ?_) (fun c208 => ?_)
          · refine zz_iconst (pc := 215) (v := nI 0) S dX6_areAlike_215 rfl ?_
            exact zz_bretS (pc := 216) S hr hlocks (by decide) (congrArg nI (zB_f (by first | omega | exact ⟨by omega, Or.inl (by assumption)⟩ | exact ⟨by omega, Or.inr (by assumption)⟩ | (intro q; obtain ⟨q1, q2 | q2⟩ := q <;> first | omega | contradiction))).symm) dX6_areAlike_216
          · refine zz_iconst (pc := 211) (v := nI 1) S dX6_areAlike_211 rfl ?_
            refine lv_goto (pc := 212) (tgt := 216) S.1 S.2.1 dX6_areAlike_212 (by decide) ?_
            exact zz_bretS (pc := 216) S hr hlocks (by decide) (congrArg nI (zB_t (by first | omega | exact ⟨by omega, Or.inl (by assumption)⟩ | exact ⟨by omega, Or.inr (by assumption)⟩ | (intro q; obtain ⟨q1, q2 | q2⟩ := q <;> first | omega | contradiction))).symm) dX6_areAlike_216
    refine lv_aload_n (pc := 94) S.1 S.2.1 dX6_areAlike_94 rfl (lv_at hl 1 rfl) ?_
    refine zz_get (pc := 95) S hG iX6 0 rfl rfl 0 (by decide) wd_67 rfl rfl dX6_areAlike_95 ?_
    refine zz_iconst (pc := 98) (v := nI 5) S dX6_areAlike_98 rfl ?_
    refine lv_iload_n (pc := 99) S.1 S.2.1 dX6_areAlike_99 rfl (lv_at hl 2 rfl) ?_
    refine zz_imul (pc := 100) (v := nI (5 * a)) S dX6_areAlike_100 (n_mul _ _) ?_
    refine zz_iald (pc := 101) (k := 5 * a) S hG 1 rfl (by omega) dX6_areAlike_101 ?_
    refine zz_cast (v := nI (X (2 * a))) (congrArg nI (hR.x0 (s := a) (by omega))) ?_
    have g5 := (hXY (2 * a) (by omega)).1
    refine lv_aload_n (pc := 102) S.1 S.2.1 dX6_areAlike_102 rfl (lv_at hl 1 rfl) ?_
    refine zz_get (pc := 103) S hG iX6 0 rfl rfl 0 (by decide) wd_67 rfl rfl dX6_areAlike_103 ?_
    refine zz_iconst (pc := 106) (v := nI 5) S dX6_areAlike_106 rfl ?_
    refine lv_iload_n (pc := 107) S.1 S.2.1 dX6_areAlike_107 rfl (lv_at hl 3 rfl) ?_
    refine zz_imul (pc := 108) (v := nI (5 * b)) S dX6_areAlike_108 (n_mul _ _) ?_
    refine zz_iconst (pc := 109) (v := nI 2) S dX6_areAlike_109 rfl ?_
    refine zz_iadd (pc := 110) (v := nI (5 * b + 2)) S dX6_areAlike_110 (n_add _ _) ?_
    refine zz_iald (pc := 111) (k := 5 * b + 2) S hG 1 rfl (by omega) dX6_areAlike_111 ?_
    refine zz_cast (v := nI (X (2 * b + 1))) (congrArg nI (hR.x1 (s := b) (by omega))) ?_
    have g6 := (hXY (2 * b + 1) (by omega)).1
    refine zz_icmp_ne (pc := 112) (tgt := 186) S dX6_areAlike_112 (by decide) (n_eq (by omega) (by omega)) (fun c112 => ?_) (fun c112 => ?_)
    · refine zz_iconst (pc := 186) (v := nI 0) S dX6_areAlike_186 rfl ?_
      refine zz_cast (v := nI (zB (X (2 * a) = X (2 * b + 1) ∧ Y (2 * a) = Y (2 * b + 1) ∧ X (2 * a + 1) = X (2 * b) ∧ Y (2 * a + 1) = Y (2 * b)))) (congrArg nI (zB_f (by omega)).symm) ?_
      exact J2 ls (lv_sub hl [1, 2, 3, 0] rfl)
    · refine lv_aload_n (pc := 115) S.1 S.2.1 dX6_areAlike_115 rfl (lv_at hl 1 rfl) ?_
      refine zz_get (pc := 116) S hG iX6 0 rfl rfl 0 (by decide) wd_67 rfl rfl dX6_areAlike_116 ?_
      refine zz_iconst (pc := 119) (v := nI 5) S dX6_areAlike_119 rfl ?_
      refine lv_iload_n (pc := 120) S.1 S.2.1 dX6_areAlike_120 rfl (lv_at hl 2 rfl) ?_
      refine zz_imul (pc := 121) (v := nI (5 * a)) S dX6_areAlike_121 (n_mul _ _) ?_
      refine zz_iconst (pc := 122) (v := nI 1) S dX6_areAlike_122 rfl ?_
      refine zz_iadd (pc := 123) (v := nI (5 * a + 1)) S dX6_areAlike_123 (n_add _ _) ?_
      refine zz_iald (pc := 124) (k := 5 * a + 1) S hG 1 rfl (by omega) dX6_areAlike_124 ?_
      refine zz_cast (v := nI (Y (2 * a))) (congrArg nI (hR.y0 (s := a) (by omega))) ?_
      have g7 := (hXY (2 * a) (by omega)).2
      refine lv_aload_n (pc := 125) S.1 S.2.1 dX6_areAlike_125 rfl (lv_at hl 1 rfl) ?_
      refine zz_get (pc := 126) S hG iX6 0 rfl rfl 0 (by decide) wd_67 rfl rfl dX6_areAlike_126 ?_
      refine zz_iconst (pc := 129) (v := nI 5) S dX6_areAlike_129 rfl ?_
      refine lv_iload_n (pc := 130) S.1 S.2.1 dX6_areAlike_130 rfl (lv_at hl 3 rfl) ?_
      refine zz_imul (pc := 131) (v := nI (5 * b)) S dX6_areAlike_131 (n_mul _ _) ?_
      refine zz_iconst (pc := 132) (v := nI 3) S dX6_areAlike_132 rfl ?_
      refine zz_iadd (pc := 133) (v := nI (5 * b + 3)) S dX6_areAlike_133 (n_add _ _) ?_
      refine zz_iald (pc := 134) (k := 5 * b + 3) S hG 1 rfl (by omega) dX6_areAlike_134 ?_
      refine zz_cast (v := nI (Y (2 * b + 1))) (congrArg nI (hR.y1 (s := b) (by omega))) ?_
      have g8 := (hXY (2 * b + 1) (by omega)).2
      refine zz_icmp_ne (pc := 135) (tgt := 186) S dX6_areAlike_135 (by decide) (n_eq (by omega) (by omega)) (fun c135 => ?_) (fun c135 => ?_)
      · refine zz_iconst (pc := 186) (v := nI 0) S dX6_areAlike_186 rfl ?_
        refine zz_cast (v := nI (zB (X (2 * a) = X (2 * b + 1) ∧ Y (2 * a) = Y (2 * b + 1) ∧ X (2 * a + 1) = X (2 * b) ∧ Y (2 * a + 1) = Y (2 * b)))) (congrArg nI (zB_f (by omega)).symm) ?_
        exact J2 ls (lv_sub hl [1, 2, 3, 0] rfl)
      · refine lv_aload_n (pc := 138) S.1 S.2.1 dX6_areAlike_138 rfl (lv_at hl 1 rfl) ?_
        refine zz_get (pc := 139) S hG iX6 0 rfl rfl 0 (by decide) wd_67 rfl rfl dX6_areAlike_139 ?_
        refine zz_iconst (pc := 142) (v := nI 5) S dX6_areAlike_142 rfl ?_
        refine lv_iload_n (pc := 143) S.1 S.2.1 dX6_areAlike_143 rfl (lv_at hl 2 rfl) ?_
        refine zz_imul (pc := 144) (v := nI (5 * a)) S dX6_areAlike_144 (n_mul _ _) ?_
        refine zz_iconst (pc := 145) (v := nI 2) S dX6_areAlike_145 rfl ?_
        refine zz_iadd (pc := 146) (v := nI (5 * a + 2)) S dX6_areAlike_146 (n_add _ _) ?_
        refine zz_iald (pc := 147) (k := 5 * a + 2) S hG 1 rfl (by omega) dX6_areAlike_147 ?_
        refine zz_cast (v := nI (X (2 * a + 1))) (congrArg nI (hR.x1 (s := a) (by omega))) ?_
        have g9 := (hXY (2 * a + 1) (by omega)).1
        refine lv_aload_n (pc := 148) S.1 S.2.1 dX6_areAlike_148 rfl (lv_at hl 1 rfl) ?_
        refine zz_get (pc := 149) S hG iX6 0 rfl rfl 0 (by decide) wd_67 rfl rfl dX6_areAlike_149 ?_
        refine zz_iconst (pc := 152) (v := nI 5) S dX6_areAlike_152 rfl ?_
        refine lv_iload_n (pc := 153) S.1 S.2.1 dX6_areAlike_153 rfl (lv_at hl 3 rfl) ?_
        refine zz_imul (pc := 154) (v := nI (5 * b)) S dX6_areAlike_154 (n_mul _ _) ?_
        refine zz_iald (pc := 155) (k := 5 * b) S hG 1 rfl (by omega) dX6_areAlike_155 ?_
        refine zz_cast (v := nI (X (2 * b))) (congrArg nI (hR.x0 (s := b) (by omega))) ?_
        have g10 := (hXY (2 * b) (by omega)).1
        refine zz_icmp_ne (pc := 156) (tgt := 186) S dX6_areAlike_156 (by decide) (n_eq (by omega) (by omega)) (fun c156 => ?_) (fun c156 => ?_)
        · refine zz_iconst (pc := 186) (v := nI 0) S dX6_areAlike_186 rfl ?_
          refine zz_cast (v := nI (zB (X (2 * a) = X (2 * b + 1) ∧ Y (2 * a) = Y (2 * b + 1) ∧ X (2 * a + 1) = X (2 * b) ∧ Y (2 * a + 1) = Y (2 * b)))) (congrArg nI (zB_f (by omega)).symm) ?_
          exact J2 ls (lv_sub hl [1, 2, 3, 0] rfl)
        · refine lv_aload_n (pc := 159) S.1 S.2.1 dX6_areAlike_159 rfl (lv_at hl 1 rfl) ?_
          refine zz_get (pc := 160) S hG iX6 0 rfl rfl 0 (by decide) wd_67 rfl rfl dX6_areAlike_160 ?_
          refine zz_iconst (pc := 163) (v := nI 5) S dX6_areAlike_163 rfl ?_
          refine lv_iload_n (pc := 164) S.1 S.2.1 dX6_areAlike_164 rfl (lv_at hl 2 rfl) ?_
          refine zz_imul (pc := 165) (v := nI (5 * a)) S dX6_areAlike_165 (n_mul _ _) ?_
          refine zz_iconst (pc := 166) (v := nI 3) S dX6_areAlike_166 rfl ?_
          refine zz_iadd (pc := 167) (v := nI (5 * a + 3)) S dX6_areAlike_167 (n_add _ _) ?_
          refine zz_iald (pc := 168) (k := 5 * a + 3) S hG 1 rfl (by omega) dX6_areAlike_168 ?_
          refine zz_cast (v := nI (Y (2 * a + 1))) (congrArg nI (hR.y1 (s := a) (by omega))) ?_
          have g11 := (hXY (2 * a + 1) (by omega)).2
          refine lv_aload_n (pc := 169) S.1 S.2.1 dX6_areAlike_169 rfl (lv_at hl 1 rfl) ?_
          refine zz_get (pc := 170) S hG iX6 0 rfl rfl 0 (by decide) wd_67 rfl rfl dX6_areAlike_170 ?_
          refine zz_iconst (pc := 173) (v := nI 5) S dX6_areAlike_173 rfl ?_
          refine lv_iload_n (pc := 174) S.1 S.2.1 dX6_areAlike_174 rfl (lv_at hl 3 rfl) ?_
          refine zz_imul (pc := 175) (v := nI (5 * b)) S dX6_areAlike_175 (n_mul _ _) ?_
          refine zz_iconst (pc := 176) (v := nI 1) S dX6_areAlike_176 rfl ?_
          refine zz_iadd (pc := 177) (v := nI (5 * b + 1)) S dX6_areAlike_177 (n_add _ _) ?_
          refine zz_iald (pc := 178) (k := 5 * b + 1) S hG 1 rfl (by omega) dX6_areAlike_178 ?_
          refine zz_cast (v := nI (Y (2 * b))) (congrArg nI (hR.y0 (s := b) (by omega))) ?_
          have g12 := (hXY (2 * b) (by omega)).2
          refine zz_icmp_ne (pc := 179) (tgt := 186) S dX6_areAlike_179 (by decide) (n_eq (by omega) (by omega)) (fun c179 => ?_) (fun c179 => ?_)
          · refine zz_iconst (pc := 186) (v := nI 0) S dX6_areAlike_186 rfl ?_
            refine zz_cast (v := nI (zB (X (2 * a) = X (2 * b + 1) ∧ Y (2 * a) = Y (2 * b + 1) ∧ X (2 * a + 1) = X (2 * b) ∧ Y (2 * a + 1) = Y (2 * b)))) (congrArg nI (zB_f (by omega)).symm) ?_
            exact J2 ls (lv_sub hl [1, 2, 3, 0] rfl)
          · refine zz_iconst (pc := 182) (v := nI 1) S dX6_areAlike_182 rfl ?_
            refine lv_goto (pc := 183) (tgt := 187) S.1 S.2.1 dX6_areAlike_183 (by decide) ?_
            refine zz_cast (v := nI (zB (X (2 * a) = X (2 * b + 1) ∧ Y (2 * a) = Y (2 * b + 1) ∧ X (2 * a + 1) = X (2 * b) ∧ Y (2 * a + 1) = Y (2 * b)))) (congrArg nI (zB_t (by omega)).symm) ?_
            exact J2 ls (lv_sub hl [1, 2, 3, 0] rfl)
  refine lv_aload_n (pc := 0) S.1 S.2.1 dX6_areAlike_0 rfl (lv_at hl 0 rfl) ?_
  refine zz_get (pc := 1) S hG iX6 0 rfl rfl 0 (by decide) wd_67 rfl rfl dX6_areAlike_1 ?_
  refine zz_iconst (pc := 4) (v := nI 5) S dX6_areAlike_4 rfl ?_
  refine lv_iload_n (pc := 5) S.1 S.2.1 dX6_areAlike_5 rfl (lv_at hl 1 rfl) ?_
  refine zz_imul (pc := 6) (v := nI (5 * a)) S dX6_areAlike_6 (n_mul _ _) ?_
  refine zz_iald (pc := 7) (k := 5 * a) S hG 1 rfl (by omega) dX6_areAlike_7 ?_
  refine zz_cast (v := nI (X (2 * a))) (congrArg nI (hR.x0 (s := a) (by omega))) ?_
  have g13 := (hXY (2 * a) (by omega)).1
  refine lv_aload_n (pc := 8) S.1 S.2.1 dX6_areAlike_8 rfl (lv_at hl 0 rfl) ?_
  refine zz_get (pc := 9) S hG iX6 0 rfl rfl 0 (by decide) wd_67 rfl rfl dX6_areAlike_9 ?_
  refine zz_iconst (pc := 12) (v := nI 5) S dX6_areAlike_12 rfl ?_
  refine lv_iload_n (pc := 13) S.1 S.2.1 dX6_areAlike_13 rfl (lv_at hl 2 rfl) ?_
  refine zz_imul (pc := 14) (v := nI (5 * b)) S dX6_areAlike_14 (n_mul _ _) ?_
  refine zz_iald (pc := 15) (k := 5 * b) S hG 1 rfl (by omega) dX6_areAlike_15 ?_
  refine zz_cast (v := nI (X (2 * b))) (congrArg nI (hR.x0 (s := b) (by omega))) ?_
  have g14 := (hXY (2 * b) (by omega)).1
  refine zz_icmp_ne (pc := 16) (tgt := 92) S dX6_areAlike_16 (by decide) (n_eq (by omega) (by omega)) (fun c16 => ?_) (fun c16 => ?_)
  · refine zz_iconst (pc := 92) (v := nI 0) S dX6_areAlike_92 rfl ?_
    refine zz_cast (v := nI (zB (X (2 * a) = X (2 * b) ∧ Y (2 * a) = Y (2 * b) ∧ X (2 * a + 1) = X (2 * b + 1) ∧ Y (2 * a + 1) = Y (2 * b + 1)))) (congrArg nI (zB_f (by omega)).symm) ?_
    exact J1 ls (lv_sub hl [0, 1, 2] rfl)
  · refine lv_aload_n (pc := 19) S.1 S.2.1 dX6_areAlike_19 rfl (lv_at hl 0 rfl) ?_
    refine zz_get (pc := 20) S hG iX6 0 rfl rfl 0 (by decide) wd_67 rfl rfl dX6_areAlike_20 ?_
    refine zz_iconst (pc := 23) (v := nI 5) S dX6_areAlike_23 rfl ?_
    refine lv_iload_n (pc := 24) S.1 S.2.1 dX6_areAlike_24 rfl (lv_at hl 1 rfl) ?_
    refine zz_imul (pc := 25) (v := nI (5 * a)) S dX6_areAlike_25 (n_mul _ _) ?_
    refine zz_iconst (pc := 26) (v := nI 1) S dX6_areAlike_26 rfl ?_
    refine zz_iadd (pc := 27) (v := nI (5 * a + 1)) S dX6_areAlike_27 (n_add _ _) ?_
    refine zz_iald (pc := 28) (k := 5 * a + 1) S hG 1 rfl (by omega) dX6_areAlike_28 ?_
    refine zz_cast (v := nI (Y (2 * a))) (congrArg nI (hR.y0 (s := a) (by omega))) ?_
    have g15 := (hXY (2 * a) (by omega)).2
    refine lv_aload_n (pc := 29) S.1 S.2.1 dX6_areAlike_29 rfl (lv_at hl 0 rfl) ?_
    refine zz_get (pc := 30) S hG iX6 0 rfl rfl 0 (by decide) wd_67 rfl rfl dX6_areAlike_30 ?_
    refine zz_iconst (pc := 33) (v := nI 5) S dX6_areAlike_33 rfl ?_
    refine lv_iload_n (pc := 34) S.1 S.2.1 dX6_areAlike_34 rfl (lv_at hl 2 rfl) ?_
    refine zz_imul (pc := 35) (v := nI (5 * b)) S dX6_areAlike_35 (n_mul _ _) ?_
    refine zz_iconst (pc := 36) (v := nI 1) S dX6_areAlike_36 rfl ?_
    refine zz_iadd (pc := 37) (v := nI (5 * b + 1)) S dX6_areAlike_37 (n_add _ _) ?_
    refine zz_iald (pc := 38) (k := 5 * b + 1) S hG 1 rfl (by omega) dX6_areAlike_38 ?_
    refine zz_cast (v := nI (Y (2 * b))) (congrArg nI (hR.y0 (s := b) (by omega))) ?_
    have g16 := (hXY (2 * b) (by omega)).2
    refine zz_icmp_ne (pc := 39) (tgt := 92) S dX6_areAlike_39 (by decide) (n_eq (by omega) (by omega)) (fun c39 => ?_) (fun c39 => ?_)
    · refine zz_iconst (pc := 92) (v := nI 0) S dX6_areAlike_92 rfl ?_
      refine zz_cast (v := nI (zB (X (2 * a) = X (2 * b) ∧ Y (2 * a) = Y (2 * b) ∧ X (2 * a + 1) = X (2 * b + 1) ∧ Y (2 * a + 1) = Y (2 * b + 1)))) (congrArg nI (zB_f (by omega)).symm) ?_
      exact J1 ls (lv_sub hl [0, 1, 2] rfl)
    · refine lv_aload_n (pc := 42) S.1 S.2.1 dX6_areAlike_42 rfl (lv_at hl 0 rfl) ?_
      refine zz_get (pc := 43) S hG iX6 0 rfl rfl 0 (by decide) wd_67 rfl rfl dX6_areAlike_43 ?_
      refine zz_iconst (pc := 46) (v := nI 5) S dX6_areAlike_46 rfl ?_
      refine lv_iload_n (pc := 47) S.1 S.2.1 dX6_areAlike_47 rfl (lv_at hl 1 rfl) ?_
      refine zz_imul (pc := 48) (v := nI (5 * a)) S dX6_areAlike_48 (n_mul _ _) ?_
      refine zz_iconst (pc := 49) (v := nI 2) S dX6_areAlike_49 rfl ?_
      refine zz_iadd (pc := 50) (v := nI (5 * a + 2)) S dX6_areAlike_50 (n_add _ _) ?_
      refine zz_iald (pc := 51) (k := 5 * a + 2) S hG 1 rfl (by omega) dX6_areAlike_51 ?_
      refine zz_cast (v := nI (X (2 * a + 1))) (congrArg nI (hR.x1 (s := a) (by omega))) ?_
      have g17 := (hXY (2 * a + 1) (by omega)).1
      refine lv_aload_n (pc := 52) S.1 S.2.1 dX6_areAlike_52 rfl (lv_at hl 0 rfl) ?_
      refine zz_get (pc := 53) S hG iX6 0 rfl rfl 0 (by decide) wd_67 rfl rfl dX6_areAlike_53 ?_
      refine zz_iconst (pc := 56) (v := nI 5) S dX6_areAlike_56 rfl ?_
      refine lv_iload_n (pc := 57) S.1 S.2.1 dX6_areAlike_57 rfl (lv_at hl 2 rfl) ?_
      refine zz_imul (pc := 58) (v := nI (5 * b)) S dX6_areAlike_58 (n_mul _ _) ?_
      refine zz_iconst (pc := 59) (v := nI 2) S dX6_areAlike_59 rfl ?_
      refine zz_iadd (pc := 60) (v := nI (5 * b + 2)) S dX6_areAlike_60 (n_add _ _) ?_
      refine zz_iald (pc := 61) (k := 5 * b + 2) S hG 1 rfl (by omega) dX6_areAlike_61 ?_
      refine zz_cast (v := nI (X (2 * b + 1))) (congrArg nI (hR.x1 (s := b) (by omega))) ?_
      have g18 := (hXY (2 * b + 1) (by omega)).1
      refine zz_icmp_ne (pc := 62) (tgt := 92) S dX6_areAlike_62 (by decide) (n_eq (by omega) (by omega)) (fun c62 => ?_) (fun c62 => ?_)
      · refine zz_iconst (pc := 92) (v := nI 0) S dX6_areAlike_92 rfl ?_
        refine zz_cast (v := nI (zB (X (2 * a) = X (2 * b) ∧ Y (2 * a) = Y (2 * b) ∧ X (2 * a + 1) = X (2 * b + 1) ∧ Y (2 * a + 1) = Y (2 * b + 1)))) (congrArg nI (zB_f (by omega)).symm) ?_
        exact J1 ls (lv_sub hl [0, 1, 2] rfl)
      · refine lv_aload_n (pc := 65) S.1 S.2.1 dX6_areAlike_65 rfl (lv_at hl 0 rfl) ?_
        refine zz_get (pc := 66) S hG iX6 0 rfl rfl 0 (by decide) wd_67 rfl rfl dX6_areAlike_66 ?_
        refine zz_iconst (pc := 69) (v := nI 5) S dX6_areAlike_69 rfl ?_
        refine lv_iload_n (pc := 70) S.1 S.2.1 dX6_areAlike_70 rfl (lv_at hl 1 rfl) ?_
        refine zz_imul (pc := 71) (v := nI (5 * a)) S dX6_areAlike_71 (n_mul _ _) ?_
        refine zz_iconst (pc := 72) (v := nI 3) S dX6_areAlike_72 rfl ?_
        refine zz_iadd (pc := 73) (v := nI (5 * a + 3)) S dX6_areAlike_73 (n_add _ _) ?_
        refine zz_iald (pc := 74) (k := 5 * a + 3) S hG 1 rfl (by omega) dX6_areAlike_74 ?_
        refine zz_cast (v := nI (Y (2 * a + 1))) (congrArg nI (hR.y1 (s := a) (by omega))) ?_
        have g19 := (hXY (2 * a + 1) (by omega)).2
        refine lv_aload_n (pc := 75) S.1 S.2.1 dX6_areAlike_75 rfl (lv_at hl 0 rfl) ?_
        refine zz_get (pc := 76) S hG iX6 0 rfl rfl 0 (by decide) wd_67 rfl rfl dX6_areAlike_76 ?_
        refine zz_iconst (pc := 79) (v := nI 5) S dX6_areAlike_79 rfl ?_
        refine lv_iload_n (pc := 80) S.1 S.2.1 dX6_areAlike_80 rfl (lv_at hl 2 rfl) ?_
        refine zz_imul (pc := 81) (v := nI (5 * b)) S dX6_areAlike_81 (n_mul _ _) ?_
        refine zz_iconst (pc := 82) (v := nI 3) S dX6_areAlike_82 rfl ?_
        refine zz_iadd (pc := 83) (v := nI (5 * b + 3)) S dX6_areAlike_83 (n_add _ _) ?_
        refine zz_iald (pc := 84) (k := 5 * b + 3) S hG 1 rfl (by omega) dX6_areAlike_84 ?_
        refine zz_cast (v := nI (Y (2 * b + 1))) (congrArg nI (hR.y1 (s := b) (by omega))) ?_
        have g20 := (hXY (2 * b + 1) (by omega)).2
        refine zz_icmp_ne (pc := 85) (tgt := 92) S dX6_areAlike_85 (by decide) (n_eq (by omega) (by omega)) (fun c85 => ?_) (fun c85 => ?_)
        · refine zz_iconst (pc := 92) (v := nI 0) S dX6_areAlike_92 rfl ?_
          refine zz_cast (v := nI (zB (X (2 * a) = X (2 * b) ∧ Y (2 * a) = Y (2 * b) ∧ X (2 * a + 1) = X (2 * b + 1) ∧ Y (2 * a + 1) = Y (2 * b + 1)))) (congrArg nI (zB_f (by omega)).symm) ?_
          exact J1 ls (lv_sub hl [0, 1, 2] rfl)
        · refine zz_iconst (pc := 88) (v := nI 1) S dX6_areAlike_88 rfl ?_
          refine lv_goto (pc := 89) (tgt := 93) S.1 S.2.1 dX6_areAlike_89 (by decide) ?_
          refine zz_cast (v := nI (zB (X (2 * a) = X (2 * b) ∧ Y (2 * a) = Y (2 * b) ∧ X (2 * a + 1) = X (2 * b + 1) ∧ Y (2 * a + 1) = Y (2 * b + 1)))) (congrArg nI (zB_t (by omega)).symm) ?_
          exact J1 ls (lv_sub hl [0, 1, 2] rfl)
abbrev wm_X6_alikeTo : List Cond := .code yX6_alikeTo cX6_alikeTo 3 (some .int) :: wU
theorem q_X6_alikeTo : yX6_alikeTo.cls = RX6 ∧ yX6_alikeTo.cls ≠ "java/lang/invoke/MethodHandle" ∧ yX6_alikeTo.cls ≠ "java/lang/invoke/VarHandle" ∧ (parseMethodDescriptor yX6_alikeTo.desc).map (fun d => d.parameters.length) = some 1 := by decide +kernel
set_option maxHeartbeats 4000000 in
set_option maxRecDepth 100000 in
theorem c_X6_alikeTo (l : Launch) (D : va_G) (cI cR : ClassId) (o a1 a2 a3 a4 a5 a6 ed C V Ac : Nat) (w : Nat → Nat) (n : Nat) (P X Y L : Nat → Nat) (a : Int) (hge : zGe n P X Y) (hR : zRl w n P X Y L) (hset : zSt C V Ac) (ha : zR a) : Met l yX6_alikeTo wm_X6_alikeTo ({ frames := 2, cells := 0, slots := 0, locals := 45 } : Room) (va_Pc [.ref o, .int (zI a)] (zW D cI cR [(o, .inr (6, [.ref a1, .ref a2, .int (nI ed), .int (nI C), .int (nI V), .int (nI Ac), .ref a3, .ref a4, .ref a5, .ref a6])), (a1, zA cI 49 w)])) (vp_Si (fun r => r = zI (an_alike n P X Y a))) 0 0 (fun _ => False) := by
  refine Met.ofW (cc := cX6_alikeTo) (maxL := 3) (ret := (some .int)) (by decide) rfl ?_
  intro p e s m args below meth c s₁ B hml hv
  obtain ⟨rfl, hG⟩ := hv
  have S : CallFix p m c cX6_alikeTo 3 s ([.ref o, .int (zI a)] : List Value).toArray wU RX6 := ⟨B.exec, B.bytes, hml, findClass_of_methodNamed B.named, fun w h => atoms_spec (ws := wm_X6_alikeTo) B.pre w (List.mem_cons_of_mem _ h)⟩
  have hr := B.returns
  have hlocks := B.notSynchronized
  have hG : zG D cI cR [(o, .inr (6, [.ref a1, .ref a2, .int (nI ed), .int (nI C), .int (nI V), .int (nI Ac), .ref a3, .ref a4, .ref a5, .ref a6])), (a1, zA cI 49 w)] s s.heap := hG
  have hl := lv_entry ([.ref o, .int (zI a)]) (n := 3) (Nat.le_of_ble_eq_true rfl)
  rw [lg_entry_eq]
  generalize (lg_sl ([.ref o, .int (zI a)]) ++ List.replicate (3 - (lg_sl ([.ref o, .int (zI a)])).length) Slot.unset).toArray = ls at hl ⊢
  have hl : lv_has ls 3 [(0, .ref o), (1, .int (zI a))] := hl
  have r_ha := id ha
  unfold zR at r_ha
  obtain ⟨hn, hPf, hXY⟩ := id hge
  obtain ⟨hC, hV0, hAc⟩ := id hset
  refine lv_aload_n (pc := 0) S.1 S.2.1 dX6_alikeTo_0 rfl (lv_at hl 0 rfl) ?_
  refine lv_iload_n (pc := 1) S.1 S.2.1 dX6_alikeTo_1 rfl (lv_at hl 1 rfl) ?_
  refine zz_callV (pc := 2) (As := [.int (zI a)]) (rest := []) S (c_X6_isStroke l D cI cR o a1 a2 a3 a4 a5 a6 ed C V Ac w n P X Y L a hge hR hset (by unfold zR; omega)) (zuV wd_165 wd_162 wd_163 wd_164 wd_5) 1 rfl q_X6_isStroke ⟨⟨rfl, rfl⟩, Nat.le_of_ble_eq_true rfl, Nat.le_of_ble_eq_true rfl⟩ hG [0, 1] rfl 0 rfl rfl rfl rfl rfl (Nat.le_of_ble_eq_true rfl) hl.1 ⟨Nat.zero_le _, Nat.zero_le _⟩ dX6_alikeTo_2 ?_
  refine zz_ifb_ne (pc := 5) (tgt := 10) S dX6_alikeTo_5 (by decide) (fun c5 => ?_) (fun c5 => ?_)
  · have hl : lv_has ls 3 [(0, .ref o), (1, .int (nI a.toNat))] := by rw [← (zn_of (z := a) (n := a.toNat) (by omega))]; exact hl
    refine zz_iconst (pc := 10) (v := nI 0) S dX6_alikeTo_10 rfl ?_
    refine lv_istore_n (pc := 11) (lv' := [(2, .int (nI 0)), (0, .ref o), (1, .int (nI a.toNat))]) S.1 S.2.1 dX6_alikeTo_11 rfl hl (by decide) rfl (fun ls hl => ?_)
    have L1 : ∀ (f : Nat) (k : Nat), (k ≤ n) → (an_alike n P X Y a = ffn (fun j => ¬ j = a.toNat ∧ alk P X Y a.toNat j) (n - k) k) → n - k < f → ∀ ls : Array Slot, lv_has ls 3 [(0, .ref o), (1, .int (nI a.toNat)), (2, .int (nI k))] → W p l e (headSpec wm_X6_alikeTo ({ frames := 2, cells := 0, slots := 0, locals := 45 } : Room)).room s m ([.ref o, .int (zI a)] : List Value).toArray below meth c s.heap [] 0 0 (MQ below (vp_Si (fun r => r = zI (an_alike n P X Y a))) ([.ref o, .int (zI a)] : List Value).toArray s 0 0 (fun _ => False)) (F0 m 12 ls []) := by
      intro f
      induction f with
      | zero => intro k hk he hf; exact absurd hf (Nat.not_lt_zero _)
      | succ f ih2 =>
        intro k hk he hf ls hl
        refine lv_iload_n (pc := 12) S.1 S.2.1 dX6_alikeTo_12 rfl (lv_at hl 2 rfl) ?_
        refine lv_aload_n (pc := 13) S.1 S.2.1 dX6_alikeTo_13 rfl (lv_at hl 0 rfl) ?_
        refine zz_get (pc := 14) S hG iX6 0 rfl rfl 0 (by decide) wd_67 rfl rfl dX6_alikeTo_14 ?_
        refine zz_bipush (pc := 17) (v := nI 48) S dX6_alikeTo_17 rfl ?_
        refine zz_iald (pc := 19) (k := 48) S hG 1 rfl (by omega) dX6_alikeTo_19 ?_
        refine zz_cast (v := nI n) (congrArg nI hR.1) ?_
        refine zz_icmp_ge (pc := 20) (tgt := 45) S dX6_alikeTo_20 (by decide) (n_le (by omega) (by omega)) (fun c20 => ?_) (fun c20 => ?_)
        · refine zz_bipush (pc := 45) (v := zI (-3)) S dX6_alikeTo_45 rfl ?_
          exact zz_iretS (pc := 47) S hr hlocks (congrArg zI (a₁ := (-3)) (by first | exact (he.trans (ffn_e (by omega))).symm | exact (he.trans (ffn_t (by omega) ⟨by assumption, by assumption⟩)).symm)) dX6_alikeTo_47
        · refine lv_iload_n (pc := 23) S.1 S.2.1 dX6_alikeTo_23 rfl (lv_at hl 2 rfl) ?_
          refine lv_iload_n (pc := 24) S.1 S.2.1 dX6_alikeTo_24 rfl (lv_at hl 1 rfl) ?_
          refine zz_icmp_eq (pc := 25) (tgt := 39) S dX6_alikeTo_25 (by decide) (n_eq (by omega) (by omega)) (fun c25 => ?_) (fun c25 => ?_)
          · refine lv_iinc (pc := 39) (v := nI (k + 1)) (lv' := [(2, .int (nI (k + 1))), (0, .ref o), (1, .int (nI a.toNat))]) S.1 S.2.1 dX6_alikeTo_39 hl (k := 2) rfl (n_add _ _) (by decide) rfl (fun ls hl => ?_)
            refine lv_goto (pc := 42) (tgt := 12) S.1 S.2.1 dX6_alikeTo_42 (by decide) ?_
            exact ih2 (k + 1) (by omega) (by exact he.trans (ffn_f (by omega) (by first | omega | (intro q; exact absurd q.2 (by assumption))))) (by omega) ls (lv_sub hl [1, 2, 0] rfl)
          · refine lv_aload_n (pc := 28) S.1 S.2.1 dX6_alikeTo_28 rfl (lv_at hl 0 rfl) ?_
            refine lv_iload_n (pc := 29) S.1 S.2.1 dX6_alikeTo_29 rfl (lv_at hl 1 rfl) ?_
            refine lv_iload_n (pc := 30) S.1 S.2.1 dX6_alikeTo_30 rfl (lv_at hl 2 rfl) ?_
            refine zz_callV (pc := 31) (As := [.int (nI a.toNat), .int (nI k)]) (rest := []) S (c_X6_areAlike l D cI cR o a1 a2 a3 a4 a5 a6 ed C V Ac w n P X Y L a.toNat k hge hR hset (by omega) (by omega)) (zuV wd_230 wd_227 wd_228 wd_229 wd_5) 2 rfl q_X6_areAlike ⟨⟨rfl, rfl⟩, Nat.le_of_ble_eq_true rfl, Nat.le_of_ble_eq_true rfl⟩ hG [0, 1] rfl 0 rfl rfl rfl rfl rfl (Nat.le_of_ble_eq_true rfl) hl.1 ⟨Nat.zero_le _, Nat.zero_le _⟩ dX6_alikeTo_31 ?_
            refine zz_ifb_eq (pc := 34) (tgt := 39) S dX6_alikeTo_34 (by decide) (fun c34 => ?_) (fun c34 => ?_)
            · refine lv_iinc (pc := 39) (v := nI (k + 1)) (lv' := [(2, .int (nI (k + 1))), (0, .ref o), (1, .int (nI a.toNat))]) S.1 S.2.1 dX6_alikeTo_39 hl (k := 2) rfl (n_add _ _) (by decide) rfl (fun ls hl => ?_)
              refine lv_goto (pc := 42) (tgt := 12) S.1 S.2.1 dX6_alikeTo_42 (by decide) ?_
              exact ih2 (k + 1) (by omega) (by exact he.trans (ffn_f (by omega) (by first | omega | (intro q; exact absurd q.2 (by assumption))))) (by omega) ls (lv_sub hl [1, 2, 0] rfl)
            · refine lv_iload_n (pc := 37) S.1 S.2.1 dX6_alikeTo_37 rfl (lv_at hl 2 rfl) ?_
              exact zz_iretS (pc := 38) S hr hlocks (congrArg zI (a₁ := ((k : Nat) : Int)) (by first | exact (he.trans (ffn_e (by omega))).symm | exact (he.trans (ffn_t (by omega) ⟨by assumption, by assumption⟩)).symm)) dX6_alikeTo_38
    exact L1 (n - 0 + 1) 0 (by omega) (by exact if_pos (by omega)) (Nat.lt_succ_self _) ls (lv_sub hl [1, 2, 0] rfl)
  · refine zz_iconst (pc := 8) (v := zI (-1)) S dX6_alikeTo_8 rfl ?_
    exact zz_iretS (pc := 9) S hr hlocks (congrArg zI (a₁ := (-1)) (by exact (if_neg (by omega)).symm)) dX6_alikeTo_9
abbrev wm_X6_lies : List Cond := .code yX6_lies cX6_lies 8 (some .boolean) :: wU
theorem q_X6_lies : yX6_lies.cls = RX6 ∧ yX6_lies.cls ≠ "java/lang/invoke/MethodHandle" ∧ yX6_lies.cls ≠ "java/lang/invoke/VarHandle" ∧ (parseMethodDescriptor yX6_lies.desc).map (fun d => d.parameters.length) = some 3 := by decide +kernel
set_option maxHeartbeats 4000000 in
set_option maxRecDepth 100000 in
theorem c_X6_lies (l : Launch) (D : va_G) (cI cR : ClassId) (o a1 a2 a3 a4 a5 a6 ed C V Ac : Nat) (w : Nat → Nat) (n : Nat) (P X Y L : Nat → Nat) (x : Nat) (y : Nat) (b : Nat) (hge : zGe n P X Y) (hR : zRl w n P X Y L) (hset : zSt C V Ac) (hx : x ≤ 99 ∧ y ≤ 99) (hb : b < n) : Met l yX6_lies wm_X6_lies ({ frames := 2, cells := 0, slots := 0, locals := 44 } : Room) (va_Pc [.ref o, .int (nI x), .int (nI y), .int (nI b)] (zW D cI cR [(o, .inr (6, [.ref a1, .ref a2, .int (nI ed), .int (nI C), .int (nI V), .int (nI Ac), .ref a3, .ref a4, .ref a5, .ref a6])), (a1, zA cI 49 w)])) (vp_Si (fun r => r = nI (zB (lonxy X Y x y b)))) 0 0 (fun _ => False) := by
  refine Met.ofW (cc := cX6_lies) (maxL := 8) (ret := (some .boolean)) (by decide) rfl ?_
  intro p e s m args below meth c s₁ B hml hv
  obtain ⟨rfl, hG⟩ := hv
  have S : CallFix p m c cX6_lies 8 s ([.ref o, .int (nI x), .int (nI y), .int (nI b)] : List Value).toArray wU RX6 := ⟨B.exec, B.bytes, hml, findClass_of_methodNamed B.named, fun w h => atoms_spec (ws := wm_X6_lies) B.pre w (List.mem_cons_of_mem _ h)⟩
  have hr := B.returns
  have hlocks := B.notSynchronized
  have hG : zG D cI cR [(o, .inr (6, [.ref a1, .ref a2, .int (nI ed), .int (nI C), .int (nI V), .int (nI Ac), .ref a3, .ref a4, .ref a5, .ref a6])), (a1, zA cI 49 w)] s s.heap := hG
  have hl := lv_entry ([.ref o, .int (nI x), .int (nI y), .int (nI b)]) (n := 8) (Nat.le_of_ble_eq_true rfl)
  rw [lg_entry_eq]
  generalize (lg_sl ([.ref o, .int (nI x), .int (nI y), .int (nI b)]) ++ List.replicate (8 - (lg_sl ([.ref o, .int (nI x), .int (nI y), .int (nI b)])).length) Slot.unset).toArray = ls at hl ⊢
  have hl : lv_has ls 8 [(0, .ref o), (1, .int (nI x)), (2, .int (nI y)), (3, .int (nI b))] := hl
  obtain ⟨hn, hPf, hXY⟩ := id hge
  obtain ⟨hC, hV0, hAc⟩ := id hset
  refine lv_aload_n (pc := 0) S.1 S.2.1 dX6_lies_0 rfl (lv_at hl 0 rfl) ?_
  refine zz_get (pc := 1) S hG iX6 0 rfl rfl 0 (by decide) wd_67 rfl rfl dX6_lies_1 ?_
  refine zz_iconst (pc := 4) (v := nI 5) S dX6_lies_4 rfl ?_
  refine lv_iload_n (pc := 5) S.1 S.2.1 dX6_lies_5 rfl (lv_at hl 3 rfl) ?_
  refine zz_imul (pc := 6) (v := nI (5 * b)) S dX6_lies_6 (n_mul _ _) ?_
  refine zz_iald (pc := 7) (k := 5 * b) S hG 1 rfl (by omega) dX6_lies_7 ?_
  refine zz_cast (v := nI (X (2 * b))) (congrArg nI (hR.x0 (s := b) (by omega))) ?_
  have g1 := (hXY (2 * b) (by omega)).1
  refine lv_istore (pc := 8) (lv' := [(4, .int (nI (X (2 * b)))), (0, .ref o), (1, .int (nI x)), (2, .int (nI y)), (3, .int (nI b))]) S.1 S.2.1 dX6_lies_8 hl (by decide) rfl (fun ls hl => ?_)
  refine lv_aload_n (pc := 10) S.1 S.2.1 dX6_lies_10 rfl (lv_at hl 1 rfl) ?_
  refine zz_get (pc := 11) S hG iX6 0 rfl rfl 0 (by decide) wd_67 rfl rfl dX6_lies_11 ?_
  refine zz_iconst (pc := 14) (v := nI 5) S dX6_lies_14 rfl ?_
  refine lv_iload_n (pc := 15) S.1 S.2.1 dX6_lies_15 rfl (lv_at hl 4 rfl) ?_
  refine zz_imul (pc := 16) (v := nI (5 * b)) S dX6_lies_16 (n_mul _ _) ?_
  refine zz_iconst (pc := 17) (v := nI 1) S dX6_lies_17 rfl ?_
  refine zz_iadd (pc := 18) (v := nI (5 * b + 1)) S dX6_lies_18 (n_add _ _) ?_
  refine zz_iald (pc := 19) (k := 5 * b + 1) S hG 1 rfl (by omega) dX6_lies_19 ?_
  refine zz_cast (v := nI (Y (2 * b))) (congrArg nI (hR.y0 (s := b) (by omega))) ?_
  have g2 := (hXY (2 * b) (by omega)).2
  refine lv_istore (pc := 20) (lv' := [(5, .int (nI (Y (2 * b)))), (4, .int (nI (X (2 * b)))), (0, .ref o), (1, .int (nI x)), (2, .int (nI y)), (3, .int (nI b))]) S.1 S.2.1 dX6_lies_20 hl (by decide) rfl (fun ls hl => ?_)
  refine lv_aload_n (pc := 22) S.1 S.2.1 dX6_lies_22 rfl (lv_at hl 2 rfl) ?_
  refine zz_get (pc := 23) S hG iX6 0 rfl rfl 0 (by decide) wd_67 rfl rfl dX6_lies_23 ?_
  refine zz_iconst (pc := 26) (v := nI 5) S dX6_lies_26 rfl ?_
  refine lv_iload_n (pc := 27) S.1 S.2.1 dX6_lies_27 rfl (lv_at hl 5 rfl) ?_
  refine zz_imul (pc := 28) (v := nI (5 * b)) S dX6_lies_28 (n_mul _ _) ?_
  refine zz_iconst (pc := 29) (v := nI 2) S dX6_lies_29 rfl ?_
  refine zz_iadd (pc := 30) (v := nI (5 * b + 2)) S dX6_lies_30 (n_add _ _) ?_
  refine zz_iald (pc := 31) (k := 5 * b + 2) S hG 1 rfl (by omega) dX6_lies_31 ?_
  refine zz_cast (v := nI (X (2 * b + 1))) (congrArg nI (hR.x1 (s := b) (by omega))) ?_
  have g3 := (hXY (2 * b + 1) (by omega)).1
  refine lv_istore (pc := 32) (lv' := [(6, .int (nI (X (2 * b + 1)))), (5, .int (nI (Y (2 * b)))), (4, .int (nI (X (2 * b)))), (0, .ref o), (1, .int (nI x)), (2, .int (nI y)), (3, .int (nI b))]) S.1 S.2.1 dX6_lies_32 hl (by decide) rfl (fun ls hl => ?_)
  refine lv_aload_n (pc := 34) S.1 S.2.1 dX6_lies_34 rfl (lv_at hl 3 rfl) ?_
  refine zz_get (pc := 35) S hG iX6 0 rfl rfl 0 (by decide) wd_67 rfl rfl dX6_lies_35 ?_
  refine zz_iconst (pc := 38) (v := nI 5) S dX6_lies_38 rfl ?_
  refine lv_iload_n (pc := 39) S.1 S.2.1 dX6_lies_39 rfl (lv_at hl 6 rfl) ?_
  refine zz_imul (pc := 40) (v := nI (5 * b)) S dX6_lies_40 (n_mul _ _) ?_
  refine zz_iconst (pc := 41) (v := nI 3) S dX6_lies_41 rfl ?_
  refine zz_iadd (pc := 42) (v := nI (5 * b + 3)) S dX6_lies_42 (n_add _ _) ?_
  refine zz_iald (pc := 43) (k := 5 * b + 3) S hG 1 rfl (by omega) dX6_lies_43 ?_
  refine zz_cast (v := nI (Y (2 * b + 1))) (congrArg nI (hR.y1 (s := b) (by omega))) ?_
  have g4 := (hXY (2 * b + 1) (by omega)).2
  refine lv_istore (pc := 44) (lv' := [(7, .int (nI (Y (2 * b + 1)))), (6, .int (nI (X (2 * b + 1)))), (5, .int (nI (Y (2 * b)))), (4, .int (nI (X (2 * b)))), (0, .ref o), (1, .int (nI x)), (2, .int (nI y)), (3, .int (nI b))]) S.1 S.2.1 dX6_lies_44 hl (by decide) rfl (fun ls hl => ?_)
  have m1 := mul_bd (a := ((X (2 * b + 1) : Nat) : Int) - ((X (2 * b) : Nat) : Int)) (b := (y : Int) - ((Y (2 * b) : Nat) : Int)) 99 99 (by omega) (by omega) (by omega)
  have m2 := mul_bd (a := ((Y (2 * b + 1) : Nat) : Int) - ((Y (2 * b) : Nat) : Int)) (b := (x : Int) - ((X (2 * b) : Nat) : Int)) 99 99 (by omega) (by omega) (by omega)
  refine lv_iload (pc := 46) S.1 S.2.1 dX6_lies_46 (lv_at hl 1 rfl) ?_
  refine lv_iload (pc := 48) S.1 S.2.1 dX6_lies_48 (lv_at hl 3 rfl) ?_
  refine zz_isub (pc := 50) (v := zI (((X (2 * b + 1) : Nat) : Int) - ((X (2 * b) : Nat) : Int))) S dX6_lies_50 (zI_sub ((X (2 * b + 1) : Nat) : Int) ((X (2 * b) : Nat) : Int)) ?_
  refine lv_iload_n (pc := 51) S.1 S.2.1 dX6_lies_51 rfl (lv_at hl 6 rfl) ?_
  refine lv_iload (pc := 52) S.1 S.2.1 dX6_lies_52 (lv_at hl 2 rfl) ?_
  refine zz_isub (pc := 54) (v := zI (((y : Nat) : Int) - ((Y (2 * b) : Nat) : Int))) S dX6_lies_54 (zI_sub ((y : Nat) : Int) ((Y (2 * b) : Nat) : Int)) ?_
  refine zz_imul (pc := 55) (v := zI ((((X (2 * b + 1) : Nat) : Int) - ((X (2 * b) : Nat) : Int)) * (((y : Nat) : Int) - ((Y (2 * b) : Nat) : Int)))) S dX6_lies_55 (zI_mul (((X (2 * b + 1) : Nat) : Int) - ((X (2 * b) : Nat) : Int)) (((y : Nat) : Int) - ((Y (2 * b) : Nat) : Int))) ?_
  refine lv_iload (pc := 56) S.1 S.2.1 dX6_lies_56 (lv_at hl 0 rfl) ?_
  refine lv_iload (pc := 58) S.1 S.2.1 dX6_lies_58 (lv_at hl 2 rfl) ?_
  refine zz_isub (pc := 60) (v := zI (((Y (2 * b + 1) : Nat) : Int) - ((Y (2 * b) : Nat) : Int))) S dX6_lies_60 (zI_sub ((Y (2 * b + 1) : Nat) : Int) ((Y (2 * b) : Nat) : Int)) ?_
  refine lv_iload_n (pc := 61) S.1 S.2.1 dX6_lies_61 rfl (lv_at hl 5 rfl) ?_
  refine lv_iload (pc := 62) S.1 S.2.1 dX6_lies_62 (lv_at hl 3 rfl) ?_
  refine zz_isub (pc := 64) (v := zI (((x : Nat) : Int) - ((X (2 * b) : Nat) : Int))) S dX6_lies_64 (zI_sub ((x : Nat) : Int) ((X (2 * b) : Nat) : Int)) ?_
  refine zz_imul (pc := 65) (v := zI ((((Y (2 * b + 1) : Nat) : Int) - ((Y (2 * b) : Nat) : Int)) * (((x : Nat) : Int) - ((X (2 * b) : Nat) : Int)))) S dX6_lies_65 (zI_mul (((Y (2 * b + 1) : Nat) : Int) - ((Y (2 * b) : Nat) : Int)) (((x : Nat) : Int) - ((X (2 * b) : Nat) : Int))) ?_
  refine zz_icmp_ne (pc := 66) (tgt := 95) S dX6_lies_66 (by decide) (zI_eq (a := (((X (2 * b + 1) : Nat) : Int) - ((X (2 * b) : Nat) : Int)) * (((y : Nat) : Int) - ((Y (2 * b) : Nat) : Int))) (b := (((Y (2 * b + 1) : Nat) : Int) - ((Y (2 * b) : Nat) : Int)) * (((x : Nat) : Int) - ((X (2 * b) : Nat) : Int))) (by unfold zR; omega) (by unfold zR; omega)) (fun c66 => ?_) (fun c66 => ?_)
  · refine zz_iconst (pc := 95) (v := nI 0) S dX6_lies_95 rfl ?_
    exact zz_bretS (pc := 96) S hr hlocks (by decide) (congrArg nI (zB_f (by first | exact ⟨c66, by omega, by omega⟩ | (intro q; obtain ⟨q1, q2, q3⟩ := q; first | exact c66 q1 | omega))).symm) dX6_lies_96
  · refine lv_iload_n (pc := 69) S.1 S.2.1 dX6_lies_69 rfl (lv_at hl 5 rfl) ?_
    refine lv_iload (pc := 70) S.1 S.2.1 dX6_lies_70 (lv_at hl 3 rfl) ?_
    refine lv_iload (pc := 72) S.1 S.2.1 dX6_lies_72 (lv_at hl 1 rfl) ?_
    refine zz_callS (pc := 74) (As := [.int (nI x), .int (nI (X (2 * b))), .int (nI (X (2 * b + 1)))]) (rest := []) S (c_X6_isBetween l D cI cR x (X (2 * b)) (X (2 * b + 1)) (by omega)) (zuS wd_269 wd_267 wd_268 wd_5) 3 rfl q_X6_isBetween.2 ⟨⟨rfl, rfl⟩, Nat.le_of_ble_eq_true rfl, Nat.le_of_ble_eq_true rfl⟩ rfl rfl (Nat.le_of_ble_eq_true rfl) hl.1 ⟨Nat.zero_le _, Nat.zero_le _⟩ dX6_lies_74 ?_
    refine zz_ifb_eq (pc := 77) (tgt := 95) S dX6_lies_77 (by decide) (fun c77 => ?_) (fun c77 => ?_)
    · refine zz_iconst (pc := 95) (v := nI 0) S dX6_lies_95 rfl ?_
      exact zz_bretS (pc := 96) S hr hlocks (by decide) (congrArg nI (zB_f (by first | exact ⟨c66, by omega, by omega⟩ | (intro q; obtain ⟨q1, q2, q3⟩ := q; first | exact c66 q1 | omega))).symm) dX6_lies_96
    · refine lv_iload_n (pc := 80) S.1 S.2.1 dX6_lies_80 rfl (lv_at hl 6 rfl) ?_
      refine lv_iload (pc := 81) S.1 S.2.1 dX6_lies_81 (lv_at hl 2 rfl) ?_
      refine lv_iload (pc := 83) S.1 S.2.1 dX6_lies_83 (lv_at hl 0 rfl) ?_
      refine zz_callS (pc := 85) (As := [.int (nI y), .int (nI (Y (2 * b))), .int (nI (Y (2 * b + 1)))]) (rest := []) S (c_X6_isBetween l D cI cR y (Y (2 * b)) (Y (2 * b + 1)) (by omega)) (zuS wd_269 wd_267 wd_268 wd_5) 3 rfl q_X6_isBetween.2 ⟨⟨rfl, rfl⟩, Nat.le_of_ble_eq_true rfl, Nat.le_of_ble_eq_true rfl⟩ rfl rfl (Nat.le_of_ble_eq_true rfl) hl.1 ⟨Nat.zero_le _, Nat.zero_le _⟩ dX6_lies_85 ?_
      refine zz_ifb_eq (pc := 88) (tgt := 95) S dX6_lies_88 (by decide) (fun c88 => ?_) (fun c88 => ?_)
      · refine zz_iconst (pc := 95) (v := nI 0) S dX6_lies_95 rfl ?_
        exact zz_bretS (pc := 96) S hr hlocks (by decide) (congrArg nI (zB_f (by first | exact ⟨c66, by omega, by omega⟩ | (intro q; obtain ⟨q1, q2, q3⟩ := q; first | exact c66 q1 | omega))).symm) dX6_lies_96
      · refine zz_iconst (pc := 91) (v := nI 1) S dX6_lies_91 rfl ?_
        refine lv_goto (pc := 92) (tgt := 96) S.1 S.2.1 dX6_lies_92 (by decide) ?_
        exact zz_bretS (pc := 96) S hr hlocks (by decide) (congrArg nI (zB_t (by first | exact ⟨c66, by omega, by omega⟩ | (intro q; obtain ⟨q1, q2, q3⟩ := q; first | exact c66 q1 | omega))).symm) dX6_lies_96
abbrev wm_X6_coveredBy : List Cond := .code yX6_coveredBy cX6_coveredBy 4 (some .int) :: wU
theorem q_X6_coveredBy : yX6_coveredBy.cls = RX6 ∧ yX6_coveredBy.cls ≠ "java/lang/invoke/MethodHandle" ∧ yX6_coveredBy.cls ≠ "java/lang/invoke/VarHandle" ∧ (parseMethodDescriptor yX6_coveredBy.desc).map (fun d => d.parameters.length) = some 1 := by decide +kernel
set_option maxHeartbeats 4000000 in
set_option maxRecDepth 100000 in
theorem c_X6_coveredBy (l : Launch) (D : va_G) (cI cR : ClassId) (o a1 a2 a3 a4 a5 a6 ed C V Ac : Nat) (w : Nat → Nat) (n : Nat) (P X Y L : Nat → Nat) (a : Int) (hge : zGe n P X Y) (hR : zRl w n P X Y L) (hset : zSt C V Ac) (ha : zR a) : Met l yX6_coveredBy wm_X6_coveredBy ({ frames := 3, cells := 0, slots := 0, locals := 71 } : Room) (va_Pc [.ref o, .int (zI a)] (zW D cI cR [(o, .inr (6, [.ref a1, .ref a2, .int (nI ed), .int (nI C), .int (nI V), .int (nI Ac), .ref a3, .ref a4, .ref a5, .ref a6])), (a1, zA cI 49 w)])) (vp_Si (fun r => r = zI (an_cover n P X Y a))) 0 0 (fun _ => False) := by
  refine Met.ofW (cc := cX6_coveredBy) (maxL := 4) (ret := (some .int)) (by decide) rfl ?_
  intro p e s m args below meth c s₁ B hml hv
  obtain ⟨rfl, hG⟩ := hv
  have S : CallFix p m c cX6_coveredBy 4 s ([.ref o, .int (zI a)] : List Value).toArray wU RX6 := ⟨B.exec, B.bytes, hml, findClass_of_methodNamed B.named, fun w h => atoms_spec (ws := wm_X6_coveredBy) B.pre w (List.mem_cons_of_mem _ h)⟩
  have hr := B.returns
  have hlocks := B.notSynchronized
  have hG : zG D cI cR [(o, .inr (6, [.ref a1, .ref a2, .int (nI ed), .int (nI C), .int (nI V), .int (nI Ac), .ref a3, .ref a4, .ref a5, .ref a6])), (a1, zA cI 49 w)] s s.heap := hG
  have hl := lv_entry ([.ref o, .int (zI a)]) (n := 4) (Nat.le_of_ble_eq_true rfl)
  rw [lg_entry_eq]
  generalize (lg_sl ([.ref o, .int (zI a)]) ++ List.replicate (4 - (lg_sl ([.ref o, .int (zI a)])).length) Slot.unset).toArray = ls at hl ⊢
  have hl : lv_has ls 4 [(0, .ref o), (1, .int (zI a))] := hl
  have r_ha := id ha
  unfold zR at r_ha
  obtain ⟨hn, hPf, hXY⟩ := id hge
  obtain ⟨hC, hV0, hAc⟩ := id hset
  refine lv_aload_n (pc := 0) S.1 S.2.1 dX6_coveredBy_0 rfl (lv_at hl 0 rfl) ?_
  refine lv_iload_n (pc := 1) S.1 S.2.1 dX6_coveredBy_1 rfl (lv_at hl 1 rfl) ?_
  refine zz_callV (pc := 2) (As := [.int (zI a)]) (rest := []) S (c_X6_isStroke l D cI cR o a1 a2 a3 a4 a5 a6 ed C V Ac w n P X Y L a hge hR hset (by unfold zR; omega)) (zuV wd_165 wd_162 wd_163 wd_164 wd_5) 1 rfl q_X6_isStroke ⟨⟨rfl, rfl⟩, Nat.le_of_ble_eq_true rfl, Nat.le_of_ble_eq_true rfl⟩ hG [0, 1] rfl 0 rfl rfl rfl rfl rfl (Nat.le_of_ble_eq_true rfl) hl.1 ⟨Nat.zero_le _, Nat.zero_le _⟩ dX6_coveredBy_2 ?_
  refine zz_ifb_ne (pc := 5) (tgt := 10) S dX6_coveredBy_5 (by decide) (fun c5 => ?_) (fun c5 => ?_)
  · have hl : lv_has ls 4 [(0, .ref o), (1, .int (nI a.toNat))] := by rw [← (zn_of (z := a) (n := a.toNat) (by omega))]; exact hl
    refine zz_iconst (pc := 10) (v := nI 0) S dX6_coveredBy_10 rfl ?_
    refine lv_istore_n (pc := 11) (lv' := [(2, .int (nI 0)), (0, .ref o), (1, .int (nI a.toNat))]) S.1 S.2.1 dX6_coveredBy_11 rfl hl (by decide) rfl (fun ls hl => ?_)
    have L1 : ∀ (f : Nat) (k : Nat), (k ≤ n) → (an_cover n P X Y a = ffn (fun j => cov P X Y j a.toNat) (n - k) k) → n - k < f → ∀ ls : Array Slot, lv_has ls 4 [(0, .ref o), (1, .int (nI a.toNat)), (2, .int (nI k))] → W p l e (headSpec wm_X6_coveredBy ({ frames := 3, cells := 0, slots := 0, locals := 71 } : Room)).room s m ([.ref o, .int (zI a)] : List Value).toArray below meth c s.heap [] 0 0 (MQ below (vp_Si (fun r => r = zI (an_cover n P X Y a))) ([.ref o, .int (zI a)] : List Value).toArray s 0 0 (fun _ => False)) (F0 m 12 ls []) := by
      intro f
      induction f with
      | zero => intro k hk he hf; exact absurd hf (Nat.not_lt_zero _)
      | succ f ih2 =>
        intro k hk he hf ls hl
        refine lv_iload_n (pc := 12) S.1 S.2.1 dX6_coveredBy_12 rfl (lv_at hl 2 rfl) ?_
        refine lv_aload_n (pc := 13) S.1 S.2.1 dX6_coveredBy_13 rfl (lv_at hl 0 rfl) ?_
        refine zz_get (pc := 14) S hG iX6 0 rfl rfl 0 (by decide) wd_67 rfl rfl dX6_coveredBy_14 ?_
        refine zz_bipush (pc := 17) (v := nI 48) S dX6_coveredBy_17 rfl ?_
        refine zz_iald (pc := 19) (k := 48) S hG 1 rfl (by omega) dX6_coveredBy_19 ?_
        refine zz_cast (v := nI n) (congrArg nI hR.1) ?_
        refine zz_icmp_ge (pc := 20) (tgt := 122) S dX6_coveredBy_20 (by decide) (n_le (by omega) (by omega)) (fun c20 => ?_) (fun c20 => ?_)
        · refine zz_bipush (pc := 122) (v := zI (-3)) S dX6_coveredBy_122 rfl ?_
          exact zz_iretS (pc := 124) S hr hlocks (congrArg zI (a₁ := (-3)) (by first | exact (he.trans (ffn_e (by omega))).symm | exact (he.trans (ffn_t (by omega) ⟨c57.2.1.symm, fun z => c57.2.2 (alk_sy.mp z), by assumption, by assumption⟩)).symm)) dX6_coveredBy_124
        · have J3 : ∀ ls : Array Slot, lv_has ls 4 [(0, .ref o), (1, .int (nI a.toNat)), (2, .int (nI k))] → W p l e (headSpec wm_X6_coveredBy ({ frames := 3, cells := 0, slots := 0, locals := 71 } : Room)).room s m ([.ref o, .int (zI a)] : List Value).toArray below meth c s.heap [] 0 0 (MQ below (vp_Si (fun r => r = zI (an_cover n P X Y a))) ([.ref o, .int (zI a)] : List Value).toArray s 0 0 (fun _ => False)) (F0 m 55 ls [.int (nI (zB (¬ k = a.toNat ∧ P a.toNat = P k ∧ ¬ alk P X Y a.toNat k)))]) := by
            intro ls hl
            refine lv_istore_n (pc := 55) (lv' := [(3, .int (nI (zB (¬ k = a.toNat ∧ P a.toNat = P k ∧ ¬ alk P X Y a.toNat k)))), (0, .ref o), (1, .int (nI a.toNat)), (2, .int (nI k))]) S.1 S.2.1 dX6_coveredBy_55 rfl hl (by decide) rfl (fun ls hl => ?_)
            refine lv_iload_n (pc := 56) S.1 S.2.1 dX6_coveredBy_56 rfl (lv_at hl 0 rfl) ?_
            refine zz_ifb_eq (pc := 57) (tgt := 116) S dX6_coveredBy_57 (by decide) (fun c57 => ?_) (fun c57 => ?_)
            · refine lv_iinc (pc := 116) (v := nI (k + 1)) (lv' := [(2, .int (nI (k + 1))), (3, .int (nI (zB (¬ k = a.toNat ∧ P a.toNat = P k ∧ ¬ alk P X Y a.toNat k)))), (0, .ref o), (1, .int (nI a.toNat))]) S.1 S.2.1 dX6_coveredBy_116 hl (k := 3) rfl (n_add _ _) (by decide) rfl (fun ls hl => ?_)
              refine lv_goto (pc := 119) (tgt := 12) S.1 S.2.1 dX6_coveredBy_119 (by decide) ?_
              exact ih2 (k + 1) (by omega) (by exact he.trans (ffn_f (by omega) (by intro q; obtain ⟨q1, q2, q3, q4⟩ := q; first | exact absurd q3 (by assumption) | exact absurd q4 (by assumption) | (apply c57; exact ⟨by intro z; rw [z] at q2; exact q2 (alk_rf P X Y _), q1.symm, fun z => q2 (alk_sy.mp z)⟩)))) (by omega) ls (lv_sub hl [2, 3, 0] rfl)
            · refine lv_aload_n (pc := 60) S.1 S.2.1 dX6_coveredBy_60 rfl (lv_at hl 1 rfl) ?_
              refine lv_aload_n (pc := 61) S.1 S.2.1 dX6_coveredBy_61 rfl (lv_at hl 1 rfl) ?_
              refine zz_get (pc := 62) S hG iX6 0 rfl rfl 0 (by decide) wd_67 rfl rfl dX6_coveredBy_62 ?_
              refine zz_iconst (pc := 65) (v := nI 5) S dX6_coveredBy_65 rfl ?_
              refine lv_iload_n (pc := 66) S.1 S.2.1 dX6_coveredBy_66 rfl (lv_at hl 2 rfl) ?_
              refine zz_imul (pc := 67) (v := nI (5 * a.toNat)) S dX6_coveredBy_67 (n_mul _ _) ?_
              refine zz_iald (pc := 68) (k := 5 * a.toNat) S hG 1 rfl (by omega) dX6_coveredBy_68 ?_
              refine zz_cast (v := nI (X (2 * a.toNat))) (congrArg nI (hR.x0 (s := a.toNat) (by omega))) ?_
              have g4 := (hXY (2 * a.toNat) (by omega)).1
              refine lv_aload_n (pc := 69) S.1 S.2.1 dX6_coveredBy_69 rfl (lv_at hl 1 rfl) ?_
              refine zz_get (pc := 70) S hG iX6 0 rfl rfl 0 (by decide) wd_67 rfl rfl dX6_coveredBy_70 ?_
              refine zz_iconst (pc := 73) (v := nI 5) S dX6_coveredBy_73 rfl ?_
              refine lv_iload_n (pc := 74) S.1 S.2.1 dX6_coveredBy_74 rfl (lv_at hl 2 rfl) ?_
              refine zz_imul (pc := 75) (v := nI (5 * a.toNat)) S dX6_coveredBy_75 (n_mul _ _) ?_
              refine zz_iconst (pc := 76) (v := nI 1) S dX6_coveredBy_76 rfl ?_
              refine zz_iadd (pc := 77) (v := nI (5 * a.toNat + 1)) S dX6_coveredBy_77 (n_add _ _) ?_
              refine zz_iald (pc := 78) (k := 5 * a.toNat + 1) S hG 1 rfl (by omega) dX6_coveredBy_78 ?_
              refine zz_cast (v := nI (Y (2 * a.toNat))) (congrArg nI (hR.y0 (s := a.toNat) (by omega))) ?_
              have g5 := (hXY (2 * a.toNat) (by omega)).2
              refine lv_iload_n (pc := 79) S.1 S.2.1 dX6_coveredBy_79 rfl (lv_at hl 3 rfl) ?_
              refine zz_callV (pc := 80) (As := [.int (nI (X (2 * a.toNat))), .int (nI (Y (2 * a.toNat))), .int (nI k)]) (rest := []) S (c_X6_lies l D cI cR o a1 a2 a3 a4 a5 a6 ed C V Ac w n P X Y L (X (2 * a.toNat)) (Y (2 * a.toNat)) k hge hR hset (by omega) (by omega)) (zuV wd_266 wd_263 wd_264 wd_265 wd_5) 3 rfl q_X6_lies ⟨⟨rfl, rfl⟩, Nat.le_of_ble_eq_true rfl, Nat.le_of_ble_eq_true rfl⟩ hG [0, 1] rfl 0 rfl rfl rfl rfl rfl (Nat.le_of_ble_eq_true rfl) hl.1 ⟨Nat.zero_le _, Nat.zero_le _⟩ dX6_coveredBy_80 ?_
              refine zz_ifb_eq (pc := 83) (tgt := 116) S dX6_coveredBy_83 (by decide) (fun c83 => ?_) (fun c83 => ?_)
              · refine lv_iinc (pc := 116) (v := nI (k + 1)) (lv' := [(2, .int (nI (k + 1))), (3, .int (nI (zB (¬ k = a.toNat ∧ P a.toNat = P k ∧ ¬ alk P X Y a.toNat k)))), (0, .ref o), (1, .int (nI a.toNat))]) S.1 S.2.1 dX6_coveredBy_116 hl (k := 3) rfl (n_add _ _) (by decide) rfl (fun ls hl => ?_)
                refine lv_goto (pc := 119) (tgt := 12) S.1 S.2.1 dX6_coveredBy_119 (by decide) ?_
                exact ih2 (k + 1) (by omega) (by exact he.trans (ffn_f (by omega) (by intro q; obtain ⟨q1, q2, q3, q4⟩ := q; first | exact absurd q3 (by assumption) | exact absurd q4 (by assumption) | (apply c57; exact ⟨by intro z; rw [z] at q2; exact q2 (alk_rf P X Y _), q1.symm, fun z => q2 (alk_sy.mp z)⟩)))) (by omega) ls (lv_sub hl [2, 3, 0] rfl)
              · refine lv_aload_n (pc := 86) S.1 S.2.1 dX6_coveredBy_86 rfl (lv_at hl 1 rfl) ?_
                refine lv_aload_n (pc := 87) S.1 S.2.1 dX6_coveredBy_87 rfl (lv_at hl 1 rfl) ?_
                refine zz_get (pc := 88) S hG iX6 0 rfl rfl 0 (by decide) wd_67 rfl rfl dX6_coveredBy_88 ?_
                refine zz_iconst (pc := 91) (v := nI 5) S dX6_coveredBy_91 rfl ?_
                refine lv_iload_n (pc := 92) S.1 S.2.1 dX6_coveredBy_92 rfl (lv_at hl 2 rfl) ?_
                refine zz_imul (pc := 93) (v := nI (5 * a.toNat)) S dX6_coveredBy_93 (n_mul _ _) ?_
                refine zz_iconst (pc := 94) (v := nI 2) S dX6_coveredBy_94 rfl ?_
                refine zz_iadd (pc := 95) (v := nI (5 * a.toNat + 2)) S dX6_coveredBy_95 (n_add _ _) ?_
                refine zz_iald (pc := 96) (k := 5 * a.toNat + 2) S hG 1 rfl (by omega) dX6_coveredBy_96 ?_
                refine zz_cast (v := nI (X (2 * a.toNat + 1))) (congrArg nI (hR.x1 (s := a.toNat) (by omega))) ?_
                have g6 := (hXY (2 * a.toNat + 1) (by omega)).1
                refine lv_aload_n (pc := 97) S.1 S.2.1 dX6_coveredBy_97 rfl (lv_at hl 1 rfl) ?_
                refine zz_get (pc := 98) S hG iX6 0 rfl rfl 0 (by decide) wd_67 rfl rfl dX6_coveredBy_98 ?_
                refine zz_iconst (pc := 101) (v := nI 5) S dX6_coveredBy_101 rfl ?_
                refine lv_iload_n (pc := 102) S.1 S.2.1 dX6_coveredBy_102 rfl (lv_at hl 2 rfl) ?_
                refine zz_imul (pc := 103) (v := nI (5 * a.toNat)) S dX6_coveredBy_103 (n_mul _ _) ?_
                refine zz_iconst (pc := 104) (v := nI 3) S dX6_coveredBy_104 rfl ?_
                refine zz_iadd (pc := 105) (v := nI (5 * a.toNat + 3)) S dX6_coveredBy_105 (n_add _ _) ?_
                refine zz_iald (pc := 106) (k := 5 * a.toNat + 3) S hG 1 rfl (by omega) dX6_coveredBy_106 ?_
                refine zz_cast (v := nI (Y (2 * a.toNat + 1))) (congrArg nI (hR.y1 (s := a.toNat) (by omega))) ?_
                have g7 := (hXY (2 * a.toNat + 1) (by omega)).2
                refine lv_iload_n (pc := 107) S.1 S.2.1 dX6_coveredBy_107 rfl (lv_at hl 3 rfl) ?_
                refine zz_callV (pc := 108) (As := [.int (nI (X (2 * a.toNat + 1))), .int (nI (Y (2 * a.toNat + 1))), .int (nI k)]) (rest := []) S (c_X6_lies l D cI cR o a1 a2 a3 a4 a5 a6 ed C V Ac w n P X Y L (X (2 * a.toNat + 1)) (Y (2 * a.toNat + 1)) k hge hR hset (by omega) (by omega)) (zuV wd_266 wd_263 wd_264 wd_265 wd_5) 3 rfl q_X6_lies ⟨⟨rfl, rfl⟩, Nat.le_of_ble_eq_true rfl, Nat.le_of_ble_eq_true rfl⟩ hG [0, 1] rfl 0 rfl rfl rfl rfl rfl (Nat.le_of_ble_eq_true rfl) hl.1 ⟨Nat.zero_le _, Nat.zero_le _⟩ dX6_coveredBy_108 ?_
                refine zz_ifb_eq (pc := 111) (tgt := 116) S dX6_coveredBy_111 (by decide) (fun c111 => ?_) (fun c111 => ?_)
                · refine lv_iinc (pc := 116) (v := nI (k + 1)) (lv' := [(2, .int (nI (k + 1))), (3, .int (nI (zB (¬ k = a.toNat ∧ P a.toNat = P k ∧ ¬ alk P X Y a.toNat k)))), (0, .ref o), (1, .int (nI a.toNat))]) S.1 S.2.1 dX6_coveredBy_116 hl (k := 3) rfl (n_add _ _) (by decide) rfl (fun ls hl => ?_)
                  refine lv_goto (pc := 119) (tgt := 12) S.1 S.2.1 dX6_coveredBy_119 (by decide) ?_
                  exact ih2 (k + 1) (by omega) (by exact he.trans (ffn_f (by omega) (by intro q; obtain ⟨q1, q2, q3, q4⟩ := q; first | exact absurd q3 (by assumption) | exact absurd q4 (by assumption) | (apply c57; exact ⟨by intro z; rw [z] at q2; exact q2 (alk_rf P X Y _), q1.symm, fun z => q2 (alk_sy.mp z)⟩)))) (by omega) ls (lv_sub hl [2, 3, 0] rfl)
                · refine lv_iload_n (pc := 114) S.1 S.2.1 dX6_coveredBy_114 rfl (lv_at hl 3 rfl) ?_
                  exact zz_iretS (pc := 115) S hr hlocks (congrArg zI (a₁ := ((k : Nat) : Int)) (by first | exact (he.trans (ffn_e (by omega))).symm | exact (he.trans (ffn_t (by omega) ⟨c57.2.1.symm, fun z => c57.2.2 (alk_sy.mp z), by assumption, by assumption⟩)).symm)) dX6_coveredBy_115
          refine lv_iload_n (pc := 23) S.1 S.2.1 dX6_coveredBy_23 rfl (lv_at hl 2 rfl) ?_
          refine lv_iload_n (pc := 24) S.1 S.2.1 dX6_coveredBy_24 rfl (lv_at hl 1 rfl) ?_
          refine zz_icmp_eq (pc := 25) (tgt := 54) S dX6_coveredBy_25 (by decide) (n_eq (by omega) (by omega)) (fun c25 => ?_) (fun c25 => ?_)
          · refine zz_iconst (pc := 54) (v := nI 0) S dX6_coveredBy_54 rfl ?_
            refine zz_cast (v := nI (zB (¬ k = a.toNat ∧ P a.toNat = P k ∧ ¬ alk P X Y a.toNat k))) (congrArg nI (zB_f (by first | omega | (intro q; exact absurd (by assumption) q.2.2) | exact ⟨by assumption, by assumption, by assumption⟩)).symm) ?_
            exact J3 ls (lv_sub hl [0, 1, 2] rfl)
          · refine lv_aload_n (pc := 28) S.1 S.2.1 dX6_coveredBy_28 rfl (lv_at hl 0 rfl) ?_
            refine lv_iload_n (pc := 29) S.1 S.2.1 dX6_coveredBy_29 rfl (lv_at hl 1 rfl) ?_
            refine zz_callV (pc := 30) (As := [.int (nI a.toNat)]) (rest := []) S (c_X6_penAt l D cI cR o a1 a2 a3 a4 a5 a6 ed C V Ac w n P X Y L a.toNat hge hR hset (by omega)) (zuV wd_193 wd_190 wd_191 wd_192 wd_5) 1 rfl q_X6_penAt ⟨⟨rfl, rfl⟩, Nat.le_of_ble_eq_true rfl, Nat.le_of_ble_eq_true rfl⟩ hG [0, 1] rfl 0 rfl rfl rfl rfl rfl (Nat.le_of_ble_eq_true rfl) hl.1 ⟨Nat.zero_le _, Nat.zero_le _⟩ dX6_coveredBy_30 ?_
            have g8 := hPf a.toNat (by omega)
            refine lv_aload_n (pc := 33) S.1 S.2.1 dX6_coveredBy_33 rfl (lv_at hl 0 rfl) ?_
            refine lv_iload_n (pc := 34) S.1 S.2.1 dX6_coveredBy_34 rfl (lv_at hl 2 rfl) ?_
            refine zz_callV (pc := 35) (As := [.int (nI k)]) (rest := [.int (nI (P a.toNat))]) S (c_X6_penAt l D cI cR o a1 a2 a3 a4 a5 a6 ed C V Ac w n P X Y L k hge hR hset (by omega)) (zuV wd_193 wd_190 wd_191 wd_192 wd_5) 1 rfl q_X6_penAt ⟨⟨rfl, rfl⟩, Nat.le_of_ble_eq_true rfl, Nat.le_of_ble_eq_true rfl⟩ hG [0, 1] rfl 0 rfl rfl rfl rfl rfl (Nat.le_of_ble_eq_true rfl) hl.1 ⟨Nat.zero_le _, Nat.zero_le _⟩ dX6_coveredBy_35 ?_
            have g9 := hPf k (by omega)
            refine zz_icmp_ne (pc := 38) (tgt := 54) S dX6_coveredBy_38 (by decide) (n_eq (by omega) (by omega)) (fun c38 => ?_) (fun c38 => ?_)
            · refine zz_iconst (pc := 54) (v := nI 0) S dX6_coveredBy_54 rfl ?_
              refine zz_cast (v := nI (zB (¬ k = a.toNat ∧ P a.toNat = P k ∧ ¬ alk P X Y a.toNat k))) (congrArg nI (zB_f (by first | omega | (intro q; exact absurd (by assumption) q.2.2) | exact ⟨by assumption, by assumption, by assumption⟩)).symm) ?_
              exact J3 ls (lv_sub hl [0, 1, 2] rfl)
            · refine lv_aload_n (pc := 41) S.1 S.2.1 dX6_coveredBy_41 rfl (lv_at hl 0 rfl) ?_
              refine lv_iload_n (pc := 42) S.1 S.2.1 dX6_coveredBy_42 rfl (lv_at hl 1 rfl) ?_
              refine lv_iload_n (pc := 43) S.1 S.2.1 dX6_coveredBy_43 rfl (lv_at hl 2 rfl) ?_
              refine zz_callV (pc := 44) (As := [.int (nI a.toNat), .int (nI k)]) (rest := []) S (c_X6_areAlike l D cI cR o a1 a2 a3 a4 a5 a6 ed C V Ac w n P X Y L a.toNat k hge hR hset (by omega) (by omega)) (zuV wd_230 wd_227 wd_228 wd_229 wd_5) 2 rfl q_X6_areAlike ⟨⟨rfl, rfl⟩, Nat.le_of_ble_eq_true rfl, Nat.le_of_ble_eq_true rfl⟩ hG [0, 1] rfl 0 rfl rfl rfl rfl rfl (Nat.le_of_ble_eq_true rfl) hl.1 ⟨Nat.zero_le _, Nat.zero_le _⟩ dX6_coveredBy_44 ?_
              refine zz_ifb_ne (pc := 47) (tgt := 54) S dX6_coveredBy_47 (by decide) (fun c47 => ?_) (fun c47 => ?_)
              · refine zz_iconst (pc := 54) (v := nI 0) S dX6_coveredBy_54 rfl ?_
                refine zz_cast (v := nI (zB (¬ k = a.toNat ∧ P a.toNat = P k ∧ ¬ alk P X Y a.toNat k))) (congrArg nI (zB_f (by first | omega | (intro q; exact absurd (by assumption) q.2.2) | exact ⟨by assumption, by assumption, by assumption⟩)).symm) ?_
                exact J3 ls (lv_sub hl [0, 1, 2] rfl)
              · refine zz_iconst (pc := 50) (v := nI 1) S dX6_coveredBy_50 rfl ?_
                refine lv_goto (pc := 51) (tgt := 55) S.1 S.2.1 dX6_coveredBy_51 (by decide) ?_
                refine zz_cast (v := nI (zB (¬ k = a.toNat ∧ P a.toNat = P k ∧ ¬ alk P X Y a.toNat k))) (congrArg nI (zB_t (by first | omega | (intro q; exact absurd (by assumption) q.2.2) | exact ⟨by assumption, by assumption, by assumption⟩)).symm) ?_
                exact J3 ls (lv_sub hl [0, 1, 2] rfl)
    exact L1 (n - 0 + 1) 0 (by omega) (by exact if_pos (by omega)) (Nat.lt_succ_self _) ls (lv_sub hl [1, 2, 0] rfl)
  · refine zz_iconst (pc := 8) (v := zI (-1)) S dX6_coveredBy_8 rfl ?_
    exact zz_iretS (pc := 9) S hr hlocks (congrArg zI (a₁ := (-1)) (by exact (if_neg (by omega)).symm)) dX6_coveredBy_9
abbrev wm_X6_isSamePoint : List Cond := .code yX6_isSamePoint cX6_isSamePoint 5 (some .boolean) :: wU
theorem q_X6_isSamePoint : yX6_isSamePoint.cls = RX6 ∧ yX6_isSamePoint.cls ≠ "java/lang/invoke/MethodHandle" ∧ yX6_isSamePoint.cls ≠ "java/lang/invoke/VarHandle" ∧ (parseMethodDescriptor yX6_isSamePoint.desc).map (fun d => d.parameters.length) = some 2 := by decide +kernel
set_option maxHeartbeats 4000000 in
set_option maxRecDepth 100000 in
theorem c_X6_isSamePoint (l : Launch) (D : va_G) (cI cR : ClassId) (o a1 a2 a3 a4 a5 a6 ed C V Ac : Nat) (w : Nat → Nat) (n : Nat) (P X Y L : Nat → Nat) (a : Nat) (b : Nat) (hge : zGe n P X Y) (hR : zRl w n P X Y L) (hset : zSt C V Ac) (ha : a < 2 * n) (hb : b < 2 * n) : Met l yX6_isSamePoint wm_X6_isSamePoint ({ frames := 0, cells := 0, slots := 0, locals := 0 } : Room) (va_Pc [.ref o, .int (nI a), .int (nI b)] (zW D cI cR [(o, .inr (6, [.ref a1, .ref a2, .int (nI ed), .int (nI C), .int (nI V), .int (nI Ac), .ref a3, .ref a4, .ref a5, .ref a6])), (a1, zA cI 49 w)])) (vp_Si (fun r => r = nI (zB (X a = X b ∧ Y a = Y b)))) 0 0 (fun _ => False) := by
  refine Met.ofW (cc := cX6_isSamePoint) (maxL := 5) (ret := (some .boolean)) (by decide) rfl ?_
  intro p e s m args below meth c s₁ B hml hv
  obtain ⟨rfl, hG⟩ := hv
  have S : CallFix p m c cX6_isSamePoint 5 s ([.ref o, .int (nI a), .int (nI b)] : List Value).toArray wU RX6 := ⟨B.exec, B.bytes, hml, findClass_of_methodNamed B.named, fun w h => atoms_spec (ws := wm_X6_isSamePoint) B.pre w (List.mem_cons_of_mem _ h)⟩
  have hr := B.returns
  have hlocks := B.notSynchronized
  have hG : zG D cI cR [(o, .inr (6, [.ref a1, .ref a2, .int (nI ed), .int (nI C), .int (nI V), .int (nI Ac), .ref a3, .ref a4, .ref a5, .ref a6])), (a1, zA cI 49 w)] s s.heap := hG
  have hl := lv_entry ([.ref o, .int (nI a), .int (nI b)]) (n := 5) (Nat.le_of_ble_eq_true rfl)
  rw [lg_entry_eq]
  generalize (lg_sl ([.ref o, .int (nI a), .int (nI b)]) ++ List.replicate (5 - (lg_sl ([.ref o, .int (nI a), .int (nI b)])).length) Slot.unset).toArray = ls at hl ⊢
  have hl : lv_has ls 5 [(0, .ref o), (1, .int (nI a)), (2, .int (nI b))] := hl
  obtain ⟨hn, hPf, hXY⟩ := id hge
  obtain ⟨hC, hV0, hAc⟩ := id hset
  refine zz_iconst (pc := 0) (v := nI 5) S dX6_isSamePoint_0 rfl ?_
  refine lv_iload_n (pc := 1) S.1 S.2.1 dX6_isSamePoint_1 rfl (lv_at hl 1 rfl) ?_
  refine zz_iconst (pc := 2) (v := nI 2) S dX6_isSamePoint_2 rfl ?_
  refine zz_idiv (pc := 3) (v := nI (a / 2)) S dX6_isSamePoint_3 (by decide) (n_div (by omega) (by decide) (by decide)) ?_
  refine zz_imul (pc := 4) (v := nI (5 * (a / 2))) S dX6_isSamePoint_4 (n_mul _ _) ?_
  refine zz_iconst (pc := 5) (v := nI 2) S dX6_isSamePoint_5 rfl ?_
  refine lv_iload_n (pc := 6) S.1 S.2.1 dX6_isSamePoint_6 rfl (lv_at hl 1 rfl) ?_
  refine zz_iconst (pc := 7) (v := nI 2) S dX6_isSamePoint_7 rfl ?_
  refine zz_irem (pc := 8) (v := nI (a % 2)) S dX6_isSamePoint_8 (by decide) (n_rem (by omega) (by decide) (by decide)) ?_
  refine zz_imul (pc := 9) (v := nI (2 * (a % 2))) S dX6_isSamePoint_9 (n_mul _ _) ?_
  refine zz_iadd (pc := 10) (v := nI (5 * (a / 2) + (2 * (a % 2)))) S dX6_isSamePoint_10 (n_add _ _) ?_
  refine lv_istore_n (pc := 11) (lv' := [(3, .int (nI (5 * (a / 2) + (2 * (a % 2))))), (0, .ref o), (1, .int (nI a)), (2, .int (nI b))]) S.1 S.2.1 dX6_isSamePoint_11 rfl hl (by decide) rfl (fun ls hl => ?_)
  refine zz_iconst (pc := 12) (v := nI 5) S dX6_isSamePoint_12 rfl ?_
  refine lv_iload_n (pc := 13) S.1 S.2.1 dX6_isSamePoint_13 rfl (lv_at hl 3 rfl) ?_
  refine zz_iconst (pc := 14) (v := nI 2) S dX6_isSamePoint_14 rfl ?_
  refine zz_idiv (pc := 15) (v := nI (b / 2)) S dX6_isSamePoint_15 (by decide) (n_div (by omega) (by decide) (by decide)) ?_
  refine zz_imul (pc := 16) (v := nI (5 * (b / 2))) S dX6_isSamePoint_16 (n_mul _ _) ?_
  refine zz_iconst (pc := 17) (v := nI 2) S dX6_isSamePoint_17 rfl ?_
  refine lv_iload_n (pc := 18) S.1 S.2.1 dX6_isSamePoint_18 rfl (lv_at hl 3 rfl) ?_
  refine zz_iconst (pc := 19) (v := nI 2) S dX6_isSamePoint_19 rfl ?_
  refine zz_irem (pc := 20) (v := nI (b % 2)) S dX6_isSamePoint_20 (by decide) (n_rem (by omega) (by decide) (by decide)) ?_
  refine zz_imul (pc := 21) (v := nI (2 * (b % 2))) S dX6_isSamePoint_21 (n_mul _ _) ?_
  refine zz_iadd (pc := 22) (v := nI (5 * (b / 2) + (2 * (b % 2)))) S dX6_isSamePoint_22 (n_add _ _) ?_
  refine lv_istore (pc := 23) (lv' := [(4, .int (nI (5 * (b / 2) + (2 * (b % 2))))), (3, .int (nI (5 * (a / 2) + (2 * (a % 2))))), (0, .ref o), (1, .int (nI a)), (2, .int (nI b))]) S.1 S.2.1 dX6_isSamePoint_23 hl (by decide) rfl (fun ls hl => ?_)
  refine lv_aload_n (pc := 25) S.1 S.2.1 dX6_isSamePoint_25 rfl (lv_at hl 2 rfl) ?_
  refine zz_get (pc := 26) S hG iX6 0 rfl rfl 0 (by decide) wd_67 rfl rfl dX6_isSamePoint_26 ?_
  refine lv_iload_n (pc := 29) S.1 S.2.1 dX6_isSamePoint_29 rfl (lv_at hl 1 rfl) ?_
  refine zz_iald (pc := 30) (k := 5 * (a / 2) + (2 * (a % 2))) S hG 1 rfl (by omega) dX6_isSamePoint_30 ?_
  refine zz_cast (v := nI (X a)) (congrArg nI (hR.2.1 a (by omega)).1) ?_
  have g1 := (hXY a (by omega)).1
  refine lv_aload_n (pc := 31) S.1 S.2.1 dX6_isSamePoint_31 rfl (lv_at hl 2 rfl) ?_
  refine zz_get (pc := 32) S hG iX6 0 rfl rfl 0 (by decide) wd_67 rfl rfl dX6_isSamePoint_32 ?_
  refine lv_iload (pc := 35) S.1 S.2.1 dX6_isSamePoint_35 (lv_at hl 0 rfl) ?_
  refine zz_iald (pc := 37) (k := 5 * (b / 2) + (2 * (b % 2))) S hG 1 rfl (by omega) dX6_isSamePoint_37 ?_
  refine zz_cast (v := nI (X b)) (congrArg nI (hR.2.1 b (by omega)).1) ?_
  have g2 := (hXY b (by omega)).1
  refine zz_icmp_ne (pc := 38) (tgt := 65) S dX6_isSamePoint_38 (by decide) (n_eq (by omega) (by omega)) (fun c38 => ?_) (fun c38 => ?_)
  · refine zz_iconst (pc := 65) (v := nI 0) S dX6_isSamePoint_65 rfl ?_
    exact zz_bretS (pc := 66) S hr hlocks (by decide) (congrArg nI (zB_f (by first | omega | rfl)).symm) dX6_isSamePoint_66
  · refine lv_aload_n (pc := 41) S.1 S.2.1 dX6_isSamePoint_41 rfl (lv_at hl 2 rfl) ?_
    refine zz_get (pc := 42) S hG iX6 0 rfl rfl 0 (by decide) wd_67 rfl rfl dX6_isSamePoint_42 ?_
    refine lv_iload_n (pc := 45) S.1 S.2.1 dX6_isSamePoint_45 rfl (lv_at hl 1 rfl) ?_
    refine zz_iconst (pc := 46) (v := nI 1) S dX6_isSamePoint_46 rfl ?_
    refine zz_iadd (pc := 47) (v := nI (5 * (a / 2) + (2 * (a % 2)) + 1)) S dX6_isSamePoint_47 (n_add _ _) ?_
    refine zz_iald (pc := 48) (k := 5 * (a / 2) + (2 * (a % 2)) + 1) S hG 1 rfl (by omega) dX6_isSamePoint_48 ?_
    refine zz_cast (v := nI (Y a)) (congrArg nI (hR.2.1 a (by omega)).2) ?_
    have g3 := (hXY a (by omega)).2
    refine lv_aload_n (pc := 49) S.1 S.2.1 dX6_isSamePoint_49 rfl (lv_at hl 2 rfl) ?_
    refine zz_get (pc := 50) S hG iX6 0 rfl rfl 0 (by decide) wd_67 rfl rfl dX6_isSamePoint_50 ?_
    refine lv_iload (pc := 53) S.1 S.2.1 dX6_isSamePoint_53 (lv_at hl 0 rfl) ?_
    refine zz_iconst (pc := 55) (v := nI 1) S dX6_isSamePoint_55 rfl ?_
    refine zz_iadd (pc := 56) (v := nI (5 * (b / 2) + (2 * (b % 2)) + 1)) S dX6_isSamePoint_56 (n_add _ _) ?_
    refine zz_iald (pc := 57) (k := 5 * (b / 2) + (2 * (b % 2)) + 1) S hG 1 rfl (by omega) dX6_isSamePoint_57 ?_
    refine zz_cast (v := nI (Y b)) (congrArg nI (hR.2.1 b (by omega)).2) ?_
    have g4 := (hXY b (by omega)).2
    refine zz_icmp_ne (pc := 58) (tgt := 65) S dX6_isSamePoint_58 (by decide) (n_eq (by omega) (by omega)) (fun c58 => ?_) (fun c58 => ?_)
    · refine zz_iconst (pc := 65) (v := nI 0) S dX6_isSamePoint_65 rfl ?_
      exact zz_bretS (pc := 66) S hr hlocks (by decide) (congrArg nI (zB_f (by first | omega | rfl)).symm) dX6_isSamePoint_66
    · refine zz_iconst (pc := 61) (v := nI 1) S dX6_isSamePoint_61 rfl ?_
      refine lv_goto (pc := 62) (tgt := 66) S.1 S.2.1 dX6_isSamePoint_62 (by decide) ?_
      exact zz_bretS (pc := 66) S hr hlocks (by decide) (congrArg nI (zB_t (by first | omega | rfl)).symm) dX6_isSamePoint_66
abbrev wm_X6_isOfPen : List Cond := .code yX6_isOfPen cX6_isOfPen 3 (some .boolean) :: wU
theorem q_X6_isOfPen : yX6_isOfPen.cls = RX6 ∧ yX6_isOfPen.cls ≠ "java/lang/invoke/MethodHandle" ∧ yX6_isOfPen.cls ≠ "java/lang/invoke/VarHandle" ∧ (parseMethodDescriptor yX6_isOfPen.desc).map (fun d => d.parameters.length) = some 2 := by decide +kernel
set_option maxHeartbeats 4000000 in
set_option maxRecDepth 100000 in
theorem c_X6_isOfPen (l : Launch) (D : va_G) (cI cR : ClassId) (o a1 a2 a3 a4 a5 a6 ed C V Ac : Nat) (w : Nat → Nat) (n : Nat) (P X Y L : Nat → Nat) (a : Nat) (b : Nat) (hge : zGe n P X Y) (hR : zRl w n P X Y L) (hset : zSt C V Ac) (ha : a < 2 * n) (hb : b ≤ 3) : Met l yX6_isOfPen wm_X6_isOfPen ({ frames := 1, cells := 0, slots := 0, locals := 21 } : Room) (va_Pc [.ref o, .int (nI a), .int (nI b)] (zW D cI cR [(o, .inr (6, [.ref a1, .ref a2, .int (nI ed), .int (nI C), .int (nI V), .int (nI Ac), .ref a3, .ref a4, .ref a5, .ref a6])), (a1, zA cI 49 w)])) (vp_Si (fun r => r = nI (zB (P (a / 2) = b)))) 0 0 (fun _ => False) := by
  refine Met.ofW (cc := cX6_isOfPen) (maxL := 3) (ret := (some .boolean)) (by decide) rfl ?_
  intro p e s m args below meth c s₁ B hml hv
  obtain ⟨rfl, hG⟩ := hv
  have S : CallFix p m c cX6_isOfPen 3 s ([.ref o, .int (nI a), .int (nI b)] : List Value).toArray wU RX6 := ⟨B.exec, B.bytes, hml, findClass_of_methodNamed B.named, fun w h => atoms_spec (ws := wm_X6_isOfPen) B.pre w (List.mem_cons_of_mem _ h)⟩
  have hr := B.returns
  have hlocks := B.notSynchronized
  have hG : zG D cI cR [(o, .inr (6, [.ref a1, .ref a2, .int (nI ed), .int (nI C), .int (nI V), .int (nI Ac), .ref a3, .ref a4, .ref a5, .ref a6])), (a1, zA cI 49 w)] s s.heap := hG
  have hl := lv_entry ([.ref o, .int (nI a), .int (nI b)]) (n := 3) (Nat.le_of_ble_eq_true rfl)
  rw [lg_entry_eq]
  generalize (lg_sl ([.ref o, .int (nI a), .int (nI b)]) ++ List.replicate (3 - (lg_sl ([.ref o, .int (nI a), .int (nI b)])).length) Slot.unset).toArray = ls at hl ⊢
  have hl : lv_has ls 3 [(0, .ref o), (1, .int (nI a)), (2, .int (nI b))] := hl
  obtain ⟨hn, hPf, hXY⟩ := id hge
  obtain ⟨hC, hV0, hAc⟩ := id hset
  refine lv_aload_n (pc := 0) S.1 S.2.1 dX6_isOfPen_0 rfl (lv_at hl 0 rfl) ?_
  refine lv_iload_n (pc := 1) S.1 S.2.1 dX6_isOfPen_1 rfl (lv_at hl 1 rfl) ?_
  refine zz_iconst (pc := 2) (v := nI 2) S dX6_isOfPen_2 rfl ?_
  refine zz_idiv (pc := 3) (v := nI (a / 2)) S dX6_isOfPen_3 (by decide) (n_div (by omega) (by decide) (by decide)) ?_
  refine zz_callV (pc := 4) (As := [.int (nI (a / 2))]) (rest := []) S (c_X6_penAt l D cI cR o a1 a2 a3 a4 a5 a6 ed C V Ac w n P X Y L (a / 2) hge hR hset (by omega)) (zuV wd_193 wd_190 wd_191 wd_192 wd_5) 1 rfl q_X6_penAt ⟨⟨rfl, rfl⟩, Nat.le_of_ble_eq_true rfl, Nat.le_of_ble_eq_true rfl⟩ hG [0, 1] rfl 0 rfl rfl rfl rfl rfl (Nat.le_of_ble_eq_true rfl) hl.1 ⟨Nat.zero_le _, Nat.zero_le _⟩ dX6_isOfPen_4 ?_
  have g1 := hPf (a / 2) (by omega)
  refine lv_iload_n (pc := 7) S.1 S.2.1 dX6_isOfPen_7 rfl (lv_at hl 2 rfl) ?_
  refine zz_icmp_ne (pc := 8) (tgt := 15) S dX6_isOfPen_8 (by decide) (n_eq (by omega) (by omega)) (fun c8 => ?_) (fun c8 => ?_)
  · refine zz_iconst (pc := 15) (v := nI 0) S dX6_isOfPen_15 rfl ?_
    exact zz_bretS (pc := 16) S hr hlocks (by decide) (congrArg nI (zB_f (by first | omega | rfl)).symm) dX6_isOfPen_16
  · refine zz_iconst (pc := 11) (v := nI 1) S dX6_isOfPen_11 rfl ?_
    refine lv_goto (pc := 12) (tgt := 16) S.1 S.2.1 dX6_isOfPen_12 (by decide) ?_
    exact zz_bretS (pc := 16) S hr hlocks (by decide) (congrArg nI (zB_t (by first | omega | rfl)).symm) dX6_isOfPen_16
abbrev wm_X6_strokeAt : List Cond := .code yX6_strokeAt cX6_strokeAt 2 (some .int) :: wU
theorem q_X6_strokeAt : yX6_strokeAt.cls = RX6 ∧ yX6_strokeAt.cls ≠ "java/lang/invoke/MethodHandle" ∧ yX6_strokeAt.cls ≠ "java/lang/invoke/VarHandle" ∧ (parseMethodDescriptor yX6_strokeAt.desc).map (fun d => d.parameters.length) = some 1 := by decide +kernel
set_option maxHeartbeats 4000000 in
set_option maxRecDepth 100000 in
theorem c_X6_strokeAt (l : Launch) (D : va_G) (cI cR : ClassId) (o a1 a2 a3 a4 a5 a6 ed C V Ac : Nat) (w : Nat → Nat) (n : Nat) (P X Y L : Nat → Nat) (a : Int) (hok : zOk n P X Y L) (hR : zRl w n P X Y L) (hset : zSt C V Ac) (ha : zR a) : Met l yX6_strokeAt wm_X6_strokeAt ({ frames := 2, cells := 0, slots := 0, locals := 43 } : Room) (va_Pc [.ref o, .int (zI a)] (zW D cI cR [(o, .inr (6, [.ref a1, .ref a2, .int (nI ed), .int (nI C), .int (nI V), .int (nI Ac), .ref a3, .ref a4, .ref a5, .ref a6])), (a1, zA cI 49 w)])) (vp_Si (fun r => r = zI (an_stroke n L a))) 0 0 (fun _ => False) := by
  refine Met.ofW (cc := cX6_strokeAt) (maxL := 2) (ret := (some .int)) (by decide) rfl ?_
  intro p e s m args below meth c s₁ B hml hv
  obtain ⟨rfl, hG⟩ := hv
  have S : CallFix p m c cX6_strokeAt 2 s ([.ref o, .int (zI a)] : List Value).toArray wU RX6 := ⟨B.exec, B.bytes, hml, findClass_of_methodNamed B.named, fun w h => atoms_spec (ws := wm_X6_strokeAt) B.pre w (List.mem_cons_of_mem _ h)⟩
  have hr := B.returns
  have hlocks := B.notSynchronized
  have hG : zG D cI cR [(o, .inr (6, [.ref a1, .ref a2, .int (nI ed), .int (nI C), .int (nI V), .int (nI Ac), .ref a3, .ref a4, .ref a5, .ref a6])), (a1, zA cI 49 w)] s s.heap := hG
  have hl := lv_entry ([.ref o, .int (zI a)]) (n := 2) (Nat.le_of_ble_eq_true rfl)
  rw [lg_entry_eq]
  generalize (lg_sl ([.ref o, .int (zI a)]) ++ List.replicate (2 - (lg_sl ([.ref o, .int (zI a)])).length) Slot.unset).toArray = ls at hl ⊢
  have hl : lv_has ls 2 [(0, .ref o), (1, .int (zI a))] := hl
  have r_ha := id ha
  unfold zR at r_ha
  obtain ⟨⟨hn, hPf, hXY⟩, hLf, hinj⟩ := id hok
  obtain ⟨hC, hV0, hAc⟩ := id hset
  refine lv_iload_n (pc := 0) S.1 S.2.1 dX6_strokeAt_0 rfl (lv_at hl 1 rfl) ?_
  refine zz_if_ge (pc := 1) (tgt := 8) S dX6_strokeAt_1 (by decide) (z_ge0 (by unfold zR; omega)) (fun c1 => ?_) (fun c1 => ?_)
  · refine lv_aload_n (pc := 8) S.1 S.2.1 dX6_strokeAt_8 rfl (lv_at hl 0 rfl) ?_
    refine lv_iload_n (pc := 9) S.1 S.2.1 dX6_strokeAt_9 rfl (lv_at hl 1 rfl) ?_
    refine zz_callV (pc := 10) (As := [.int (zI a)]) (rest := []) S (c_X6_isPosition l D cI cR o a1 a2 a3 a4 a5 a6 ed C V Ac w n P X Y L a hok.1 hR hset (by unfold zR; omega)) (zuV wd_360 wd_357 wd_358 wd_359 wd_5) 1 rfl q_X6_isPosition ⟨⟨rfl, rfl⟩, Nat.le_of_ble_eq_true rfl, Nat.le_of_ble_eq_true rfl⟩ hG [0, 1] rfl 0 rfl rfl rfl rfl rfl (Nat.le_of_ble_eq_true rfl) hl.1 ⟨Nat.zero_le _, Nat.zero_le _⟩ dX6_strokeAt_10 ?_
    refine zz_ifb_eq (pc := 13) (tgt := 26) S dX6_strokeAt_13 (by decide) (fun c13 => ?_) (fun c13 => ?_)
    · refine zz_bipush (pc := 26) (v := zI (-3)) S dX6_strokeAt_26 rfl ?_
      exact zz_iretS (pc := 28) S hr hlocks (congrArg zI (a₁ := (-3)) (by unfold an_stroke; first | rw [if_pos (by omega)] | rw [if_neg (by omega), if_pos (by omega)] | rw [if_neg (by omega), if_neg (by omega)])) dX6_strokeAt_28
    · have hl : lv_has ls 2 [(0, .ref o), (1, .int (nI a.toNat))] := by rw [← (zn_of (z := a) (n := a.toNat) (by omega))]; exact hl
      refine lv_aload_n (pc := 16) S.1 S.2.1 dX6_strokeAt_16 rfl (lv_at hl 0 rfl) ?_
      refine lv_iload_n (pc := 17) S.1 S.2.1 dX6_strokeAt_17 rfl (lv_at hl 1 rfl) ?_
      refine zz_callV (pc := 18) (As := [.int (nI a.toNat)]) (rest := []) S (c_X6_at l D cI cR o a1 a2 a3 a4 a5 a6 ed C V Ac w n P X Y L a.toNat hok hR hset (by omega)) (zuV wd_364 wd_361 wd_362 wd_363 wd_5) 1 rfl q_X6_at ⟨⟨rfl, rfl⟩, Nat.le_of_ble_eq_true rfl, Nat.le_of_ble_eq_true rfl⟩ hG [0, 1] rfl 0 rfl rfl rfl rfl rfl (Nat.le_of_ble_eq_true rfl) hl.1 ⟨Nat.zero_le _, Nat.zero_le _⟩ dX6_strokeAt_18 ?_
      have g1 := hLf a.toNat (by omega)
      refine zz_iconst (pc := 21) (v := nI 2) S dX6_strokeAt_21 rfl ?_
      refine zz_idiv (pc := 22) (v := nI ((L a.toNat) / 2)) S dX6_strokeAt_22 (by decide) (n_div (by omega) (by decide) (by decide)) ?_
      refine lv_goto (pc := 23) (tgt := 28) S.1 S.2.1 dX6_strokeAt_23 (by decide) ?_
      exact zz_iretS (pc := 28) S hr hlocks (congrArg zI (a₁ := (((L a.toNat) / 2 : Nat) : Int)) (by unfold an_stroke; first | rw [if_pos (by omega)] | rw [if_neg (by omega), if_pos (by omega)] | rw [if_neg (by omega), if_neg (by omega)])) dX6_strokeAt_28
  · refine zz_iconst (pc := 4) (v := zI (-1)) S dX6_strokeAt_4 rfl ?_
    refine lv_goto (pc := 5) (tgt := 28) S.1 S.2.1 dX6_strokeAt_5 (by decide) ?_
    exact zz_iretS (pc := 28) S hr hlocks (congrArg zI (a₁ := (-1)) (by unfold an_stroke; first | rw [if_pos (by omega)] | rw [if_neg (by omega), if_pos (by omega)] | rw [if_neg (by omega), if_neg (by omega)])) dX6_strokeAt_28
abbrev wm_X6_directionAt : List Cond := .code yX6_directionAt cX6_directionAt 2 (some .int) :: wU
theorem q_X6_directionAt : yX6_directionAt.cls = RX6 ∧ yX6_directionAt.cls ≠ "java/lang/invoke/MethodHandle" ∧ yX6_directionAt.cls ≠ "java/lang/invoke/VarHandle" ∧ (parseMethodDescriptor yX6_directionAt.desc).map (fun d => d.parameters.length) = some 1 := by decide +kernel
set_option maxHeartbeats 4000000 in
set_option maxRecDepth 100000 in
theorem c_X6_directionAt (l : Launch) (D : va_G) (cI cR : ClassId) (o a1 a2 a3 a4 a5 a6 ed C V Ac : Nat) (w : Nat → Nat) (n : Nat) (P X Y L : Nat → Nat) (a : Int) (hok : zOk n P X Y L) (hR : zRl w n P X Y L) (hset : zSt C V Ac) (ha : zR a) : Met l yX6_directionAt wm_X6_directionAt ({ frames := 2, cells := 0, slots := 0, locals := 43 } : Room) (va_Pc [.ref o, .int (zI a)] (zW D cI cR [(o, .inr (6, [.ref a1, .ref a2, .int (nI ed), .int (nI C), .int (nI V), .int (nI Ac), .ref a3, .ref a4, .ref a5, .ref a6])), (a1, zA cI 49 w)])) (vp_Si (fun r => r = zI (an_dir n L a))) 0 0 (fun _ => False) := by
  refine Met.ofW (cc := cX6_directionAt) (maxL := 2) (ret := (some .int)) (by decide) rfl ?_
  intro p e s m args below meth c s₁ B hml hv
  obtain ⟨rfl, hG⟩ := hv
  have S : CallFix p m c cX6_directionAt 2 s ([.ref o, .int (zI a)] : List Value).toArray wU RX6 := ⟨B.exec, B.bytes, hml, findClass_of_methodNamed B.named, fun w h => atoms_spec (ws := wm_X6_directionAt) B.pre w (List.mem_cons_of_mem _ h)⟩
  have hr := B.returns
  have hlocks := B.notSynchronized
  have hG : zG D cI cR [(o, .inr (6, [.ref a1, .ref a2, .int (nI ed), .int (nI C), .int (nI V), .int (nI Ac), .ref a3, .ref a4, .ref a5, .ref a6])), (a1, zA cI 49 w)] s s.heap := hG
  have hl := lv_entry ([.ref o, .int (zI a)]) (n := 2) (Nat.le_of_ble_eq_true rfl)
  rw [lg_entry_eq]
  generalize (lg_sl ([.ref o, .int (zI a)]) ++ List.replicate (2 - (lg_sl ([.ref o, .int (zI a)])).length) Slot.unset).toArray = ls at hl ⊢
  have hl : lv_has ls 2 [(0, .ref o), (1, .int (zI a))] := hl
  have r_ha := id ha
  unfold zR at r_ha
  obtain ⟨⟨hn, hPf, hXY⟩, hLf, hinj⟩ := id hok
  obtain ⟨hC, hV0, hAc⟩ := id hset
  refine lv_iload_n (pc := 0) S.1 S.2.1 dX6_directionAt_0 rfl (lv_at hl 1 rfl) ?_
  refine zz_if_ge (pc := 1) (tgt := 8) S dX6_directionAt_1 (by decide) (z_ge0 (by unfold zR; omega)) (fun c1 => ?_) (fun c1 => ?_)
  · refine lv_aload_n (pc := 8) S.1 S.2.1 dX6_directionAt_8 rfl (lv_at hl 0 rfl) ?_
    refine lv_iload_n (pc := 9) S.1 S.2.1 dX6_directionAt_9 rfl (lv_at hl 1 rfl) ?_
    refine zz_callV (pc := 10) (As := [.int (zI a)]) (rest := []) S (c_X6_isPosition l D cI cR o a1 a2 a3 a4 a5 a6 ed C V Ac w n P X Y L a hok.1 hR hset (by unfold zR; omega)) (zuV wd_360 wd_357 wd_358 wd_359 wd_5) 1 rfl q_X6_isPosition ⟨⟨rfl, rfl⟩, Nat.le_of_ble_eq_true rfl, Nat.le_of_ble_eq_true rfl⟩ hG [0, 1] rfl 0 rfl rfl rfl rfl rfl (Nat.le_of_ble_eq_true rfl) hl.1 ⟨Nat.zero_le _, Nat.zero_le _⟩ dX6_directionAt_10 ?_
    refine zz_ifb_eq (pc := 13) (tgt := 26) S dX6_directionAt_13 (by decide) (fun c13 => ?_) (fun c13 => ?_)
    · refine zz_bipush (pc := 26) (v := zI (-3)) S dX6_directionAt_26 rfl ?_
      exact zz_iretS (pc := 28) S hr hlocks (congrArg zI (a₁ := (-3)) (by unfold an_dir; first | rw [if_pos (by omega)] | rw [if_neg (by omega), if_pos (by omega)] | rw [if_neg (by omega), if_neg (by omega)])) dX6_directionAt_28
    · have hl : lv_has ls 2 [(0, .ref o), (1, .int (nI a.toNat))] := by rw [← (zn_of (z := a) (n := a.toNat) (by omega))]; exact hl
      refine lv_aload_n (pc := 16) S.1 S.2.1 dX6_directionAt_16 rfl (lv_at hl 0 rfl) ?_
      refine lv_iload_n (pc := 17) S.1 S.2.1 dX6_directionAt_17 rfl (lv_at hl 1 rfl) ?_
      refine zz_callV (pc := 18) (As := [.int (nI a.toNat)]) (rest := []) S (c_X6_at l D cI cR o a1 a2 a3 a4 a5 a6 ed C V Ac w n P X Y L a.toNat hok hR hset (by omega)) (zuV wd_364 wd_361 wd_362 wd_363 wd_5) 1 rfl q_X6_at ⟨⟨rfl, rfl⟩, Nat.le_of_ble_eq_true rfl, Nat.le_of_ble_eq_true rfl⟩ hG [0, 1] rfl 0 rfl rfl rfl rfl rfl (Nat.le_of_ble_eq_true rfl) hl.1 ⟨Nat.zero_le _, Nat.zero_le _⟩ dX6_directionAt_18 ?_
      have g1 := hLf a.toNat (by omega)
      refine zz_iconst (pc := 21) (v := nI 2) S dX6_directionAt_21 rfl ?_
      refine zz_irem (pc := 22) (v := nI ((L a.toNat) % 2)) S dX6_directionAt_22 (by decide) (n_rem (by omega) (by decide) (by decide)) ?_
      refine lv_goto (pc := 23) (tgt := 28) S.1 S.2.1 dX6_directionAt_23 (by decide) ?_
      exact zz_iretS (pc := 28) S hr hlocks (congrArg zI (a₁ := (((L a.toNat) % 2 : Nat) : Int)) (by unfold an_dir; first | rw [if_pos (by omega)] | rw [if_neg (by omega), if_pos (by omega)] | rw [if_neg (by omega), if_neg (by omega)])) dX6_directionAt_28
  · refine zz_iconst (pc := 4) (v := zI (-1)) S dX6_directionAt_4 rfl ?_
    refine lv_goto (pc := 5) (tgt := 28) S.1 S.2.1 dX6_directionAt_5 (by decide) ?_
    exact zz_iretS (pc := 28) S hr hlocks (congrArg zI (a₁ := (-1)) (by unfold an_dir; first | rw [if_pos (by omega)] | rw [if_neg (by omega), if_pos (by omega)] | rw [if_neg (by omega), if_neg (by omega)])) dX6_directionAt_28
abbrev wm_X6_step : List Cond := .code yX6_step cX6_step 5 (some .int) :: wU
theorem q_X6_step : yX6_step.cls = RX6 ∧ yX6_step.cls ≠ "java/lang/invoke/MethodHandle" ∧ yX6_step.cls ≠ "java/lang/invoke/VarHandle" ∧ (parseMethodDescriptor yX6_step.desc).map (fun d => d.parameters.length) = some 2 := by decide +kernel
set_option maxHeartbeats 4000000 in
set_option maxRecDepth 100000 in
theorem c_X6_step (l : Launch) (D : va_G) (cI cR : ClassId) (o a1 a2 a3 a4 a5 a6 ed C V Ac : Nat) (w : Nat → Nat) (n : Nat) (P X Y L : Nat → Nat) (a : Int) (b : Nat) (hge : zGe n P X Y) (hR : zRl w n P X Y L) (hset : zSt C V Ac) (ha : -1 ≤ a ∧ a < 2 * (n : Int)) (hb : b < 2 * n) : Met l yX6_step wm_X6_step ({ frames := 1, cells := 0, slots := 0, locals := 23 } : Room) (va_Pc [.ref o, .int (zI a), .int (nI b)] (zW D cI cR [(o, .inr (6, [.ref a1, .ref a2, .int (nI ed), .int (nI C), .int (nI V), .int (nI Ac), .ref a3, .ref a4, .ref a5, .ref a6])), (a1, zA cI 49 w)])) (vp_Si (fun r => r = nI (stp P X Y C a b))) 0 0 (fun _ => False) := by
  refine Met.ofW (cc := cX6_step) (maxL := 5) (ret := (some .int)) (by decide) rfl ?_
  intro p e s m args below meth c s₁ B hml hv
  obtain ⟨rfl, hG⟩ := hv
  have S : CallFix p m c cX6_step 5 s ([.ref o, .int (zI a), .int (nI b)] : List Value).toArray wU RX6 := ⟨B.exec, B.bytes, hml, findClass_of_methodNamed B.named, fun w h => atoms_spec (ws := wm_X6_step) B.pre w (List.mem_cons_of_mem _ h)⟩
  have hr := B.returns
  have hlocks := B.notSynchronized
  have hG : zG D cI cR [(o, .inr (6, [.ref a1, .ref a2, .int (nI ed), .int (nI C), .int (nI V), .int (nI Ac), .ref a3, .ref a4, .ref a5, .ref a6])), (a1, zA cI 49 w)] s s.heap := hG
  have hl := lv_entry ([.ref o, .int (zI a), .int (nI b)]) (n := 5) (Nat.le_of_ble_eq_true rfl)
  rw [lg_entry_eq]
  generalize (lg_sl ([.ref o, .int (zI a), .int (nI b)]) ++ List.replicate (5 - (lg_sl ([.ref o, .int (zI a), .int (nI b)])).length) Slot.unset).toArray = ls at hl ⊢
  have hl : lv_has ls 5 [(0, .ref o), (1, .int (zI a)), (2, .int (nI b))] := hl
  obtain ⟨hn, hPf, hXY⟩ := id hge
  obtain ⟨hC, hV0, hAc⟩ := id hset
  have o1 := oX_le (a := a) (X := X) (n := n) (fun c h => (hXY c h).1) ha
  have o2 := oX_le (a := a) (X := Y) (n := n) (fun c h => (hXY c h).2) ha
  have o3 := oP_le (a := a) (P := P) (n := n) hPf ha
  have o4 := oP_neg P a
  have o5 := oP_pos P a
  refine lv_aload_n (pc := 0) S.1 S.2.1 dX6_step_0 rfl (lv_at hl 0 rfl) ?_
  refine zz_get (pc := 1) S hG iX6 0 rfl rfl 0 (by decide) wd_67 rfl rfl dX6_step_1 ?_
  refine lv_iload_n (pc := 4) S.1 S.2.1 dX6_step_4 rfl (lv_at hl 2 rfl) ?_
  refine zz_callS (pc := 5) (As := [.int (nI b)]) (rest := [.ref a1]) S (c_X6_begin l D cI cR b (by omega)) (zuS wd_433 wd_431 wd_432 wd_5) 1 rfl q_X6_begin.2 ⟨⟨rfl, rfl⟩, Nat.le_of_ble_eq_true rfl, Nat.le_of_ble_eq_true rfl⟩ rfl rfl (Nat.le_of_ble_eq_true rfl) hl.1 ⟨Nat.zero_le _, Nat.zero_le _⟩ dX6_step_5 ?_
  have g1 := bg16 (a := b) (by omega)
  refine zz_iald (pc := 8) (k := bg b) S hG 1 rfl (by omega) dX6_step_8 ?_
  refine zz_cast (v := nI (X b)) (congrArg nI (hR.2.1 b (by first | omega | exact sw_lt (by omega))).1) ?_
  have g2 := (hXY b (by first | omega | exact sw_lt (by omega))).1
  have J3 : ∀ ls : Array Slot, lv_has ls 5 [(0, .ref o), (1, .int (zI a)), (2, .int (nI b))] → W p l e (headSpec wm_X6_step ({ frames := 1, cells := 0, slots := 0, locals := 23 } : Room)).room s m ([.ref o, .int (zI a), .int (nI b)] : List Value).toArray below meth c s.heap [] 0 0 (MQ below (vp_Si (fun r => r = nI (stp P X Y C a b))) ([.ref o, .int (zI a), .int (nI b)] : List Value).toArray s 0 0 (fun _ => False)) (F0 m 26 ls [.int (nI (oX X a)), .int (nI (X b))]) := by
    intro ls hl
    refine zz_isub (pc := 26) (v := zI (((X b : Nat) : Int) - ((oX X a : Nat) : Int))) S dX6_step_26 (zI_sub ((X b : Nat) : Int) ((oX X a : Nat) : Int)) ?_
    refine lv_istore_n (pc := 27) (lv' := [(3, .int (zI (((X b : Nat) : Int) - ((oX X a : Nat) : Int)))), (0, .ref o), (1, .int (zI a)), (2, .int (nI b))]) S.1 S.2.1 dX6_step_27 rfl hl (by decide) rfl (fun ls hl => ?_)
    refine lv_aload_n (pc := 28) S.1 S.2.1 dX6_step_28 rfl (lv_at hl 1 rfl) ?_
    refine zz_get (pc := 29) S hG iX6 0 rfl rfl 0 (by decide) wd_67 rfl rfl dX6_step_29 ?_
    refine lv_iload_n (pc := 32) S.1 S.2.1 dX6_step_32 rfl (lv_at hl 3 rfl) ?_
    refine zz_callS (pc := 33) (As := [.int (nI b)]) (rest := [.ref a1]) S (c_X6_begin l D cI cR b (by omega)) (zuS wd_433 wd_431 wd_432 wd_5) 1 rfl q_X6_begin.2 ⟨⟨rfl, rfl⟩, Nat.le_of_ble_eq_true rfl, Nat.le_of_ble_eq_true rfl⟩ rfl rfl (Nat.le_of_ble_eq_true rfl) hl.1 ⟨Nat.zero_le _, Nat.zero_le _⟩ dX6_step_33 ?_
    have g4 := bg16 (a := b) (by omega)
    refine zz_iconst (pc := 36) (v := nI 1) S dX6_step_36 rfl ?_
    refine zz_iadd (pc := 37) (v := nI (bg b + 1)) S dX6_step_37 (n_add _ _) ?_
    refine zz_iald (pc := 38) (k := bg b + 1) S hG 1 rfl (by omega) dX6_step_38 ?_
    refine zz_cast (v := nI (Y b)) (congrArg nI (hR.2.1 b (by first | omega | exact sw_lt (by omega))).2) ?_
    have g5 := (hXY b (by first | omega | exact sw_lt (by omega))).2
    have J6 : ∀ ls : Array Slot, lv_has ls 5 [(0, .ref o), (1, .int (zI a)), (2, .int (nI b)), (3, .int (zI (((X b : Nat) : Int) - ((oX X a : Nat) : Int))))] → W p l e (headSpec wm_X6_step ({ frames := 1, cells := 0, slots := 0, locals := 23 } : Room)).room s m ([.ref o, .int (zI a), .int (nI b)] : List Value).toArray below meth c s.heap [] 0 0 (MQ below (vp_Si (fun r => r = nI (stp P X Y C a b))) ([.ref o, .int (zI a), .int (nI b)] : List Value).toArray s 0 0 (fun _ => False)) (F0 m 58 ls [.int (nI (oX Y a)), .int (nI (Y b))]) := by
      intro ls hl
      refine zz_isub (pc := 58) (v := zI (((Y b : Nat) : Int) - ((oX Y a : Nat) : Int))) S dX6_step_58 (zI_sub ((Y b : Nat) : Int) ((oX Y a : Nat) : Int)) ?_
      refine lv_istore (pc := 59) (lv' := [(4, .int (zI (((Y b : Nat) : Int) - ((oX Y a : Nat) : Int)))), (0, .ref o), (1, .int (zI a)), (2, .int (nI b)), (3, .int (zI (((X b : Nat) : Int) - ((oX X a : Nat) : Int))))]) S.1 S.2.1 dX6_step_59 hl (by decide) rfl (fun ls hl => ?_)
      refine lv_iload_n (pc := 61) S.1 S.2.1 dX6_step_61 rfl (lv_at hl 4 rfl) ?_
      refine lv_iload (pc := 62) S.1 S.2.1 dX6_step_62 (lv_at hl 0 rfl) ?_
      refine zz_callS (pc := 64) (As := [.int (zI (((X b : Nat) : Int) - ((oX X a : Nat) : Int))), .int (zI (((Y b : Nat) : Int) - ((oX Y a : Nat) : Int)))]) (rest := []) S (c_X6_far l D cI cR (((X b : Nat) : Int) - ((oX X a : Nat) : Int)) (((Y b : Nat) : Int) - ((oX Y a : Nat) : Int)) (by omega) (by omega)) (zuS wd_439 wd_437 wd_438 wd_5) 2 rfl q_X6_far.2 ⟨⟨rfl, rfl⟩, Nat.le_of_ble_eq_true rfl, Nat.le_of_ble_eq_true rfl⟩ rfl rfl (Nat.le_of_ble_eq_true rfl) hl.1 ⟨Nat.zero_le _, Nat.zero_le _⟩ dX6_step_64 ?_
      have g7 := zfar_bd (a := (((X b : Nat) : Int) - ((oX X a : Nat) : Int))) (b := (((Y b : Nat) : Int) - ((oX Y a : Nat) : Int))) (by omega) (by omega)
      have J8 : ∀ ls : Array Slot, lv_has ls 5 [(0, .ref o), (1, .int (zI a)), (2, .int (nI b)), (3, .int (zI (((X b : Nat) : Int) - ((oX X a : Nat) : Int)))), (4, .int (zI (((Y b : Nat) : Int) - ((oX Y a : Nat) : Int))))] → W p l e (headSpec wm_X6_step ({ frames := 1, cells := 0, slots := 0, locals := 23 } : Room)).room s m ([.ref o, .int (zI a), .int (nI b)] : List Value).toArray below meth c s.heap [] 0 0 (MQ below (vp_Si (fun r => r = nI (stp P X Y C a b))) ([.ref o, .int (zI a), .int (nI b)] : List Value).toArray s 0 0 (fun _ => False)) (F0 m 96 ls [.int (nI (if oP P a = oP P ((b : Nat) : Int) then 0 else C)), .int (nI (zfar (((X b : Nat) : Int) - ((oX X a : Nat) : Int)) (((Y b : Nat) : Int) - ((oX Y a : Nat) : Int))))]) := by
        intro ls hl
        have hif : (if oP P a = oP P (b : Int) then 0 else C) ≤ 500 := by split <;> omega
        refine zz_iadd (pc := 96) (v := nI (zfar (((X b : Nat) : Int) - ((oX X a : Nat) : Int)) (((Y b : Nat) : Int) - ((oX Y a : Nat) : Int)) + (if oP P a = oP P ((b : Nat) : Int) then 0 else C))) S dX6_step_96 (n_add _ _) ?_
        exact zz_iretS (pc := 97) S hr hlocks (congrArg nI (by show zfar _ _ + _ = zfar _ _ + _; congr 1; unfold zfar; omega)) dX6_step_97
      refine lv_iload_n (pc := 67) S.1 S.2.1 dX6_step_67 rfl (lv_at hl 2 rfl) ?_
      refine zz_if_lt (pc := 68) (tgt := 88) S dX6_step_68 (by decide) (z_lt0 (by unfold zR; omega)) (fun c68 => ?_) (fun c68 => ?_)
      · refine lv_aload_n (pc := 88) S.1 S.2.1 dX6_step_88 rfl (lv_at hl 1 rfl) ?_
        refine zz_get (pc := 89) S hG iX6 0 rfl rfl 3 (by decide) wd_69 rfl rfl dX6_step_89 ?_
        refine lv_goto (pc := 92) (tgt := 96) S.1 S.2.1 dX6_step_92 (by decide) ?_
        refine zz_cast (v := nI (if oP P a = oP P ((b : Nat) : Int) then 0 else C)) (congrArg nI (by rw [oP_n]; first | rw [if_pos (by omega)] | rw [if_neg (by omega)])) ?_
        exact J8 ls (lv_sub hl [1, 2, 3, 4, 0] rfl)
      · refine lv_aload_n (pc := 71) S.1 S.2.1 dX6_step_71 rfl (lv_at hl 1 rfl) ?_
        refine lv_iload_n (pc := 72) S.1 S.2.1 dX6_step_72 rfl (lv_at hl 2 rfl) ?_
        refine zz_cast (v := nI a.toNat) (zn_of (by omega)) ?_
        refine zz_iconst (pc := 73) (v := nI 2) S dX6_step_73 rfl ?_
        refine zz_idiv (pc := 74) (v := nI (a.toNat / 2)) S dX6_step_74 (by decide) (n_div (by omega) (by decide) (by decide)) ?_
        refine zz_callV (pc := 75) (As := [.int (nI (a.toNat / 2))]) (rest := [.int (nI (zfar (((X b : Nat) : Int) - ((oX X a : Nat) : Int)) (((Y b : Nat) : Int) - ((oX Y a : Nat) : Int))))]) S (c_X6_penAt l D cI cR o a1 a2 a3 a4 a5 a6 ed C V Ac w n P X Y L (a.toNat / 2) hge hR hset (by omega)) (zuV wd_193 wd_190 wd_191 wd_192 wd_5) 1 rfl q_X6_penAt ⟨⟨rfl, rfl⟩, Nat.le_of_ble_eq_true rfl, Nat.le_of_ble_eq_true rfl⟩ hG [0, 1] rfl 0 rfl rfl rfl rfl rfl (Nat.le_of_ble_eq_true rfl) hl.1 ⟨Nat.zero_le _, Nat.zero_le _⟩ dX6_step_75 ?_
        have g9 := hPf (a.toNat / 2) (by omega)
        refine lv_aload_n (pc := 78) S.1 S.2.1 dX6_step_78 rfl (lv_at hl 1 rfl) ?_
        refine lv_iload_n (pc := 79) S.1 S.2.1 dX6_step_79 rfl (lv_at hl 3 rfl) ?_
        refine zz_iconst (pc := 80) (v := nI 2) S dX6_step_80 rfl ?_
        refine zz_idiv (pc := 81) (v := nI (b / 2)) S dX6_step_81 (by decide) (n_div (by omega) (by decide) (by decide)) ?_
        refine zz_callV (pc := 82) (As := [.int (nI (b / 2))]) (rest := [.int (nI (P (a.toNat / 2))), .int (nI (zfar (((X b : Nat) : Int) - ((oX X a : Nat) : Int)) (((Y b : Nat) : Int) - ((oX Y a : Nat) : Int))))]) S (c_X6_penAt l D cI cR o a1 a2 a3 a4 a5 a6 ed C V Ac w n P X Y L (b / 2) hge hR hset (by omega)) (zuV wd_193 wd_190 wd_191 wd_192 wd_5) 1 rfl q_X6_penAt ⟨⟨rfl, rfl⟩, Nat.le_of_ble_eq_true rfl, Nat.le_of_ble_eq_true rfl⟩ hG [0, 1] rfl 0 rfl rfl rfl rfl rfl (Nat.le_of_ble_eq_true rfl) hl.1 ⟨Nat.zero_le _, Nat.zero_le _⟩ dX6_step_82 ?_
        have g10 := hPf (b / 2) (by omega)
        refine zz_icmp_eq (pc := 85) (tgt := 95) S dX6_step_85 (by decide) (n_eq (by omega) (by omega)) (fun c85 => ?_) (fun c85 => ?_)
        · refine zz_iconst (pc := 95) (v := nI 0) S dX6_step_95 rfl ?_
          refine zz_cast (v := nI (if oP P a = oP P ((b : Nat) : Int) then 0 else C)) (congrArg nI (by rw [oP_n]; first | rw [if_pos (by omega)] | rw [if_neg (by omega)])) ?_
          exact J8 ls (lv_sub hl [1, 2, 3, 4, 0] rfl)
        · refine lv_aload_n (pc := 88) S.1 S.2.1 dX6_step_88 rfl (lv_at hl 1 rfl) ?_
          refine zz_get (pc := 89) S hG iX6 0 rfl rfl 3 (by decide) wd_69 rfl rfl dX6_step_89 ?_
          refine lv_goto (pc := 92) (tgt := 96) S.1 S.2.1 dX6_step_92 (by decide) ?_
          refine zz_cast (v := nI (if oP P a = oP P ((b : Nat) : Int) then 0 else C)) (congrArg nI (by rw [oP_n]; first | rw [if_pos (by omega)] | rw [if_neg (by omega)])) ?_
          exact J8 ls (lv_sub hl [1, 2, 3, 4, 0] rfl)
    refine lv_iload_n (pc := 39) S.1 S.2.1 dX6_step_39 rfl (lv_at hl 2 rfl) ?_
    refine zz_if_ge (pc := 40) (tgt := 47) S dX6_step_40 (by decide) (z_ge0 (by unfold zR; omega)) (fun c40 => ?_) (fun c40 => ?_)
    · refine lv_aload_n (pc := 47) S.1 S.2.1 dX6_step_47 rfl (lv_at hl 1 rfl) ?_
      refine zz_get (pc := 48) S hG iX6 0 rfl rfl 0 (by decide) wd_67 rfl rfl dX6_step_48 ?_
      refine lv_iload_n (pc := 51) S.1 S.2.1 dX6_step_51 rfl (lv_at hl 2 rfl) ?_
      refine zz_cast (v := nI a.toNat) (zn_of (by omega)) ?_
      refine zz_callS (pc := 52) (As := [.int (nI a.toNat)]) (rest := [.ref a1, .int (nI (Y b))]) S (c_X6_end l D cI cR a.toNat (by omega)) (zuS wd_436 wd_434 wd_435 wd_5) 1 rfl q_X6_end.2 ⟨⟨rfl, rfl⟩, Nat.le_of_ble_eq_true rfl, Nat.le_of_ble_eq_true rfl⟩ rfl rfl (Nat.le_of_ble_eq_true rfl) hl.1 ⟨Nat.zero_le _, Nat.zero_le _⟩ dX6_step_52 ?_
      have g11 := bg16 (a := sw a.toNat) (sw_lt (n := 8) (by omega))
      refine zz_iconst (pc := 55) (v := nI 1) S dX6_step_55 rfl ?_
      refine zz_iadd (pc := 56) (v := nI (bg (sw a.toNat) + 1)) S dX6_step_56 (n_add _ _) ?_
      refine zz_iald (pc := 57) (k := bg (sw a.toNat) + 1) S hG 1 rfl (by omega) dX6_step_57 ?_
      refine zz_cast (v := nI (Y (sw a.toNat))) (congrArg nI (hR.2.1 (sw a.toNat) (by first | omega | exact sw_lt (by omega))).2) ?_
      have g12 := (hXY (sw a.toNat) (by first | omega | exact sw_lt (by omega))).2
      refine zz_cast (v := nI (oX Y a)) (congrArg nI (by simp only [oX]; first | rw [if_pos (by omega)] | rw [if_neg (by omega)])) ?_
      exact J6 ls (lv_sub hl [1, 2, 3, 0] rfl)
    · refine zz_iconst (pc := 43) (v := nI 0) S dX6_step_43 rfl ?_
      refine lv_goto (pc := 44) (tgt := 58) S.1 S.2.1 dX6_step_44 (by decide) ?_
      refine zz_cast (v := nI (oX Y a)) (congrArg nI (by simp only [oX]; first | rw [if_pos (by omega)] | rw [if_neg (by omega)])) ?_
      exact J6 ls (lv_sub hl [1, 2, 3, 0] rfl)
  refine lv_iload_n (pc := 9) S.1 S.2.1 dX6_step_9 rfl (lv_at hl 1 rfl) ?_
  refine zz_if_ge (pc := 10) (tgt := 17) S dX6_step_10 (by decide) (z_ge0 (by unfold zR; omega)) (fun c10 => ?_) (fun c10 => ?_)
  · refine lv_aload_n (pc := 17) S.1 S.2.1 dX6_step_17 rfl (lv_at hl 0 rfl) ?_
    refine zz_get (pc := 18) S hG iX6 0 rfl rfl 0 (by decide) wd_67 rfl rfl dX6_step_18 ?_
    refine lv_iload_n (pc := 21) S.1 S.2.1 dX6_step_21 rfl (lv_at hl 1 rfl) ?_
    refine zz_cast (v := nI a.toNat) (zn_of (by omega)) ?_
    refine zz_callS (pc := 22) (As := [.int (nI a.toNat)]) (rest := [.ref a1, .int (nI (X b))]) S (c_X6_end l D cI cR a.toNat (by omega)) (zuS wd_436 wd_434 wd_435 wd_5) 1 rfl q_X6_end.2 ⟨⟨rfl, rfl⟩, Nat.le_of_ble_eq_true rfl, Nat.le_of_ble_eq_true rfl⟩ rfl rfl (Nat.le_of_ble_eq_true rfl) hl.1 ⟨Nat.zero_le _, Nat.zero_le _⟩ dX6_step_22 ?_
    have g13 := bg16 (a := sw a.toNat) (sw_lt (n := 8) (by omega))
    refine zz_iald (pc := 25) (k := bg (sw a.toNat)) S hG 1 rfl (by omega) dX6_step_25 ?_
    refine zz_cast (v := nI (X (sw a.toNat))) (congrArg nI (hR.2.1 (sw a.toNat) (by first | omega | exact sw_lt (by omega))).1) ?_
    have g14 := (hXY (sw a.toNat) (by first | omega | exact sw_lt (by omega))).1
    refine zz_cast (v := nI (oX X a)) (congrArg nI (by simp only [oX]; first | rw [if_pos (by omega)] | rw [if_neg (by omega)])) ?_
    exact J3 ls (lv_sub hl [0, 1, 2] rfl)
  · refine zz_iconst (pc := 13) (v := nI 0) S dX6_step_13 rfl ?_
    refine lv_goto (pc := 14) (tgt := 26) S.1 S.2.1 dX6_step_14 (by decide) ?_
    refine zz_cast (v := nI (oX X a)) (congrArg nI (by simp only [oX]; first | rw [if_pos (by omega)] | rw [if_neg (by omega)])) ?_
    exact J3 ls (lv_sub hl [0, 1, 2] rfl)
abbrev wm_X6_cost : List Cond := .code yX6_cost cX6_cost 3 (some .int) :: wU
theorem q_X6_cost : yX6_cost.cls = RX6 ∧ yX6_cost.cls ≠ "java/lang/invoke/MethodHandle" ∧ yX6_cost.cls ≠ "java/lang/invoke/VarHandle" ∧ (parseMethodDescriptor yX6_cost.desc).map (fun d => d.parameters.length) = some 0 := by decide +kernel
set_option maxHeartbeats 4000000 in
set_option maxRecDepth 100000 in
theorem c_X6_cost (l : Launch) (D : va_G) (cI cR : ClassId) (o a1 a2 a3 a4 a5 a6 ed C V Ac : Nat) (w : Nat → Nat) (n : Nat) (P X Y L : Nat → Nat) (hok : zOk n P X Y L) (hR : zRl w n P X Y L) (hset : zSt C V Ac) : Met l yX6_cost wm_X6_cost ({ frames := 2, cells := 0, slots := 0, locals := 47 } : Room) (va_Pc [.ref o] (zW D cI cR [(o, .inr (6, [.ref a1, .ref a2, .int (nI ed), .int (nI C), .int (nI V), .int (nI Ac), .ref a3, .ref a4, .ref a5, .ref a6])), (a1, zA cI 49 w)])) (vp_Si (fun r => r = nI (zs (fun j => stp P X Y C (prv L j) (L j)) n))) 0 0 (fun _ => False) := by
  refine Met.ofW (cc := cX6_cost) (maxL := 3) (ret := (some .int)) (by decide) rfl ?_
  intro p e s m args below meth c s₁ B hml hv
  obtain ⟨rfl, hG⟩ := hv
  have S : CallFix p m c cX6_cost 3 s ([.ref o] : List Value).toArray wU RX6 := ⟨B.exec, B.bytes, hml, findClass_of_methodNamed B.named, fun w h => atoms_spec (ws := wm_X6_cost) B.pre w (List.mem_cons_of_mem _ h)⟩
  have hr := B.returns
  have hlocks := B.notSynchronized
  have hG : zG D cI cR [(o, .inr (6, [.ref a1, .ref a2, .int (nI ed), .int (nI C), .int (nI V), .int (nI Ac), .ref a3, .ref a4, .ref a5, .ref a6])), (a1, zA cI 49 w)] s s.heap := hG
  have hl := lv_entry ([.ref o]) (n := 3) (Nat.le_of_ble_eq_true rfl)
  rw [lg_entry_eq]
  generalize (lg_sl ([.ref o]) ++ List.replicate (3 - (lg_sl ([.ref o])).length) Slot.unset).toArray = ls at hl ⊢
  have hl : lv_has ls 3 [(0, .ref o)] := hl
  obtain ⟨⟨hn, hPf, hXY⟩, hLf, hinj⟩ := id hok
  obtain ⟨hC, hV0, hAc⟩ := id hset
  refine zz_iconst (pc := 0) (v := nI 0) S dX6_cost_0 rfl ?_
  refine lv_istore_n (pc := 1) (lv' := [(1, .int (nI 0)), (0, .ref o)]) S.1 S.2.1 dX6_cost_1 rfl hl (by decide) rfl (fun ls hl => ?_)
  refine zz_iconst (pc := 2) (v := nI 0) S dX6_cost_2 rfl ?_
  refine lv_istore_n (pc := 3) (lv' := [(2, .int (nI 0)), (1, .int (nI 0)), (0, .ref o)]) S.1 S.2.1 dX6_cost_3 rfl hl (by decide) rfl (fun ls hl => ?_)
  have L1 : ∀ (f : Nat) (k : Nat), (k ≤ n) → n - k < f → ∀ ls : Array Slot, lv_has ls 3 [(0, .ref o), (1, .int (nI (zs (fun j => stp P X Y C (prv L j) (L j)) k))), (2, .int (nI k))] → W p l e (headSpec wm_X6_cost ({ frames := 2, cells := 0, slots := 0, locals := 47 } : Room)).room s m ([.ref o] : List Value).toArray below meth c s.heap [] 0 0 (MQ below (vp_Si (fun r => r = nI (zs (fun j => stp P X Y C (prv L j) (L j)) n))) ([.ref o] : List Value).toArray s 0 0 (fun _ => False)) (F0 m 4 ls []) := by
    intro f
    induction f with
    | zero => intro k hk hf; exact absurd hf (Nat.not_lt_zero _)
    | succ f ih2 =>
      intro k hk hf ls hl
      have hp := prv_rng (L := L) (n := n) hLf hk
      refine lv_iload_n (pc := 4) S.1 S.2.1 dX6_cost_4 rfl (lv_at hl 2 rfl) ?_
      refine lv_aload_n (pc := 5) S.1 S.2.1 dX6_cost_5 rfl (lv_at hl 0 rfl) ?_
      refine zz_get (pc := 6) S hG iX6 0 rfl rfl 0 (by decide) wd_67 rfl rfl dX6_cost_6 ?_
      refine zz_bipush (pc := 9) (v := nI 48) S dX6_cost_9 rfl ?_
      refine zz_iald (pc := 11) (k := 48) S hG 1 rfl (by omega) dX6_cost_11 ?_
      refine zz_cast (v := nI n) (congrArg nI hR.1) ?_
      refine zz_icmp_ge (pc := 12) (tgt := 48) S dX6_cost_12 (by decide) (n_le (by omega) (by omega)) (fun c12 => ?_) (fun c12 => ?_)
      · refine lv_iload_n (pc := 48) S.1 S.2.1 dX6_cost_48 rfl (lv_at hl 1 rfl) ?_
        exact zz_iretS (pc := 49) S hr hlocks (congrArg nI (by rw [show k = n by omega])) dX6_cost_49
      · refine lv_iload_n (pc := 15) S.1 S.2.1 dX6_cost_15 rfl (lv_at hl 1 rfl) ?_
        refine lv_aload_n (pc := 16) S.1 S.2.1 dX6_cost_16 rfl (lv_at hl 0 rfl) ?_
        refine lv_iload_n (pc := 17) S.1 S.2.1 dX6_cost_17 rfl (lv_at hl 2 rfl) ?_
        have J3 : ∀ ls : Array Slot, lv_has ls 3 [(0, .ref o), (1, .int (nI (zs (fun j => stp P X Y C (prv L j) (L j)) k))), (2, .int (nI k))] → W p l e (headSpec wm_X6_cost ({ frames := 2, cells := 0, slots := 0, locals := 47 } : Room)).room s m ([.ref o] : List Value).toArray below meth c s.heap [] 0 0 (MQ below (vp_Si (fun r => r = nI (zs (fun j => stp P X Y C (prv L j) (L j)) n))) ([.ref o] : List Value).toArray s 0 0 (fun _ => False)) (F0 m 32 ls [.int (zI (prv L k)), .ref o, .int (nI (zs (fun j => stp P X Y C (prv L j) (L j)) k))]) := by
          intro ls hl
          refine lv_aload_n (pc := 32) S.1 S.2.1 dX6_cost_32 rfl (lv_at hl 0 rfl) ?_
          refine lv_iload_n (pc := 33) S.1 S.2.1 dX6_cost_33 rfl (lv_at hl 2 rfl) ?_
          refine zz_callV (pc := 34) (As := [.int (nI k)]) (rest := [.int (zI (prv L k)), .ref o, .int (nI (zs (fun j => stp P X Y C (prv L j) (L j)) k))]) S (c_X6_at l D cI cR o a1 a2 a3 a4 a5 a6 ed C V Ac w n P X Y L k hok hR hset (by omega)) (zuV wd_364 wd_361 wd_362 wd_363 wd_5) 1 rfl q_X6_at ⟨⟨rfl, rfl⟩, Nat.le_of_ble_eq_true rfl, Nat.le_of_ble_eq_true rfl⟩ hG [0, 1] rfl 0 rfl rfl rfl rfl rfl (Nat.le_of_ble_eq_true rfl) hl.1 ⟨Nat.zero_le _, Nat.zero_le _⟩ dX6_cost_34 ?_
          have g4 := hLf k (by omega)
          refine zz_callV (pc := 37) (As := [.int (zI (prv L k)), .int (nI (L k))]) (rest := [.int (nI (zs (fun j => stp P X Y C (prv L j) (L j)) k))]) S (c_X6_step l D cI cR o a1 a2 a3 a4 a5 a6 ed C V Ac w n P X Y L (prv L k) (L k) hok.1 hR hset (by omega) (by omega)) (zuV wd_430 wd_427 wd_428 wd_429 wd_5) 2 rfl q_X6_step ⟨⟨rfl, rfl⟩, Nat.le_of_ble_eq_true rfl, Nat.le_of_ble_eq_true rfl⟩ hG [0, 1] rfl 0 rfl rfl rfl rfl rfl (Nat.le_of_ble_eq_true rfl) hl.1 ⟨Nat.zero_le _, Nat.zero_le _⟩ dX6_cost_37 ?_
          have g5 := stp_le (P := P) (X := X) (Y := Y) (C := C) (a := (prv L k)) (b := (L k)) (n := n) hXY (by omega) (by omega)
          refine zz_iadd (pc := 40) (v := nI (zs (fun j => stp P X Y C (prv L j) (L j)) k + (stp P X Y C (prv L k) (L k)))) S dX6_cost_40 (n_add _ _) ?_
          refine lv_istore_n (pc := 41) (lv' := [(1, .int (nI (zs (fun j => stp P X Y C (prv L j) (L j)) k + (stp P X Y C (prv L k) (L k))))), (0, .ref o), (2, .int (nI k))]) S.1 S.2.1 dX6_cost_41 rfl hl (by decide) rfl (fun ls hl => ?_)
          refine lv_iinc (pc := 42) (v := nI (k + 1)) (lv' := [(2, .int (nI (k + 1))), (1, .int (nI (zs (fun j => stp P X Y C (prv L j) (L j)) k + (stp P X Y C (prv L k) (L k))))), (0, .ref o)]) S.1 S.2.1 dX6_cost_42 hl (k := 2) rfl (n_add _ _) (by decide) rfl (fun ls hl => ?_)
          refine lv_goto (pc := 45) (tgt := 4) S.1 S.2.1 dX6_cost_45 (by decide) ?_
          exact ih2 (k + 1) (by omega) (by omega) ls (lv_sub hl [2, 1, 0] rfl)
        refine zz_if_ne (pc := 18) (tgt := 25) S dX6_cost_18 (by decide) (n_eq0 (by omega)) (fun c18 => ?_) (fun c18 => ?_)
        · refine lv_aload_n (pc := 25) S.1 S.2.1 dX6_cost_25 rfl (lv_at hl 0 rfl) ?_
          refine lv_iload_n (pc := 26) S.1 S.2.1 dX6_cost_26 rfl (lv_at hl 2 rfl) ?_
          refine zz_iconst (pc := 27) (v := nI 1) S dX6_cost_27 rfl ?_
          refine zz_isub (pc := 28) (v := nI (k - 1)) S dX6_cost_28 (n_sub (by omega)) ?_
          refine zz_callV (pc := 29) (As := [.int (nI (k - 1))]) (rest := [.ref o, .int (nI (zs (fun j => stp P X Y C (prv L j) (L j)) k))]) S (c_X6_at l D cI cR o a1 a2 a3 a4 a5 a6 ed C V Ac w n P X Y L (k - 1) hok hR hset (by omega)) (zuV wd_364 wd_361 wd_362 wd_363 wd_5) 1 rfl q_X6_at ⟨⟨rfl, rfl⟩, Nat.le_of_ble_eq_true rfl, Nat.le_of_ble_eq_true rfl⟩ hG [0, 1] rfl 0 rfl rfl rfl rfl rfl (Nat.le_of_ble_eq_true rfl) hl.1 ⟨Nat.zero_le _, Nat.zero_le _⟩ dX6_cost_29 ?_
          have g6 := hLf (k - 1) (by omega)
          refine zz_cast (v := zI (prv L k)) (congrArg zI (a₁ := ((L (k - 1) : Nat) : Int)) (by first | exact (prv_e (by omega)).symm | (rw [show k = 0 by omega]; rfl))) ?_
          exact J3 ls (lv_sub hl [0, 1, 2] rfl)
        · refine zz_iconst (pc := 21) (v := zI (-1)) S dX6_cost_21 rfl ?_
          refine lv_goto (pc := 22) (tgt := 32) S.1 S.2.1 dX6_cost_22 (by decide) ?_
          refine zz_cast (v := zI (prv L k)) (congrArg zI (a₁ := (-1)) (by first | exact (prv_e (by omega)).symm | (rw [show k = 0 by omega]; rfl))) ?_
          exact J3 ls (lv_sub hl [0, 1, 2] rfl)
  exact L1 (n - 0 + 1) 0 (by omega) (Nat.lt_succ_self _) ls (lv_sub hl [2, 1, 0] rfl)
abbrev wm_X6_penChanges : List Cond := .code yX6_penChanges cX6_penChanges 3 (some .int) :: wU
theorem q_X6_penChanges : yX6_penChanges.cls = RX6 ∧ yX6_penChanges.cls ≠ "java/lang/invoke/MethodHandle" ∧ yX6_penChanges.cls ≠ "java/lang/invoke/VarHandle" ∧ (parseMethodDescriptor yX6_penChanges.desc).map (fun d => d.parameters.length) = some 0 := by decide +kernel
set_option maxHeartbeats 4000000 in
set_option maxRecDepth 100000 in
theorem c_X6_penChanges (l : Launch) (D : va_G) (cI cR : ClassId) (o a1 a2 a3 a4 a5 a6 ed C V Ac : Nat) (w : Nat → Nat) (n : Nat) (P X Y L : Nat → Nat) (hok : zOk n P X Y L) (hR : zRl w n P X Y L) (hset : zSt C V Ac) : Met l yX6_penChanges wm_X6_penChanges ({ frames := 1, cells := 0, slots := 0, locals := 21 } : Room) (va_Pc [.ref o] (zW D cI cR [(o, .inr (6, [.ref a1, .ref a2, .int (nI ed), .int (nI C), .int (nI V), .int (nI Ac), .ref a3, .ref a4, .ref a5, .ref a6])), (a1, zA cI 49 w)])) (vp_Si (fun r => r = nI (zs (fun j => zB (¬ oP P (prv L j) = oP P ((L j : Nat) : Int))) n))) 0 0 (fun _ => False) := by
  refine Met.ofW (cc := cX6_penChanges) (maxL := 3) (ret := (some .int)) (by decide) rfl ?_
  intro p e s m args below meth c s₁ B hml hv
  obtain ⟨rfl, hG⟩ := hv
  have S : CallFix p m c cX6_penChanges 3 s ([.ref o] : List Value).toArray wU RX6 := ⟨B.exec, B.bytes, hml, findClass_of_methodNamed B.named, fun w h => atoms_spec (ws := wm_X6_penChanges) B.pre w (List.mem_cons_of_mem _ h)⟩
  have hr := B.returns
  have hlocks := B.notSynchronized
  have hG : zG D cI cR [(o, .inr (6, [.ref a1, .ref a2, .int (nI ed), .int (nI C), .int (nI V), .int (nI Ac), .ref a3, .ref a4, .ref a5, .ref a6])), (a1, zA cI 49 w)] s s.heap := hG
  have hl := lv_entry ([.ref o]) (n := 3) (Nat.le_of_ble_eq_true rfl)
  rw [lg_entry_eq]
  generalize (lg_sl ([.ref o]) ++ List.replicate (3 - (lg_sl ([.ref o])).length) Slot.unset).toArray = ls at hl ⊢
  have hl : lv_has ls 3 [(0, .ref o)] := hl
  obtain ⟨⟨hn, hPf, hXY⟩, hLf, hinj⟩ := id hok
  obtain ⟨hC, hV0, hAc⟩ := id hset
  refine zz_iconst (pc := 0) (v := nI 0) S dX6_penChanges_0 rfl ?_
  refine lv_istore_n (pc := 1) (lv' := [(1, .int (nI 0)), (0, .ref o)]) S.1 S.2.1 dX6_penChanges_1 rfl hl (by decide) rfl (fun ls hl => ?_)
  refine zz_iconst (pc := 2) (v := nI 0) S dX6_penChanges_2 rfl ?_
  refine lv_istore_n (pc := 3) (lv' := [(2, .int (nI 0)), (1, .int (nI 0)), (0, .ref o)]) S.1 S.2.1 dX6_penChanges_3 rfl hl (by decide) rfl (fun ls hl => ?_)
  have L1 : ∀ (f : Nat) (k : Nat), (k ≤ n) → n - k < f → ∀ ls : Array Slot, lv_has ls 3 [(0, .ref o), (1, .int (nI (zs (fun j => zB (¬ oP P (prv L j) = oP P ((L j : Nat) : Int))) k))), (2, .int (nI k))] → W p l e (headSpec wm_X6_penChanges ({ frames := 1, cells := 0, slots := 0, locals := 21 } : Room)).room s m ([.ref o] : List Value).toArray below meth c s.heap [] 0 0 (MQ below (vp_Si (fun r => r = nI (zs (fun j => zB (¬ oP P (prv L j) = oP P ((L j : Nat) : Int))) n))) ([.ref o] : List Value).toArray s 0 0 (fun _ => False)) (F0 m 4 ls []) := by
    intro f
    induction f with
    | zero => intro k hk hf; exact absurd hf (Nat.not_lt_zero _)
    | succ f ih2 =>
      intro k hk hf ls hl
      refine lv_iload_n (pc := 4) S.1 S.2.1 dX6_penChanges_4 rfl (lv_at hl 2 rfl) ?_
      refine lv_aload_n (pc := 5) S.1 S.2.1 dX6_penChanges_5 rfl (lv_at hl 0 rfl) ?_
      refine zz_get (pc := 6) S hG iX6 0 rfl rfl 0 (by decide) wd_67 rfl rfl dX6_penChanges_6 ?_
      refine zz_bipush (pc := 9) (v := nI 48) S dX6_penChanges_9 rfl ?_
      refine zz_iald (pc := 11) (k := 48) S hG 1 rfl (by omega) dX6_penChanges_11 ?_
      refine zz_cast (v := nI n) (congrArg nI hR.1) ?_
      refine zz_icmp_ge (pc := 12) (tgt := 60) S dX6_penChanges_12 (by decide) (n_le (by omega) (by omega)) (fun c12 => ?_) (fun c12 => ?_)
      · refine lv_iload_n (pc := 60) S.1 S.2.1 dX6_penChanges_60 rfl (lv_at hl 1 rfl) ?_
        exact zz_iretS (pc := 61) S hr hlocks (congrArg nI (by rw [show k = n by omega])) dX6_penChanges_61
      · refine lv_iload_n (pc := 15) S.1 S.2.1 dX6_penChanges_15 rfl (lv_at hl 1 rfl) ?_
        have J3 : ∀ ls : Array Slot, lv_has ls 3 [(0, .ref o), (1, .int (nI (zs (fun j => zB (¬ oP P (prv L j) = oP P ((L j : Nat) : Int))) k))), (2, .int (nI k))] → W p l e (headSpec wm_X6_penChanges ({ frames := 1, cells := 0, slots := 0, locals := 21 } : Room)).room s m ([.ref o] : List Value).toArray below meth c s.heap [] 0 0 (MQ below (vp_Si (fun r => r = nI (zs (fun j => zB (¬ oP P (prv L j) = oP P ((L j : Nat) : Int))) n))) ([.ref o] : List Value).toArray s 0 0 (fun _ => False)) (F0 m 52 ls [.int (nI (zB (¬ oP P (prv L k) = oP P ((L k : Nat) : Int)))), .int (nI (zs (fun j => zB (¬ oP P (prv L j) = oP P ((L j : Nat) : Int))) k))]) := by
          intro ls hl
          refine zz_iadd (pc := 52) (v := nI ((zs (fun j => zB (¬ oP P (prv L j) = oP P ((L j : Nat) : Int))) k) + (zB (¬ oP P (prv L k) = oP P ((L k : Nat) : Int))))) S dX6_penChanges_52 (n_add _ _) ?_
          refine lv_istore_n (pc := 53) (lv' := [(1, .int (nI ((zs (fun j => zB (¬ oP P (prv L j) = oP P ((L j : Nat) : Int))) k) + (zB (¬ oP P (prv L k) = oP P ((L k : Nat) : Int)))))), (0, .ref o), (2, .int (nI k))]) S.1 S.2.1 dX6_penChanges_53 rfl hl (by decide) rfl (fun ls hl => ?_)
          refine lv_iinc (pc := 54) (v := nI (k + 1)) (lv' := [(2, .int (nI (k + 1))), (1, .int (nI ((zs (fun j => zB (¬ oP P (prv L j) = oP P ((L j : Nat) : Int))) k) + (zB (¬ oP P (prv L k) = oP P ((L k : Nat) : Int)))))), (0, .ref o)]) S.1 S.2.1 dX6_penChanges_54 hl (k := 2) rfl (n_add _ _) (by decide) rfl (fun ls hl => ?_)
          refine lv_goto (pc := 57) (tgt := 4) S.1 S.2.1 dX6_penChanges_57 (by decide) ?_
          exact ih2 (k + 1) (by omega) (by omega) ls (lv_sub hl [2, 1, 0] rfl)
        refine lv_iload_n (pc := 16) S.1 S.2.1 dX6_penChanges_16 rfl (lv_at hl 2 rfl) ?_
        refine zz_if_eq (pc := 17) (tgt := 47) S dX6_penChanges_17 (by decide) (n_eq0 (by omega)) (fun c17 => ?_) (fun c17 => ?_)
        · refine zz_iconst (pc := 47) (v := nI 1) S dX6_penChanges_47 rfl ?_
          refine lv_goto (pc := 48) (tgt := 52) S.1 S.2.1 dX6_penChanges_48 (by decide) ?_
          refine zz_cast (v := nI (zB (¬ oP P (prv L k) = oP P ((L k : Nat) : Int)))) (congrArg nI (zB_t (by first | exact oP_prv0 (by omega) | (rw [prv_e (by omega), oP_n, oP_n]; omega))).symm) ?_
          exact J3 ls (lv_sub hl [0, 1, 2] rfl)
        · refine lv_aload_n (pc := 20) S.1 S.2.1 dX6_penChanges_20 rfl (lv_at hl 0 rfl) ?_
          refine lv_aload_n (pc := 21) S.1 S.2.1 dX6_penChanges_21 rfl (lv_at hl 0 rfl) ?_
          refine lv_iload_n (pc := 22) S.1 S.2.1 dX6_penChanges_22 rfl (lv_at hl 2 rfl) ?_
          refine zz_iconst (pc := 23) (v := nI 1) S dX6_penChanges_23 rfl ?_
          refine zz_isub (pc := 24) (v := nI (k - 1)) S dX6_penChanges_24 (n_sub (by omega)) ?_
          refine zz_callV (pc := 25) (As := [.int (nI (k - 1))]) (rest := [.ref o, .int (nI (zs (fun j => zB (¬ oP P (prv L j) = oP P ((L j : Nat) : Int))) k))]) S (c_X6_at l D cI cR o a1 a2 a3 a4 a5 a6 ed C V Ac w n P X Y L (k - 1) hok hR hset (by omega)) (zuV wd_364 wd_361 wd_362 wd_363 wd_5) 1 rfl q_X6_at ⟨⟨rfl, rfl⟩, Nat.le_of_ble_eq_true rfl, Nat.le_of_ble_eq_true rfl⟩ hG [0, 1] rfl 0 rfl rfl rfl rfl rfl (Nat.le_of_ble_eq_true rfl) hl.1 ⟨Nat.zero_le _, Nat.zero_le _⟩ dX6_penChanges_25 ?_
          have g4 := hLf (k - 1) (by omega)
          refine zz_iconst (pc := 28) (v := nI 2) S dX6_penChanges_28 rfl ?_
          refine zz_idiv (pc := 29) (v := nI ((L (k - 1)) / 2)) S dX6_penChanges_29 (by decide) (n_div (by omega) (by decide) (by decide)) ?_
          refine zz_callV (pc := 30) (As := [.int (nI ((L (k - 1)) / 2))]) (rest := [.int (nI (zs (fun j => zB (¬ oP P (prv L j) = oP P ((L j : Nat) : Int))) k))]) S (c_X6_penAt l D cI cR o a1 a2 a3 a4 a5 a6 ed C V Ac w n P X Y L ((L (k - 1)) / 2) hok.1 hR hset (by omega)) (zuV wd_193 wd_190 wd_191 wd_192 wd_5) 1 rfl q_X6_penAt ⟨⟨rfl, rfl⟩, Nat.le_of_ble_eq_true rfl, Nat.le_of_ble_eq_true rfl⟩ hG [0, 1] rfl 0 rfl rfl rfl rfl rfl (Nat.le_of_ble_eq_true rfl) hl.1 ⟨Nat.zero_le _, Nat.zero_le _⟩ dX6_penChanges_30 ?_
          have g5 := hPf ((L (k - 1)) / 2) (by omega)
          refine lv_aload_n (pc := 33) S.1 S.2.1 dX6_penChanges_33 rfl (lv_at hl 0 rfl) ?_
          refine lv_aload_n (pc := 34) S.1 S.2.1 dX6_penChanges_34 rfl (lv_at hl 0 rfl) ?_
          refine lv_iload_n (pc := 35) S.1 S.2.1 dX6_penChanges_35 rfl (lv_at hl 2 rfl) ?_
          refine zz_callV (pc := 36) (As := [.int (nI k)]) (rest := [.ref o, .int (nI (P ((L (k - 1)) / 2))), .int (nI (zs (fun j => zB (¬ oP P (prv L j) = oP P ((L j : Nat) : Int))) k))]) S (c_X6_at l D cI cR o a1 a2 a3 a4 a5 a6 ed C V Ac w n P X Y L k hok hR hset (by omega)) (zuV wd_364 wd_361 wd_362 wd_363 wd_5) 1 rfl q_X6_at ⟨⟨rfl, rfl⟩, Nat.le_of_ble_eq_true rfl, Nat.le_of_ble_eq_true rfl⟩ hG [0, 1] rfl 0 rfl rfl rfl rfl rfl (Nat.le_of_ble_eq_true rfl) hl.1 ⟨Nat.zero_le _, Nat.zero_le _⟩ dX6_penChanges_36 ?_
          have g6 := hLf k (by omega)
          refine zz_iconst (pc := 39) (v := nI 2) S dX6_penChanges_39 rfl ?_
          refine zz_idiv (pc := 40) (v := nI ((L k) / 2)) S dX6_penChanges_40 (by decide) (n_div (by omega) (by decide) (by decide)) ?_
          refine zz_callV (pc := 41) (As := [.int (nI ((L k) / 2))]) (rest := [.int (nI (P ((L (k - 1)) / 2))), .int (nI (zs (fun j => zB (¬ oP P (prv L j) = oP P ((L j : Nat) : Int))) k))]) S (c_X6_penAt l D cI cR o a1 a2 a3 a4 a5 a6 ed C V Ac w n P X Y L ((L k) / 2) hok.1 hR hset (by omega)) (zuV wd_193 wd_190 wd_191 wd_192 wd_5) 1 rfl q_X6_penAt ⟨⟨rfl, rfl⟩, Nat.le_of_ble_eq_true rfl, Nat.le_of_ble_eq_true rfl⟩ hG [0, 1] rfl 0 rfl rfl rfl rfl rfl (Nat.le_of_ble_eq_true rfl) hl.1 ⟨Nat.zero_le _, Nat.zero_le _⟩ dX6_penChanges_41 ?_
          have g7 := hPf ((L k) / 2) (by omega)
          refine zz_icmp_eq (pc := 44) (tgt := 51) S dX6_penChanges_44 (by decide) (n_eq (by omega) (by omega)) (fun c44 => ?_) (fun c44 => ?_)
          · refine zz_iconst (pc := 51) (v := nI 0) S dX6_penChanges_51 rfl ?_
            refine zz_cast (v := nI (zB (¬ oP P (prv L k) = oP P ((L k : Nat) : Int)))) (congrArg nI (zB_f (by first | exact oP_prv0 (by omega) | (rw [prv_e (by omega), oP_n, oP_n]; omega))).symm) ?_
            exact J3 ls (lv_sub hl [0, 1, 2] rfl)
          · refine zz_iconst (pc := 47) (v := nI 1) S dX6_penChanges_47 rfl ?_
            refine lv_goto (pc := 48) (tgt := 52) S.1 S.2.1 dX6_penChanges_48 (by decide) ?_
            refine zz_cast (v := nI (zB (¬ oP P (prv L k) = oP P ((L k : Nat) : Int)))) (congrArg nI (zB_t (by first | exact oP_prv0 (by omega) | (rw [prv_e (by omega), oP_n, oP_n]; omega))).symm) ?_
            exact J3 ls (lv_sub hl [0, 1, 2] rfl)
  exact L1 (n - 0 + 1) 0 (by omega) (Nat.lt_succ_self _) ls (lv_sub hl [2, 1, 0] rfl)
abbrev wm_X6_isLinked : List Cond := .code yX6_isLinked cX6_isLinked 4 (some .boolean) :: wU
theorem q_X6_isLinked : yX6_isLinked.cls = RX6 ∧ yX6_isLinked.cls ≠ "java/lang/invoke/MethodHandle" ∧ yX6_isLinked.cls ≠ "java/lang/invoke/VarHandle" ∧ (parseMethodDescriptor yX6_isLinked.desc).map (fun d => d.parameters.length) = some 1 := by decide +kernel
set_option maxHeartbeats 4000000 in
set_option maxRecDepth 100000 in
theorem c_X6_isLinked (l : Launch) (D : va_G) (cI cR : ClassId) (o a1 a2 a3 a4 a5 a6 ed C V Ac : Nat) (w : Nat → Nat) (n : Nat) (P X Y L : Nat → Nat) (a : Int) (hok : zOk n P X Y L) (hR : zRl w n P X Y L) (hset : zSt C V Ac) (ha : -1 ≤ a ∧ a ≤ 8) : Met l yX6_isLinked wm_X6_isLinked ({ frames := 1, cells := 0, slots := 0, locals := 21 } : Room) (va_Pc [.ref o, .int (zI a)] (zW D cI cR [(o, .inr (6, [.ref a1, .ref a2, .int (nI ed), .int (nI C), .int (nI V), .int (nI Ac), .ref a3, .ref a4, .ref a5, .ref a6])), (a1, zA cI 49 w)])) (vp_Si (fun r => r = nI (zB (0 ≤ a ∧ lnk n P X Y L a.toNat)))) 0 0 (fun _ => False) := by
  refine Met.ofW (cc := cX6_isLinked) (maxL := 4) (ret := (some .boolean)) (by decide) rfl ?_
  intro p e s m args below meth c s₁ B hml hv
  obtain ⟨rfl, hG⟩ := hv
  have S : CallFix p m c cX6_isLinked 4 s ([.ref o, .int (zI a)] : List Value).toArray wU RX6 := ⟨B.exec, B.bytes, hml, findClass_of_methodNamed B.named, fun w h => atoms_spec (ws := wm_X6_isLinked) B.pre w (List.mem_cons_of_mem _ h)⟩
  have hr := B.returns
  have hlocks := B.notSynchronized
  have hG : zG D cI cR [(o, .inr (6, [.ref a1, .ref a2, .int (nI ed), .int (nI C), .int (nI V), .int (nI Ac), .ref a3, .ref a4, .ref a5, .ref a6])), (a1, zA cI 49 w)] s s.heap := hG
  have hl := lv_entry ([.ref o, .int (zI a)]) (n := 4) (Nat.le_of_ble_eq_true rfl)
  rw [lg_entry_eq]
  generalize (lg_sl ([.ref o, .int (zI a)]) ++ List.replicate (4 - (lg_sl ([.ref o, .int (zI a)])).length) Slot.unset).toArray = ls at hl ⊢
  have hl : lv_has ls 4 [(0, .ref o), (1, .int (zI a))] := hl
  obtain ⟨⟨hn, hPf, hXY⟩, hLf, hinj⟩ := id hok
  obtain ⟨hC, hV0, hAc⟩ := id hset
  refine lv_iload_n (pc := 0) S.1 S.2.1 dX6_isLinked_0 rfl (lv_at hl 1 rfl) ?_
  refine zz_if_lt (pc := 1) (tgt := 17) S dX6_isLinked_1 (by decide) (z_lt0 (by unfold zR; omega)) (fun c1 => ?_) (fun c1 => ?_)
  · refine zz_iconst (pc := 17) (v := nI 0) S dX6_isLinked_17 rfl ?_
    exact zz_bretS (pc := 18) S hr hlocks (by decide) (congrArg nI (zB_f (by first | omega | exact ⟨by omega, by omega, by omega, by omega, by omega⟩)).symm) dX6_isLinked_18
  · refine lv_iload_n (pc := 4) S.1 S.2.1 dX6_isLinked_4 rfl (lv_at hl 1 rfl) ?_
    refine zz_iconst (pc := 5) (v := nI 1) S dX6_isLinked_5 rfl ?_
    refine zz_iadd (pc := 6) (v := zI (a + 1)) S dX6_isLinked_6 (zI_add a 1) ?_
    refine lv_aload_n (pc := 7) S.1 S.2.1 dX6_isLinked_7 rfl (lv_at hl 0 rfl) ?_
    refine zz_get (pc := 8) S hG iX6 0 rfl rfl 0 (by decide) wd_67 rfl rfl dX6_isLinked_8 ?_
    refine zz_bipush (pc := 11) (v := nI 48) S dX6_isLinked_11 rfl ?_
    refine zz_iald (pc := 13) (k := 48) S hG 1 rfl (by omega) dX6_isLinked_13 ?_
    refine zz_cast (v := nI n) (congrArg nI hR.1) ?_
    refine zz_icmp_lt (pc := 14) (tgt := 19) S dX6_isLinked_14 (by decide) (zI_lt (a := a + 1) (b := ((n : Nat) : Int)) (by unfold zR; omega) (by unfold zR; omega)) (fun c14 => ?_) (fun c14 => ?_)
    · have hl : lv_has ls 4 [(0, .ref o), (1, .int (nI a.toNat))] := by rw [← (zn_of (z := a) (n := a.toNat) (by omega))]; exact hl
      have hsw := sw_lt (c := L a.toNat) (n := n) (hLf _ (by omega))
      have hl2 := hLf a.toNat (by omega)
      have hl3 := hLf (a.toNat + 1) (by omega)
      refine lv_aload_n (pc := 19) S.1 S.2.1 dX6_isLinked_19 rfl (lv_at hl 0 rfl) ?_
      refine lv_iload_n (pc := 20) S.1 S.2.1 dX6_isLinked_20 rfl (lv_at hl 1 rfl) ?_
      refine zz_callV (pc := 21) (As := [.int (nI a.toNat)]) (rest := []) S (c_X6_at l D cI cR o a1 a2 a3 a4 a5 a6 ed C V Ac w n P X Y L a.toNat hok hR hset (by omega)) (zuV wd_364 wd_361 wd_362 wd_363 wd_5) 1 rfl q_X6_at ⟨⟨rfl, rfl⟩, Nat.le_of_ble_eq_true rfl, Nat.le_of_ble_eq_true rfl⟩ hG [0, 1] rfl 0 rfl rfl rfl rfl rfl (Nat.le_of_ble_eq_true rfl) hl.1 ⟨Nat.zero_le _, Nat.zero_le _⟩ dX6_isLinked_21 ?_
      have g1 := hLf a.toNat (by omega)
      refine zz_callS (pc := 24) (As := [.int (nI (L a.toNat))]) (rest := []) S (c_X6_end l D cI cR (L a.toNat) (by omega)) (zuS wd_436 wd_434 wd_435 wd_5) 1 rfl q_X6_end.2 ⟨⟨rfl, rfl⟩, Nat.le_of_ble_eq_true rfl, Nat.le_of_ble_eq_true rfl⟩ rfl rfl (Nat.le_of_ble_eq_true rfl) hl.1 ⟨Nat.zero_le _, Nat.zero_le _⟩ dX6_isLinked_24 ?_
      have g2 := bg16 (a := sw (L a.toNat)) (sw_lt (n := 8) (by omega))
      refine lv_istore_n (pc := 27) (lv' := [(2, .int (nI (bg (sw (L a.toNat))))), (0, .ref o), (1, .int (nI a.toNat))]) S.1 S.2.1 dX6_isLinked_27 rfl hl (by decide) rfl (fun ls hl => ?_)
      refine lv_aload_n (pc := 28) S.1 S.2.1 dX6_isLinked_28 rfl (lv_at hl 1 rfl) ?_
      refine lv_iload_n (pc := 29) S.1 S.2.1 dX6_isLinked_29 rfl (lv_at hl 2 rfl) ?_
      refine zz_iconst (pc := 30) (v := nI 1) S dX6_isLinked_30 rfl ?_
      refine zz_iadd (pc := 31) (v := nI (a.toNat + 1)) S dX6_isLinked_31 (n_add _ _) ?_
      refine zz_callV (pc := 32) (As := [.int (nI (a.toNat + 1))]) (rest := []) S (c_X6_at l D cI cR o a1 a2 a3 a4 a5 a6 ed C V Ac w n P X Y L (a.toNat + 1) hok hR hset (by omega)) (zuV wd_364 wd_361 wd_362 wd_363 wd_5) 1 rfl q_X6_at ⟨⟨rfl, rfl⟩, Nat.le_of_ble_eq_true rfl, Nat.le_of_ble_eq_true rfl⟩ hG [0, 1] rfl 0 rfl rfl rfl rfl rfl (Nat.le_of_ble_eq_true rfl) hl.1 ⟨Nat.zero_le _, Nat.zero_le _⟩ dX6_isLinked_32 ?_
      have g3 := hLf (a.toNat + 1) (by omega)
      refine zz_callS (pc := 35) (As := [.int (nI (L (a.toNat + 1)))]) (rest := []) S (c_X6_begin l D cI cR (L (a.toNat + 1)) (by omega)) (zuS wd_433 wd_431 wd_432 wd_5) 1 rfl q_X6_begin.2 ⟨⟨rfl, rfl⟩, Nat.le_of_ble_eq_true rfl, Nat.le_of_ble_eq_true rfl⟩ rfl rfl (Nat.le_of_ble_eq_true rfl) hl.1 ⟨Nat.zero_le _, Nat.zero_le _⟩ dX6_isLinked_35 ?_
      have g4 := bg16 (a := (L (a.toNat + 1))) (by omega)
      refine lv_istore_n (pc := 38) (lv' := [(3, .int (nI (bg (L (a.toNat + 1))))), (2, .int (nI (bg (sw (L a.toNat))))), (0, .ref o), (1, .int (nI a.toNat))]) S.1 S.2.1 dX6_isLinked_38 rfl hl (by decide) rfl (fun ls hl => ?_)
      refine lv_aload_n (pc := 39) S.1 S.2.1 dX6_isLinked_39 rfl (lv_at hl 2 rfl) ?_
      refine lv_aload_n (pc := 40) S.1 S.2.1 dX6_isLinked_40 rfl (lv_at hl 2 rfl) ?_
      refine lv_iload_n (pc := 41) S.1 S.2.1 dX6_isLinked_41 rfl (lv_at hl 3 rfl) ?_
      refine zz_callV (pc := 42) (As := [.int (nI a.toNat)]) (rest := [.ref o]) S (c_X6_at l D cI cR o a1 a2 a3 a4 a5 a6 ed C V Ac w n P X Y L a.toNat hok hR hset (by omega)) (zuV wd_364 wd_361 wd_362 wd_363 wd_5) 1 rfl q_X6_at ⟨⟨rfl, rfl⟩, Nat.le_of_ble_eq_true rfl, Nat.le_of_ble_eq_true rfl⟩ hG [0, 1] rfl 0 rfl rfl rfl rfl rfl (Nat.le_of_ble_eq_true rfl) hl.1 ⟨Nat.zero_le _, Nat.zero_le _⟩ dX6_isLinked_42 ?_
      have g5 := hLf a.toNat (by omega)
      refine zz_iconst (pc := 45) (v := nI 2) S dX6_isLinked_45 rfl ?_
      refine zz_idiv (pc := 46) (v := nI ((L a.toNat) / 2)) S dX6_isLinked_46 (by decide) (n_div (by omega) (by decide) (by decide)) ?_
      refine zz_callV (pc := 47) (As := [.int (nI ((L a.toNat) / 2))]) (rest := []) S (c_X6_penAt l D cI cR o a1 a2 a3 a4 a5 a6 ed C V Ac w n P X Y L ((L a.toNat) / 2) hok.1 hR hset (by omega)) (zuV wd_193 wd_190 wd_191 wd_192 wd_5) 1 rfl q_X6_penAt ⟨⟨rfl, rfl⟩, Nat.le_of_ble_eq_true rfl, Nat.le_of_ble_eq_true rfl⟩ hG [0, 1] rfl 0 rfl rfl rfl rfl rfl (Nat.le_of_ble_eq_true rfl) hl.1 ⟨Nat.zero_le _, Nat.zero_le _⟩ dX6_isLinked_47 ?_
      have g6 := hPf ((L a.toNat) / 2) (by omega)
      refine lv_aload_n (pc := 50) S.1 S.2.1 dX6_isLinked_50 rfl (lv_at hl 2 rfl) ?_
      refine lv_aload_n (pc := 51) S.1 S.2.1 dX6_isLinked_51 rfl (lv_at hl 2 rfl) ?_
      refine lv_iload_n (pc := 52) S.1 S.2.1 dX6_isLinked_52 rfl (lv_at hl 3 rfl) ?_
      refine zz_iconst (pc := 53) (v := nI 1) S dX6_isLinked_53 rfl ?_
      refine zz_iadd (pc := 54) (v := nI (a.toNat + 1)) S dX6_isLinked_54 (n_add _ _) ?_
      refine zz_callV (pc := 55) (As := [.int (nI (a.toNat + 1))]) (rest := [.ref o, .int (nI (P ((L a.toNat) / 2)))]) S (c_X6_at l D cI cR o a1 a2 a3 a4 a5 a6 ed C V Ac w n P X Y L (a.toNat + 1) hok hR hset (by omega)) (zuV wd_364 wd_361 wd_362 wd_363 wd_5) 1 rfl q_X6_at ⟨⟨rfl, rfl⟩, Nat.le_of_ble_eq_true rfl, Nat.le_of_ble_eq_true rfl⟩ hG [0, 1] rfl 0 rfl rfl rfl rfl rfl (Nat.le_of_ble_eq_true rfl) hl.1 ⟨Nat.zero_le _, Nat.zero_le _⟩ dX6_isLinked_55 ?_
      have g7 := hLf (a.toNat + 1) (by omega)
      refine zz_iconst (pc := 58) (v := nI 2) S dX6_isLinked_58 rfl ?_
      refine zz_idiv (pc := 59) (v := nI ((L (a.toNat + 1)) / 2)) S dX6_isLinked_59 (by decide) (n_div (by omega) (by decide) (by decide)) ?_
      refine zz_callV (pc := 60) (As := [.int (nI ((L (a.toNat + 1)) / 2))]) (rest := [.int (nI (P ((L a.toNat) / 2)))]) S (c_X6_penAt l D cI cR o a1 a2 a3 a4 a5 a6 ed C V Ac w n P X Y L ((L (a.toNat + 1)) / 2) hok.1 hR hset (by omega)) (zuV wd_193 wd_190 wd_191 wd_192 wd_5) 1 rfl q_X6_penAt ⟨⟨rfl, rfl⟩, Nat.le_of_ble_eq_true rfl, Nat.le_of_ble_eq_true rfl⟩ hG [0, 1] rfl 0 rfl rfl rfl rfl rfl (Nat.le_of_ble_eq_true rfl) hl.1 ⟨Nat.zero_le _, Nat.zero_le _⟩ dX6_isLinked_60 ?_
      have g8 := hPf ((L (a.toNat + 1)) / 2) (by omega)
      refine zz_icmp_ne (pc := 63) (tgt := 104) S dX6_isLinked_63 (by decide) (n_eq (by omega) (by omega)) (fun c63 => ?_) (fun c63 => ?_)
      · refine zz_iconst (pc := 104) (v := nI 0) S dX6_isLinked_104 rfl ?_
        exact zz_bretS (pc := 105) S hr hlocks (by decide) (congrArg nI (zB_f (by first | omega | exact ⟨by omega, by omega, by omega, by omega, by omega⟩)).symm) dX6_isLinked_105
      · refine lv_aload_n (pc := 66) S.1 S.2.1 dX6_isLinked_66 rfl (lv_at hl 2 rfl) ?_
        refine zz_get (pc := 67) S hG iX6 0 rfl rfl 0 (by decide) wd_67 rfl rfl dX6_isLinked_67 ?_
        refine lv_iload_n (pc := 70) S.1 S.2.1 dX6_isLinked_70 rfl (lv_at hl 1 rfl) ?_
        refine zz_iald (pc := 71) (k := bg (sw (L a.toNat))) S hG 1 rfl (by omega) dX6_isLinked_71 ?_
        refine zz_cast (v := nI (X (sw (L a.toNat)))) (congrArg nI (hR.2.1 (sw (L a.toNat)) (by first | omega | exact sw_lt (by omega))).1) ?_
        have g9 := (hXY (sw (L a.toNat)) (by first | omega | exact sw_lt (by omega))).1
        refine lv_aload_n (pc := 72) S.1 S.2.1 dX6_isLinked_72 rfl (lv_at hl 2 rfl) ?_
        refine zz_get (pc := 73) S hG iX6 0 rfl rfl 0 (by decide) wd_67 rfl rfl dX6_isLinked_73 ?_
        refine lv_iload_n (pc := 76) S.1 S.2.1 dX6_isLinked_76 rfl (lv_at hl 0 rfl) ?_
        refine zz_iald (pc := 77) (k := bg (L (a.toNat + 1))) S hG 1 rfl (by omega) dX6_isLinked_77 ?_
        refine zz_cast (v := nI (X (L (a.toNat + 1)))) (congrArg nI (hR.2.1 (L (a.toNat + 1)) (by first | omega | exact sw_lt (by omega))).1) ?_
        have g10 := (hXY (L (a.toNat + 1)) (by first | omega | exact sw_lt (by omega))).1
        refine zz_icmp_ne (pc := 78) (tgt := 104) S dX6_isLinked_78 (by decide) (n_eq (by omega) (by omega)) (fun c78 => ?_) (fun c78 => ?_)
        · refine zz_iconst (pc := 104) (v := nI 0) S dX6_isLinked_104 rfl ?_
          exact zz_bretS (pc := 105) S hr hlocks (by decide) (congrArg nI (zB_f (by first | omega | exact ⟨by omega, by omega, by omega, by omega, by omega⟩)).symm) dX6_isLinked_105
        · refine lv_aload_n (pc := 81) S.1 S.2.1 dX6_isLinked_81 rfl (lv_at hl 2 rfl) ?_
          refine zz_get (pc := 82) S hG iX6 0 rfl rfl 0 (by decide) wd_67 rfl rfl dX6_isLinked_82 ?_
          refine lv_iload_n (pc := 85) S.1 S.2.1 dX6_isLinked_85 rfl (lv_at hl 1 rfl) ?_
          refine zz_iconst (pc := 86) (v := nI 1) S dX6_isLinked_86 rfl ?_
          refine zz_iadd (pc := 87) (v := nI (bg (sw (L a.toNat)) + 1)) S dX6_isLinked_87 (n_add _ _) ?_
          refine zz_iald (pc := 88) (k := bg (sw (L a.toNat)) + 1) S hG 1 rfl (by omega) dX6_isLinked_88 ?_
          refine zz_cast (v := nI (Y (sw (L a.toNat)))) (congrArg nI (hR.2.1 (sw (L a.toNat)) (by first | omega | exact sw_lt (by omega))).2) ?_
          have g11 := (hXY (sw (L a.toNat)) (by first | omega | exact sw_lt (by omega))).2
          refine lv_aload_n (pc := 89) S.1 S.2.1 dX6_isLinked_89 rfl (lv_at hl 2 rfl) ?_
          refine zz_get (pc := 90) S hG iX6 0 rfl rfl 0 (by decide) wd_67 rfl rfl dX6_isLinked_90 ?_
          refine lv_iload_n (pc := 93) S.1 S.2.1 dX6_isLinked_93 rfl (lv_at hl 0 rfl) ?_
          refine zz_iconst (pc := 94) (v := nI 1) S dX6_isLinked_94 rfl ?_
          refine zz_iadd (pc := 95) (v := nI (bg (L (a.toNat + 1)) + 1)) S dX6_isLinked_95 (n_add _ _) ?_
          refine zz_iald (pc := 96) (k := bg (L (a.toNat + 1)) + 1) S hG 1 rfl (by omega) dX6_isLinked_96 ?_
          refine zz_cast (v := nI (Y (L (a.toNat + 1)))) (congrArg nI (hR.2.1 (L (a.toNat + 1)) (by first | omega | exact sw_lt (by omega))).2) ?_
          have g12 := (hXY (L (a.toNat + 1)) (by first | omega | exact sw_lt (by omega))).2
          refine zz_icmp_ne (pc := 97) (tgt := 104) S dX6_isLinked_97 (by decide) (n_eq (by omega) (by omega)) (fun c97 => ?_) (fun c97 => ?_)
          · refine zz_iconst (pc := 104) (v := nI 0) S dX6_isLinked_104 rfl ?_
            exact zz_bretS (pc := 105) S hr hlocks (by decide) (congrArg nI (zB_f (by first | omega | exact ⟨by omega, by omega, by omega, by omega, by omega⟩)).symm) dX6_isLinked_105
          · refine zz_iconst (pc := 100) (v := nI 1) S dX6_isLinked_100 rfl ?_
            refine lv_goto (pc := 101) (tgt := 105) S.1 S.2.1 dX6_isLinked_101 (by decide) ?_
            exact zz_bretS (pc := 105) S hr hlocks (by decide) (congrArg nI (zB_t (by first | omega | exact ⟨by omega, by omega, by omega, by omega, by omega⟩)).symm) dX6_isLinked_105
    · refine zz_iconst (pc := 17) (v := nI 0) S dX6_isLinked_17 rfl ?_
      exact zz_bretS (pc := 18) S hr hlocks (by decide) (congrArg nI (zB_f (by first | omega | exact ⟨by omega, by omega, by omega, by omega, by omega⟩)).symm) dX6_isLinked_18
abbrev wm_X6_runCount : List Cond := .code yX6_runCount cX6_runCount 3 (some .int) :: wU
theorem q_X6_runCount : yX6_runCount.cls = RX6 ∧ yX6_runCount.cls ≠ "java/lang/invoke/MethodHandle" ∧ yX6_runCount.cls ≠ "java/lang/invoke/VarHandle" ∧ (parseMethodDescriptor yX6_runCount.desc).map (fun d => d.parameters.length) = some 0 := by decide +kernel
set_option maxHeartbeats 4000000 in
set_option maxRecDepth 100000 in
theorem c_X6_runCount (l : Launch) (D : va_G) (cI cR : ClassId) (o a1 a2 a3 a4 a5 a6 ed C V Ac : Nat) (w : Nat → Nat) (n : Nat) (P X Y L : Nat → Nat) (hok : zOk n P X Y L) (hR : zRl w n P X Y L) (hset : zSt C V Ac) : Met l yX6_runCount wm_X6_runCount ({ frames := 2, cells := 0, slots := 0, locals := 44 } : Room) (va_Pc [.ref o] (zW D cI cR [(o, .inr (6, [.ref a1, .ref a2, .int (nI ed), .int (nI C), .int (nI V), .int (nI Ac), .ref a3, .ref a4, .ref a5, .ref a6])), (a1, zA cI 49 w)])) (vp_Si (fun r => r = nI (rnk n P X Y L n))) 0 0 (fun _ => False) := by
  refine Met.ofW (cc := cX6_runCount) (maxL := 3) (ret := (some .int)) (by decide) rfl ?_
  intro p e s m args below meth c s₁ B hml hv
  obtain ⟨rfl, hG⟩ := hv
  have S : CallFix p m c cX6_runCount 3 s ([.ref o] : List Value).toArray wU RX6 := ⟨B.exec, B.bytes, hml, findClass_of_methodNamed B.named, fun w h => atoms_spec (ws := wm_X6_runCount) B.pre w (List.mem_cons_of_mem _ h)⟩
  have hr := B.returns
  have hlocks := B.notSynchronized
  have hG : zG D cI cR [(o, .inr (6, [.ref a1, .ref a2, .int (nI ed), .int (nI C), .int (nI V), .int (nI Ac), .ref a3, .ref a4, .ref a5, .ref a6])), (a1, zA cI 49 w)] s s.heap := hG
  have hl := lv_entry ([.ref o]) (n := 3) (Nat.le_of_ble_eq_true rfl)
  rw [lg_entry_eq]
  generalize (lg_sl ([.ref o]) ++ List.replicate (3 - (lg_sl ([.ref o])).length) Slot.unset).toArray = ls at hl ⊢
  have hl : lv_has ls 3 [(0, .ref o)] := hl
  obtain ⟨⟨hn, hPf, hXY⟩, hLf, hinj⟩ := id hok
  obtain ⟨hC, hV0, hAc⟩ := id hset
  refine zz_iconst (pc := 0) (v := nI 0) S dX6_runCount_0 rfl ?_
  refine lv_istore_n (pc := 1) (lv' := [(1, .int (nI 0)), (0, .ref o)]) S.1 S.2.1 dX6_runCount_1 rfl hl (by decide) rfl (fun ls hl => ?_)
  refine zz_iconst (pc := 2) (v := nI 0) S dX6_runCount_2 rfl ?_
  refine lv_istore_n (pc := 3) (lv' := [(2, .int (nI 0)), (1, .int (nI 0)), (0, .ref o)]) S.1 S.2.1 dX6_runCount_3 rfl hl (by decide) rfl (fun ls hl => ?_)
  have L1 : ∀ (f : Nat) (k : Nat), (k ≤ n) → n - k < f → ∀ ls : Array Slot, lv_has ls 3 [(0, .ref o), (1, .int (nI (rst n P X Y L k))), (2, .int (nI k))] → W p l e (headSpec wm_X6_runCount ({ frames := 2, cells := 0, slots := 0, locals := 44 } : Room)).room s m ([.ref o] : List Value).toArray below meth c s.heap [] 0 0 (MQ below (vp_Si (fun r => r = nI (rnk n P X Y L n))) ([.ref o] : List Value).toArray s 0 0 (fun _ => False)) (F0 m 4 ls []) := by
    intro f
    induction f with
    | zero => intro k hk hf; exact absurd hf (Nat.not_lt_zero _)
    | succ f ih2 =>
      intro k hk hf ls hl
      have hp := rst_le n P X Y L k
      refine lv_iload_n (pc := 4) S.1 S.2.1 dX6_runCount_4 rfl (lv_at hl 2 rfl) ?_
      refine lv_aload_n (pc := 5) S.1 S.2.1 dX6_runCount_5 rfl (lv_at hl 0 rfl) ?_
      refine zz_get (pc := 6) S hG iX6 0 rfl rfl 0 (by decide) wd_67 rfl rfl dX6_runCount_6 ?_
      refine zz_bipush (pc := 9) (v := nI 48) S dX6_runCount_9 rfl ?_
      refine zz_iald (pc := 11) (k := 48) S hG 1 rfl (by omega) dX6_runCount_11 ?_
      refine zz_cast (v := nI n) (congrArg nI hR.1) ?_
      refine zz_icmp_ge (pc := 12) (tgt := 39) S dX6_runCount_12 (by decide) (n_le (by omega) (by omega)) (fun c12 => ?_) (fun c12 => ?_)
      · refine lv_iload_n (pc := 39) S.1 S.2.1 dX6_runCount_39 rfl (lv_at hl 1 rfl) ?_
        exact zz_iretS (pc := 40) S hr hlocks (congrArg nI (by rw [show k = n by omega]; exact rst_n n P X Y L)) dX6_runCount_40
      · refine lv_iload_n (pc := 15) S.1 S.2.1 dX6_runCount_15 rfl (lv_at hl 1 rfl) ?_
        refine lv_aload_n (pc := 16) S.1 S.2.1 dX6_runCount_16 rfl (lv_at hl 0 rfl) ?_
        refine lv_iload_n (pc := 17) S.1 S.2.1 dX6_runCount_17 rfl (lv_at hl 2 rfl) ?_
        refine zz_iconst (pc := 18) (v := nI 1) S dX6_runCount_18 rfl ?_
        refine zz_isub (pc := 19) (v := zI (((k : Nat) : Int) - 1)) S dX6_runCount_19 (zI_sub ((k : Nat) : Int) 1) ?_
        refine zz_callV (pc := 20) (As := [.int (zI (((k : Nat) : Int) - 1))]) (rest := [.int (nI (rst n P X Y L k))]) S (c_X6_isLinked l D cI cR o a1 a2 a3 a4 a5 a6 ed C V Ac w n P X Y L (((k : Nat) : Int) - 1) hok hR hset (by omega)) (zuV wd_471 wd_468 wd_469 wd_470 wd_5) 1 rfl q_X6_isLinked ⟨⟨rfl, rfl⟩, Nat.le_of_ble_eq_true rfl, Nat.le_of_ble_eq_true rfl⟩ hG [0, 1] rfl 0 rfl rfl rfl rfl rfl (Nat.le_of_ble_eq_true rfl) hl.1 ⟨Nat.zero_le _, Nat.zero_le _⟩ dX6_runCount_20 ?_
        refine zz_ifb_eq (pc := 23) (tgt := 30) S dX6_runCount_23 (by decide) (fun c23 => ?_) (fun c23 => ?_)
        · have w1 := rst_f c23
          refine zz_iconst (pc := 30) (v := nI 1) S dX6_runCount_30 rfl ?_
          refine zz_iadd (pc := 31) (v := nI (rst n P X Y L k + 1)) S dX6_runCount_31 (n_add _ _) ?_
          refine lv_istore_n (pc := 32) (lv' := [(1, .int (nI (rst n P X Y L k + 1))), (0, .ref o), (2, .int (nI k))]) S.1 S.2.1 dX6_runCount_32 rfl hl (by decide) rfl (fun ls hl => ?_)
          refine lv_iinc (pc := 33) (v := nI (k + 1)) (lv' := [(2, .int (nI (k + 1))), (1, .int (nI (rst n P X Y L k + 1))), (0, .ref o)]) S.1 S.2.1 dX6_runCount_33 hl (k := 2) rfl (n_add _ _) (by decide) rfl (fun ls hl => ?_)
          refine lv_goto (pc := 36) (tgt := 4) S.1 S.2.1 dX6_runCount_36 (by decide) ?_
          exact ih2 (k + 1) (by omega) (by omega) ls (by rw [w1]; exact lv_sub hl [2, 1, 0] rfl)
        · have w1 := rst_t c23
          refine zz_iconst (pc := 26) (v := nI 0) S dX6_runCount_26 rfl ?_
          refine lv_goto (pc := 27) (tgt := 31) S.1 S.2.1 dX6_runCount_27 (by decide) ?_
          refine zz_iadd (pc := 31) (v := nI (rst n P X Y L k + 0)) S dX6_runCount_31 (n_add _ _) ?_
          refine lv_istore_n (pc := 32) (lv' := [(1, .int (nI (rst n P X Y L k + 0))), (0, .ref o), (2, .int (nI k))]) S.1 S.2.1 dX6_runCount_32 rfl hl (by decide) rfl (fun ls hl => ?_)
          refine lv_iinc (pc := 33) (v := nI (k + 1)) (lv' := [(2, .int (nI (k + 1))), (1, .int (nI (rst n P X Y L k + 0))), (0, .ref o)]) S.1 S.2.1 dX6_runCount_33 hl (k := 2) rfl (n_add _ _) (by decide) rfl (fun ls hl => ?_)
          refine lv_goto (pc := 36) (tgt := 4) S.1 S.2.1 dX6_runCount_36 (by decide) ?_
          exact ih2 (k + 1) (by omega) (by omega) ls (by rw [w1]; exact lv_sub hl [2, 1, 0] rfl)
  exact L1 (n - 0 + 1) 0 (by omega) (Nat.lt_succ_self _) ls (lv_sub hl [2, 1, 0] rfl)
abbrev wm_X6_runLength : List Cond := .code yX6_runLength cX6_runLength 5 (some .int) :: wU
theorem q_X6_runLength : yX6_runLength.cls = RX6 ∧ yX6_runLength.cls ≠ "java/lang/invoke/MethodHandle" ∧ yX6_runLength.cls ≠ "java/lang/invoke/VarHandle" ∧ (parseMethodDescriptor yX6_runLength.desc).map (fun d => d.parameters.length) = some 1 := by decide +kernel
set_option maxHeartbeats 4000000 in
set_option maxRecDepth 100000 in
theorem c_X6_runLength (l : Launch) (D : va_G) (cI cR : ClassId) (o a1 a2 a3 a4 a5 a6 ed C V Ac : Nat) (w : Nat → Nat) (n : Nat) (P X Y L : Nat → Nat) (a : Int) (hok : zOk n P X Y L) (hR : zRl w n P X Y L) (hset : zSt C V Ac) (ha : zR a) : Met l yX6_runLength wm_X6_runLength ({ frames := 2, cells := 0, slots := 0, locals := 44 } : Room) (va_Pc [.ref o, .int (zI a)] (zW D cI cR [(o, .inr (6, [.ref a1, .ref a2, .int (nI ed), .int (nI C), .int (nI V), .int (nI Ac), .ref a3, .ref a4, .ref a5, .ref a6])), (a1, zA cI 49 w)])) (vp_Si (fun r => r = zI (an_runLen n P X Y L a))) 0 0 (fun _ => False) := by
  refine Met.ofW (cc := cX6_runLength) (maxL := 5) (ret := (some .int)) (by decide) rfl ?_
  intro p e s m args below meth c s₁ B hml hv
  obtain ⟨rfl, hG⟩ := hv
  have S : CallFix p m c cX6_runLength 5 s ([.ref o, .int (zI a)] : List Value).toArray wU RX6 := ⟨B.exec, B.bytes, hml, findClass_of_methodNamed B.named, fun w h => atoms_spec (ws := wm_X6_runLength) B.pre w (List.mem_cons_of_mem _ h)⟩
  have hr := B.returns
  have hlocks := B.notSynchronized
  have hG : zG D cI cR [(o, .inr (6, [.ref a1, .ref a2, .int (nI ed), .int (nI C), .int (nI V), .int (nI Ac), .ref a3, .ref a4, .ref a5, .ref a6])), (a1, zA cI 49 w)] s s.heap := hG
  have hl := lv_entry ([.ref o, .int (zI a)]) (n := 5) (Nat.le_of_ble_eq_true rfl)
  rw [lg_entry_eq]
  generalize (lg_sl ([.ref o, .int (zI a)]) ++ List.replicate (5 - (lg_sl ([.ref o, .int (zI a)])).length) Slot.unset).toArray = ls at hl ⊢
  have hl : lv_has ls 5 [(0, .ref o), (1, .int (zI a))] := hl
  have r_ha := id ha
  unfold zR at r_ha
  obtain ⟨⟨hn, hPf, hXY⟩, hLf, hinj⟩ := id hok
  obtain ⟨hC, hV0, hAc⟩ := id hset
  refine lv_iload_n (pc := 0) S.1 S.2.1 dX6_runLength_0 rfl (lv_at hl 1 rfl) ?_
  refine zz_if_ge (pc := 1) (tgt := 6) S dX6_runLength_1 (by decide) (z_ge0 (by unfold zR; omega)) (fun c1 => ?_) (fun c1 => ?_)
  · refine zz_iconst (pc := 6) (v := zI (-1)) S dX6_runLength_6 rfl ?_
    refine lv_istore_n (pc := 7) (lv' := [(2, .int (zI (-1))), (0, .ref o), (1, .int (zI a))]) S.1 S.2.1 dX6_runLength_7 rfl hl (by decide) rfl (fun ls hl => ?_)
    refine zz_iconst (pc := 8) (v := nI 0) S dX6_runLength_8 rfl ?_
    refine lv_istore_n (pc := 9) (lv' := [(3, .int (nI 0)), (2, .int (zI (-1))), (0, .ref o), (1, .int (zI a))]) S.1 S.2.1 dX6_runLength_9 rfl hl (by decide) rfl (fun ls hl => ?_)
    refine zz_iconst (pc := 10) (v := nI 0) S dX6_runLength_10 rfl ?_
    refine lv_istore (pc := 11) (lv' := [(4, .int (nI 0)), (3, .int (nI 0)), (2, .int (zI (-1))), (0, .ref o), (1, .int (zI a))]) S.1 S.2.1 dX6_runLength_11 hl (by decide) rfl (fun ls hl => ?_)
    have L1 : ∀ (f : Nat) (k : Nat), (k ≤ n) → n - k < f → ∀ ls : Array Slot, lv_has ls 5 [(0, .ref o), (1, .int (zI a)), (2, .int (zI (((rst n P X Y L k : Nat) : Int) - 1))), (3, .int (nI (zs (fun j => zB (((rnk n P X Y L j : Nat) : Int) = a)) k))), (4, .int (nI k))] → W p l e (headSpec wm_X6_runLength ({ frames := 2, cells := 0, slots := 0, locals := 44 } : Room)).room s m ([.ref o, .int (zI a)] : List Value).toArray below meth c s.heap [] 0 0 (MQ below (vp_Si (fun r => r = zI (an_runLen n P X Y L a))) ([.ref o, .int (zI a)] : List Value).toArray s 0 0 (fun _ => False)) (F0 m 13 ls []) := by
      intro f
      induction f with
      | zero => intro k hk hf; exact absurd hf (Nat.not_lt_zero _)
      | succ f ih2 =>
        intro k hk hf ls hl
        have hp := rst_le n P X Y L k
        have w0 : rst n P X Y L (k + 1) = rnk n P X Y L k + 1 := rfl
        have hz := zs_le (f := (fun j => zB (((rnk n P X Y L j : Nat) : Int) = a))) (m := 1) (n := k) (fun k _ => zB_le _)
        refine lv_iload (pc := 13) S.1 S.2.1 dX6_runLength_13 (lv_at hl 4 rfl) ?_
        refine lv_aload_n (pc := 15) S.1 S.2.1 dX6_runLength_15 rfl (lv_at hl 0 rfl) ?_
        refine zz_get (pc := 16) S hG iX6 0 rfl rfl 0 (by decide) wd_67 rfl rfl dX6_runLength_16 ?_
        refine zz_bipush (pc := 19) (v := nI 48) S dX6_runLength_19 rfl ?_
        refine zz_iald (pc := 21) (k := 48) S hG 1 rfl (by omega) dX6_runLength_21 ?_
        refine zz_cast (v := nI n) (congrArg nI hR.1) ?_
        refine zz_icmp_ge (pc := 22) (tgt := 63) S dX6_runLength_22 (by decide) (n_le (by omega) (by omega)) (fun c22 => ?_) (fun c22 => ?_)
        · refine lv_iload_n (pc := 63) S.1 S.2.1 dX6_runLength_63 rfl (lv_at hl 3 rfl) ?_
          refine zz_if_ne (pc := 64) (tgt := 72) S dX6_runLength_64 (by decide) (n_eq0 (by omega)) (fun c64 => ?_) (fun c64 => ?_)
          · refine lv_iload_n (pc := 72) S.1 S.2.1 dX6_runLength_72 rfl (lv_at hl 3 rfl) ?_
            exact zz_iretS (pc := 73) S hr hlocks (congrArg zI (a₁ := ((zs (fun j => zB (((rnk n P X Y L j : Nat) : Int) = a)) k : Nat) : Int)) (by exact (an_runL (k := k) (by omega) (by omega) (by omega)).symm)) dX6_runLength_73
          · refine zz_bipush (pc := 67) (v := zI (-3)) S dX6_runLength_67 rfl ?_
            refine lv_goto (pc := 69) (tgt := 73) S.1 S.2.1 dX6_runLength_69 (by decide) ?_
            exact zz_iretS (pc := 73) S hr hlocks (congrArg zI (a₁ := (-3)) (by exact (an_runL (k := k) (by omega) (by omega) (by omega)).symm)) dX6_runLength_73
        · refine lv_iload_n (pc := 25) S.1 S.2.1 dX6_runLength_25 rfl (lv_at hl 2 rfl) ?_
          refine lv_aload_n (pc := 26) S.1 S.2.1 dX6_runLength_26 rfl (lv_at hl 0 rfl) ?_
          refine lv_iload (pc := 27) S.1 S.2.1 dX6_runLength_27 (lv_at hl 4 rfl) ?_
          refine zz_iconst (pc := 29) (v := nI 1) S dX6_runLength_29 rfl ?_
          refine zz_isub (pc := 30) (v := zI (((k : Nat) : Int) - 1)) S dX6_runLength_30 (zI_sub ((k : Nat) : Int) 1) ?_
          refine zz_callV (pc := 31) (As := [.int (zI (((k : Nat) : Int) - 1))]) (rest := [.int (zI (((rst n P X Y L k : Nat) : Int) - 1))]) S (c_X6_isLinked l D cI cR o a1 a2 a3 a4 a5 a6 ed C V Ac w n P X Y L (((k : Nat) : Int) - 1) hok hR hset (by omega)) (zuV wd_471 wd_468 wd_469 wd_470 wd_5) 1 rfl q_X6_isLinked ⟨⟨rfl, rfl⟩, Nat.le_of_ble_eq_true rfl, Nat.le_of_ble_eq_true rfl⟩ hG [0, 1] rfl 0 rfl rfl rfl rfl rfl (Nat.le_of_ble_eq_true rfl) hl.1 ⟨Nat.zero_le _, Nat.zero_le _⟩ dX6_runLength_31 ?_
          refine zz_ifb_eq (pc := 34) (tgt := 41) S dX6_runLength_34 (by decide) (fun c34 => ?_) (fun c34 => ?_)
          · have w1 := rst_f c34
            have w3 : (((rst n P X Y L (k + 1) : Nat) : Int) - 1) = ((rst n P X Y L k : Nat) : Int) - 1 + 1 := by omega
            refine zz_iconst (pc := 41) (v := nI 1) S dX6_runLength_41 rfl ?_
            refine zz_iadd (pc := 42) (v := zI (((rst n P X Y L k : Nat) : Int) - 1 + 1)) S dX6_runLength_42 (zI_add (((rst n P X Y L k : Nat) : Int) - 1) 1) ?_
            refine lv_istore_n (pc := 43) (lv' := [(2, .int (zI (((rst n P X Y L k : Nat) : Int) - 1 + 1))), (0, .ref o), (1, .int (zI a)), (3, .int (nI (zs (fun j => zB (((rnk n P X Y L j : Nat) : Int) = a)) k))), (4, .int (nI k))]) S.1 S.2.1 dX6_runLength_43 rfl hl (by decide) rfl (fun ls hl => ?_)
            refine lv_iload_n (pc := 44) S.1 S.2.1 dX6_runLength_44 rfl (lv_at hl 3 rfl) ?_
            refine lv_iload_n (pc := 45) S.1 S.2.1 dX6_runLength_45 rfl (lv_at hl 0 rfl) ?_
            refine lv_iload_n (pc := 46) S.1 S.2.1 dX6_runLength_46 rfl (lv_at hl 2 rfl) ?_
            refine zz_icmp_ne (pc := 47) (tgt := 54) S dX6_runLength_47 (by decide) (zI_eq (a := ((rst n P X Y L k : Nat) : Int) - 1 + 1) (b := a) (by unfold zR; omega) (by unfold zR; omega)) (fun c47 => ?_) (fun c47 => ?_)
            · have w2 : zs (fun j => zB (((rnk n P X Y L j : Nat) : Int) = a)) (k + 1) = zs (fun j => zB (((rnk n P X Y L j : Nat) : Int) = a)) k := zs_f (P := fun j => ((rnk n P X Y L j : Nat) : Int) = a) (show ¬ _ = _ by omega)
              refine zz_iconst (pc := 54) (v := nI 0) S dX6_runLength_54 rfl ?_
              refine zz_iadd (pc := 55) (v := nI (zs (fun j => zB (((rnk n P X Y L j : Nat) : Int) = a)) k + 0)) S dX6_runLength_55 (n_add _ _) ?_
              refine lv_istore_n (pc := 56) (lv' := [(3, .int (nI (zs (fun j => zB (((rnk n P X Y L j : Nat) : Int) = a)) k + 0))), (2, .int (zI (((rst n P X Y L k : Nat) : Int) - 1 + 1))), (0, .ref o), (1, .int (zI a)), (4, .int (nI k))]) S.1 S.2.1 dX6_runLength_56 rfl hl (by decide) rfl (fun ls hl => ?_)
              refine lv_iinc (pc := 57) (v := nI (k + 1)) (lv' := [(4, .int (nI (k + 1))), (3, .int (nI (zs (fun j => zB (((rnk n P X Y L j : Nat) : Int) = a)) k + 0))), (2, .int (zI (((rst n P X Y L k : Nat) : Int) - 1 + 1))), (0, .ref o), (1, .int (zI a))]) S.1 S.2.1 dX6_runLength_57 hl (k := 4) rfl (n_add _ _) (by decide) rfl (fun ls hl => ?_)
              refine lv_goto (pc := 60) (tgt := 13) S.1 S.2.1 dX6_runLength_60 (by decide) ?_
              exact ih2 (k + 1) (by omega) (by omega) ls (by rw [w2, w3]; exact lv_sub hl [3, 4, 2, 1, 0] rfl)
            · have w2 : zs (fun j => zB (((rnk n P X Y L j : Nat) : Int) = a)) (k + 1) = zs (fun j => zB (((rnk n P X Y L j : Nat) : Int) = a)) k + 1 := zs_t (P := fun j => ((rnk n P X Y L j : Nat) : Int) = a) (show _ = _ by omega)
              refine zz_iconst (pc := 50) (v := nI 1) S dX6_runLength_50 rfl ?_
              refine lv_goto (pc := 51) (tgt := 55) S.1 S.2.1 dX6_runLength_51 (by decide) ?_
              refine zz_iadd (pc := 55) (v := nI (zs (fun j => zB (((rnk n P X Y L j : Nat) : Int) = a)) k + 1)) S dX6_runLength_55 (n_add _ _) ?_
              refine lv_istore_n (pc := 56) (lv' := [(3, .int (nI (zs (fun j => zB (((rnk n P X Y L j : Nat) : Int) = a)) k + 1))), (2, .int (zI (((rst n P X Y L k : Nat) : Int) - 1 + 1))), (0, .ref o), (1, .int (zI a)), (4, .int (nI k))]) S.1 S.2.1 dX6_runLength_56 rfl hl (by decide) rfl (fun ls hl => ?_)
              refine lv_iinc (pc := 57) (v := nI (k + 1)) (lv' := [(4, .int (nI (k + 1))), (3, .int (nI (zs (fun j => zB (((rnk n P X Y L j : Nat) : Int) = a)) k + 1))), (2, .int (zI (((rst n P X Y L k : Nat) : Int) - 1 + 1))), (0, .ref o), (1, .int (zI a))]) S.1 S.2.1 dX6_runLength_57 hl (k := 4) rfl (n_add _ _) (by decide) rfl (fun ls hl => ?_)
              refine lv_goto (pc := 60) (tgt := 13) S.1 S.2.1 dX6_runLength_60 (by decide) ?_
              exact ih2 (k + 1) (by omega) (by omega) ls (by rw [w2, w3]; exact lv_sub hl [3, 4, 2, 1, 0] rfl)
          · have w1 := rst_t c34
            have w3 : (((rst n P X Y L (k + 1) : Nat) : Int) - 1) = ((rst n P X Y L k : Nat) : Int) - 1 + 0 := by omega
            refine zz_iconst (pc := 37) (v := nI 0) S dX6_runLength_37 rfl ?_
            refine lv_goto (pc := 38) (tgt := 42) S.1 S.2.1 dX6_runLength_38 (by decide) ?_
            refine zz_iadd (pc := 42) (v := zI (((rst n P X Y L k : Nat) : Int) - 1 + 0)) S dX6_runLength_42 (zI_add (((rst n P X Y L k : Nat) : Int) - 1) 0) ?_
            refine lv_istore_n (pc := 43) (lv' := [(2, .int (zI (((rst n P X Y L k : Nat) : Int) - 1 + 0))), (0, .ref o), (1, .int (zI a)), (3, .int (nI (zs (fun j => zB (((rnk n P X Y L j : Nat) : Int) = a)) k))), (4, .int (nI k))]) S.1 S.2.1 dX6_runLength_43 rfl hl (by decide) rfl (fun ls hl => ?_)
            refine lv_iload_n (pc := 44) S.1 S.2.1 dX6_runLength_44 rfl (lv_at hl 3 rfl) ?_
            refine lv_iload_n (pc := 45) S.1 S.2.1 dX6_runLength_45 rfl (lv_at hl 0 rfl) ?_
            refine lv_iload_n (pc := 46) S.1 S.2.1 dX6_runLength_46 rfl (lv_at hl 2 rfl) ?_
            refine zz_icmp_ne (pc := 47) (tgt := 54) S dX6_runLength_47 (by decide) (zI_eq (a := ((rst n P X Y L k : Nat) : Int) - 1 + 0) (b := a) (by unfold zR; omega) (by unfold zR; omega)) (fun c47 => ?_) (fun c47 => ?_)
            · have w2 : zs (fun j => zB (((rnk n P X Y L j : Nat) : Int) = a)) (k + 1) = zs (fun j => zB (((rnk n P X Y L j : Nat) : Int) = a)) k := zs_f (P := fun j => ((rnk n P X Y L j : Nat) : Int) = a) (show ¬ _ = _ by omega)
              refine zz_iconst (pc := 54) (v := nI 0) S dX6_runLength_54 rfl ?_
              refine zz_iadd (pc := 55) (v := nI (zs (fun j => zB (((rnk n P X Y L j : Nat) : Int) = a)) k + 0)) S dX6_runLength_55 (n_add _ _) ?_
              refine lv_istore_n (pc := 56) (lv' := [(3, .int (nI (zs (fun j => zB (((rnk n P X Y L j : Nat) : Int) = a)) k + 0))), (2, .int (zI (((rst n P X Y L k : Nat) : Int) - 1 + 0))), (0, .ref o), (1, .int (zI a)), (4, .int (nI k))]) S.1 S.2.1 dX6_runLength_56 rfl hl (by decide) rfl (fun ls hl => ?_)
              refine lv_iinc (pc := 57) (v := nI (k + 1)) (lv' := [(4, .int (nI (k + 1))), (3, .int (nI (zs (fun j => zB (((rnk n P X Y L j : Nat) : Int) = a)) k + 0))), (2, .int (zI (((rst n P X Y L k : Nat) : Int) - 1 + 0))), (0, .ref o), (1, .int (zI a))]) S.1 S.2.1 dX6_runLength_57 hl (k := 4) rfl (n_add _ _) (by decide) rfl (fun ls hl => ?_)
              refine lv_goto (pc := 60) (tgt := 13) S.1 S.2.1 dX6_runLength_60 (by decide) ?_
              exact ih2 (k + 1) (by omega) (by omega) ls (by rw [w2, w3]; exact lv_sub hl [3, 4, 2, 1, 0] rfl)
            · have w2 : zs (fun j => zB (((rnk n P X Y L j : Nat) : Int) = a)) (k + 1) = zs (fun j => zB (((rnk n P X Y L j : Nat) : Int) = a)) k + 1 := zs_t (P := fun j => ((rnk n P X Y L j : Nat) : Int) = a) (show _ = _ by omega)
              refine zz_iconst (pc := 50) (v := nI 1) S dX6_runLength_50 rfl ?_
              refine lv_goto (pc := 51) (tgt := 55) S.1 S.2.1 dX6_runLength_51 (by decide) ?_
              refine zz_iadd (pc := 55) (v := nI (zs (fun j => zB (((rnk n P X Y L j : Nat) : Int) = a)) k + 1)) S dX6_runLength_55 (n_add _ _) ?_
              refine lv_istore_n (pc := 56) (lv' := [(3, .int (nI (zs (fun j => zB (((rnk n P X Y L j : Nat) : Int) = a)) k + 1))), (2, .int (zI (((rst n P X Y L k : Nat) : Int) - 1 + 0))), (0, .ref o), (1, .int (zI a)), (4, .int (nI k))]) S.1 S.2.1 dX6_runLength_56 rfl hl (by decide) rfl (fun ls hl => ?_)
              refine lv_iinc (pc := 57) (v := nI (k + 1)) (lv' := [(4, .int (nI (k + 1))), (3, .int (nI (zs (fun j => zB (((rnk n P X Y L j : Nat) : Int) = a)) k + 1))), (2, .int (zI (((rst n P X Y L k : Nat) : Int) - 1 + 0))), (0, .ref o), (1, .int (zI a))]) S.1 S.2.1 dX6_runLength_57 hl (k := 4) rfl (n_add _ _) (by decide) rfl (fun ls hl => ?_)
              refine lv_goto (pc := 60) (tgt := 13) S.1 S.2.1 dX6_runLength_60 (by decide) ?_
              exact ih2 (k + 1) (by omega) (by omega) ls (by rw [w2, w3]; exact lv_sub hl [3, 4, 2, 1, 0] rfl)
    exact L1 (n - 0 + 1) 0 (by omega) (Nat.lt_succ_self _) ls (lv_sub hl [3, 4, 2, 1, 0] rfl)
  · refine zz_iconst (pc := 4) (v := zI (-1)) S dX6_runLength_4 rfl ?_
    exact zz_iretS (pc := 5) S hr hlocks (congrArg zI (a₁ := (-1)) (by exact (if_pos (by omega)).symm)) dX6_runLength_5
abbrev wm_X6_dx : List Cond := .code yX6_dx cX6_dx 2 (some .int) :: wU
theorem q_X6_dx : yX6_dx.cls = RX6 ∧ yX6_dx.cls ≠ "java/lang/invoke/MethodHandle" ∧ yX6_dx.cls ≠ "java/lang/invoke/VarHandle" ∧ (parseMethodDescriptor yX6_dx.desc).map (fun d => d.parameters.length) = some 1 := by decide +kernel
set_option maxHeartbeats 4000000 in
set_option maxRecDepth 100000 in
theorem c_X6_dx (l : Launch) (D : va_G) (cI cR : ClassId) (o a1 a2 a3 a4 a5 a6 ed C V Ac : Nat) (w : Nat → Nat) (n : Nat) (P X Y L : Nat → Nat) (a : Nat) (hok : zOk n P X Y L) (hR : zRl w n P X Y L) (hset : zSt C V Ac) (ha : a < n) : Met l yX6_dx wm_X6_dx ({ frames := 1, cells := 0, slots := 0, locals := 21 } : Room) (va_Pc [.ref o, .int (nI a)] (zW D cI cR [(o, .inr (6, [.ref a1, .ref a2, .int (nI ed), .int (nI C), .int (nI V), .int (nI Ac), .ref a3, .ref a4, .ref a5, .ref a6])), (a1, zA cI 49 w)])) (vp_Si (fun r => r = zI (dxx X (L a)))) 0 0 (fun _ => False) := by
  refine Met.ofW (cc := cX6_dx) (maxL := 2) (ret := (some .int)) (by decide) rfl ?_
  intro p e s m args below meth c s₁ B hml hv
  obtain ⟨rfl, hG⟩ := hv
  have S : CallFix p m c cX6_dx 2 s ([.ref o, .int (nI a)] : List Value).toArray wU RX6 := ⟨B.exec, B.bytes, hml, findClass_of_methodNamed B.named, fun w h => atoms_spec (ws := wm_X6_dx) B.pre w (List.mem_cons_of_mem _ h)⟩
  have hr := B.returns
  have hlocks := B.notSynchronized
  have hG : zG D cI cR [(o, .inr (6, [.ref a1, .ref a2, .int (nI ed), .int (nI C), .int (nI V), .int (nI Ac), .ref a3, .ref a4, .ref a5, .ref a6])), (a1, zA cI 49 w)] s s.heap := hG
  have hl := lv_entry ([.ref o, .int (nI a)]) (n := 2) (Nat.le_of_ble_eq_true rfl)
  rw [lg_entry_eq]
  generalize (lg_sl ([.ref o, .int (nI a)]) ++ List.replicate (2 - (lg_sl ([.ref o, .int (nI a)])).length) Slot.unset).toArray = ls at hl ⊢
  have hl : lv_has ls 2 [(0, .ref o), (1, .int (nI a))] := hl
  obtain ⟨⟨hn, hPf, hXY⟩, hLf, hinj⟩ := id hok
  obtain ⟨hC, hV0, hAc⟩ := id hset
  have hsw := sw_lt (c := L a) (n := n) (hLf _ (by omega))
  have hl2 := hLf a (by omega)
  refine lv_aload_n (pc := 0) S.1 S.2.1 dX6_dx_0 rfl (lv_at hl 0 rfl) ?_
  refine zz_get (pc := 1) S hG iX6 0 rfl rfl 0 (by decide) wd_67 rfl rfl dX6_dx_1 ?_
  refine lv_aload_n (pc := 4) S.1 S.2.1 dX6_dx_4 rfl (lv_at hl 0 rfl) ?_
  refine lv_iload_n (pc := 5) S.1 S.2.1 dX6_dx_5 rfl (lv_at hl 1 rfl) ?_
  refine zz_callV (pc := 6) (As := [.int (nI a)]) (rest := [.ref a1]) S (c_X6_at l D cI cR o a1 a2 a3 a4 a5 a6 ed C V Ac w n P X Y L a hok hR hset (by omega)) (zuV wd_364 wd_361 wd_362 wd_363 wd_5) 1 rfl q_X6_at ⟨⟨rfl, rfl⟩, Nat.le_of_ble_eq_true rfl, Nat.le_of_ble_eq_true rfl⟩ hG [0, 1] rfl 0 rfl rfl rfl rfl rfl (Nat.le_of_ble_eq_true rfl) hl.1 ⟨Nat.zero_le _, Nat.zero_le _⟩ dX6_dx_6 ?_
  have g1 := hLf a (by omega)
  refine zz_callS (pc := 9) (As := [.int (nI (L a))]) (rest := [.ref a1]) S (c_X6_end l D cI cR (L a) (by omega)) (zuS wd_436 wd_434 wd_435 wd_5) 1 rfl q_X6_end.2 ⟨⟨rfl, rfl⟩, Nat.le_of_ble_eq_true rfl, Nat.le_of_ble_eq_true rfl⟩ rfl rfl (Nat.le_of_ble_eq_true rfl) hl.1 ⟨Nat.zero_le _, Nat.zero_le _⟩ dX6_dx_9 ?_
  have g2 := bg16 (a := sw (L a)) (sw_lt (n := 8) (by omega))
  refine zz_iald (pc := 12) (k := bg (sw (L a))) S hG 1 rfl (by omega) dX6_dx_12 ?_
  refine zz_cast (v := nI (X (sw (L a)))) (congrArg nI (hR.2.1 (sw (L a)) (by first | omega | exact sw_lt (by omega))).1) ?_
  have g3 := (hXY (sw (L a)) (by first | omega | exact sw_lt (by omega))).1
  refine lv_aload_n (pc := 13) S.1 S.2.1 dX6_dx_13 rfl (lv_at hl 0 rfl) ?_
  refine zz_get (pc := 14) S hG iX6 0 rfl rfl 0 (by decide) wd_67 rfl rfl dX6_dx_14 ?_
  refine lv_aload_n (pc := 17) S.1 S.2.1 dX6_dx_17 rfl (lv_at hl 0 rfl) ?_
  refine lv_iload_n (pc := 18) S.1 S.2.1 dX6_dx_18 rfl (lv_at hl 1 rfl) ?_
  refine zz_callV (pc := 19) (As := [.int (nI a)]) (rest := [.ref a1, .int (nI (X (sw (L a))))]) S (c_X6_at l D cI cR o a1 a2 a3 a4 a5 a6 ed C V Ac w n P X Y L a hok hR hset (by omega)) (zuV wd_364 wd_361 wd_362 wd_363 wd_5) 1 rfl q_X6_at ⟨⟨rfl, rfl⟩, Nat.le_of_ble_eq_true rfl, Nat.le_of_ble_eq_true rfl⟩ hG [0, 1] rfl 0 rfl rfl rfl rfl rfl (Nat.le_of_ble_eq_true rfl) hl.1 ⟨Nat.zero_le _, Nat.zero_le _⟩ dX6_dx_19 ?_
  have g4 := hLf a (by omega)
  refine zz_callS (pc := 22) (As := [.int (nI (L a))]) (rest := [.ref a1, .int (nI (X (sw (L a))))]) S (c_X6_begin l D cI cR (L a) (by omega)) (zuS wd_433 wd_431 wd_432 wd_5) 1 rfl q_X6_begin.2 ⟨⟨rfl, rfl⟩, Nat.le_of_ble_eq_true rfl, Nat.le_of_ble_eq_true rfl⟩ rfl rfl (Nat.le_of_ble_eq_true rfl) hl.1 ⟨Nat.zero_le _, Nat.zero_le _⟩ dX6_dx_22 ?_
  have g5 := bg16 (a := (L a)) (by omega)
  refine zz_iald (pc := 25) (k := bg (L a)) S hG 1 rfl (by omega) dX6_dx_25 ?_
  refine zz_cast (v := nI (X (L a))) (congrArg nI (hR.2.1 (L a) (by first | omega | exact sw_lt (by omega))).1) ?_
  have g6 := (hXY (L a) (by first | omega | exact sw_lt (by omega))).1
  refine zz_isub (pc := 26) (v := zI (((X (sw (L a)) : Nat) : Int) - ((X (L a) : Nat) : Int))) S dX6_dx_26 (zI_sub ((X (sw (L a)) : Nat) : Int) ((X (L a) : Nat) : Int)) ?_
  exact zz_iretS (pc := 27) S hr hlocks (congrArg zI (a₁ := ((X (sw (L a)) : Nat) : Int) - ((X (L a) : Nat) : Int)) (by rfl)) dX6_dx_27
abbrev wm_X6_dy : List Cond := .code yX6_dy cX6_dy 2 (some .int) :: wU
theorem q_X6_dy : yX6_dy.cls = RX6 ∧ yX6_dy.cls ≠ "java/lang/invoke/MethodHandle" ∧ yX6_dy.cls ≠ "java/lang/invoke/VarHandle" ∧ (parseMethodDescriptor yX6_dy.desc).map (fun d => d.parameters.length) = some 1 := by decide +kernel
set_option maxHeartbeats 4000000 in
set_option maxRecDepth 100000 in
theorem c_X6_dy (l : Launch) (D : va_G) (cI cR : ClassId) (o a1 a2 a3 a4 a5 a6 ed C V Ac : Nat) (w : Nat → Nat) (n : Nat) (P X Y L : Nat → Nat) (a : Nat) (hok : zOk n P X Y L) (hR : zRl w n P X Y L) (hset : zSt C V Ac) (ha : a < n) : Met l yX6_dy wm_X6_dy ({ frames := 1, cells := 0, slots := 0, locals := 21 } : Room) (va_Pc [.ref o, .int (nI a)] (zW D cI cR [(o, .inr (6, [.ref a1, .ref a2, .int (nI ed), .int (nI C), .int (nI V), .int (nI Ac), .ref a3, .ref a4, .ref a5, .ref a6])), (a1, zA cI 49 w)])) (vp_Si (fun r => r = zI (dxx Y (L a)))) 0 0 (fun _ => False) := by
  refine Met.ofW (cc := cX6_dy) (maxL := 2) (ret := (some .int)) (by decide) rfl ?_
  intro p e s m args below meth c s₁ B hml hv
  obtain ⟨rfl, hG⟩ := hv
  have S : CallFix p m c cX6_dy 2 s ([.ref o, .int (nI a)] : List Value).toArray wU RX6 := ⟨B.exec, B.bytes, hml, findClass_of_methodNamed B.named, fun w h => atoms_spec (ws := wm_X6_dy) B.pre w (List.mem_cons_of_mem _ h)⟩
  have hr := B.returns
  have hlocks := B.notSynchronized
  have hG : zG D cI cR [(o, .inr (6, [.ref a1, .ref a2, .int (nI ed), .int (nI C), .int (nI V), .int (nI Ac), .ref a3, .ref a4, .ref a5, .ref a6])), (a1, zA cI 49 w)] s s.heap := hG
  have hl := lv_entry ([.ref o, .int (nI a)]) (n := 2) (Nat.le_of_ble_eq_true rfl)
  rw [lg_entry_eq]
  generalize (lg_sl ([.ref o, .int (nI a)]) ++ List.replicate (2 - (lg_sl ([.ref o, .int (nI a)])).length) Slot.unset).toArray = ls at hl ⊢
  have hl : lv_has ls 2 [(0, .ref o), (1, .int (nI a))] := hl
  obtain ⟨⟨hn, hPf, hXY⟩, hLf, hinj⟩ := id hok
  obtain ⟨hC, hV0, hAc⟩ := id hset
  have hsw := sw_lt (c := L a) (n := n) (hLf _ (by omega))
  have hl2 := hLf a (by omega)
  refine lv_aload_n (pc := 0) S.1 S.2.1 dX6_dy_0 rfl (lv_at hl 0 rfl) ?_
  refine zz_get (pc := 1) S hG iX6 0 rfl rfl 0 (by decide) wd_67 rfl rfl dX6_dy_1 ?_
  refine lv_aload_n (pc := 4) S.1 S.2.1 dX6_dy_4 rfl (lv_at hl 0 rfl) ?_
  refine lv_iload_n (pc := 5) S.1 S.2.1 dX6_dy_5 rfl (lv_at hl 1 rfl) ?_
  refine zz_callV (pc := 6) (As := [.int (nI a)]) (rest := [.ref a1]) S (c_X6_at l D cI cR o a1 a2 a3 a4 a5 a6 ed C V Ac w n P X Y L a hok hR hset (by omega)) (zuV wd_364 wd_361 wd_362 wd_363 wd_5) 1 rfl q_X6_at ⟨⟨rfl, rfl⟩, Nat.le_of_ble_eq_true rfl, Nat.le_of_ble_eq_true rfl⟩ hG [0, 1] rfl 0 rfl rfl rfl rfl rfl (Nat.le_of_ble_eq_true rfl) hl.1 ⟨Nat.zero_le _, Nat.zero_le _⟩ dX6_dy_6 ?_
  have g1 := hLf a (by omega)
  refine zz_callS (pc := 9) (As := [.int (nI (L a))]) (rest := [.ref a1]) S (c_X6_end l D cI cR (L a) (by omega)) (zuS wd_436 wd_434 wd_435 wd_5) 1 rfl q_X6_end.2 ⟨⟨rfl, rfl⟩, Nat.le_of_ble_eq_true rfl, Nat.le_of_ble_eq_true rfl⟩ rfl rfl (Nat.le_of_ble_eq_true rfl) hl.1 ⟨Nat.zero_le _, Nat.zero_le _⟩ dX6_dy_9 ?_
  have g2 := bg16 (a := sw (L a)) (sw_lt (n := 8) (by omega))
  refine zz_iconst (pc := 12) (v := nI 1) S dX6_dy_12 rfl ?_
  refine zz_iadd (pc := 13) (v := nI (bg (sw (L a)) + 1)) S dX6_dy_13 (n_add _ _) ?_
  refine zz_iald (pc := 14) (k := bg (sw (L a)) + 1) S hG 1 rfl (by omega) dX6_dy_14 ?_
  refine zz_cast (v := nI (Y (sw (L a)))) (congrArg nI (hR.2.1 (sw (L a)) (by first | omega | exact sw_lt (by omega))).2) ?_
  have g3 := (hXY (sw (L a)) (by first | omega | exact sw_lt (by omega))).2
  refine lv_aload_n (pc := 15) S.1 S.2.1 dX6_dy_15 rfl (lv_at hl 0 rfl) ?_
  refine zz_get (pc := 16) S hG iX6 0 rfl rfl 0 (by decide) wd_67 rfl rfl dX6_dy_16 ?_
  refine lv_aload_n (pc := 19) S.1 S.2.1 dX6_dy_19 rfl (lv_at hl 0 rfl) ?_
  refine lv_iload_n (pc := 20) S.1 S.2.1 dX6_dy_20 rfl (lv_at hl 1 rfl) ?_
  refine zz_callV (pc := 21) (As := [.int (nI a)]) (rest := [.ref a1, .int (nI (Y (sw (L a))))]) S (c_X6_at l D cI cR o a1 a2 a3 a4 a5 a6 ed C V Ac w n P X Y L a hok hR hset (by omega)) (zuV wd_364 wd_361 wd_362 wd_363 wd_5) 1 rfl q_X6_at ⟨⟨rfl, rfl⟩, Nat.le_of_ble_eq_true rfl, Nat.le_of_ble_eq_true rfl⟩ hG [0, 1] rfl 0 rfl rfl rfl rfl rfl (Nat.le_of_ble_eq_true rfl) hl.1 ⟨Nat.zero_le _, Nat.zero_le _⟩ dX6_dy_21 ?_
  have g4 := hLf a (by omega)
  refine zz_callS (pc := 24) (As := [.int (nI (L a))]) (rest := [.ref a1, .int (nI (Y (sw (L a))))]) S (c_X6_begin l D cI cR (L a) (by omega)) (zuS wd_433 wd_431 wd_432 wd_5) 1 rfl q_X6_begin.2 ⟨⟨rfl, rfl⟩, Nat.le_of_ble_eq_true rfl, Nat.le_of_ble_eq_true rfl⟩ rfl rfl (Nat.le_of_ble_eq_true rfl) hl.1 ⟨Nat.zero_le _, Nat.zero_le _⟩ dX6_dy_24 ?_
  have g5 := bg16 (a := (L a)) (by omega)
  refine zz_iconst (pc := 27) (v := nI 1) S dX6_dy_27 rfl ?_
  refine zz_iadd (pc := 28) (v := nI (bg (L a) + 1)) S dX6_dy_28 (n_add _ _) ?_
  refine zz_iald (pc := 29) (k := bg (L a) + 1) S hG 1 rfl (by omega) dX6_dy_29 ?_
  refine zz_cast (v := nI (Y (L a))) (congrArg nI (hR.2.1 (L a) (by first | omega | exact sw_lt (by omega))).2) ?_
  have g6 := (hXY (L a) (by first | omega | exact sw_lt (by omega))).2
  refine zz_isub (pc := 30) (v := zI (((Y (sw (L a)) : Nat) : Int) - ((Y (L a) : Nat) : Int))) S dX6_dy_30 (zI_sub ((Y (sw (L a)) : Nat) : Int) ((Y (L a) : Nat) : Int)) ?_
  exact zz_iretS (pc := 31) S hr hlocks (congrArg zI (a₁ := ((Y (sw (L a)) : Nat) : Int) - ((Y (L a) : Nat) : Int)) (by rfl)) dX6_dy_31
abbrev wm_X6_corner : List Cond := .code yX6_corner cX6_corner 4 (some .int) :: wU
theorem q_X6_corner : yX6_corner.cls = RX6 ∧ yX6_corner.cls ≠ "java/lang/invoke/MethodHandle" ∧ yX6_corner.cls ≠ "java/lang/invoke/VarHandle" ∧ (parseMethodDescriptor yX6_corner.desc).map (fun d => d.parameters.length) = some 1 := by decide +kernel
set_option maxHeartbeats 4000000 in
set_option maxRecDepth 100000 in
theorem c_X6_corner (l : Launch) (D : va_G) (cI cR : ClassId) (o a1 a2 a3 a4 a5 a6 ed C V Ac : Nat) (w : Nat → Nat) (n : Nat) (P X Y L : Nat → Nat) (a : Nat) (hok : zOk n P X Y L) (hR : zRl w n P X Y L) (hset : zSt C V Ac) (ha : a + 1 < n) : Met l yX6_corner wm_X6_corner ({ frames := 2, cells := 0, slots := 0, locals := 42 } : Room) (va_Pc [.ref o, .int (nI a)] (zW D cI cR [(o, .inr (6, [.ref a1, .ref a2, .int (nI ed), .int (nI C), .int (nI V), .int (nI Ac), .ref a3, .ref a4, .ref a5, .ref a6])), (a1, zA cI 49 w)])) (vp_Si (fun r => r = nI (crn X Y V (L a) (L (a + 1))))) 0 0 (fun _ => False) := by
  refine Met.ofW (cc := cX6_corner) (maxL := 4) (ret := (some .int)) (by decide) rfl ?_
  intro p e s m args below meth c s₁ B hml hv
  obtain ⟨rfl, hG⟩ := hv
  have S : CallFix p m c cX6_corner 4 s ([.ref o, .int (nI a)] : List Value).toArray wU RX6 := ⟨B.exec, B.bytes, hml, findClass_of_methodNamed B.named, fun w h => atoms_spec (ws := wm_X6_corner) B.pre w (List.mem_cons_of_mem _ h)⟩
  have hr := B.returns
  have hlocks := B.notSynchronized
  have hG : zG D cI cR [(o, .inr (6, [.ref a1, .ref a2, .int (nI ed), .int (nI C), .int (nI V), .int (nI Ac), .ref a3, .ref a4, .ref a5, .ref a6])), (a1, zA cI 49 w)] s s.heap := hG
  have hl := lv_entry ([.ref o, .int (nI a)]) (n := 4) (Nat.le_of_ble_eq_true rfl)
  rw [lg_entry_eq]
  generalize (lg_sl ([.ref o, .int (nI a)]) ++ List.replicate (4 - (lg_sl ([.ref o, .int (nI a)])).length) Slot.unset).toArray = ls at hl ⊢
  have hl : lv_has ls 4 [(0, .ref o), (1, .int (nI a))] := hl
  obtain ⟨⟨hn, hPf, hXY⟩, hLf, hinj⟩ := id hok
  obtain ⟨hC, hV0, hAc⟩ := id hset
  have t0 := dxx_rng (X := X) (n := n) (c := L a) (fun c h => (hXY c h).1) (hLf _ (by omega))
  have t1 := dxx_rng (X := Y) (n := n) (c := L a) (fun c h => (hXY c h).2) (hLf _ (by omega))
  have t2 := dxx_rng (X := X) (n := n) (c := L (a + 1)) (fun c h => (hXY c h).1) (hLf _ (by omega))
  have t3 := dxx_rng (X := Y) (n := n) (c := L (a + 1)) (fun c h => (hXY c h).2) (hLf _ (by omega))
  have m1 := mul_bd (a := dxx X (L a)) (b := dxx X (L (a + 1))) 99 99 (by omega) (by omega) (by omega)
  have m2 := mul_bd (a := dxx Y (L a)) (b := dxx Y (L (a + 1))) 99 99 (by omega) (by omega) (by omega)
  have m3 := mul_bd (a := dxx X (L a)) (b := dxx Y (L (a + 1))) 99 99 (by omega) (by omega) (by omega)
  have m4 := mul_bd (a := dxx Y (L a)) (b := dxx X (L (a + 1))) 99 99 (by omega) (by omega) (by omega)
  refine lv_aload_n (pc := 0) S.1 S.2.1 dX6_corner_0 rfl (lv_at hl 0 rfl) ?_
  refine lv_iload_n (pc := 1) S.1 S.2.1 dX6_corner_1 rfl (lv_at hl 1 rfl) ?_
  refine zz_callV (pc := 2) (As := [.int (nI a)]) (rest := []) S (c_X6_dx l D cI cR o a1 a2 a3 a4 a5 a6 ed C V Ac w n P X Y L a hok hR hset (by omega)) (zuV wd_634 wd_631 wd_632 wd_633 wd_5) 1 rfl q_X6_dx ⟨⟨rfl, rfl⟩, Nat.le_of_ble_eq_true rfl, Nat.le_of_ble_eq_true rfl⟩ hG [0, 1] rfl 0 rfl rfl rfl rfl rfl (Nat.le_of_ble_eq_true rfl) hl.1 ⟨Nat.zero_le _, Nat.zero_le _⟩ dX6_corner_2 ?_
  have g1 := dxx_rng (X := X) (n := n) (c := L a) (fun c h => (hXY c h).1) (hLf a (by omega))
  refine lv_aload_n (pc := 5) S.1 S.2.1 dX6_corner_5 rfl (lv_at hl 0 rfl) ?_
  refine lv_iload_n (pc := 6) S.1 S.2.1 dX6_corner_6 rfl (lv_at hl 1 rfl) ?_
  refine zz_iconst (pc := 7) (v := nI 1) S dX6_corner_7 rfl ?_
  refine zz_iadd (pc := 8) (v := nI (a + 1)) S dX6_corner_8 (n_add _ _) ?_
  refine zz_callV (pc := 9) (As := [.int (nI (a + 1))]) (rest := [.int (zI (dxx X (L a)))]) S (c_X6_dx l D cI cR o a1 a2 a3 a4 a5 a6 ed C V Ac w n P X Y L (a + 1) hok hR hset (by omega)) (zuV wd_634 wd_631 wd_632 wd_633 wd_5) 1 rfl q_X6_dx ⟨⟨rfl, rfl⟩, Nat.le_of_ble_eq_true rfl, Nat.le_of_ble_eq_true rfl⟩ hG [0, 1] rfl 0 rfl rfl rfl rfl rfl (Nat.le_of_ble_eq_true rfl) hl.1 ⟨Nat.zero_le _, Nat.zero_le _⟩ dX6_corner_9 ?_
  have g2 := dxx_rng (X := X) (n := n) (c := L (a + 1)) (fun c h => (hXY c h).1) (hLf (a + 1) (by omega))
  refine zz_imul (pc := 12) (v := zI ((dxx X (L a)) * (dxx X (L (a + 1))))) S dX6_corner_12 (zI_mul (dxx X (L a)) (dxx X (L (a + 1)))) ?_
  refine lv_aload_n (pc := 13) S.1 S.2.1 dX6_corner_13 rfl (lv_at hl 0 rfl) ?_
  refine lv_iload_n (pc := 14) S.1 S.2.1 dX6_corner_14 rfl (lv_at hl 1 rfl) ?_
  refine zz_callV (pc := 15) (As := [.int (nI a)]) (rest := [.int (zI ((dxx X (L a)) * (dxx X (L (a + 1)))))]) S (c_X6_dy l D cI cR o a1 a2 a3 a4 a5 a6 ed C V Ac w n P X Y L a hok hR hset (by omega)) (zuV wd_638 wd_635 wd_636 wd_637 wd_5) 1 rfl q_X6_dy ⟨⟨rfl, rfl⟩, Nat.le_of_ble_eq_true rfl, Nat.le_of_ble_eq_true rfl⟩ hG [0, 1] rfl 0 rfl rfl rfl rfl rfl (Nat.le_of_ble_eq_true rfl) hl.1 ⟨Nat.zero_le _, Nat.zero_le _⟩ dX6_corner_15 ?_
  have g3 := dxx_rng (X := Y) (n := n) (c := L a) (fun c h => (hXY c h).2) (hLf a (by omega))
  refine lv_aload_n (pc := 18) S.1 S.2.1 dX6_corner_18 rfl (lv_at hl 0 rfl) ?_
  refine lv_iload_n (pc := 19) S.1 S.2.1 dX6_corner_19 rfl (lv_at hl 1 rfl) ?_
  refine zz_iconst (pc := 20) (v := nI 1) S dX6_corner_20 rfl ?_
  refine zz_iadd (pc := 21) (v := nI (a + 1)) S dX6_corner_21 (n_add _ _) ?_
  refine zz_callV (pc := 22) (As := [.int (nI (a + 1))]) (rest := [.int (zI (dxx Y (L a))), .int (zI ((dxx X (L a)) * (dxx X (L (a + 1)))))]) S (c_X6_dy l D cI cR o a1 a2 a3 a4 a5 a6 ed C V Ac w n P X Y L (a + 1) hok hR hset (by omega)) (zuV wd_638 wd_635 wd_636 wd_637 wd_5) 1 rfl q_X6_dy ⟨⟨rfl, rfl⟩, Nat.le_of_ble_eq_true rfl, Nat.le_of_ble_eq_true rfl⟩ hG [0, 1] rfl 0 rfl rfl rfl rfl rfl (Nat.le_of_ble_eq_true rfl) hl.1 ⟨Nat.zero_le _, Nat.zero_le _⟩ dX6_corner_22 ?_
  have g4 := dxx_rng (X := Y) (n := n) (c := L (a + 1)) (fun c h => (hXY c h).2) (hLf (a + 1) (by omega))
  refine zz_imul (pc := 25) (v := zI ((dxx Y (L a)) * (dxx Y (L (a + 1))))) S dX6_corner_25 (zI_mul (dxx Y (L a)) (dxx Y (L (a + 1)))) ?_
  refine zz_iadd (pc := 26) (v := zI ((dxx X (L a)) * (dxx X (L (a + 1))) + ((dxx Y (L a)) * (dxx Y (L (a + 1)))))) S dX6_corner_26 (zI_add ((dxx X (L a)) * (dxx X (L (a + 1)))) ((dxx Y (L a)) * (dxx Y (L (a + 1))))) ?_
  refine lv_istore_n (pc := 27) (lv' := [(2, .int (zI ((dxx X (L a)) * (dxx X (L (a + 1))) + ((dxx Y (L a)) * (dxx Y (L (a + 1))))))), (0, .ref o), (1, .int (nI a))]) S.1 S.2.1 dX6_corner_27 rfl hl (by decide) rfl (fun ls hl => ?_)
  refine lv_aload_n (pc := 28) S.1 S.2.1 dX6_corner_28 rfl (lv_at hl 1 rfl) ?_
  refine lv_iload_n (pc := 29) S.1 S.2.1 dX6_corner_29 rfl (lv_at hl 2 rfl) ?_
  refine zz_callV (pc := 30) (As := [.int (nI a)]) (rest := []) S (c_X6_dx l D cI cR o a1 a2 a3 a4 a5 a6 ed C V Ac w n P X Y L a hok hR hset (by omega)) (zuV wd_634 wd_631 wd_632 wd_633 wd_5) 1 rfl q_X6_dx ⟨⟨rfl, rfl⟩, Nat.le_of_ble_eq_true rfl, Nat.le_of_ble_eq_true rfl⟩ hG [0, 1] rfl 0 rfl rfl rfl rfl rfl (Nat.le_of_ble_eq_true rfl) hl.1 ⟨Nat.zero_le _, Nat.zero_le _⟩ dX6_corner_30 ?_
  have g5 := dxx_rng (X := X) (n := n) (c := L a) (fun c h => (hXY c h).1) (hLf a (by omega))
  refine lv_aload_n (pc := 33) S.1 S.2.1 dX6_corner_33 rfl (lv_at hl 1 rfl) ?_
  refine lv_iload_n (pc := 34) S.1 S.2.1 dX6_corner_34 rfl (lv_at hl 2 rfl) ?_
  refine zz_iconst (pc := 35) (v := nI 1) S dX6_corner_35 rfl ?_
  refine zz_iadd (pc := 36) (v := nI (a + 1)) S dX6_corner_36 (n_add _ _) ?_
  refine zz_callV (pc := 37) (As := [.int (nI (a + 1))]) (rest := [.int (zI (dxx X (L a)))]) S (c_X6_dy l D cI cR o a1 a2 a3 a4 a5 a6 ed C V Ac w n P X Y L (a + 1) hok hR hset (by omega)) (zuV wd_638 wd_635 wd_636 wd_637 wd_5) 1 rfl q_X6_dy ⟨⟨rfl, rfl⟩, Nat.le_of_ble_eq_true rfl, Nat.le_of_ble_eq_true rfl⟩ hG [0, 1] rfl 0 rfl rfl rfl rfl rfl (Nat.le_of_ble_eq_true rfl) hl.1 ⟨Nat.zero_le _, Nat.zero_le _⟩ dX6_corner_37 ?_
  have g6 := dxx_rng (X := Y) (n := n) (c := L (a + 1)) (fun c h => (hXY c h).2) (hLf (a + 1) (by omega))
  refine zz_imul (pc := 40) (v := zI ((dxx X (L a)) * (dxx Y (L (a + 1))))) S dX6_corner_40 (zI_mul (dxx X (L a)) (dxx Y (L (a + 1)))) ?_
  refine lv_aload_n (pc := 41) S.1 S.2.1 dX6_corner_41 rfl (lv_at hl 1 rfl) ?_
  refine lv_iload_n (pc := 42) S.1 S.2.1 dX6_corner_42 rfl (lv_at hl 2 rfl) ?_
  refine zz_callV (pc := 43) (As := [.int (nI a)]) (rest := [.int (zI ((dxx X (L a)) * (dxx Y (L (a + 1)))))]) S (c_X6_dy l D cI cR o a1 a2 a3 a4 a5 a6 ed C V Ac w n P X Y L a hok hR hset (by omega)) (zuV wd_638 wd_635 wd_636 wd_637 wd_5) 1 rfl q_X6_dy ⟨⟨rfl, rfl⟩, Nat.le_of_ble_eq_true rfl, Nat.le_of_ble_eq_true rfl⟩ hG [0, 1] rfl 0 rfl rfl rfl rfl rfl (Nat.le_of_ble_eq_true rfl) hl.1 ⟨Nat.zero_le _, Nat.zero_le _⟩ dX6_corner_43 ?_
  have g7 := dxx_rng (X := Y) (n := n) (c := L a) (fun c h => (hXY c h).2) (hLf a (by omega))
  refine lv_aload_n (pc := 46) S.1 S.2.1 dX6_corner_46 rfl (lv_at hl 1 rfl) ?_
  refine lv_iload_n (pc := 47) S.1 S.2.1 dX6_corner_47 rfl (lv_at hl 2 rfl) ?_
  refine zz_iconst (pc := 48) (v := nI 1) S dX6_corner_48 rfl ?_
  refine zz_iadd (pc := 49) (v := nI (a + 1)) S dX6_corner_49 (n_add _ _) ?_
  refine zz_callV (pc := 50) (As := [.int (nI (a + 1))]) (rest := [.int (zI (dxx Y (L a))), .int (zI ((dxx X (L a)) * (dxx Y (L (a + 1)))))]) S (c_X6_dx l D cI cR o a1 a2 a3 a4 a5 a6 ed C V Ac w n P X Y L (a + 1) hok hR hset (by omega)) (zuV wd_634 wd_631 wd_632 wd_633 wd_5) 1 rfl q_X6_dx ⟨⟨rfl, rfl⟩, Nat.le_of_ble_eq_true rfl, Nat.le_of_ble_eq_true rfl⟩ hG [0, 1] rfl 0 rfl rfl rfl rfl rfl (Nat.le_of_ble_eq_true rfl) hl.1 ⟨Nat.zero_le _, Nat.zero_le _⟩ dX6_corner_50 ?_
  have g8 := dxx_rng (X := X) (n := n) (c := L (a + 1)) (fun c h => (hXY c h).1) (hLf (a + 1) (by omega))
  refine zz_imul (pc := 53) (v := zI ((dxx Y (L a)) * (dxx X (L (a + 1))))) S dX6_corner_53 (zI_mul (dxx Y (L a)) (dxx X (L (a + 1)))) ?_
  refine zz_isub (pc := 54) (v := zI (((dxx X (L a)) * (dxx Y (L (a + 1)))) - ((dxx Y (L a)) * (dxx X (L (a + 1)))))) S dX6_corner_54 (zI_sub ((dxx X (L a)) * (dxx Y (L (a + 1)))) ((dxx Y (L a)) * (dxx X (L (a + 1))))) ?_
  refine lv_istore_n (pc := 55) (lv' := [(3, .int (zI (((dxx X (L a)) * (dxx Y (L (a + 1)))) - ((dxx Y (L a)) * (dxx X (L (a + 1))))))), (2, .int (zI ((dxx X (L a)) * (dxx X (L (a + 1))) + ((dxx Y (L a)) * (dxx Y (L (a + 1))))))), (0, .ref o), (1, .int (nI a))]) S.1 S.2.1 dX6_corner_55 rfl hl (by decide) rfl (fun ls hl => ?_)
  refine lv_iload_n (pc := 56) S.1 S.2.1 dX6_corner_56 rfl (lv_at hl 1 rfl) ?_
  refine zz_if_gt (pc := 57) (tgt := 64) S dX6_corner_57 (by decide) (z_gt0 (by unfold zR; omega)) (fun c57 => ?_) (fun c57 => ?_)
  · refine lv_iload_n (pc := 64) S.1 S.2.1 dX6_corner_64 rfl (lv_at hl 0 rfl) ?_
    refine zz_if_ne (pc := 65) (tgt := 75) S dX6_corner_65 (by decide) (z_eq0 (by unfold zR; omega)) (fun c65 => ?_) (fun c65 => ?_)
    · refine lv_aload_n (pc := 75) S.1 S.2.1 dX6_corner_75 rfl (lv_at hl 2 rfl) ?_
      refine zz_get (pc := 76) S hG iX6 0 rfl rfl 4 (by decide) wd_70 rfl rfl dX6_corner_76 ?_
      refine zz_iconst (pc := 79) (v := nI 4) S dX6_corner_79 rfl ?_
      refine zz_idiv (pc := 80) (v := nI (V / 4)) S dX6_corner_80 (by decide) (n_div (by omega) (by decide) (by decide)) ?_
      exact zz_iretS (pc := 81) S hr hlocks (congrArg nI (by first | exact (crn_0 (by omega)).symm | exact (crn_1 (by omega) (by omega)).symm | exact (crn_4 (by omega) (by omega)).symm)) dX6_corner_81
    · refine lv_aload_n (pc := 68) S.1 S.2.1 dX6_corner_68 rfl (lv_at hl 2 rfl) ?_
      refine zz_get (pc := 69) S hG iX6 0 rfl rfl 4 (by decide) wd_70 rfl rfl dX6_corner_69 ?_
      refine lv_goto (pc := 72) (tgt := 81) S.1 S.2.1 dX6_corner_72 (by decide) ?_
      exact zz_iretS (pc := 81) S hr hlocks (congrArg nI (by first | exact (crn_0 (by omega)).symm | exact (crn_1 (by omega) (by omega)).symm | exact (crn_4 (by omega) (by omega)).symm)) dX6_corner_81
  · refine zz_iconst (pc := 60) (v := nI 0) S dX6_corner_60 rfl ?_
    refine lv_goto (pc := 61) (tgt := 81) S.1 S.2.1 dX6_corner_61 (by decide) ?_
    exact zz_iretS (pc := 81) S hr hlocks (congrArg nI (by first | exact (crn_0 (by omega)).symm | exact (crn_1 (by omega) (by omega)).symm | exact (crn_4 (by omega) (by omega)).symm)) dX6_corner_81
abbrev wm_X6_cornerLimit : List Cond := .code yX6_cornerLimit cX6_cornerLimit 2 (some .int) :: wU
theorem q_X6_cornerLimit : yX6_cornerLimit.cls = RX6 ∧ yX6_cornerLimit.cls ≠ "java/lang/invoke/MethodHandle" ∧ yX6_cornerLimit.cls ≠ "java/lang/invoke/VarHandle" ∧ (parseMethodDescriptor yX6_cornerLimit.desc).map (fun d => d.parameters.length) = some 1 := by decide +kernel
set_option maxHeartbeats 4000000 in
set_option maxRecDepth 100000 in
theorem c_X6_cornerLimit (l : Launch) (D : va_G) (cI cR : ClassId) (o a1 a2 a3 a4 a5 a6 ed C V Ac : Nat) (w : Nat → Nat) (n : Nat) (P X Y L : Nat → Nat) (a : Int) (hok : zOk n P X Y L) (hR : zRl w n P X Y L) (hset : zSt C V Ac) (ha : zR a) : Met l yX6_cornerLimit wm_X6_cornerLimit ({ frames := 3, cells := 0, slots := 0, locals := 65 } : Room) (va_Pc [.ref o, .int (zI a)] (zW D cI cR [(o, .inr (6, [.ref a1, .ref a2, .int (nI ed), .int (nI C), .int (nI V), .int (nI Ac), .ref a3, .ref a4, .ref a5, .ref a6])), (a1, zA cI 49 w)])) (vp_Si (fun r => r = zI (an_corner n P X Y L V a))) 0 0 (fun _ => False) := by
  refine Met.ofW (cc := cX6_cornerLimit) (maxL := 2) (ret := (some .int)) (by decide) rfl ?_
  intro p e s m args below meth c s₁ B hml hv
  obtain ⟨rfl, hG⟩ := hv
  have S : CallFix p m c cX6_cornerLimit 2 s ([.ref o, .int (zI a)] : List Value).toArray wU RX6 := ⟨B.exec, B.bytes, hml, findClass_of_methodNamed B.named, fun w h => atoms_spec (ws := wm_X6_cornerLimit) B.pre w (List.mem_cons_of_mem _ h)⟩
  have hr := B.returns
  have hlocks := B.notSynchronized
  have hG : zG D cI cR [(o, .inr (6, [.ref a1, .ref a2, .int (nI ed), .int (nI C), .int (nI V), .int (nI Ac), .ref a3, .ref a4, .ref a5, .ref a6])), (a1, zA cI 49 w)] s s.heap := hG
  have hl := lv_entry ([.ref o, .int (zI a)]) (n := 2) (Nat.le_of_ble_eq_true rfl)
  rw [lg_entry_eq]
  generalize (lg_sl ([.ref o, .int (zI a)]) ++ List.replicate (2 - (lg_sl ([.ref o, .int (zI a)])).length) Slot.unset).toArray = ls at hl ⊢
  have hl : lv_has ls 2 [(0, .ref o), (1, .int (zI a))] := hl
  have r_ha := id ha
  unfold zR at r_ha
  obtain ⟨⟨hn, hPf, hXY⟩, hLf, hinj⟩ := id hok
  obtain ⟨hC, hV0, hAc⟩ := id hset
  refine lv_aload_n (pc := 0) S.1 S.2.1 dX6_cornerLimit_0 rfl (lv_at hl 0 rfl) ?_
  refine lv_iload_n (pc := 1) S.1 S.2.1 dX6_cornerLimit_1 rfl (lv_at hl 1 rfl) ?_
  refine zz_callV (pc := 2) (As := [.int (zI a)]) (rest := []) S (c_X6_isPosition l D cI cR o a1 a2 a3 a4 a5 a6 ed C V Ac w n P X Y L a hok.1 hR hset (by unfold zR; omega)) (zuV wd_360 wd_357 wd_358 wd_359 wd_5) 1 rfl q_X6_isPosition ⟨⟨rfl, rfl⟩, Nat.le_of_ble_eq_true rfl, Nat.le_of_ble_eq_true rfl⟩ hG [0, 1] rfl 0 rfl rfl rfl rfl rfl (Nat.le_of_ble_eq_true rfl) hl.1 ⟨Nat.zero_le _, Nat.zero_le _⟩ dX6_cornerLimit_2 ?_
  refine zz_ifb_ne (pc := 5) (tgt := 10) S dX6_cornerLimit_5 (by decide) (fun c5 => ?_) (fun c5 => ?_)
  · refine lv_aload_n (pc := 10) S.1 S.2.1 dX6_cornerLimit_10 rfl (lv_at hl 0 rfl) ?_
    refine lv_iload_n (pc := 11) S.1 S.2.1 dX6_cornerLimit_11 rfl (lv_at hl 1 rfl) ?_
    refine zz_callV (pc := 12) (As := [.int (zI a)]) (rest := []) S (c_X6_isLinked l D cI cR o a1 a2 a3 a4 a5 a6 ed C V Ac w n P X Y L a hok hR hset (by omega)) (zuV wd_471 wd_468 wd_469 wd_470 wd_5) 1 rfl q_X6_isLinked ⟨⟨rfl, rfl⟩, Nat.le_of_ble_eq_true rfl, Nat.le_of_ble_eq_true rfl⟩ hG [0, 1] rfl 0 rfl rfl rfl rfl rfl (Nat.le_of_ble_eq_true rfl) hl.1 ⟨Nat.zero_le _, Nat.zero_le _⟩ dX6_cornerLimit_12 ?_
    refine zz_ifb_eq (pc := 15) (tgt := 26) S dX6_cornerLimit_15 (by decide) (fun c15 => ?_) (fun c15 => ?_)
    · refine zz_bipush (pc := 26) (v := zI (-3)) S dX6_cornerLimit_26 rfl ?_
      exact zz_iretS (pc := 28) S hr hlocks (congrArg zI (a₁ := (-3)) (by first | exact (an_cornerN (by omega)).symm | exact (an_cornerT (by omega) c15.2).symm | exact (an_cornerF (by omega) (fun q => c15 ⟨by omega, q⟩)).symm)) dX6_cornerLimit_28
    · have hl : lv_has ls 2 [(0, .ref o), (1, .int (nI a.toNat))] := by rw [← (zn_of (z := a) (n := a.toNat) (by omega))]; exact hl
      refine lv_aload_n (pc := 18) S.1 S.2.1 dX6_cornerLimit_18 rfl (lv_at hl 0 rfl) ?_
      refine lv_iload_n (pc := 19) S.1 S.2.1 dX6_cornerLimit_19 rfl (lv_at hl 1 rfl) ?_
      refine zz_callV (pc := 20) (As := [.int (nI a.toNat)]) (rest := []) S (c_X6_corner l D cI cR o a1 a2 a3 a4 a5 a6 ed C V Ac w n P X Y L a.toNat hok hR hset (by omega)) (zuV wd_630 wd_627 wd_628 wd_629 wd_5) 1 rfl q_X6_corner ⟨⟨rfl, rfl⟩, Nat.le_of_ble_eq_true rfl, Nat.le_of_ble_eq_true rfl⟩ hG [0, 1] rfl 0 rfl rfl rfl rfl rfl (Nat.le_of_ble_eq_true rfl) hl.1 ⟨Nat.zero_le _, Nat.zero_le _⟩ dX6_cornerLimit_20 ?_
      have g1 := crn_le X Y V (L a.toNat) (L (a.toNat + 1))
      refine lv_goto (pc := 23) (tgt := 28) S.1 S.2.1 dX6_cornerLimit_23 (by decide) ?_
      exact zz_iretS (pc := 28) S hr hlocks (congrArg zI (a₁ := ((crn X Y V (L a.toNat) (L (a.toNat + 1)) : Nat) : Int)) (by first | exact (an_cornerN (by omega)).symm | exact (an_cornerT (by omega) c15.2).symm | exact (an_cornerF (by omega) (fun q => c15 ⟨by omega, q⟩)).symm)) dX6_cornerLimit_28
  · refine zz_iconst (pc := 8) (v := zI (-1)) S dX6_cornerLimit_8 rfl ?_
    exact zz_iretS (pc := 9) S hr hlocks (congrArg zI (a₁ := (-1)) (by first | exact (an_cornerN (by omega)).symm | exact (an_cornerT (by omega) c15.2).symm | exact (an_cornerF (by omega) (fun q => c15 ⟨by omega, q⟩)).symm)) dX6_cornerLimit_9
abbrev wm_X6_gain : List Cond := .code yX6_gain cX6_gain 2 (some .int) :: wU
theorem q_X6_gain : yX6_gain.cls = RX6 ∧ yX6_gain.cls ≠ "java/lang/invoke/MethodHandle" ∧ yX6_gain.cls ≠ "java/lang/invoke/VarHandle" ∧ (parseMethodDescriptor yX6_gain.desc).map (fun d => d.parameters.length) = some 1 := by decide +kernel
set_option maxHeartbeats 4000000 in
set_option maxRecDepth 100000 in
theorem c_X6_gain (l : Launch) (D : va_G) (cI cR : ClassId) (o a1 a2 a3 a4 a5 a6 ed C V Ac : Nat) (w : Nat → Nat) (n : Nat) (P X Y L : Nat → Nat) (a : Nat) (hok : zOk n P X Y L) (hR : zRl w n P X Y L) (hset : zSt C V Ac) (ha : a < n) : Met l yX6_gain wm_X6_gain ({ frames := 2, cells := 0, slots := 0, locals := 42 } : Room) (va_Pc [.ref o, .int (nI a)] (zW D cI cR [(o, .inr (6, [.ref a1, .ref a2, .int (nI ed), .int (nI C), .int (nI V), .int (nI Ac), .ref a3, .ref a4, .ref a5, .ref a6])), (a1, zA cI 49 w)])) (vp_Si (fun r => r = nI (2 * Ac * lng X Y (L a)))) 0 0 (fun _ => False) := by
  refine Met.ofW (cc := cX6_gain) (maxL := 2) (ret := (some .int)) (by decide) rfl ?_
  intro p e s m args below meth c s₁ B hml hv
  obtain ⟨rfl, hG⟩ := hv
  have S : CallFix p m c cX6_gain 2 s ([.ref o, .int (nI a)] : List Value).toArray wU RX6 := ⟨B.exec, B.bytes, hml, findClass_of_methodNamed B.named, fun w h => atoms_spec (ws := wm_X6_gain) B.pre w (List.mem_cons_of_mem _ h)⟩
  have hr := B.returns
  have hlocks := B.notSynchronized
  have hG : zG D cI cR [(o, .inr (6, [.ref a1, .ref a2, .int (nI ed), .int (nI C), .int (nI V), .int (nI Ac), .ref a3, .ref a4, .ref a5, .ref a6])), (a1, zA cI 49 w)] s s.heap := hG
  have hl := lv_entry ([.ref o, .int (nI a)]) (n := 2) (Nat.le_of_ble_eq_true rfl)
  rw [lg_entry_eq]
  generalize (lg_sl ([.ref o, .int (nI a)]) ++ List.replicate (2 - (lg_sl ([.ref o, .int (nI a)])).length) Slot.unset).toArray = ls at hl ⊢
  have hl : lv_has ls 2 [(0, .ref o), (1, .int (nI a))] := hl
  obtain ⟨⟨hn, hPf, hXY⟩, hLf, hinj⟩ := id hok
  obtain ⟨hC, hV0, hAc⟩ := id hset
  refine zz_iconst (pc := 0) (v := nI 2) S dX6_gain_0 rfl ?_
  refine lv_aload_n (pc := 1) S.1 S.2.1 dX6_gain_1 rfl (lv_at hl 0 rfl) ?_
  refine zz_get (pc := 2) S hG iX6 0 rfl rfl 5 (by decide) wd_71 rfl rfl dX6_gain_2 ?_
  refine zz_imul (pc := 5) (v := nI (2 * Ac)) S dX6_gain_5 (n_mul _ _) ?_
  refine lv_aload_n (pc := 6) S.1 S.2.1 dX6_gain_6 rfl (lv_at hl 0 rfl) ?_
  refine lv_iload_n (pc := 7) S.1 S.2.1 dX6_gain_7 rfl (lv_at hl 1 rfl) ?_
  refine zz_callV (pc := 8) (As := [.int (nI a)]) (rest := [.int (nI (2 * Ac))]) S (c_X6_dx l D cI cR o a1 a2 a3 a4 a5 a6 ed C V Ac w n P X Y L a hok hR hset (by omega)) (zuV wd_634 wd_631 wd_632 wd_633 wd_5) 1 rfl q_X6_dx ⟨⟨rfl, rfl⟩, Nat.le_of_ble_eq_true rfl, Nat.le_of_ble_eq_true rfl⟩ hG [0, 1] rfl 0 rfl rfl rfl rfl rfl (Nat.le_of_ble_eq_true rfl) hl.1 ⟨Nat.zero_le _, Nat.zero_le _⟩ dX6_gain_8 ?_
  have g1 := dxx_rng (X := X) (n := n) (c := L a) (fun c h => (hXY c h).1) (hLf a (by omega))
  refine lv_aload_n (pc := 11) S.1 S.2.1 dX6_gain_11 rfl (lv_at hl 0 rfl) ?_
  refine lv_iload_n (pc := 12) S.1 S.2.1 dX6_gain_12 rfl (lv_at hl 1 rfl) ?_
  refine zz_callV (pc := 13) (As := [.int (nI a)]) (rest := [.int (zI (dxx X (L a))), .int (nI (2 * Ac))]) S (c_X6_dy l D cI cR o a1 a2 a3 a4 a5 a6 ed C V Ac w n P X Y L a hok hR hset (by omega)) (zuV wd_638 wd_635 wd_636 wd_637 wd_5) 1 rfl q_X6_dy ⟨⟨rfl, rfl⟩, Nat.le_of_ble_eq_true rfl, Nat.le_of_ble_eq_true rfl⟩ hG [0, 1] rfl 0 rfl rfl rfl rfl rfl (Nat.le_of_ble_eq_true rfl) hl.1 ⟨Nat.zero_le _, Nat.zero_le _⟩ dX6_gain_13 ?_
  have g2 := dxx_rng (X := Y) (n := n) (c := L a) (fun c h => (hXY c h).2) (hLf a (by omega))
  refine zz_callS (pc := 16) (As := [.int (zI (dxx X (L a))), .int (zI (dxx Y (L a)))]) (rest := [.int (nI (2 * Ac))]) S (c_X6_far l D cI cR (dxx X (L a)) (dxx Y (L a)) (by omega) (by omega)) (zuS wd_439 wd_437 wd_438 wd_5) 2 rfl q_X6_far.2 ⟨⟨rfl, rfl⟩, Nat.le_of_ble_eq_true rfl, Nat.le_of_ble_eq_true rfl⟩ rfl rfl (Nat.le_of_ble_eq_true rfl) hl.1 ⟨Nat.zero_le _, Nat.zero_le _⟩ dX6_gain_16 ?_
  have g3 := zfar_bd (a := (dxx X (L a))) (b := (dxx Y (L a))) (by omega) (by omega)
  refine zz_imul (pc := 19) (v := nI ((2 * Ac) * (zfar (dxx X (L a)) (dxx Y (L a))))) S dX6_gain_19 (n_mul _ _) ?_
  exact zz_iretS (pc := 20) S hr hlocks (congrArg nI (by rfl)) dX6_gain_20
