abbrev wm_X3_touch : List Cond := .code yX3_touch cX3_touch 5 (some .boolean) :: wU
theorem q_X3_touch : yX3_touch.cls = RX3 ∧ yX3_touch.cls ≠ "java/lang/invoke/MethodHandle" ∧ yX3_touch.cls ≠ "java/lang/invoke/VarHandle" ∧ (parseMethodDescriptor yX3_touch.desc).map (fun d => d.parameters.length) = some 3 := by decide +kernel
set_option maxHeartbeats 4000000 in
set_option maxRecDepth 100000 in
theorem c_X3_touch (l : Launch) (D : va_G) (cI cR : ClassId) (d e1 e2 e3 e4 n : Nat) (P X Y L : Nat → Nat) (a : Nat) (b : Nat) (hge : zGe n P X Y) (ha : a < n) (hb : b < n) : Met l yX3_touch wm_X3_touch ({ frames := 3, cells := 0, slots := 0, locals := 64 } : Room) (va_Pc [.ref d, .int (nI a), .int (nI b)] (zW D cI cR [(d, .inr (1, [.int (nI n), .ref e1, .ref e2, .ref e3, .ref e4])), (e1, zA cI 8 P), (e2, zA cI 16 X), (e3, zA cI 16 Y), (e4, zA cI 8 L)])) (vp_Si (fun r => r = nI (zB (tcb X Y a b = true)))) 0 0 (fun _ => False) := by
  refine Met.ofW (cc := cX3_touch) (maxL := 5) (ret := (some .boolean)) (by decide) rfl ?_
  intro p e s m args below meth c s₁ B hml hv
  obtain ⟨rfl, hG⟩ := hv
  have S : CallFix p m c cX3_touch 5 s ([.ref d, .int (nI a), .int (nI b)] : List Value).toArray wU RX3 := ⟨B.exec, B.bytes, hml, findClass_of_methodNamed B.named, fun w h => atoms_spec (ws := wm_X3_touch) B.pre w (List.mem_cons_of_mem _ h)⟩
  have hr := B.returns
  have hlocks := B.notSynchronized
  have hG : zG D cI cR [(d, .inr (1, [.int (nI n), .ref e1, .ref e2, .ref e3, .ref e4])), (e1, zA cI 8 P), (e2, zA cI 16 X), (e3, zA cI 16 Y), (e4, zA cI 8 L)] s s.heap := hG
  have hl := lv_entry ([.ref d, .int (nI a), .int (nI b)]) (n := 5) (Nat.le_of_ble_eq_true rfl)
  rw [lg_entry_eq]
  generalize (lg_sl ([.ref d, .int (nI a), .int (nI b)]) ++ List.replicate (5 - (lg_sl ([.ref d, .int (nI a), .int (nI b)])).length) Slot.unset).toArray = ls at hl ⊢
  have hl : lv_has ls 5 [(0, .ref d), (1, .int (nI a)), (2, .int (nI b))] := hl
  obtain ⟨hn, hPf, hXY⟩ := id hge
  have J1 : ∀ ls : Array Slot, lv_has ls 5 [(0, .ref d), (1, .int (nI a)), (2, .int (nI b))] → W p l e (headSpec wm_X3_touch ({ frames := 3, cells := 0, slots := 0, locals := 64 } : Room)).room s m ([.ref d, .int (nI a), .int (nI b)] : List Value).toArray below meth c s.heap [] 0 0 (MQ below (vp_Si (fun r => r = nI (zB (tcb X Y a b = true)))) ([.ref d, .int (nI a), .int (nI b)] : List Value).toArray s 0 0 (fun _ => False)) (F0 m 62 ls [.int (nI (zB (tcb X Y a b = true)))]) := by
    intro ls hl
    exact zz_bretS (pc := 62) S hr hlocks (zB_nar _) (rfl) dX3_touch_62
  refine zz_iconst (pc := 0) (v := nI 2) S dX3_touch_0 rfl ?_
  refine lv_iload_n (pc := 1) S.1 S.2.1 dX3_touch_1 rfl (lv_at hl 1 rfl) ?_
  refine zz_imul (pc := 2) (v := nI (2 * a)) S dX3_touch_2 (n_mul _ _) ?_
  refine lv_istore_n (pc := 3) (lv' := [(3, .int (nI (2 * a))), (0, .ref d), (1, .int (nI a)), (2, .int (nI b))]) S.1 S.2.1 dX3_touch_3 rfl hl (by decide) rfl (fun ls hl => ?_)
  refine zz_iconst (pc := 4) (v := nI 2) S dX3_touch_4 rfl ?_
  refine lv_iload_n (pc := 5) S.1 S.2.1 dX3_touch_5 rfl (lv_at hl 3 rfl) ?_
  refine zz_imul (pc := 6) (v := nI (2 * b)) S dX3_touch_6 (n_mul _ _) ?_
  refine lv_istore (pc := 7) (lv' := [(4, .int (nI (2 * b))), (3, .int (nI (2 * a))), (0, .ref d), (1, .int (nI a)), (2, .int (nI b))]) S.1 S.2.1 dX3_touch_7 hl (by decide) rfl (fun ls hl => ?_)
  refine lv_aload_n (pc := 9) S.1 S.2.1 dX3_touch_9 rfl (lv_at hl 2 rfl) ?_
  refine lv_iload_n (pc := 10) S.1 S.2.1 dX3_touch_10 rfl (lv_at hl 1 rfl) ?_
  refine lv_iload (pc := 11) S.1 S.2.1 dX3_touch_11 (lv_at hl 0 rfl) ?_
  refine zz_callV (pc := 13) (As := [.int (nI (2 * a)), .int (nI (2 * b))]) (rest := []) S (c_X1_samePoint l D cI cR d e1 e2 e3 e4 n P X Y L (2 * a) (2 * b) hge (by omega) (by omega)) (zuV wd_210 wd_303 wd_208 wd_209 wd_14) 2 rfl q_X1_samePoint ⟨⟨rfl, rfl⟩, Nat.le_of_ble_eq_true rfl, Nat.le_of_ble_eq_true rfl⟩ hG [0, 1, 2, 3, 4] rfl 0 rfl rfl rfl rfl rfl (Nat.le_of_ble_eq_true rfl) hl.1 ⟨Nat.zero_le _, Nat.zero_le _⟩ dX3_touch_13 ?_
  refine zz_ifb_ne (pc := 16) (tgt := 57) S dX3_touch_16 (by decide) (fun c16 => ?_) (fun c16 => ?_)
  · refine zz_iconst (pc := 57) (v := nI 1) S dX3_touch_57 rfl ?_
    refine lv_goto (pc := 58) (tgt := 62) S.1 S.2.1 dX3_touch_58 (by decide) ?_
    refine zz_cast (v := nI (zB (tcb X Y a b = true))) (congrArg nI (zB_t (by first | exact tcb_t (Or.inl c16) | exact tcb_t (Or.inr (Or.inl c28)) | exact tcb_t (Or.inr (Or.inr (Or.inl c40))) | exact tcb_t (Or.inr (Or.inr (Or.inr c54))) | (intro z; rcases tcb_e z with z | z | z | z; exact c16 z; exact c28 z; exact c40 z; exact c54 z))).symm) ?_
    exact J1 ls (lv_sub hl [2, 3, 4] rfl)
  · refine lv_aload_n (pc := 19) S.1 S.2.1 dX3_touch_19 rfl (lv_at hl 2 rfl) ?_
    refine lv_iload_n (pc := 20) S.1 S.2.1 dX3_touch_20 rfl (lv_at hl 1 rfl) ?_
    refine lv_iload (pc := 21) S.1 S.2.1 dX3_touch_21 (lv_at hl 0 rfl) ?_
    refine zz_iconst (pc := 23) (v := nI 1) S dX3_touch_23 rfl ?_
    refine zz_iadd (pc := 24) (v := nI (2 * b + 1)) S dX3_touch_24 (n_add _ _) ?_
    refine zz_callV (pc := 25) (As := [.int (nI (2 * a)), .int (nI (2 * b + 1))]) (rest := []) S (c_X1_samePoint l D cI cR d e1 e2 e3 e4 n P X Y L (2 * a) (2 * b + 1) hge (by omega) (by omega)) (zuV wd_210 wd_303 wd_208 wd_209 wd_14) 2 rfl q_X1_samePoint ⟨⟨rfl, rfl⟩, Nat.le_of_ble_eq_true rfl, Nat.le_of_ble_eq_true rfl⟩ hG [0, 1, 2, 3, 4] rfl 0 rfl rfl rfl rfl rfl (Nat.le_of_ble_eq_true rfl) hl.1 ⟨Nat.zero_le _, Nat.zero_le _⟩ dX3_touch_25 ?_
    refine zz_ifb_ne (pc := 28) (tgt := 57) S dX3_touch_28 (by decide) (fun c28 => ?_) (fun c28 => ?_)
    · refine zz_iconst (pc := 57) (v := nI 1) S dX3_touch_57 rfl ?_
      refine lv_goto (pc := 58) (tgt := 62) S.1 S.2.1 dX3_touch_58 (by decide) ?_
      refine zz_cast (v := nI (zB (tcb X Y a b = true))) (congrArg nI (zB_t (by first | exact tcb_t (Or.inl c16) | exact tcb_t (Or.inr (Or.inl c28)) | exact tcb_t (Or.inr (Or.inr (Or.inl c40))) | exact tcb_t (Or.inr (Or.inr (Or.inr c54))) | (intro z; rcases tcb_e z with z | z | z | z; exact c16 z; exact c28 z; exact c40 z; exact c54 z))).symm) ?_
      exact J1 ls (lv_sub hl [2, 3, 4] rfl)
    · refine lv_aload_n (pc := 31) S.1 S.2.1 dX3_touch_31 rfl (lv_at hl 2 rfl) ?_
      refine lv_iload_n (pc := 32) S.1 S.2.1 dX3_touch_32 rfl (lv_at hl 1 rfl) ?_
      refine zz_iconst (pc := 33) (v := nI 1) S dX3_touch_33 rfl ?_
      refine zz_iadd (pc := 34) (v := nI (2 * a + 1)) S dX3_touch_34 (n_add _ _) ?_
      refine lv_iload (pc := 35) S.1 S.2.1 dX3_touch_35 (lv_at hl 0 rfl) ?_
      refine zz_callV (pc := 37) (As := [.int (nI (2 * a + 1)), .int (nI (2 * b))]) (rest := []) S (c_X1_samePoint l D cI cR d e1 e2 e3 e4 n P X Y L (2 * a + 1) (2 * b) hge (by omega) (by omega)) (zuV wd_210 wd_303 wd_208 wd_209 wd_14) 2 rfl q_X1_samePoint ⟨⟨rfl, rfl⟩, Nat.le_of_ble_eq_true rfl, Nat.le_of_ble_eq_true rfl⟩ hG [0, 1, 2, 3, 4] rfl 0 rfl rfl rfl rfl rfl (Nat.le_of_ble_eq_true rfl) hl.1 ⟨Nat.zero_le _, Nat.zero_le _⟩ dX3_touch_37 ?_
      refine zz_ifb_ne (pc := 40) (tgt := 57) S dX3_touch_40 (by decide) (fun c40 => ?_) (fun c40 => ?_)
      · refine zz_iconst (pc := 57) (v := nI 1) S dX3_touch_57 rfl ?_
        refine lv_goto (pc := 58) (tgt := 62) S.1 S.2.1 dX3_touch_58 (by decide) ?_
        refine zz_cast (v := nI (zB (tcb X Y a b = true))) (congrArg nI (zB_t (by first | exact tcb_t (Or.inl c16) | exact tcb_t (Or.inr (Or.inl c28)) | exact tcb_t (Or.inr (Or.inr (Or.inl c40))) | exact tcb_t (Or.inr (Or.inr (Or.inr c54))) | (intro z; rcases tcb_e z with z | z | z | z; exact c16 z; exact c28 z; exact c40 z; exact c54 z))).symm) ?_
        exact J1 ls (lv_sub hl [2, 3, 4] rfl)
      · refine lv_aload_n (pc := 43) S.1 S.2.1 dX3_touch_43 rfl (lv_at hl 2 rfl) ?_
        refine lv_iload_n (pc := 44) S.1 S.2.1 dX3_touch_44 rfl (lv_at hl 1 rfl) ?_
        refine zz_iconst (pc := 45) (v := nI 1) S dX3_touch_45 rfl ?_
        refine zz_iadd (pc := 46) (v := nI (2 * a + 1)) S dX3_touch_46 (n_add _ _) ?_
        refine lv_iload (pc := 47) S.1 S.2.1 dX3_touch_47 (lv_at hl 0 rfl) ?_
        refine zz_iconst (pc := 49) (v := nI 1) S dX3_touch_49 rfl ?_
        refine zz_iadd (pc := 50) (v := nI (2 * b + 1)) S dX3_touch_50 (n_add _ _) ?_
        refine zz_callV (pc := 51) (As := [.int (nI (2 * a + 1)), .int (nI (2 * b + 1))]) (rest := []) S (c_X1_samePoint l D cI cR d e1 e2 e3 e4 n P X Y L (2 * a + 1) (2 * b + 1) hge (by omega) (by omega)) (zuV wd_210 wd_303 wd_208 wd_209 wd_14) 2 rfl q_X1_samePoint ⟨⟨rfl, rfl⟩, Nat.le_of_ble_eq_true rfl, Nat.le_of_ble_eq_true rfl⟩ hG [0, 1, 2, 3, 4] rfl 0 rfl rfl rfl rfl rfl (Nat.le_of_ble_eq_true rfl) hl.1 ⟨Nat.zero_le _, Nat.zero_le _⟩ dX3_touch_51 ?_
        refine zz_ifb_eq (pc := 54) (tgt := 61) S dX3_touch_54 (by decide) (fun c54 => ?_) (fun c54 => ?_)
        · refine zz_iconst (pc := 61) (v := nI 0) S dX3_touch_61 rfl ?_
          refine zz_cast (v := nI (zB (tcb X Y a b = true))) (congrArg nI (zB_f (by first | exact tcb_t (Or.inl c16) | exact tcb_t (Or.inr (Or.inl c28)) | exact tcb_t (Or.inr (Or.inr (Or.inl c40))) | exact tcb_t (Or.inr (Or.inr (Or.inr c54))) | (intro z; rcases tcb_e z with z | z | z | z; exact c16 z; exact c28 z; exact c40 z; exact c54 z))).symm) ?_
          exact J1 ls (lv_sub hl [2, 3, 4] rfl)
        · refine zz_iconst (pc := 57) (v := nI 1) S dX3_touch_57 rfl ?_
          refine lv_goto (pc := 58) (tgt := 62) S.1 S.2.1 dX3_touch_58 (by decide) ?_
          refine zz_cast (v := nI (zB (tcb X Y a b = true))) (congrArg nI (zB_t (by first | exact tcb_t (Or.inl c16) | exact tcb_t (Or.inr (Or.inl c28)) | exact tcb_t (Or.inr (Or.inr (Or.inl c40))) | exact tcb_t (Or.inr (Or.inr (Or.inr c54))) | (intro z; rcases tcb_e z with z | z | z | z; exact c16 z; exact c28 z; exact c40 z; exact c54 z))).symm) ?_
          exact J1 ls (lv_sub hl [2, 3, 4] rfl)
abbrev wm_X3_rename : List Cond := .code yX3_rename cX3_rename 5 none :: wU
theorem q_X3_rename : yX3_rename.cls = RX3 ∧ yX3_rename.cls ≠ "java/lang/invoke/MethodHandle" ∧ yX3_rename.cls ≠ "java/lang/invoke/VarHandle" ∧ (parseMethodDescriptor yX3_rename.desc).map (fun d => d.parameters.length) = some 3 := by decide +kernel
set_option maxHeartbeats 4000000 in
set_option maxRecDepth 100000 in
theorem c_X3_rename (l : Launch) (D : va_G) (cI cR : ClassId) (g g1 : Nat) (cm : Nat → Nat)  (a : Nat) (b : Nat) (t : Nat) (sz : Nat) (ht : t ≤ 8) (ha : a < 8) (hcm : ∀ x, x < t → cm x < 8) : Met l yX3_rename wm_X3_rename ({ frames := 0, cells := 0, slots := 0, locals := 0 } : Room) (va_Pc [.ref g, .int (nI a), .int (nI b), .int (nI t)] (zX D cI cR [(g, .inr (3, [.ref g1])), (g1, zA cI 8 cm)] sz)) (zQv D cI cR (va_A [(g, .inr (3, [.ref g1])), (g1, zA cI 8 cm)] sz) (fun w => w = [(g, .inr (3, [.ref g1])), (g1, zA cI 8 (rnl cm a b t))])) 0 0 (va_A [(g, .inr (3, [.ref g1])), (g1, zA cI 8 cm)] sz) := by
  refine Met.ofW (cc := cX3_rename) (maxL := 5) (ret := none) (by decide) rfl ?_
  intro p e s m args below meth c s₁ B hml hv
  obtain ⟨rfl, hsz, hG, hD0⟩ := hv
  have S : CallFix p m c cX3_rename 5 s ([.ref g, .int (nI a), .int (nI b), .int (nI t)] : List Value).toArray wU RX3 := ⟨B.exec, B.bytes, hml, findClass_of_methodNamed B.named, fun w h => atoms_spec (ws := wm_X3_rename) B.pre w (List.mem_cons_of_mem _ h)⟩
  have hr := B.returns
  have hlocks := B.notSynchronized
  subst hsz
  have hD := hD0.self (sz := s.heap.size)
  generalize hAe : va_A [(g, .inr (3, [.ref g1])), (g1, zA cI 8 cm)] s.heap.size = A at hD ⊢
  have hV : zV D cI cR A [(g, .inr (3, [.ref g1])), (g1, zA cI 8 cm)] s s.heap [] := ⟨hG, hD, va_S.rf, fun q h => by rw [← hAe]; exact Or.inr h⟩
  have hl := lv_entry ([.ref g, .int (nI a), .int (nI b), .int (nI t)]) (n := 5) (Nat.le_of_ble_eq_true rfl)
  rw [lg_entry_eq]
  generalize (lg_sl ([.ref g, .int (nI a), .int (nI b), .int (nI t)]) ++ List.replicate (5 - (lg_sl ([.ref g, .int (nI a), .int (nI b), .int (nI t)])).length) Slot.unset).toArray = ls at hl ⊢
  have hl : lv_has ls 5 [(0, .ref g), (1, .int (nI a)), (2, .int (nI b)), (3, .int (nI t))] := hl
  refine zz_iconst (pc := 0) (v := nI 0) S dX3_rename_0 rfl ?_
  refine lv_istore (pc := 1) (lv' := [(4, .int (nI 0)), (0, .ref g), (1, .int (nI a)), (2, .int (nI b)), (3, .int (nI t))]) S.1 S.2.1 dX3_rename_1 hl (by decide) rfl (fun ls hl => ?_)
  have L1 : ∀ (f : Nat) (k : Nat), (k ≤ t) → t - k < f → ∀ (H : Heap) (locs : List Loc), zV D cI cR A [(g, .inr (3, [.ref g1])), (g1, zA cI 8 (rnl cm a b k))] s H locs → ∀ ls : Array Slot, lv_has ls 5 [(0, .ref g), (1, .int (nI a)), (2, .int (nI b)), (3, .int (nI t)), (4, .int (nI k))] → W p l e (headSpec wm_X3_rename ({ frames := 0, cells := 0, slots := 0, locals := 0 } : Room)).room s m ([.ref g, .int (nI a), .int (nI b), .int (nI t)] : List Value).toArray below meth c H locs 0 0 (MQ below (zQv D cI cR A (fun w => w = [(g, .inr (3, [.ref g1])), (g1, zA cI 8 (rnl cm a b t))])) ([.ref g, .int (nI a), .int (nI b), .int (nI t)] : List Value).toArray s 0 0 A) (F0 m 3 ls []) := by
    intro f
    induction f with
    | zero => intro k hk hf; exact absurd hf (Nat.not_lt_zero _)
    | succ f ih2 =>
      intro k hk hf H locs hV ls hl
      refine lv_iload (pc := 3) S.1 S.2.1 dX3_rename_3 (lv_at hl 4 rfl) ?_
      refine lv_iload_n (pc := 5) S.1 S.2.1 dX3_rename_5 rfl (lv_at hl 3 rfl) ?_
      refine zz_icmp_ge (pc := 6) (tgt := 34) S dX3_rename_6 (by decide) (n_le (by omega) (by omega)) (fun c6 => ?_) (fun c6 => ?_)
      · have hV : zV D cI cR A [(g, .inr (3, [.ref g1])), (g1, zA cI 8 (rnl cm a b t))] s H locs := hV.arr 1 rfl (fun j hj => by rw [show k = t by omega]) rfl
        exact zz_vretM (pc := 34) S hr hlocks hV (rfl) dX3_rename_34
      · have hck := hcm k (by omega)
        refine lv_aload_n (pc := 9) S.1 S.2.1 dX3_rename_9 rfl (lv_at hl 0 rfl) ?_
        refine zz_get (pc := 10) S hV.1 iX3 0 rfl rfl 0 (by decide) wd_58 rfl rfl dX3_rename_10 ?_
        refine lv_iload (pc := 13) S.1 S.2.1 dX3_rename_13 (lv_at hl 4 rfl) ?_
        refine zz_iald (pc := 15) (k := k) S hV.1 1 rfl (by omega) dX3_rename_15 ?_
        refine zz_cast (v := nI (cm k)) (congrArg nI (rnl_k cm a b k)) ?_
        refine lv_iload_n (pc := 16) S.1 S.2.1 dX3_rename_16 rfl (lv_at hl 1 rfl) ?_
        refine zz_icmp_ne (pc := 17) (tgt := 28) S dX3_rename_17 (by decide) (n_eq (by omega) (by omega)) (fun c17 => ?_) (fun c17 => ?_)
        · refine lv_iinc (pc := 28) (v := nI (k + 1)) (lv' := [(4, .int (nI (k + 1))), (0, .ref g), (1, .int (nI a)), (2, .int (nI b)), (3, .int (nI t))]) S.1 S.2.1 dX3_rename_28 hl (k := 4) rfl (n_add _ _) (by decide) rfl (fun ls hl => ?_)
          refine lv_goto (pc := 31) (tgt := 3) S.1 S.2.1 dX3_rename_31 (by decide) ?_
          have hV : zV D cI cR A [(g, .inr (3, [.ref g1])), (g1, zA cI 8 (rnl cm a b (k + 1)))] s H locs := hV.arr 1 rfl (fun j hj => by first | exact rnl_t c17 j | exact rnl_f c17 j) rfl
          exact ih2 (k + 1) (by omega) (by omega) H locs hV ls (lv_sub hl [1, 2, 3, 4, 0] rfl)
        · refine lv_aload_n (pc := 20) S.1 S.2.1 dX3_rename_20 rfl (lv_at hl 0 rfl) ?_
          refine zz_get (pc := 21) S hV.1 iX3 0 rfl rfl 0 (by decide) wd_58 rfl rfl dX3_rename_21 ?_
          refine lv_iload (pc := 24) S.1 S.2.1 dX3_rename_24 (lv_at hl 4 rfl) ?_
          refine lv_iload_n (pc := 26) S.1 S.2.1 dX3_rename_26 rfl (lv_at hl 2 rfl) ?_
          refine zz_iast (pc := 27) (k := k) (v := b) S hV 1 rfl (by omega) (ws' := [(g, .inr (3, [.ref g1])), (g1, zA cI 8 (va_up (rnl cm a b k) k b))]) rfl dX3_rename_27 (fun H locs hV => ?_)
          refine lv_iinc (pc := 28) (v := nI (k + 1)) (lv' := [(4, .int (nI (k + 1))), (0, .ref g), (1, .int (nI a)), (2, .int (nI b)), (3, .int (nI t))]) S.1 S.2.1 dX3_rename_28 hl (k := 4) rfl (n_add _ _) (by decide) rfl (fun ls hl => ?_)
          refine lv_goto (pc := 31) (tgt := 3) S.1 S.2.1 dX3_rename_31 (by decide) ?_
          have hV : zV D cI cR A [(g, .inr (3, [.ref g1])), (g1, zA cI 8 (rnl cm a b (k + 1)))] s H locs := hV.arr 1 rfl (fun j hj => by first | exact rnl_t c17 j | exact rnl_f c17 j) rfl
          exact ih2 (k + 1) (by omega) (by omega) H locs hV ls (lv_sub hl [1, 2, 3, 4, 0] rfl)
  have hV : zV D cI cR A [(g, .inr (3, [.ref g1])), (g1, zA cI 8 (rnl cm a b 0))] s s.heap [] := hV.arr 1 rfl (fun j hj => by exact rnl_0 cm a b j) rfl
  exact L1 (t - 0 + 1) 0 (by omega) (Nat.lt_succ_self _) s.heap [] hV ls (lv_sub hl [1, 2, 3, 4, 0] rfl)
abbrev wm_X3_joinComponents : List Cond := .code yX3_joinComponents cX3_joinComponents 6 none :: wU
theorem q_X3_joinComponents : yX3_joinComponents.cls = RX3 ∧ yX3_joinComponents.cls ≠ "java/lang/invoke/MethodHandle" ∧ yX3_joinComponents.cls ≠ "java/lang/invoke/VarHandle" ∧ (parseMethodDescriptor yX3_joinComponents.desc).map (fun d => d.parameters.length) = some 3 := by decide +kernel
set_option maxHeartbeats 4000000 in
set_option maxRecDepth 100000 in
theorem c_X3_joinComponents (l : Launch) (D : va_G) (cI cR : ClassId) (g g1 : Nat) (cm : Nat → Nat) (d e1 e2 e3 e4 n : Nat) (P X Y L : Nat → Nat) (q : Nat) (sz : Nat) (hge : zGe n P X Y) (hq : q ≤ 3) : Met l yX3_joinComponents wm_X3_joinComponents ({ frames := 4, cells := 0, slots := 0, locals := 88 } : Room) (va_Pc [.ref g, .ref d, .int (nI q), .int (nI n)] (zX D cI cR [(g, .inr (3, [.ref g1])), (g1, zA cI 8 cm), (d, .inr (1, [.int (nI n), .ref e1, .ref e2, .ref e3, .ref e4])), (e1, zA cI 8 P), (e2, zA cI 16 X), (e3, zA cI 16 Y), (e4, zA cI 8 L)] sz)) (zQv D cI cR (va_A [(g, .inr (3, [.ref g1])), (g1, zA cI 8 cm), (d, .inr (1, [.int (nI n), .ref e1, .ref e2, .ref e3, .ref e4])), (e1, zA cI 8 P), (e2, zA cI 16 X), (e3, zA cI 16 Y), (e4, zA cI 8 L)] sz) (fun w => ∃ (cm5 : Nat → Nat), w = [(g, .inr (3, [.ref g1])), (g1, zA cI 8 cm5), (d, .inr (1, [.int (nI n), .ref e1, .ref e2, .ref e3, .ref e4])), (e1, zA cI 8 P), (e2, zA cI 16 X), (e3, zA cI 16 Y), (e4, zA cI 8 L)] ∧ (∀ x, x < n → cm5 x = jco P X Y q n x))) 0 0 (va_A [(g, .inr (3, [.ref g1])), (g1, zA cI 8 cm), (d, .inr (1, [.int (nI n), .ref e1, .ref e2, .ref e3, .ref e4])), (e1, zA cI 8 P), (e2, zA cI 16 X), (e3, zA cI 16 Y), (e4, zA cI 8 L)] sz) := by
  refine Met.ofW (cc := cX3_joinComponents) (maxL := 6) (ret := none) (by decide) rfl ?_
  intro p e s m args below meth c s₁ B hml hv
  obtain ⟨rfl, hsz, hG, hD0⟩ := hv
  have S : CallFix p m c cX3_joinComponents 6 s ([.ref g, .ref d, .int (nI q), .int (nI n)] : List Value).toArray wU RX3 := ⟨B.exec, B.bytes, hml, findClass_of_methodNamed B.named, fun w h => atoms_spec (ws := wm_X3_joinComponents) B.pre w (List.mem_cons_of_mem _ h)⟩
  have hr := B.returns
  have hlocks := B.notSynchronized
  subst hsz
  have hD := hD0.self (sz := s.heap.size)
  generalize hAe : va_A [(g, .inr (3, [.ref g1])), (g1, zA cI 8 cm), (d, .inr (1, [.int (nI n), .ref e1, .ref e2, .ref e3, .ref e4])), (e1, zA cI 8 P), (e2, zA cI 16 X), (e3, zA cI 16 Y), (e4, zA cI 8 L)] s.heap.size = A at hD ⊢
  have hV : zV D cI cR A [(g, .inr (3, [.ref g1])), (g1, zA cI 8 cm), (d, .inr (1, [.int (nI n), .ref e1, .ref e2, .ref e3, .ref e4])), (e1, zA cI 8 P), (e2, zA cI 16 X), (e3, zA cI 16 Y), (e4, zA cI 8 L)] s s.heap [] := ⟨hG, hD, va_S.rf, fun q h => by rw [← hAe]; exact Or.inr h⟩
  have hl := lv_entry ([.ref g, .ref d, .int (nI q), .int (nI n)]) (n := 6) (Nat.le_of_ble_eq_true rfl)
  rw [lg_entry_eq]
  generalize (lg_sl ([.ref g, .ref d, .int (nI q), .int (nI n)]) ++ List.replicate (6 - (lg_sl ([.ref g, .ref d, .int (nI q), .int (nI n)])).length) Slot.unset).toArray = ls at hl ⊢
  have hl : lv_has ls 6 [(0, .ref g), (1, .ref d), (2, .int (nI q)), (3, .int (nI n))] := hl
  obtain ⟨hn, hPf, hXY⟩ := id hge
  refine zz_iconst (pc := 0) (v := nI 0) S dX3_joinComponents_0 rfl ?_
  refine lv_istore (pc := 1) (lv' := [(4, .int (nI 0)), (0, .ref g), (1, .ref d), (2, .int (nI q)), (3, .int (nI n))]) S.1 S.2.1 dX3_joinComponents_1 hl (by decide) rfl (fun ls hl => ?_)
  have L1 : ∀ (f : Nat) (k : Nat), (k ≤ n) → n - k < f → ∀ (H : Heap) (locs : List Loc), zV D cI cR A [(g, .inr (3, [.ref g1])), (g1, zA cI 8 (idr cm k)), (d, .inr (1, [.int (nI n), .ref e1, .ref e2, .ref e3, .ref e4])), (e1, zA cI 8 P), (e2, zA cI 16 X), (e3, zA cI 16 Y), (e4, zA cI 8 L)] s H locs → ∀ ls : Array Slot, lv_has ls 6 [(0, .ref g), (1, .ref d), (2, .int (nI q)), (3, .int (nI n)), (4, .int (nI k))] → W p l e (headSpec wm_X3_joinComponents ({ frames := 4, cells := 0, slots := 0, locals := 88 } : Room)).room s m ([.ref g, .ref d, .int (nI q), .int (nI n)] : List Value).toArray below meth c H locs 0 0 (MQ below (zQv D cI cR A (fun w => ∃ (cm5 : Nat → Nat), w = [(g, .inr (3, [.ref g1])), (g1, zA cI 8 cm5), (d, .inr (1, [.int (nI n), .ref e1, .ref e2, .ref e3, .ref e4])), (e1, zA cI 8 P), (e2, zA cI 16 X), (e3, zA cI 16 Y), (e4, zA cI 8 L)] ∧ (∀ x, x < n → cm5 x = jco P X Y q n x))) ([.ref g, .ref d, .int (nI q), .int (nI n)] : List Value).toArray s 0 0 A) (F0 m 3 ls []) := by
    intro f
    induction f with
    | zero => intro k hk hf; exact absurd hf (Nat.not_lt_zero _)
    | succ f ih2 =>
      intro k hk hf H locs hV ls hl
      refine lv_iload (pc := 3) S.1 S.2.1 dX3_joinComponents_3 (lv_at hl 4 rfl) ?_
      refine lv_iload_n (pc := 5) S.1 S.2.1 dX3_joinComponents_5 rfl (lv_at hl 3 rfl) ?_
      refine zz_icmp_ge (pc := 6) (tgt := 24) S dX3_joinComponents_6 (by decide) (n_le (by omega) (by omega)) (fun c6 => ?_) (fun c6 => ?_)
      · refine zz_iconst (pc := 24) (v := nI 0) S dX3_joinComponents_24 rfl ?_
        refine lv_istore (pc := 25) (lv' := [(4, .int (nI 0)), (0, .ref g), (1, .ref d), (2, .int (nI q)), (3, .int (nI n))]) S.1 S.2.1 dX3_joinComponents_25 hl (by decide) rfl (fun ls hl => ?_)
        have L3 : ∀ (f : Nat) (a : Nat) (r : Nat → Nat), (a ≤ n) → (∀ x, x < n → r x = jco P X Y q a x) → n - a < f → ∀ (H : Heap) (locs : List Loc), zV D cI cR A [(g, .inr (3, [.ref g1])), (g1, zA cI 8 r), (d, .inr (1, [.int (nI n), .ref e1, .ref e2, .ref e3, .ref e4])), (e1, zA cI 8 P), (e2, zA cI 16 X), (e3, zA cI 16 Y), (e4, zA cI 8 L)] s H locs → ∀ ls : Array Slot, lv_has ls 6 [(0, .ref g), (1, .ref d), (2, .int (nI q)), (3, .int (nI n)), (4, .int (nI a))] → W p l e (headSpec wm_X3_joinComponents ({ frames := 4, cells := 0, slots := 0, locals := 88 } : Room)).room s m ([.ref g, .ref d, .int (nI q), .int (nI n)] : List Value).toArray below meth c H locs 0 0 (MQ below (zQv D cI cR A (fun w => ∃ (cm5 : Nat → Nat), w = [(g, .inr (3, [.ref g1])), (g1, zA cI 8 cm5), (d, .inr (1, [.int (nI n), .ref e1, .ref e2, .ref e3, .ref e4])), (e1, zA cI 8 P), (e2, zA cI 16 X), (e3, zA cI 16 Y), (e4, zA cI 8 L)] ∧ (∀ x, x < n → cm5 x = jco P X Y q n x))) ([.ref g, .ref d, .int (nI q), .int (nI n)] : List Value).toArray s 0 0 A) (F0 m 27 ls []) := by
          intro f
          induction f with
          | zero => intro a r ha hjr hf; exact absurd hf (Nat.not_lt_zero _)
          | succ f ih4 =>
            intro a r ha hjr hf H locs hV ls hl
            refine lv_iload (pc := 27) S.1 S.2.1 dX3_joinComponents_27 (lv_at hl 4 rfl) ?_
            refine lv_iload_n (pc := 29) S.1 S.2.1 dX3_joinComponents_29 rfl (lv_at hl 3 rfl) ?_
            refine zz_icmp_ge (pc := 30) (tgt := 105) S dX3_joinComponents_30 (by decide) (n_le (by omega) (by omega)) (fun c30 => ?_) (fun c30 => ?_)
            · exact zz_vretM (pc := 105) S hr hlocks hV (⟨r, rfl, (by intro x hx; have q9 := hjr x hx; rw [show a = n by omega] at q9; exact q9)⟩) dX3_joinComponents_105
            · refine zz_iconst (pc := 33) (v := nI 0) S dX3_joinComponents_33 rfl ?_
              refine lv_istore (pc := 34) (lv' := [(5, .int (nI 0)), (0, .ref g), (1, .ref d), (2, .int (nI q)), (3, .int (nI n)), (4, .int (nI a))]) S.1 S.2.1 dX3_joinComponents_34 hl (by decide) rfl (fun ls hl => ?_)
              have L5 : ∀ (f : Nat) (b : Nat) (r2 : Nat → Nat), (b ≤ a) → (∀ x, x < n → r2 x = jin P X Y q (jco P X Y q a) a b x) → a - b < f → ∀ (H : Heap) (locs : List Loc), zV D cI cR A [(g, .inr (3, [.ref g1])), (g1, zA cI 8 r2), (d, .inr (1, [.int (nI n), .ref e1, .ref e2, .ref e3, .ref e4])), (e1, zA cI 8 P), (e2, zA cI 16 X), (e3, zA cI 16 Y), (e4, zA cI 8 L)] s H locs → ∀ ls : Array Slot, lv_has ls 6 [(0, .ref g), (1, .ref d), (2, .int (nI q)), (3, .int (nI n)), (4, .int (nI a)), (5, .int (nI b))] → W p l e (headSpec wm_X3_joinComponents ({ frames := 4, cells := 0, slots := 0, locals := 88 } : Room)).room s m ([.ref g, .ref d, .int (nI q), .int (nI n)] : List Value).toArray below meth c H locs 0 0 (MQ below (zQv D cI cR A (fun w => ∃ (cm5 : Nat → Nat), w = [(g, .inr (3, [.ref g1])), (g1, zA cI 8 cm5), (d, .inr (1, [.int (nI n), .ref e1, .ref e2, .ref e3, .ref e4])), (e1, zA cI 8 P), (e2, zA cI 16 X), (e3, zA cI 16 Y), (e4, zA cI 8 L)] ∧ (∀ x, x < n → cm5 x = jco P X Y q n x))) ([.ref g, .ref d, .int (nI q), .int (nI n)] : List Value).toArray s 0 0 A) (F0 m 36 ls []) := by
                intro f
                induction f with
                | zero => intro b r2 hb hr2 hf; exact absurd hf (Nat.not_lt_zero _)
                | succ f ih6 =>
                  intro b r2 hb hr2 hf H locs hV ls hl
                  have hbd : ∀ x, x < n → r2 x < n := fun x hx => by rw [hr2 x hx]; exact jin_b (by omega) hb x hx
                  have hb1 := hbd a (by omega)
                  refine lv_iload (pc := 36) S.1 S.2.1 dX3_joinComponents_36 (lv_at hl 5 rfl) ?_
                  refine lv_iload (pc := 38) S.1 S.2.1 dX3_joinComponents_38 (lv_at hl 4 rfl) ?_
                  refine zz_icmp_ge (pc := 40) (tgt := 99) S dX3_joinComponents_40 (by decide) (n_le (by omega) (by omega)) (fun c40 => ?_) (fun c40 => ?_)
                  · refine lv_iinc (pc := 99) (v := nI (a + 1)) (lv' := [(4, .int (nI (a + 1))), (0, .ref g), (1, .ref d), (2, .int (nI q)), (3, .int (nI n)), (5, .int (nI b))]) S.1 S.2.1 dX3_joinComponents_99 hl (k := 4) rfl (n_add _ _) (by decide) rfl (fun ls hl => ?_)
                    refine lv_goto (pc := 102) (tgt := 27) S.1 S.2.1 dX3_joinComponents_102 (by decide) ?_
                    exact ih4 (a + 1) r2 (by omega) (by intro x hx; have q9 := hr2 x hx; rw [show b = a by omega] at q9; exact q9) (by omega) H locs hV ls (lv_sub hl [1, 2, 3, 4, 0] rfl)
                  · refine lv_aload_n (pc := 43) S.1 S.2.1 dX3_joinComponents_43 rfl (lv_at hl 1 rfl) ?_
                    refine lv_iload (pc := 44) S.1 S.2.1 dX3_joinComponents_44 (lv_at hl 4 rfl) ?_
                    refine zz_callV (pc := 46) (As := [.int (nI a)]) (rest := []) S (c_X1_penOfStroke l D cI cR d e1 e2 e3 e4 n P X Y L a hge (by omega)) (zuV wd_185 wd_299 wd_183 wd_184 wd_14) 1 rfl q_X1_penOfStroke ⟨⟨rfl, rfl⟩, Nat.le_of_ble_eq_true rfl, Nat.le_of_ble_eq_true rfl⟩ hV.1 [2, 3, 4, 5, 6] rfl 2 rfl rfl rfl rfl rfl (Nat.le_of_ble_eq_true rfl) hl.1 ⟨Nat.zero_le _, Nat.zero_le _⟩ dX3_joinComponents_46 ?_
                    have g7 := hPf a (by omega)
                    refine lv_iload_n (pc := 49) S.1 S.2.1 dX3_joinComponents_49 rfl (lv_at hl 2 rfl) ?_
                    refine zz_icmp_ne (pc := 50) (tgt := 93) S dX3_joinComponents_50 (by decide) (n_eq (by omega) (by omega)) (fun c50 => ?_) (fun c50 => ?_)
                    · have hx : hiq (¬ (P a = q ∧ P b = q ∧ tch X Y a b)) := (fun z : (P a = q ∧ P b = q ∧ tch X Y a b) => c50 z.1)
                      refine lv_iinc (pc := 93) (v := nI (b + 1)) (lv' := [(5, .int (nI (b + 1))), (0, .ref g), (1, .ref d), (2, .int (nI q)), (3, .int (nI n)), (4, .int (nI a))]) S.1 S.2.1 dX3_joinComponents_93 hl (k := 5) rfl (n_add _ _) (by decide) rfl (fun ls hl => ?_)
                      refine lv_goto (pc := 96) (tgt := 36) S.1 S.2.1 dX3_joinComponents_96 (by decide) ?_
                      exact ih6 (b + 1) r2 (by omega) (by first | exact jst_t hr2 (by omega) (by omega) hx | exact jst_f hr2 hx) (by omega) H locs hV ls (lv_sub hl [1, 2, 3, 4, 5, 0] rfl)
                    · refine lv_aload_n (pc := 53) S.1 S.2.1 dX3_joinComponents_53 rfl (lv_at hl 1 rfl) ?_
                      refine lv_iload (pc := 54) S.1 S.2.1 dX3_joinComponents_54 (lv_at hl 5 rfl) ?_
                      refine zz_callV (pc := 56) (As := [.int (nI b)]) (rest := []) S (c_X1_penOfStroke l D cI cR d e1 e2 e3 e4 n P X Y L b hge (by omega)) (zuV wd_185 wd_299 wd_183 wd_184 wd_14) 1 rfl q_X1_penOfStroke ⟨⟨rfl, rfl⟩, Nat.le_of_ble_eq_true rfl, Nat.le_of_ble_eq_true rfl⟩ hV.1 [2, 3, 4, 5, 6] rfl 2 rfl rfl rfl rfl rfl (Nat.le_of_ble_eq_true rfl) hl.1 ⟨Nat.zero_le _, Nat.zero_le _⟩ dX3_joinComponents_56 ?_
                      have g8 := hPf b (by omega)
                      refine lv_iload_n (pc := 59) S.1 S.2.1 dX3_joinComponents_59 rfl (lv_at hl 2 rfl) ?_
                      refine zz_icmp_ne (pc := 60) (tgt := 93) S dX3_joinComponents_60 (by decide) (n_eq (by omega) (by omega)) (fun c60 => ?_) (fun c60 => ?_)
                      · have hx : hiq (¬ (P a = q ∧ P b = q ∧ tch X Y a b)) := (fun z : (P a = q ∧ P b = q ∧ tch X Y a b) => c60 z.2.1)
                        refine lv_iinc (pc := 93) (v := nI (b + 1)) (lv' := [(5, .int (nI (b + 1))), (0, .ref g), (1, .ref d), (2, .int (nI q)), (3, .int (nI n)), (4, .int (nI a))]) S.1 S.2.1 dX3_joinComponents_93 hl (k := 5) rfl (n_add _ _) (by decide) rfl (fun ls hl => ?_)
                        refine lv_goto (pc := 96) (tgt := 36) S.1 S.2.1 dX3_joinComponents_96 (by decide) ?_
                        exact ih6 (b + 1) r2 (by omega) (by first | exact jst_t hr2 (by omega) (by omega) hx | exact jst_f hr2 hx) (by omega) H locs hV ls (lv_sub hl [1, 2, 3, 4, 5, 0] rfl)
                      · refine lv_aload_n (pc := 63) S.1 S.2.1 dX3_joinComponents_63 rfl (lv_at hl 1 rfl) ?_
                        refine lv_iload (pc := 64) S.1 S.2.1 dX3_joinComponents_64 (lv_at hl 4 rfl) ?_
                        refine lv_iload (pc := 66) S.1 S.2.1 dX3_joinComponents_66 (lv_at hl 5 rfl) ?_
                        refine zz_callSW (pc := 68) (As := [.ref d, .int (nI a), .int (nI b)]) (rest := []) S (c_X3_touch l D cI cR d e1 e2 e3 e4 n P X Y L a b hge (by omega) (by omega)) (zuS wd_302 wd_300 wd_301 wd_26) 3 rfl q_X3_touch.2 ⟨⟨rfl, rfl⟩, Nat.le_of_ble_eq_true rfl, Nat.le_of_ble_eq_true rfl⟩ hV.1 [2, 3, 4, 5, 6] rfl rfl rfl (Nat.le_of_ble_eq_true rfl) hl.1 ⟨Nat.zero_le _, Nat.zero_le _⟩ dX3_joinComponents_68 ?_
                        refine zz_ifb_eq (pc := 71) (tgt := 93) S dX3_joinComponents_71 (by decide) (fun c71 => ?_) (fun c71 => ?_)
                        · have hx : hiq (¬ (P a = q ∧ P b = q ∧ tch X Y a b)) := (fun z : (P a = q ∧ P b = q ∧ tch X Y a b) => c71 (tcb_t z.2.2))
                          refine lv_iinc (pc := 93) (v := nI (b + 1)) (lv' := [(5, .int (nI (b + 1))), (0, .ref g), (1, .ref d), (2, .int (nI q)), (3, .int (nI n)), (4, .int (nI a))]) S.1 S.2.1 dX3_joinComponents_93 hl (k := 5) rfl (n_add _ _) (by decide) rfl (fun ls hl => ?_)
                          refine lv_goto (pc := 96) (tgt := 36) S.1 S.2.1 dX3_joinComponents_96 (by decide) ?_
                          exact ih6 (b + 1) r2 (by omega) (by first | exact jst_t hr2 (by omega) (by omega) hx | exact jst_f hr2 hx) (by omega) H locs hV ls (lv_sub hl [1, 2, 3, 4, 5, 0] rfl)
                        · have hx : hiq (P a = q ∧ P b = q ∧ tch X Y a b) := (show (P a = q ∧ P b = q ∧ tch X Y a b) from ⟨c50, c60, tcb_e c71⟩)
                          have hb2 := hbd b (by omega)
                          refine lv_aload_n (pc := 74) S.1 S.2.1 dX3_joinComponents_74 rfl (lv_at hl 0 rfl) ?_
                          refine lv_aload_n (pc := 75) S.1 S.2.1 dX3_joinComponents_75 rfl (lv_at hl 0 rfl) ?_
                          refine zz_get (pc := 76) S hV.1 iX3 0 rfl rfl 0 (by decide) wd_58 rfl rfl dX3_joinComponents_76 ?_
                          refine lv_iload (pc := 79) S.1 S.2.1 dX3_joinComponents_79 (lv_at hl 4 rfl) ?_
                          refine zz_iald (pc := 81) (k := a) S hV.1 1 rfl (by omega) dX3_joinComponents_81 ?_
                          refine lv_aload_n (pc := 82) S.1 S.2.1 dX3_joinComponents_82 rfl (lv_at hl 0 rfl) ?_
                          refine zz_get (pc := 83) S hV.1 iX3 0 rfl rfl 0 (by decide) wd_58 rfl rfl dX3_joinComponents_83 ?_
                          refine lv_iload (pc := 86) S.1 S.2.1 dX3_joinComponents_86 (lv_at hl 5 rfl) ?_
                          refine zz_iald (pc := 88) (k := b) S hV.1 1 rfl (by omega) dX3_joinComponents_88 ?_
                          refine lv_iload_n (pc := 89) S.1 S.2.1 dX3_joinComponents_89 rfl (lv_at hl 3 rfl) ?_
                          refine zz_callMv (pc := 90) (As := [.int (nI (r2 a)), .int (nI (r2 b)), .int (nI n)]) (rest := []) (wr := [(d, .inr (1, [.int (nI n), .ref e1, .ref e2, .ref e3, .ref e4])), (e1, zA cI 8 P), (e2, zA cI 16 X), (e3, zA cI 16 Y), (e4, zA cI 8 L)]) S hV (c_X3_rename l D cI cR g g1 r2 (r2 a) (r2 b) n H.size (by omega) (by omega) (fun x hx => by have q9 := hbd x (by omega); omega)) (zuV wd_307 wd_304 wd_305 wd_306 wd_26) 3 rfl q_X3_rename ⟨⟨rfl, rfl⟩, Nat.le_of_ble_eq_true rfl, Nat.le_of_ble_eq_true rfl⟩ [0, 1] [2, 3, 4, 5, 6] rfl rfl (by decide) (by decide) (by decide) 0 rfl rfl rfl rfl rfl (Nat.le_of_ble_eq_true rfl) hl.1 ⟨Nat.zero_le _, Nat.zero_le _⟩ dX3_joinComponents_90 (fun w1 H locs hp hV => ?_)
                          obtain rfl := hp
                          have hV : zV D cI cR A [(g, .inr (3, [.ref g1])), (g1, zA cI 8 (rnl r2 (r2 a) (r2 b) n)), (d, .inr (1, [.int (nI n), .ref e1, .ref e2, .ref e3, .ref e4])), (e1, zA cI 8 P), (e2, zA cI 16 X), (e3, zA cI 16 Y), (e4, zA cI 8 L)] s H locs := hV.perm [5, 6, 0, 1, 2, 3, 4] (by decide) rfl
                          refine lv_iinc (pc := 93) (v := nI (b + 1)) (lv' := [(5, .int (nI (b + 1))), (0, .ref g), (1, .ref d), (2, .int (nI q)), (3, .int (nI n)), (4, .int (nI a))]) S.1 S.2.1 dX3_joinComponents_93 hl (k := 5) rfl (n_add _ _) (by decide) rfl (fun ls hl => ?_)
                          refine lv_goto (pc := 96) (tgt := 36) S.1 S.2.1 dX3_joinComponents_96 (by decide) ?_
                          have hV : zV D cI cR A [(g, .inr (3, [.ref g1])), (g1, zA cI 8 (rnl r2 (r2 a) (r2 b) n)), (d, .inr (1, [.int (nI n), .ref e1, .ref e2, .ref e3, .ref e4])), (e1, zA cI 8 P), (e2, zA cI 16 X), (e3, zA cI 16 Y), (e4, zA cI 8 L)] s H locs := hV.arr 1 rfl (fun j hj => by rfl) rfl
                          exact ih6 (b + 1) (rnl r2 (r2 a) (r2 b) n) (by omega) (by first | exact jst_t hr2 (by omega) (by omega) hx | exact jst_f hr2 hx) (by omega) H locs hV ls (lv_sub hl [1, 2, 3, 4, 5, 0] rfl)
              exact L5 (a - 0 + 1) 0 r (by omega) (by exact hjr) (Nat.lt_succ_self _) H locs hV ls (lv_sub hl [1, 2, 3, 4, 5, 0] rfl)
        have hV : zV D cI cR A [(g, .inr (3, [.ref g1])), (g1, zA cI 8 (idr cm k)), (d, .inr (1, [.int (nI n), .ref e1, .ref e2, .ref e3, .ref e4])), (e1, zA cI 8 P), (e2, zA cI 16 X), (e3, zA cI 16 Y), (e4, zA cI 8 L)] s H locs := hV.arr 1 rfl (fun j hj => by rfl) rfl
        exact L3 (n - 0 + 1) 0 (idr cm k) (by omega) (by intro x hx; exact if_pos (by omega)) (Nat.lt_succ_self _) H locs hV ls (lv_sub hl [1, 2, 3, 4, 0] rfl)
      · refine lv_aload_n (pc := 9) S.1 S.2.1 dX3_joinComponents_9 rfl (lv_at hl 0 rfl) ?_
        refine zz_get (pc := 10) S hV.1 iX3 0 rfl rfl 0 (by decide) wd_58 rfl rfl dX3_joinComponents_10 ?_
        refine lv_iload (pc := 13) S.1 S.2.1 dX3_joinComponents_13 (lv_at hl 4 rfl) ?_
        refine lv_iload (pc := 15) S.1 S.2.1 dX3_joinComponents_15 (lv_at hl 4 rfl) ?_
        refine zz_iast (pc := 17) (k := k) (v := k) S hV 1 rfl (by omega) (ws' := [(g, .inr (3, [.ref g1])), (g1, zA cI 8 (va_up (idr cm k) k k)), (d, .inr (1, [.int (nI n), .ref e1, .ref e2, .ref e3, .ref e4])), (e1, zA cI 8 P), (e2, zA cI 16 X), (e3, zA cI 16 Y), (e4, zA cI 8 L)]) rfl dX3_joinComponents_17 (fun H locs hV => ?_)
        refine lv_iinc (pc := 18) (v := nI (k + 1)) (lv' := [(4, .int (nI (k + 1))), (0, .ref g), (1, .ref d), (2, .int (nI q)), (3, .int (nI n))]) S.1 S.2.1 dX3_joinComponents_18 hl (k := 4) rfl (n_add _ _) (by decide) rfl (fun ls hl => ?_)
        refine lv_goto (pc := 21) (tgt := 3) S.1 S.2.1 dX3_joinComponents_21 (by decide) ?_
        have hV : zV D cI cR A [(g, .inr (3, [.ref g1])), (g1, zA cI 8 (idr cm (k + 1))), (d, .inr (1, [.int (nI n), .ref e1, .ref e2, .ref e3, .ref e4])), (e1, zA cI 8 P), (e2, zA cI 16 X), (e3, zA cI 16 Y), (e4, zA cI 8 L)] s H locs := hV.arr 1 rfl (fun j hj => by exact idr_s cm k j) rfl
        exact ih2 (k + 1) (by omega) (by omega) H locs hV ls (lv_sub hl [1, 2, 3, 4, 0] rfl)
  have hV : zV D cI cR A [(g, .inr (3, [.ref g1])), (g1, zA cI 8 (idr cm 0)), (d, .inr (1, [.int (nI n), .ref e1, .ref e2, .ref e3, .ref e4])), (e1, zA cI 8 P), (e2, zA cI 16 X), (e3, zA cI 16 Y), (e4, zA cI 8 L)] s s.heap [] := hV.arr 1 rfl (fun j hj => by exact idr_0 cm j) rfl
  exact L1 (n - 0 + 1) 0 (by omega) (Nat.lt_succ_self _) s.heap [] hV ls (lv_sub hl [1, 2, 3, 4, 0] rfl)
abbrev wm_X3_isOddVertex : List Cond := .code yX3_isOddVertex cX3_isOddVertex 6 (some .boolean) :: wU
theorem q_X3_isOddVertex : yX3_isOddVertex.cls = RX3 ∧ yX3_isOddVertex.cls ≠ "java/lang/invoke/MethodHandle" ∧ yX3_isOddVertex.cls ≠ "java/lang/invoke/VarHandle" ∧ (parseMethodDescriptor yX3_isOddVertex.desc).map (fun d => d.parameters.length) = some 3 := by decide +kernel
set_option maxHeartbeats 4000000 in
set_option maxRecDepth 100000 in
theorem c_X3_isOddVertex (l : Launch) (D : va_G) (cI cR : ClassId) (g g1 : Nat) (cm : Nat → Nat) (d e1 e2 e3 e4 n : Nat) (P X Y L : Nat → Nat) (q : Nat) (a : Nat) (hge : zGe n P X Y) (hcm : ∀ x, x < n → cm x = jco P X Y q n x) (ha : a < 2 * n) (hp : P (a / 2) = q) : Met l yX3_isOddVertex wm_X3_isOddVertex ({ frames := 3, cells := 0, slots := 0, locals := 64 } : Room) (va_Pc [.ref g, .ref d, .int (nI a), .int (nI n)] (zW D cI cR [(g, .inr (3, [.ref g1])), (g1, zA cI 8 cm), (d, .inr (1, [.int (nI n), .ref e1, .ref e2, .ref e3, .ref e4])), (e1, zA cI 8 P), (e2, zA cI 16 X), (e3, zA cI 16 Y), (e4, zA cI 8 L)])) (vp_Si (fun r => r = nI (zB (dgr n P X Y q a % 2 = 1)))) 0 0 (fun _ => False) := by
  refine Met.ofW (cc := cX3_isOddVertex) (maxL := 6) (ret := (some .boolean)) (by decide) rfl ?_
  intro p e s m args below meth c s₁ B hml hv
  obtain ⟨rfl, hG⟩ := hv
  have S : CallFix p m c cX3_isOddVertex 6 s ([.ref g, .ref d, .int (nI a), .int (nI n)] : List Value).toArray wU RX3 := ⟨B.exec, B.bytes, hml, findClass_of_methodNamed B.named, fun w h => atoms_spec (ws := wm_X3_isOddVertex) B.pre w (List.mem_cons_of_mem _ h)⟩
  have hr := B.returns
  have hlocks := B.notSynchronized
  have hG : zG D cI cR [(g, .inr (3, [.ref g1])), (g1, zA cI 8 cm), (d, .inr (1, [.int (nI n), .ref e1, .ref e2, .ref e3, .ref e4])), (e1, zA cI 8 P), (e2, zA cI 16 X), (e3, zA cI 16 Y), (e4, zA cI 8 L)] s s.heap := hG
  have hl := lv_entry ([.ref g, .ref d, .int (nI a), .int (nI n)]) (n := 6) (Nat.le_of_ble_eq_true rfl)
  rw [lg_entry_eq]
  generalize (lg_sl ([.ref g, .ref d, .int (nI a), .int (nI n)]) ++ List.replicate (6 - (lg_sl ([.ref g, .ref d, .int (nI a), .int (nI n)])).length) Slot.unset).toArray = ls at hl ⊢
  have hl : lv_has ls 6 [(0, .ref g), (1, .ref d), (2, .int (nI a)), (3, .int (nI n))] := hl
  obtain ⟨hn, hPf, hXY⟩ := id hge
  refine zz_iconst (pc := 0) (v := nI 0) S dX3_isOddVertex_0 rfl ?_
  refine lv_istore (pc := 1) (lv' := [(4, .int (nI 0)), (0, .ref g), (1, .ref d), (2, .int (nI a)), (3, .int (nI n))]) S.1 S.2.1 dX3_isOddVertex_1 hl (by decide) rfl (fun ls hl => ?_)
  refine zz_iconst (pc := 3) (v := nI 0) S dX3_isOddVertex_3 rfl ?_
  refine lv_istore (pc := 4) (lv' := [(5, .int (nI 0)), (4, .int (nI 0)), (0, .ref g), (1, .ref d), (2, .int (nI a)), (3, .int (nI n))]) S.1 S.2.1 dX3_isOddVertex_4 hl (by decide) rfl (fun ls hl => ?_)
  have L1 : ∀ (f : Nat) (k : Nat), (k ≤ 2 * n) → (∀ j, j < k → j < a → ¬ (P (j / 2) = q ∧ (X a = X j ∧ Y a = Y j))) → 2 * n - k < f → ∀ ls : Array Slot, lv_has ls 6 [(0, .ref g), (1, .ref d), (2, .int (nI a)), (3, .int (nI n)), (4, .int (nI (cdg P X Y q a k))), (5, .int (nI k))] → W p l e (headSpec wm_X3_isOddVertex ({ frames := 3, cells := 0, slots := 0, locals := 64 } : Room)).room s m ([.ref g, .ref d, .int (nI a), .int (nI n)] : List Value).toArray below meth c s.heap [] 0 0 (MQ below (vp_Si (fun r => r = nI (zB (dgr n P X Y q a % 2 = 1)))) ([.ref g, .ref d, .int (nI a), .int (nI n)] : List Value).toArray s 0 0 (fun _ => False)) (F0 m 6 ls []) := by
    intro f
    induction f with
    | zero => intro k hk hlo hf; exact absurd hf (Nat.not_lt_zero _)
    | succ f ih2 =>
      intro k hk hlo hf ls hl
      have hcd := cdg_le P X Y q a k
      refine lv_iload (pc := 6) S.1 S.2.1 dX3_isOddVertex_6 (lv_at hl 5 rfl) ?_
      refine zz_iconst (pc := 8) (v := nI 2) S dX3_isOddVertex_8 rfl ?_
      refine lv_iload_n (pc := 9) S.1 S.2.1 dX3_isOddVertex_9 rfl (lv_at hl 3 rfl) ?_
      refine zz_imul (pc := 10) (v := nI (2 * n)) S dX3_isOddVertex_10 (n_mul _ _) ?_
      refine zz_icmp_ge (pc := 11) (tgt := 61) S dX3_isOddVertex_11 (by decide) (n_le (by omega) (by omega)) (fun c11 => ?_) (fun c11 => ?_)
      · refine lv_iload (pc := 61) S.1 S.2.1 dX3_isOddVertex_61 (lv_at hl 4 rfl) ?_
        refine zz_iconst (pc := 63) (v := nI 2) S dX3_isOddVertex_63 rfl ?_
        refine zz_irem (pc := 64) (v := nI ((cdg P X Y q a k) % 2)) S dX3_isOddVertex_64 (by decide) (n_rem (by omega) (by decide) (by decide)) ?_
        refine zz_iconst (pc := 65) (v := nI 1) S dX3_isOddVertex_65 rfl ?_
        refine zz_icmp_ne (pc := 66) (tgt := 73) S dX3_isOddVertex_66 (by decide) (n_eq (by omega) (by omega)) (fun c66 => ?_) (fun c66 => ?_)
        · refine zz_iconst (pc := 73) (v := nI 0) S dX3_isOddVertex_73 rfl ?_
          exact zz_bretS (pc := 74) S hr hlocks (by decide) (congrArg nI (zB_f (by rw [dgr_hi (fun j h => hlo j (by omega) h), show 2 * n = k by omega]; omega)).symm) dX3_isOddVertex_74
        · refine zz_iconst (pc := 69) (v := nI 1) S dX3_isOddVertex_69 rfl ?_
          refine lv_goto (pc := 70) (tgt := 74) S.1 S.2.1 dX3_isOddVertex_70 (by decide) ?_
          exact zz_bretS (pc := 74) S hr hlocks (by decide) (congrArg nI (zB_t (by rw [dgr_hi (fun j h => hlo j (by omega) h), show 2 * n = k by omega]; omega)).symm) dX3_isOddVertex_74
      · have hc1 := hcm (k / 2) (by omega)
        have hc2 := hcm (a / 2) (by omega)
        have hd1 := (jco_id (P := P) (X := X) (Y := Y) (c := q) (n := n) (k / 2) (by omega)).1
        have hd2 := (jco_id (P := P) (X := X) (Y := Y) (c := q) (n := n) (a / 2) (by omega)).1
        refine lv_aload_n (pc := 14) S.1 S.2.1 dX3_isOddVertex_14 rfl (lv_at hl 0 rfl) ?_
        refine zz_get (pc := 15) S hG iX3 0 rfl rfl 0 (by decide) wd_58 rfl rfl dX3_isOddVertex_15 ?_
        refine lv_iload (pc := 18) S.1 S.2.1 dX3_isOddVertex_18 (lv_at hl 5 rfl) ?_
        refine zz_iconst (pc := 20) (v := nI 2) S dX3_isOddVertex_20 rfl ?_
        refine zz_idiv (pc := 21) (v := nI (k / 2)) S dX3_isOddVertex_21 (by decide) (n_div (by omega) (by decide) (by decide)) ?_
        refine zz_iald (pc := 22) (k := k / 2) S hG 1 rfl (by omega) dX3_isOddVertex_22 ?_
        refine lv_aload_n (pc := 23) S.1 S.2.1 dX3_isOddVertex_23 rfl (lv_at hl 0 rfl) ?_
        refine zz_get (pc := 24) S hG iX3 0 rfl rfl 0 (by decide) wd_58 rfl rfl dX3_isOddVertex_24 ?_
        refine lv_iload_n (pc := 27) S.1 S.2.1 dX3_isOddVertex_27 rfl (lv_at hl 2 rfl) ?_
        refine zz_iconst (pc := 28) (v := nI 2) S dX3_isOddVertex_28 rfl ?_
        refine zz_idiv (pc := 29) (v := nI (a / 2)) S dX3_isOddVertex_29 (by decide) (n_div (by omega) (by decide) (by decide)) ?_
        refine zz_iald (pc := 30) (k := a / 2) S hG 1 rfl (by omega) dX3_isOddVertex_30 ?_
        refine zz_icmp_ne (pc := 31) (tgt := 55) S dX3_isOddVertex_31 (by decide) (n_eq (by omega) (by omega)) (fun c31 => ?_) (fun c31 => ?_)
        · have hx : ¬ (P (k / 2) = q ∧ (X a = X k ∧ Y a = Y k)) := fun z => c31 (by rw [hc1, hc2]; exact sp_jco ha (by omega) hp z)
          have wD := cdg_f hx
          refine lv_iinc (pc := 55) (v := nI (k + 1)) (lv' := [(5, .int (nI (k + 1))), (0, .ref g), (1, .ref d), (2, .int (nI a)), (3, .int (nI n)), (4, .int (nI (cdg P X Y q a k)))]) S.1 S.2.1 dX3_isOddVertex_55 hl (k := 5) rfl (n_add _ _) (by decide) rfl (fun ls hl => ?_)
          refine lv_goto (pc := 58) (tgt := 6) S.1 S.2.1 dX3_isOddVertex_58 (by decide) ?_
          exact ih2 (k + 1) (by omega) (by (intro j h1 h2; by_cases e : j = k; (first | (rw [e]; exact hx) | (exfalso; omega)); exact hlo j (by omega) h2)) (by omega) ls (by rw [wD]; exact lv_sub hl [1, 2, 3, 4, 5, 0] rfl)
        · refine lv_aload_n (pc := 34) S.1 S.2.1 dX3_isOddVertex_34 rfl (lv_at hl 1 rfl) ?_
          refine lv_iload_n (pc := 35) S.1 S.2.1 dX3_isOddVertex_35 rfl (lv_at hl 2 rfl) ?_
          refine lv_iload (pc := 36) S.1 S.2.1 dX3_isOddVertex_36 (lv_at hl 5 rfl) ?_
          refine zz_callV (pc := 38) (As := [.int (nI a), .int (nI k)]) (rest := []) S (c_X1_samePoint l D cI cR d e1 e2 e3 e4 n P X Y L a k hge (by omega) (by omega)) (zuV wd_210 wd_303 wd_208 wd_209 wd_14) 2 rfl q_X1_samePoint ⟨⟨rfl, rfl⟩, Nat.le_of_ble_eq_true rfl, Nat.le_of_ble_eq_true rfl⟩ hG [2, 3, 4, 5, 6] rfl 2 rfl rfl rfl rfl rfl (Nat.le_of_ble_eq_true rfl) hl.1 ⟨Nat.zero_le _, Nat.zero_le _⟩ dX3_isOddVertex_38 ?_
          refine zz_ifb_eq (pc := 41) (tgt := 55) S dX3_isOddVertex_41 (by decide) (fun c41 => ?_) (fun c41 => ?_)
          · have hx : ¬ (P (k / 2) = q ∧ (X a = X k ∧ Y a = Y k)) := fun z => c41 z.2
            have wD := cdg_f hx
            refine lv_iinc (pc := 55) (v := nI (k + 1)) (lv' := [(5, .int (nI (k + 1))), (0, .ref g), (1, .ref d), (2, .int (nI a)), (3, .int (nI n)), (4, .int (nI (cdg P X Y q a k)))]) S.1 S.2.1 dX3_isOddVertex_55 hl (k := 5) rfl (n_add _ _) (by decide) rfl (fun ls hl => ?_)
            refine lv_goto (pc := 58) (tgt := 6) S.1 S.2.1 dX3_isOddVertex_58 (by decide) ?_
            exact ih2 (k + 1) (by omega) (by (intro j h1 h2; by_cases e : j = k; (first | (rw [e]; exact hx) | (exfalso; omega)); exact hlo j (by omega) h2)) (by omega) ls (by rw [wD]; exact lv_sub hl [1, 2, 3, 4, 5, 0] rfl)
          · have hpk : P (k / 2) = q := jco_pen (X := X) (Y := Y) (c := q) (n := n) (x := a / 2) (y := k / 2) (by omega) (by omega) (by rw [← hc1, ← hc2]; exact c31.symm) hp
            have hx : (P (k / 2) = q ∧ (X a = X k ∧ Y a = Y k)) := ⟨hpk, c41⟩
            have wD := cdg_t hx
            refine lv_iload (pc := 44) S.1 S.2.1 dX3_isOddVertex_44 (lv_at hl 5 rfl) ?_
            refine lv_iload_n (pc := 46) S.1 S.2.1 dX3_isOddVertex_46 rfl (lv_at hl 2 rfl) ?_
            refine zz_icmp_ge (pc := 47) (tgt := 52) S dX3_isOddVertex_47 (by decide) (n_le (by omega) (by omega)) (fun c47 => ?_) (fun c47 => ?_)
            · refine lv_iinc (pc := 52) (v := nI (cdg P X Y q a k + 1)) (lv' := [(4, .int (nI (cdg P X Y q a k + 1))), (0, .ref g), (1, .ref d), (2, .int (nI a)), (3, .int (nI n)), (5, .int (nI k))]) S.1 S.2.1 dX3_isOddVertex_52 hl (k := 4) rfl (n_add _ _) (by decide) rfl (fun ls hl => ?_)
              refine lv_iinc (pc := 55) (v := nI (k + 1)) (lv' := [(5, .int (nI (k + 1))), (4, .int (nI (cdg P X Y q a k + 1))), (0, .ref g), (1, .ref d), (2, .int (nI a)), (3, .int (nI n))]) S.1 S.2.1 dX3_isOddVertex_55 hl (k := 5) rfl (n_add _ _) (by decide) rfl (fun ls hl => ?_)
              refine lv_goto (pc := 58) (tgt := 6) S.1 S.2.1 dX3_isOddVertex_58 (by decide) ?_
              exact ih2 (k + 1) (by omega) (by (intro j h1 h2; by_cases e : j = k; (first | (rw [e]; exact hx) | (exfalso; omega)); exact hlo j (by omega) h2)) (by omega) ls (by rw [wD]; exact lv_sub hl [2, 3, 4, 5, 1, 0] rfl)
            · refine zz_iconst (pc := 50) (v := nI 0) S dX3_isOddVertex_50 rfl ?_
              exact zz_bretS (pc := 51) S hr hlocks (by decide) (congrArg nI (zB_f (by rw [dgr_lo (show k < a by omega) hx]; decide)).symm) dX3_isOddVertex_51
  exact L1 (2 * n - 0 + 1) 0 (by omega) (by intro j h1 h2; omega) (Nat.lt_succ_self _) ls (lv_sub hl [2, 3, 4, 5, 1, 0] rfl)
abbrev wm_X3_countOddVertices : List Cond := .code yX3_countOddVertices cX3_countOddVertices 6 (some .int) :: wU
theorem q_X3_countOddVertices : yX3_countOddVertices.cls = RX3 ∧ yX3_countOddVertices.cls ≠ "java/lang/invoke/MethodHandle" ∧ yX3_countOddVertices.cls ≠ "java/lang/invoke/VarHandle" ∧ (parseMethodDescriptor yX3_countOddVertices.desc).map (fun d => d.parameters.length) = some 3 := by decide +kernel
set_option maxHeartbeats 4000000 in
set_option maxRecDepth 100000 in
theorem c_X3_countOddVertices (l : Launch) (D : va_G) (cI cR : ClassId) (g g1 : Nat) (cm : Nat → Nat) (d e1 e2 e3 e4 n : Nat) (P X Y L : Nat → Nat) (q : Nat) (t : Nat) (hge : zGe n P X Y) (hcm : ∀ x, x < n → cm x = jco P X Y q n x) (ht : t < n) (hp : P t = q) (hid : jco P X Y q n t = t) : Met l yX3_countOddVertices wm_X3_countOddVertices ({ frames := 4, cells := 0, slots := 0, locals := 89 } : Room) (va_Pc [.ref g, .ref d, .int (nI t), .int (nI n)] (zW D cI cR [(g, .inr (3, [.ref g1])), (g1, zA cI 8 cm), (d, .inr (1, [.int (nI n), .ref e1, .ref e2, .ref e3, .ref e4])), (e1, zA cI 8 P), (e2, zA cI 16 X), (e3, zA cI 16 Y), (e4, zA cI 8 L)])) (vp_Si (fun r => r = nI (ods P X Y q n t (2 * n)))) 0 0 (fun _ => False) := by
  refine Met.ofW (cc := cX3_countOddVertices) (maxL := 6) (ret := (some .int)) (by decide) rfl ?_
  intro p e s m args below meth c s₁ B hml hv
  obtain ⟨rfl, hG⟩ := hv
  have S : CallFix p m c cX3_countOddVertices 6 s ([.ref g, .ref d, .int (nI t), .int (nI n)] : List Value).toArray wU RX3 := ⟨B.exec, B.bytes, hml, findClass_of_methodNamed B.named, fun w h => atoms_spec (ws := wm_X3_countOddVertices) B.pre w (List.mem_cons_of_mem _ h)⟩
  have hr := B.returns
  have hlocks := B.notSynchronized
  have hG : zG D cI cR [(g, .inr (3, [.ref g1])), (g1, zA cI 8 cm), (d, .inr (1, [.int (nI n), .ref e1, .ref e2, .ref e3, .ref e4])), (e1, zA cI 8 P), (e2, zA cI 16 X), (e3, zA cI 16 Y), (e4, zA cI 8 L)] s s.heap := hG
  have hl := lv_entry ([.ref g, .ref d, .int (nI t), .int (nI n)]) (n := 6) (Nat.le_of_ble_eq_true rfl)
  rw [lg_entry_eq]
  generalize (lg_sl ([.ref g, .ref d, .int (nI t), .int (nI n)]) ++ List.replicate (6 - (lg_sl ([.ref g, .ref d, .int (nI t), .int (nI n)])).length) Slot.unset).toArray = ls at hl ⊢
  have hl : lv_has ls 6 [(0, .ref g), (1, .ref d), (2, .int (nI t)), (3, .int (nI n))] := hl
  obtain ⟨hn, hPf, hXY⟩ := id hge
  refine zz_iconst (pc := 0) (v := nI 0) S dX3_countOddVertices_0 rfl ?_
  refine lv_istore (pc := 1) (lv' := [(4, .int (nI 0)), (0, .ref g), (1, .ref d), (2, .int (nI t)), (3, .int (nI n))]) S.1 S.2.1 dX3_countOddVertices_1 hl (by decide) rfl (fun ls hl => ?_)
  refine zz_iconst (pc := 3) (v := nI 0) S dX3_countOddVertices_3 rfl ?_
  refine lv_istore (pc := 4) (lv' := [(5, .int (nI 0)), (4, .int (nI 0)), (0, .ref g), (1, .ref d), (2, .int (nI t)), (3, .int (nI n))]) S.1 S.2.1 dX3_countOddVertices_4 hl (by decide) rfl (fun ls hl => ?_)
  have L1 : ∀ (f : Nat) (k : Nat), (k ≤ 2 * n) → 2 * n - k < f → ∀ ls : Array Slot, lv_has ls 6 [(0, .ref g), (1, .ref d), (2, .int (nI t)), (3, .int (nI n)), (4, .int (nI (ods P X Y q n t k))), (5, .int (nI k))] → W p l e (headSpec wm_X3_countOddVertices ({ frames := 4, cells := 0, slots := 0, locals := 89 } : Room)).room s m ([.ref g, .ref d, .int (nI t), .int (nI n)] : List Value).toArray below meth c s.heap [] 0 0 (MQ below (vp_Si (fun r => r = nI (ods P X Y q n t (2 * n)))) ([.ref g, .ref d, .int (nI t), .int (nI n)] : List Value).toArray s 0 0 (fun _ => False)) (F0 m 6 ls []) := by
    intro f
    induction f with
    | zero => intro k hk hf; exact absurd hf (Nat.not_lt_zero _)
    | succ f ih2 =>
      intro k hk hf ls hl
      have hod := ods_le P X Y q n t k
      refine lv_iload (pc := 6) S.1 S.2.1 dX3_countOddVertices_6 (lv_at hl 5 rfl) ?_
      refine zz_iconst (pc := 8) (v := nI 2) S dX3_countOddVertices_8 rfl ?_
      refine lv_iload_n (pc := 9) S.1 S.2.1 dX3_countOddVertices_9 rfl (lv_at hl 3 rfl) ?_
      refine zz_imul (pc := 10) (v := nI (2 * n)) S dX3_countOddVertices_10 (n_mul _ _) ?_
      refine zz_icmp_ge (pc := 11) (tgt := 47) S dX3_countOddVertices_11 (by decide) (n_le (by omega) (by omega)) (fun c11 => ?_) (fun c11 => ?_)
      · refine lv_iload (pc := 47) S.1 S.2.1 dX3_countOddVertices_47 (lv_at hl 4 rfl) ?_
        exact zz_iretS (pc := 49) S hr hlocks (congrArg nI (by rw [show k = 2 * n by omega])) dX3_countOddVertices_49
      · have hc1 := hcm (k / 2) (by omega)
        have hd1 := (jco_id (P := P) (X := X) (Y := Y) (c := q) (n := n) (k / 2) (by omega)).1
        refine lv_aload_n (pc := 14) S.1 S.2.1 dX3_countOddVertices_14 rfl (lv_at hl 0 rfl) ?_
        refine zz_get (pc := 15) S hG iX3 0 rfl rfl 0 (by decide) wd_58 rfl rfl dX3_countOddVertices_15 ?_
        refine lv_iload (pc := 18) S.1 S.2.1 dX3_countOddVertices_18 (lv_at hl 5 rfl) ?_
        refine zz_iconst (pc := 20) (v := nI 2) S dX3_countOddVertices_20 rfl ?_
        refine zz_idiv (pc := 21) (v := nI (k / 2)) S dX3_countOddVertices_21 (by decide) (n_div (by omega) (by decide) (by decide)) ?_
        refine zz_iald (pc := 22) (k := k / 2) S hG 1 rfl (by omega) dX3_countOddVertices_22 ?_
        refine lv_iload_n (pc := 23) S.1 S.2.1 dX3_countOddVertices_23 rfl (lv_at hl 2 rfl) ?_
        refine zz_icmp_ne (pc := 24) (tgt := 41) S dX3_countOddVertices_24 (by decide) (n_eq (by omega) (by omega)) (fun c24 => ?_) (fun c24 => ?_)
        · have wD : ods P X Y q n t (k + 1) = ods P X Y q n t k := ods_f (fun z => c24 (by rw [hc1]; exact z.1))
          refine lv_iinc (pc := 41) (v := nI (k + 1)) (lv' := [(5, .int (nI (k + 1))), (0, .ref g), (1, .ref d), (2, .int (nI t)), (3, .int (nI n)), (4, .int (nI (ods P X Y q n t k)))]) S.1 S.2.1 dX3_countOddVertices_41 hl (k := 5) rfl (n_add _ _) (by decide) rfl (fun ls hl => ?_)
          refine lv_goto (pc := 44) (tgt := 6) S.1 S.2.1 dX3_countOddVertices_44 (by decide) ?_
          exact ih2 (k + 1) (by omega) (by omega) ls (by rw [wD]; exact lv_sub hl [1, 2, 3, 4, 5, 0] rfl)
        · have hjk : jco P X Y q n (k / 2) = t := by rw [← hc1]; exact c24
          have hpk : P (k / 2) = q := jco_pen (X := X) (Y := Y) (c := q) (n := n) (x := t) (y := k / 2) ht (by omega) (by rw [hjk]; exact hid) hp
          refine lv_aload_n (pc := 27) S.1 S.2.1 dX3_countOddVertices_27 rfl (lv_at hl 0 rfl) ?_
          refine lv_aload_n (pc := 28) S.1 S.2.1 dX3_countOddVertices_28 rfl (lv_at hl 1 rfl) ?_
          refine lv_iload (pc := 29) S.1 S.2.1 dX3_countOddVertices_29 (lv_at hl 5 rfl) ?_
          refine lv_iload_n (pc := 31) S.1 S.2.1 dX3_countOddVertices_31 rfl (lv_at hl 3 rfl) ?_
          refine zz_callV (pc := 32) (As := [.ref d, .int (nI k), .int (nI n)]) (rest := []) S (c_X3_isOddVertex l D cI cR g g1 cm d e1 e2 e3 e4 n P X Y L q k hge hcm (by omega) (by omega)) (zuV wd_315 wd_312 wd_313 wd_314 wd_26) 3 rfl q_X3_isOddVertex ⟨⟨rfl, rfl⟩, Nat.le_of_ble_eq_true rfl, Nat.le_of_ble_eq_true rfl⟩ hG [0, 1, 2, 3, 4, 5, 6] rfl 0 rfl rfl rfl rfl rfl (Nat.le_of_ble_eq_true rfl) hl.1 ⟨Nat.zero_le _, Nat.zero_le _⟩ dX3_countOddVertices_32 ?_
          refine zz_ifb_eq (pc := 35) (tgt := 41) S dX3_countOddVertices_35 (by decide) (fun c35 => ?_) (fun c35 => ?_)
          · have wD : ods P X Y q n t (k + 1) = ods P X Y q n t k := ods_f (fun z => c35 z.2)
            refine lv_iinc (pc := 41) (v := nI (k + 1)) (lv' := [(5, .int (nI (k + 1))), (0, .ref g), (1, .ref d), (2, .int (nI t)), (3, .int (nI n)), (4, .int (nI (ods P X Y q n t k)))]) S.1 S.2.1 dX3_countOddVertices_41 hl (k := 5) rfl (n_add _ _) (by decide) rfl (fun ls hl => ?_)
            refine lv_goto (pc := 44) (tgt := 6) S.1 S.2.1 dX3_countOddVertices_44 (by decide) ?_
            exact ih2 (k + 1) (by omega) (by omega) ls (by rw [wD]; exact lv_sub hl [1, 2, 3, 4, 5, 0] rfl)
          · have wD := ods_t hjk c35
            refine lv_iinc (pc := 38) (v := nI (ods P X Y q n t k + 1)) (lv' := [(4, .int (nI (ods P X Y q n t k + 1))), (0, .ref g), (1, .ref d), (2, .int (nI t)), (3, .int (nI n)), (5, .int (nI k))]) S.1 S.2.1 dX3_countOddVertices_38 hl (k := 4) rfl (n_add _ _) (by decide) rfl (fun ls hl => ?_)
            refine lv_iinc (pc := 41) (v := nI (k + 1)) (lv' := [(5, .int (nI (k + 1))), (4, .int (nI (ods P X Y q n t k + 1))), (0, .ref g), (1, .ref d), (2, .int (nI t)), (3, .int (nI n))]) S.1 S.2.1 dX3_countOddVertices_41 hl (k := 5) rfl (n_add _ _) (by decide) rfl (fun ls hl => ?_)
            refine lv_goto (pc := 44) (tgt := 6) S.1 S.2.1 dX3_countOddVertices_44 (by decide) ?_
            exact ih2 (k + 1) (by omega) (by omega) ls (by rw [wD]; exact lv_sub hl [2, 3, 4, 5, 1, 0] rfl)
  exact L1 (2 * n - 0 + 1) 0 (by omega) (Nat.lt_succ_self _) ls (lv_sub hl [2, 3, 4, 5, 1, 0] rfl)
abbrev wm_X3_fewestRuns : List Cond := .code yX3_fewestRuns cX3_fewestRuns 6 (some .int) :: wU
theorem q_X3_fewestRuns : yX3_fewestRuns.cls = RX3 ∧ yX3_fewestRuns.cls ≠ "java/lang/invoke/MethodHandle" ∧ yX3_fewestRuns.cls ≠ "java/lang/invoke/VarHandle" ∧ (parseMethodDescriptor yX3_fewestRuns.desc).map (fun d => d.parameters.length) = some 2 := by decide +kernel
set_option maxHeartbeats 4000000 in
set_option maxRecDepth 100000 in
theorem c_X3_fewestRuns (l : Launch) (D : va_G) (cI cR : ClassId) (g g1 : Nat) (cm : Nat → Nat) (d e1 e2 e3 e4 n : Nat) (P X Y L : Nat → Nat) (q : Nat) (sz : Nat) (hge : zGe n P X Y) (hq : q ≤ 3) : Met l yX3_fewestRuns wm_X3_fewestRuns ({ frames := 5, cells := 0, slots := 0, locals := 114 } : Room) (va_Pc [.ref g, .ref d, .int (nI q)] (zX D cI cR [(g, .inr (3, [.ref g1])), (g1, zA cI 8 cm), (d, .inr (1, [.int (nI n), .ref e1, .ref e2, .ref e3, .ref e4])), (e1, zA cI 8 P), (e2, zA cI 16 X), (e3, zA cI 16 Y), (e4, zA cI 8 L)] sz)) (zQi D cI cR (va_A [(g, .inr (3, [.ref g1])), (g1, zA cI 8 cm), (d, .inr (1, [.int (nI n), .ref e1, .ref e2, .ref e3, .ref e4])), (e1, zA cI 8 P), (e2, zA cI 16 X), (e3, zA cI 16 Y), (e4, zA cI 8 L)] sz) (fun r w => ∃ (cm5 : Nat → Nat), (w = [(g, .inr (3, [.ref g1])), (g1, zA cI 8 cm5), (d, .inr (1, [.int (nI n), .ref e1, .ref e2, .ref e3, .ref e4])), (e1, zA cI 8 P), (e2, zA cI 16 X), (e3, zA cI 16 Y), (e4, zA cI 8 L)] ∧ r = nI (lcn P X Y q n n)))) 0 0 (va_A [(g, .inr (3, [.ref g1])), (g1, zA cI 8 cm), (d, .inr (1, [.int (nI n), .ref e1, .ref e2, .ref e3, .ref e4])), (e1, zA cI 8 P), (e2, zA cI 16 X), (e3, zA cI 16 Y), (e4, zA cI 8 L)] sz) := by
  refine Met.ofW (cc := cX3_fewestRuns) (maxL := 6) (ret := (some .int)) (by decide) rfl ?_
  intro p e s m args below meth c s₁ B hml hv
  obtain ⟨rfl, hsz, hG, hD0⟩ := hv
  have S : CallFix p m c cX3_fewestRuns 6 s ([.ref g, .ref d, .int (nI q)] : List Value).toArray wU RX3 := ⟨B.exec, B.bytes, hml, findClass_of_methodNamed B.named, fun w h => atoms_spec (ws := wm_X3_fewestRuns) B.pre w (List.mem_cons_of_mem _ h)⟩
  have hr := B.returns
  have hlocks := B.notSynchronized
  subst hsz
  have hD := hD0.self (sz := s.heap.size)
  generalize hAe : va_A [(g, .inr (3, [.ref g1])), (g1, zA cI 8 cm), (d, .inr (1, [.int (nI n), .ref e1, .ref e2, .ref e3, .ref e4])), (e1, zA cI 8 P), (e2, zA cI 16 X), (e3, zA cI 16 Y), (e4, zA cI 8 L)] s.heap.size = A at hD ⊢
  have hV : zV D cI cR A [(g, .inr (3, [.ref g1])), (g1, zA cI 8 cm), (d, .inr (1, [.int (nI n), .ref e1, .ref e2, .ref e3, .ref e4])), (e1, zA cI 8 P), (e2, zA cI 16 X), (e3, zA cI 16 Y), (e4, zA cI 8 L)] s s.heap [] := ⟨hG, hD, va_S.rf, fun q h => by rw [← hAe]; exact Or.inr h⟩
  have hl := lv_entry ([.ref g, .ref d, .int (nI q)]) (n := 6) (Nat.le_of_ble_eq_true rfl)
  rw [lg_entry_eq]
  generalize (lg_sl ([.ref g, .ref d, .int (nI q)]) ++ List.replicate (6 - (lg_sl ([.ref g, .ref d, .int (nI q)])).length) Slot.unset).toArray = ls at hl ⊢
  have hl : lv_has ls 6 [(0, .ref g), (1, .ref d), (2, .int (nI q))] := hl
  obtain ⟨hn, hPf, hXY⟩ := id hge
  refine lv_aload_n (pc := 0) S.1 S.2.1 dX3_fewestRuns_0 rfl (lv_at hl 1 rfl) ?_
  refine zz_callV (pc := 1) (As := []) (rest := []) S (c_X1_size l D cI cR d e1 e2 e3 e4 n P X Y L hge) (zuV wd_92 wd_294 wd_90 wd_91 wd_14) 0 rfl q_X1_size ⟨⟨rfl, rfl⟩, Nat.le_of_ble_eq_true rfl, Nat.le_of_ble_eq_true rfl⟩ hV.1 [2, 3, 4, 5, 6] rfl 2 rfl rfl rfl rfl rfl (Nat.le_of_ble_eq_true rfl) hl.1 ⟨Nat.zero_le _, Nat.zero_le _⟩ dX3_fewestRuns_1 ?_
  refine zz_bipush (pc := 4) (v := nI 8) S dX3_fewestRuns_4 rfl ?_
  refine zz_min (pc := 6) (v := nI (min n 8)) S wd_292 wd_105 wd_106 wd_107 ⟨Nat.le_of_ble_eq_true rfl, Nat.le_of_ble_eq_true rfl⟩ ⟨Nat.zero_le _, Nat.zero_le _⟩ hl.1 dX3_fewestRuns_6 (n_min (by omega) (by omega)) ?_
  refine zz_cast (v := nI n) (congrArg nI (by omega)) ?_
  refine lv_istore_n (pc := 9) (lv' := [(3, .int (nI n)), (0, .ref g), (1, .ref d), (2, .int (nI q))]) S.1 S.2.1 dX3_fewestRuns_9 rfl hl (by decide) rfl (fun ls hl => ?_)
  refine lv_aload_n (pc := 10) S.1 S.2.1 dX3_fewestRuns_10 rfl (lv_at hl 1 rfl) ?_
  refine lv_aload_n (pc := 11) S.1 S.2.1 dX3_fewestRuns_11 rfl (lv_at hl 2 rfl) ?_
  refine lv_iload_n (pc := 12) S.1 S.2.1 dX3_fewestRuns_12 rfl (lv_at hl 3 rfl) ?_
  refine lv_iload_n (pc := 13) S.1 S.2.1 dX3_fewestRuns_13 rfl (lv_at hl 0 rfl) ?_
  refine zz_callMv (pc := 14) (As := [.ref d, .int (nI q), .int (nI n)]) (rest := []) (wr := []) S hV (c_X3_joinComponents l D cI cR g g1 cm d e1 e2 e3 e4 n P X Y L q s.heap.size hge (by omega)) (zuV wd_298 wd_295 wd_296 wd_297 wd_26) 3 rfl q_X3_joinComponents ⟨⟨rfl, rfl⟩, Nat.le_of_ble_eq_true rfl, Nat.le_of_ble_eq_true rfl⟩ [0, 1, 2, 3, 4, 5, 6] [] rfl rfl (by decide) (by decide) (by decide) 0 rfl rfl rfl rfl rfl (Nat.le_of_ble_eq_true rfl) hl.1 ⟨Nat.zero_le _, Nat.zero_le _⟩ dX3_fewestRuns_14 (fun w1 H locs hp hV => ?_)
  obtain ⟨cm5x1, rfl, hcm5x1⟩ := hp
  have hV : zV D cI cR A [(g, .inr (3, [.ref g1])), (g1, zA cI 8 cm5x1), (d, .inr (1, [.int (nI n), .ref e1, .ref e2, .ref e3, .ref e4])), (e1, zA cI 8 P), (e2, zA cI 16 X), (e3, zA cI 16 Y), (e4, zA cI 8 L)] s H locs := hV.perm [0, 1, 2, 3, 4, 5, 6] (by decide) rfl
  refine zz_iconst (pc := 17) (v := nI 0) S dX3_fewestRuns_17 rfl ?_
  refine lv_istore (pc := 18) (lv' := [(4, .int (nI 0)), (3, .int (nI n)), (0, .ref g), (1, .ref d), (2, .int (nI q))]) S.1 S.2.1 dX3_fewestRuns_18 hl (by decide) rfl (fun ls hl => ?_)
  refine zz_iconst (pc := 20) (v := nI 0) S dX3_fewestRuns_20 rfl ?_
  refine lv_istore (pc := 21) (lv' := [(5, .int (nI 0)), (4, .int (nI 0)), (3, .int (nI n)), (0, .ref g), (1, .ref d), (2, .int (nI q))]) S.1 S.2.1 dX3_fewestRuns_21 hl (by decide) rfl (fun ls hl => ?_)
  have L2 : ∀ (f : Nat) (k : Nat), (k ≤ n) → n - k < f → ∀ (H : Heap) (locs : List Loc), zV D cI cR A [(g, .inr (3, [.ref g1])), (g1, zA cI 8 cm5x1), (d, .inr (1, [.int (nI n), .ref e1, .ref e2, .ref e3, .ref e4])), (e1, zA cI 8 P), (e2, zA cI 16 X), (e3, zA cI 16 Y), (e4, zA cI 8 L)] s H locs → ∀ ls : Array Slot, lv_has ls 6 [(0, .ref g), (1, .ref d), (2, .int (nI q)), (3, .int (nI n)), (4, .int (nI (lcn P X Y q n k))), (5, .int (nI k))] → W p l e (headSpec wm_X3_fewestRuns ({ frames := 5, cells := 0, slots := 0, locals := 114 } : Room)).room s m ([.ref g, .ref d, .int (nI q)] : List Value).toArray below meth c H locs 0 0 (MQ below (zQi D cI cR A (fun r w => ∃ (cm5 : Nat → Nat), (w = [(g, .inr (3, [.ref g1])), (g1, zA cI 8 cm5), (d, .inr (1, [.int (nI n), .ref e1, .ref e2, .ref e3, .ref e4])), (e1, zA cI 8 P), (e2, zA cI 16 X), (e3, zA cI 16 Y), (e4, zA cI 8 L)] ∧ r = nI (lcn P X Y q n n)))) ([.ref g, .ref d, .int (nI q)] : List Value).toArray s 0 0 A) (F0 m 23 ls []) := by
    intro f
    induction f with
    | zero => intro k hk hf; exact absurd hf (Nat.not_lt_zero _)
    | succ f ih3 =>
      intro k hk hf H locs hV ls hl
      have hll := lcn_le P X Y q n k hn
      refine lv_iload (pc := 23) S.1 S.2.1 dX3_fewestRuns_23 (lv_at hl 5 rfl) ?_
      refine lv_iload_n (pc := 25) S.1 S.2.1 dX3_fewestRuns_25 rfl (lv_at hl 3 rfl) ?_
      refine zz_icmp_ge (pc := 26) (tgt := 76) S dX3_fewestRuns_26 (by decide) (n_le (by omega) (by omega)) (fun c26 => ?_) (fun c26 => ?_)
      · refine lv_iload (pc := 76) S.1 S.2.1 dX3_fewestRuns_76 (lv_at hl 4 rfl) ?_
        exact zz_iretM (pc := 78) S hr hlocks hV (⟨cm5x1, ⟨rfl, congrArg nI (by rw [show k = n by omega])⟩⟩) dX3_fewestRuns_78
      · refine lv_aload_n (pc := 29) S.1 S.2.1 dX3_fewestRuns_29 rfl (lv_at hl 1 rfl) ?_
        refine lv_iload (pc := 30) S.1 S.2.1 dX3_fewestRuns_30 (lv_at hl 5 rfl) ?_
        refine zz_callV (pc := 32) (As := [.int (nI k)]) (rest := []) S (c_X1_penOfStroke l D cI cR d e1 e2 e3 e4 n P X Y L k hge (by omega)) (zuV wd_185 wd_299 wd_183 wd_184 wd_14) 1 rfl q_X1_penOfStroke ⟨⟨rfl, rfl⟩, Nat.le_of_ble_eq_true rfl, Nat.le_of_ble_eq_true rfl⟩ hV.1 [2, 3, 4, 5, 6] rfl 2 rfl rfl rfl rfl rfl (Nat.le_of_ble_eq_true rfl) hl.1 ⟨Nat.zero_le _, Nat.zero_le _⟩ dX3_fewestRuns_32 ?_
        have g4 := hPf k (by omega)
        refine lv_iload_n (pc := 35) S.1 S.2.1 dX3_fewestRuns_35 rfl (lv_at hl 2 rfl) ?_
        refine zz_icmp_ne (pc := 36) (tgt := 70) S dX3_fewestRuns_36 (by decide) (n_eq (by omega) (by omega)) (fun c36 => ?_) (fun c36 => ?_)
        · have wD : lcn P X Y q n (k + 1) = lcn P X Y q n k := lcn_f (fun z => c36 z.1)
          refine lv_iinc (pc := 70) (v := nI (k + 1)) (lv' := [(5, .int (nI (k + 1))), (0, .ref g), (1, .ref d), (2, .int (nI q)), (3, .int (nI n)), (4, .int (nI (lcn P X Y q n k)))]) S.1 S.2.1 dX3_fewestRuns_70 hl (k := 5) rfl (n_add _ _) (by decide) rfl (fun ls hl => ?_)
          refine lv_goto (pc := 73) (tgt := 23) S.1 S.2.1 dX3_fewestRuns_73 (by decide) ?_
          exact ih3 (k + 1) (by omega) (by omega) H locs hV ls (by rw [wD]; exact lv_sub hl [1, 2, 3, 4, 5, 0] rfl)
        · have hc1 := hcm5x1 k (by omega)
          have hd1 := (jco_id (P := P) (X := X) (Y := Y) (c := q) (n := n) k (by omega)).1
          refine lv_aload_n (pc := 39) S.1 S.2.1 dX3_fewestRuns_39 rfl (lv_at hl 0 rfl) ?_
          refine zz_get (pc := 40) S hV.1 iX3 0 rfl rfl 0 (by decide) wd_58 rfl rfl dX3_fewestRuns_40 ?_
          refine lv_iload (pc := 43) S.1 S.2.1 dX3_fewestRuns_43 (lv_at hl 5 rfl) ?_
          refine zz_iald (pc := 45) (k := k) S hV.1 1 rfl (by omega) dX3_fewestRuns_45 ?_
          refine lv_iload (pc := 46) S.1 S.2.1 dX3_fewestRuns_46 (lv_at hl 5 rfl) ?_
          refine zz_icmp_ne (pc := 48) (tgt := 70) S dX3_fewestRuns_48 (by decide) (n_eq (by omega) (by omega)) (fun c48 => ?_) (fun c48 => ?_)
          · have wD : lcn P X Y q n (k + 1) = lcn P X Y q n k := lcn_f (fun z => c48 (by rw [hc1]; exact z.2))
            refine lv_iinc (pc := 70) (v := nI (k + 1)) (lv' := [(5, .int (nI (k + 1))), (0, .ref g), (1, .ref d), (2, .int (nI q)), (3, .int (nI n)), (4, .int (nI (lcn P X Y q n k)))]) S.1 S.2.1 dX3_fewestRuns_70 hl (k := 5) rfl (n_add _ _) (by decide) rfl (fun ls hl => ?_)
            refine lv_goto (pc := 73) (tgt := 23) S.1 S.2.1 dX3_fewestRuns_73 (by decide) ?_
            exact ih3 (k + 1) (by omega) (by omega) H locs hV ls (by rw [wD]; exact lv_sub hl [1, 2, 3, 4, 5, 0] rfl)
          · have hid : jco P X Y q n k = k := by rw [← hc1]; exact c48
            have wD := lcn_t (P := P) (X := X) (Y := Y) (c := q) (n := n) (t := k) ⟨c36, hid⟩
            refine lv_iload (pc := 51) S.1 S.2.1 dX3_fewestRuns_51 (lv_at hl 4 rfl) ?_
            refine zz_iconst (pc := 53) (v := nI 1) S dX3_fewestRuns_53 rfl ?_
            refine lv_aload_n (pc := 54) S.1 S.2.1 dX3_fewestRuns_54 rfl (lv_at hl 0 rfl) ?_
            refine lv_aload_n (pc := 55) S.1 S.2.1 dX3_fewestRuns_55 rfl (lv_at hl 1 rfl) ?_
            refine lv_iload (pc := 56) S.1 S.2.1 dX3_fewestRuns_56 (lv_at hl 5 rfl) ?_
            refine lv_iload_n (pc := 58) S.1 S.2.1 dX3_fewestRuns_58 rfl (lv_at hl 3 rfl) ?_
            refine zz_callV (pc := 59) (As := [.ref d, .int (nI k), .int (nI n)]) (rest := [.int (nI 1), .int (nI (lcn P X Y q n k))]) S (c_X3_countOddVertices l D cI cR g g1 cm5x1 d e1 e2 e3 e4 n P X Y L q k hge hcm5x1 (by omega) (by omega) (by omega)) (zuV wd_311 wd_308 wd_309 wd_310 wd_26) 3 rfl q_X3_countOddVertices ⟨⟨rfl, rfl⟩, Nat.le_of_ble_eq_true rfl, Nat.le_of_ble_eq_true rfl⟩ hV.1 [0, 1, 2, 3, 4, 5, 6] rfl 0 rfl rfl rfl rfl rfl (Nat.le_of_ble_eq_true rfl) hl.1 ⟨Nat.zero_le _, Nat.zero_le _⟩ dX3_fewestRuns_59 ?_
            have g5 := ods_le P X Y q n k (2 * n)
            refine zz_iconst (pc := 62) (v := nI 2) S dX3_fewestRuns_62 rfl ?_
            refine zz_idiv (pc := 63) (v := nI ((ods P X Y q n k (2 * n)) / 2)) S dX3_fewestRuns_63 (by decide) (n_div (by omega) (by decide) (by decide)) ?_
            refine zz_max (pc := 64) (v := nI (max 1 ((ods P X Y q n k (2 * n)) / 2))) S wd_293 wd_249 wd_106 wd_250 ⟨Nat.le_of_ble_eq_true rfl, Nat.le_of_ble_eq_true rfl⟩ ⟨Nat.zero_le _, Nat.zero_le _⟩ hl.1 dX3_fewestRuns_64 (n_max (by omega) (by omega)) ?_
            refine zz_iadd (pc := 67) (v := nI (lcn P X Y q n k + (max 1 ((ods P X Y q n k (2 * n)) / 2)))) S dX3_fewestRuns_67 (n_add _ _) ?_
            refine lv_istore (pc := 68) (lv' := [(4, .int (nI (lcn P X Y q n k + (max 1 ((ods P X Y q n k (2 * n)) / 2))))), (0, .ref g), (1, .ref d), (2, .int (nI q)), (3, .int (nI n)), (5, .int (nI k))]) S.1 S.2.1 dX3_fewestRuns_68 hl (by decide) rfl (fun ls hl => ?_)
            refine lv_iinc (pc := 70) (v := nI (k + 1)) (lv' := [(5, .int (nI (k + 1))), (4, .int (nI (lcn P X Y q n k + (max 1 ((ods P X Y q n k (2 * n)) / 2))))), (0, .ref g), (1, .ref d), (2, .int (nI q)), (3, .int (nI n))]) S.1 S.2.1 dX3_fewestRuns_70 hl (k := 5) rfl (n_add _ _) (by decide) rfl (fun ls hl => ?_)
            refine lv_goto (pc := 73) (tgt := 23) S.1 S.2.1 dX3_fewestRuns_73 (by decide) ?_
            exact ih3 (k + 1) (by omega) (by omega) H locs hV ls (by rw [wD]; exact lv_sub hl [2, 3, 4, 5, 1, 0] rfl)
  exact L2 (n - 0 + 1) 0 (by omega) (Nat.lt_succ_self _) H locs hV ls (lv_sub hl [3, 4, 5, 2, 1, 0] rfl)
abbrev wm_X5_leastRuns : List Cond := .code yX5_leastRuns cX5_leastRuns 2 (some .int) :: wU
theorem q_X5_leastRuns : yX5_leastRuns.cls = RX5 ∧ yX5_leastRuns.cls ≠ "java/lang/invoke/MethodHandle" ∧ yX5_leastRuns.cls ≠ "java/lang/invoke/VarHandle" ∧ (parseMethodDescriptor yX5_leastRuns.desc).map (fun d => d.parameters.length) = some 1 := by decide +kernel
set_option maxHeartbeats 4000000 in
set_option maxRecDepth 100000 in
theorem c_X5_leastRuns_e (l : Launch) (D : va_G) (cI cR : ClassId) (z h b g v C V Ac : Nat) (d e1 e2 e3 e4 n : Nat) (P X Y L : Nat → Nat) (a : Int) (hok : zOk n P X Y L) (hset : zSt C V Ac) (ha : zR a) (hbad : ¬ (0 ≤ a ∧ a ≤ 3)) : Met l yX5_leastRuns wm_X5_leastRuns ({ frames := 2, cells := 0, slots := 0, locals := 42 } : Room) (va_Pc [.ref z, .int (zI a)] (zW D cI cR [(z, .inr (5, [.ref d, .ref h, .ref b, .ref g, .ref v, .int (nI C), .int (nI V), .int (nI Ac)])), (d, .inr (1, [.int (nI n), .ref e1, .ref e2, .ref e3, .ref e4])), (e1, zA cI 8 P), (e2, zA cI 16 X), (e3, zA cI 16 Y), (e4, zA cI 8 L)])) (vp_Si (fun r => r = zI (-1))) 0 0 (fun _ => False) := by
  refine Met.ofW (cc := cX5_leastRuns) (maxL := 2) (ret := (some .int)) (by decide) rfl ?_
  intro p e s m args below meth c s₁ B hml hv
  obtain ⟨rfl, hG⟩ := hv
  have S : CallFix p m c cX5_leastRuns 2 s ([.ref z, .int (zI a)] : List Value).toArray wU RX5 := ⟨B.exec, B.bytes, hml, findClass_of_methodNamed B.named, fun w h => atoms_spec (ws := wm_X5_leastRuns) B.pre w (List.mem_cons_of_mem _ h)⟩
  have hr := B.returns
  have hlocks := B.notSynchronized
  have hG : zG D cI cR [(z, .inr (5, [.ref d, .ref h, .ref b, .ref g, .ref v, .int (nI C), .int (nI V), .int (nI Ac)])), (d, .inr (1, [.int (nI n), .ref e1, .ref e2, .ref e3, .ref e4])), (e1, zA cI 8 P), (e2, zA cI 16 X), (e3, zA cI 16 Y), (e4, zA cI 8 L)] s s.heap := hG
  have hl := lv_entry ([.ref z, .int (zI a)]) (n := 2) (Nat.le_of_ble_eq_true rfl)
  rw [lg_entry_eq]
  generalize (lg_sl ([.ref z, .int (zI a)]) ++ List.replicate (2 - (lg_sl ([.ref z, .int (zI a)])).length) Slot.unset).toArray = ls at hl ⊢
  have hl : lv_has ls 2 [(0, .ref z), (1, .int (zI a))] := hl
  have r_ha := id ha
  unfold zR at r_ha
  obtain ⟨⟨hn, hPf, hXY⟩, hLf, hinj⟩ := id hok
  obtain ⟨hC, hV9, hA9⟩ := id hset
  refine lv_iload_n (pc := 0) S.1 S.2.1 dX5_leastRuns_0 rfl (lv_at hl 1 rfl) ?_
  refine zz_callS (pc := 1) (As := [.int (zI a)]) (rest := []) S (c_X5_isPen l D cI cR a (by unfold zR; omega)) (zuS wd_88 wd_86 wd_87 wd_2) 1 rfl q_X5_isPen.2 ⟨⟨rfl, rfl⟩, Nat.le_of_ble_eq_true rfl, Nat.le_of_ble_eq_true rfl⟩ rfl rfl (Nat.le_of_ble_eq_true rfl) hl.1 ⟨Nat.zero_le _, Nat.zero_le _⟩ dX5_leastRuns_1 ?_
  refine zz_ifb_eq (pc := 4) (tgt := 22) S dX5_leastRuns_4 (by decide) (fun c4 => ?_) (fun c4 => ?_)
  · refine zz_iconst (pc := 22) (v := zI (-1)) S dX5_leastRuns_22 rfl ?_
    exact zz_iretS (pc := 23) S hr hlocks (rfl) dX5_leastRuns_23
  · exfalso; omega
set_option maxHeartbeats 4000000 in
set_option maxRecDepth 100000 in
theorem c_X5_leastRuns_k (l : Launch) (D : va_G) (cI cR : ClassId) (z h b g v C V Ac : Nat) (d e1 e2 e3 e4 n : Nat) (P X Y L : Nat → Nat) (g1 : Nat) (cm : Nat → Nat) (a : Nat) (sz : Nat) (hok : zOk n P X Y L) (hset : zSt C V Ac) (ha : a ≤ 3) : Met l yX5_leastRuns wm_X5_leastRuns ({ frames := 6, cells := 0, slots := 0, locals := 139 } : Room) (va_Pc [.ref z, .int (nI a)] (zX D cI cR [(z, .inr (5, [.ref d, .ref h, .ref b, .ref g, .ref v, .int (nI C), .int (nI V), .int (nI Ac)])), (d, .inr (1, [.int (nI n), .ref e1, .ref e2, .ref e3, .ref e4])), (e1, zA cI 8 P), (e2, zA cI 16 X), (e3, zA cI 16 Y), (e4, zA cI 8 L), (g, .inr (3, [.ref g1])), (g1, zA cI 8 cm)] sz)) (zQi D cI cR (va_A [(z, .inr (5, [.ref d, .ref h, .ref b, .ref g, .ref v, .int (nI C), .int (nI V), .int (nI Ac)])), (d, .inr (1, [.int (nI n), .ref e1, .ref e2, .ref e3, .ref e4])), (e1, zA cI 8 P), (e2, zA cI 16 X), (e3, zA cI 16 Y), (e4, zA cI 8 L), (g, .inr (3, [.ref g1])), (g1, zA cI 8 cm)] sz) (fun r w => ∃ (cm5 : Nat → Nat), (w = [(z, .inr (5, [.ref d, .ref h, .ref b, .ref g, .ref v, .int (nI C), .int (nI V), .int (nI Ac)])), (d, .inr (1, [.int (nI n), .ref e1, .ref e2, .ref e3, .ref e4])), (e1, zA cI 8 P), (e2, zA cI 16 X), (e3, zA cI 16 Y), (e4, zA cI 8 L), (g, .inr (3, [.ref g1])), (g1, zA cI 8 cm5)] ∧ r = nI (lcn P X Y a n n)))) 0 0 (va_A [(z, .inr (5, [.ref d, .ref h, .ref b, .ref g, .ref v, .int (nI C), .int (nI V), .int (nI Ac)])), (d, .inr (1, [.int (nI n), .ref e1, .ref e2, .ref e3, .ref e4])), (e1, zA cI 8 P), (e2, zA cI 16 X), (e3, zA cI 16 Y), (e4, zA cI 8 L), (g, .inr (3, [.ref g1])), (g1, zA cI 8 cm)] sz) := by
  refine Met.ofW (cc := cX5_leastRuns) (maxL := 2) (ret := (some .int)) (by decide) rfl ?_
  intro p e s m args below meth c s₁ B hml hv
  obtain ⟨rfl, hsz, hG, hD0⟩ := hv
  have S : CallFix p m c cX5_leastRuns 2 s ([.ref z, .int (nI a)] : List Value).toArray wU RX5 := ⟨B.exec, B.bytes, hml, findClass_of_methodNamed B.named, fun w h => atoms_spec (ws := wm_X5_leastRuns) B.pre w (List.mem_cons_of_mem _ h)⟩
  have hr := B.returns
  have hlocks := B.notSynchronized
  subst hsz
  have hD := hD0.self (sz := s.heap.size)
  generalize hAe : va_A [(z, .inr (5, [.ref d, .ref h, .ref b, .ref g, .ref v, .int (nI C), .int (nI V), .int (nI Ac)])), (d, .inr (1, [.int (nI n), .ref e1, .ref e2, .ref e3, .ref e4])), (e1, zA cI 8 P), (e2, zA cI 16 X), (e3, zA cI 16 Y), (e4, zA cI 8 L), (g, .inr (3, [.ref g1])), (g1, zA cI 8 cm)] s.heap.size = A at hD ⊢
  have hV : zV D cI cR A [(z, .inr (5, [.ref d, .ref h, .ref b, .ref g, .ref v, .int (nI C), .int (nI V), .int (nI Ac)])), (d, .inr (1, [.int (nI n), .ref e1, .ref e2, .ref e3, .ref e4])), (e1, zA cI 8 P), (e2, zA cI 16 X), (e3, zA cI 16 Y), (e4, zA cI 8 L), (g, .inr (3, [.ref g1])), (g1, zA cI 8 cm)] s s.heap [] := ⟨hG, hD, va_S.rf, fun q h => by rw [← hAe]; exact Or.inr h⟩
  have hl := lv_entry ([.ref z, .int (nI a)]) (n := 2) (Nat.le_of_ble_eq_true rfl)
  rw [lg_entry_eq]
  generalize (lg_sl ([.ref z, .int (nI a)]) ++ List.replicate (2 - (lg_sl ([.ref z, .int (nI a)])).length) Slot.unset).toArray = ls at hl ⊢
  have hl : lv_has ls 2 [(0, .ref z), (1, .int (nI a))] := hl
  obtain ⟨⟨hn, hPf, hXY⟩, hLf, hinj⟩ := id hok
  obtain ⟨hC, hV9, hA9⟩ := id hset
  refine lv_iload_n (pc := 0) S.1 S.2.1 dX5_leastRuns_0 rfl (lv_at hl 1 rfl) ?_
  refine zz_callS (pc := 1) (As := [.int (zI ((a : Nat) : Int))]) (rest := []) S (c_X5_isPen l D cI cR ((a : Nat) : Int) (by unfold zR; omega)) (zuS wd_88 wd_86 wd_87 wd_2) 1 rfl q_X5_isPen.2 ⟨⟨rfl, rfl⟩, Nat.le_of_ble_eq_true rfl, Nat.le_of_ble_eq_true rfl⟩ rfl rfl (Nat.le_of_ble_eq_true rfl) hl.1 ⟨Nat.zero_le _, Nat.zero_le _⟩ dX5_leastRuns_1 ?_
  refine zz_ifb_eq (pc := 4) (tgt := 22) S dX5_leastRuns_4 (by decide) (fun c4 => ?_) (fun c4 => ?_)
  · exfalso; omega
  · refine lv_aload_n (pc := 7) S.1 S.2.1 dX5_leastRuns_7 rfl (lv_at hl 0 rfl) ?_
    refine zz_get (pc := 8) S hV.1 iX5 0 rfl rfl 3 (by decide) wd_27 rfl rfl dX5_leastRuns_8 ?_
    refine lv_aload_n (pc := 11) S.1 S.2.1 dX5_leastRuns_11 rfl (lv_at hl 0 rfl) ?_
    refine zz_get (pc := 12) S hV.1 iX5 0 rfl rfl 0 (by decide) wd_15 rfl rfl dX5_leastRuns_12 ?_
    refine lv_iload_n (pc := 15) S.1 S.2.1 dX5_leastRuns_15 rfl (lv_at hl 1 rfl) ?_
    refine zz_callM (pc := 16) (As := [.ref d, .int (nI a)]) (rest := []) (wr := [(z, .inr (5, [.ref d, .ref h, .ref b, .ref g, .ref v, .int (nI C), .int (nI V), .int (nI Ac)]))]) S hV (c_X3_fewestRuns l D cI cR g g1 cm d e1 e2 e3 e4 n P X Y L a s.heap.size hok.1 (by omega)) (zuV wd_291 wd_288 wd_289 wd_290 wd_26) 2 rfl q_X3_fewestRuns ⟨⟨rfl, rfl⟩, Nat.le_of_ble_eq_true rfl, Nat.le_of_ble_eq_true rfl⟩ [6, 7, 1, 2, 3, 4, 5] [0] rfl rfl (by decide) (by decide) (by decide) 6 rfl rfl rfl rfl rfl (Nat.le_of_ble_eq_true rfl) hl.1 ⟨Nat.zero_le _, Nat.zero_le _⟩ dX5_leastRuns_16 (fun r1 w1 H locs hp hV => ?_)
    obtain ⟨cm5x1, ⟨rfl, rfl⟩⟩ := hp
    have hV : zV D cI cR A [(z, .inr (5, [.ref d, .ref h, .ref b, .ref g, .ref v, .int (nI C), .int (nI V), .int (nI Ac)])), (d, .inr (1, [.int (nI n), .ref e1, .ref e2, .ref e3, .ref e4])), (e1, zA cI 8 P), (e2, zA cI 16 X), (e3, zA cI 16 Y), (e4, zA cI 8 L), (g, .inr (3, [.ref g1])), (g1, zA cI 8 cm5x1)] s H locs := hV.perm [0, 3, 4, 5, 6, 7, 1, 2] (by decide) rfl
    refine lv_goto (pc := 19) (tgt := 23) S.1 S.2.1 dX5_leastRuns_19 (by decide) ?_
    exact zz_iretM (pc := 23) S hr hlocks hV (⟨cm5x1, ⟨rfl, rfl⟩⟩) dX5_leastRuns_23
