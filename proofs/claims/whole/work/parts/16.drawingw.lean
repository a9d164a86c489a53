abbrev wm_X1_setCode : List Cond := .code yX1_setCode cX1_setCode 3 none :: wU
theorem q_X1_setCode : yX1_setCode.cls = RX1 ∧ yX1_setCode.cls ≠ "java/lang/invoke/MethodHandle" ∧ yX1_setCode.cls ≠ "java/lang/invoke/VarHandle" ∧ (parseMethodDescriptor yX1_setCode.desc).map (fun d => d.parameters.length) = some 2 := by decide +kernel
set_option maxHeartbeats 4000000 in
set_option maxRecDepth 100000 in
theorem c_X1_setCode (l : Launch) (D : va_G) (cI cR : ClassId) (d e1 e2 e3 e4 n : Nat) (P X Y L : Nat → Nat) (a : Nat) (b : Nat) (sz : Nat) (hge : zGe n P X Y) (ha : a < n) (hb : b < 2 * n) : Met l yX1_setCode wm_X1_setCode ({ frames := 1, cells := 0, slots := 0, locals := 21 } : Room) (va_Pc [.ref d, .int (nI a), .int (nI b)] (zX D cI cR [(d, .inr (1, [.int (nI n), .ref e1, .ref e2, .ref e3, .ref e4])), (e1, zA cI 8 P), (e2, zA cI 16 X), (e3, zA cI 16 Y), (e4, zA cI 8 L)] sz)) (zQv D cI cR (va_A [(d, .inr (1, [.int (nI n), .ref e1, .ref e2, .ref e3, .ref e4])), (e1, zA cI 8 P), (e2, zA cI 16 X), (e3, zA cI 16 Y), (e4, zA cI 8 L)] sz) (fun w => w = [(d, .inr (1, [.int (nI n), .ref e1, .ref e2, .ref e3, .ref e4])), (e1, zA cI 8 P), (e2, zA cI 16 X), (e3, zA cI 16 Y), (e4, zA cI 8 (va_up L a b))])) 0 0 (va_A [(d, .inr (1, [.int (nI n), .ref e1, .ref e2, .ref e3, .ref e4])), (e1, zA cI 8 P), (e2, zA cI 16 X), (e3, zA cI 16 Y), (e4, zA cI 8 L)] sz) := by
  refine Met.ofW (cc := cX1_setCode) (maxL := 3) (ret := none) (by decide) rfl ?_
  intro p e s m args below meth c s₁ B hml hv
  obtain ⟨rfl, hsz, hG, hD0⟩ := hv
  have S : CallFix p m c cX1_setCode 3 s ([.ref d, .int (nI a), .int (nI b)] : List Value).toArray wU RX1 := ⟨B.exec, B.bytes, hml, findClass_of_methodNamed B.named, fun w h => atoms_spec (ws := wm_X1_setCode) B.pre w (List.mem_cons_of_mem _ h)⟩
  have hr := B.returns
  have hlocks := B.notSynchronized
  subst hsz
  have hD := hD0.self (sz := s.heap.size)
  generalize hAe : va_A [(d, .inr (1, [.int (nI n), .ref e1, .ref e2, .ref e3, .ref e4])), (e1, zA cI 8 P), (e2, zA cI 16 X), (e3, zA cI 16 Y), (e4, zA cI 8 L)] s.heap.size = A at hD ⊢
  have hV : zV D cI cR A [(d, .inr (1, [.int (nI n), .ref e1, .ref e2, .ref e3, .ref e4])), (e1, zA cI 8 P), (e2, zA cI 16 X), (e3, zA cI 16 Y), (e4, zA cI 8 L)] s s.heap [] := ⟨hG, hD, va_S.rf, fun q h => by rw [← hAe]; exact Or.inr h⟩
  have hl := lv_entry ([.ref d, .int (nI a), .int (nI b)]) (n := 3) (Nat.le_of_ble_eq_true rfl)
  rw [lg_entry_eq]
  generalize (lg_sl ([.ref d, .int (nI a), .int (nI b)]) ++ List.replicate (3 - (lg_sl ([.ref d, .int (nI a), .int (nI b)])).length) Slot.unset).toArray = ls at hl ⊢
  have hl : lv_has ls 3 [(0, .ref d), (1, .int (nI a)), (2, .int (nI b))] := hl
  obtain ⟨hn, hPf, hXY⟩ := id hge
  refine lv_aload_n (pc := 0) S.1 S.2.1 dX1_setCode_0 rfl (lv_at hl 0 rfl) ?_
  refine lv_iload_n (pc := 1) S.1 S.2.1 dX1_setCode_1 rfl (lv_at hl 1 rfl) ?_
  refine zz_callV (pc := 2) (As := [.int (zI ((a : Nat) : Int))]) (rest := []) S (c_X1_hasPosition l D cI cR d e1 e2 e3 e4 n P X Y L ((a : Nat) : Int) hge (by unfold zR; omega)) (zuV wd_347 wd_352 wd_345 wd_346 wd_14) 1 rfl q_X1_hasPosition ⟨⟨rfl, rfl⟩, Nat.le_of_ble_eq_true rfl, Nat.le_of_ble_eq_true rfl⟩ hV.1 [0, 1, 2, 3, 4] rfl 0 rfl rfl rfl rfl rfl (Nat.le_of_ble_eq_true rfl) hl.1 ⟨Nat.zero_le _, Nat.zero_le _⟩ dX1_setCode_2 ?_
  refine zz_ifb_eq (pc := 5) (tgt := 23) S dX1_setCode_5 (by decide) (fun c5 => ?_) (fun c5 => ?_)
  · exfalso; omega
  · refine lv_aload_n (pc := 8) S.1 S.2.1 dX1_setCode_8 rfl (lv_at hl 0 rfl) ?_
    refine lv_iload_n (pc := 9) S.1 S.2.1 dX1_setCode_9 rfl (lv_at hl 2 rfl) ?_
    refine zz_callV (pc := 10) (As := [.int (zI ((b : Nat) : Int))]) (rest := []) S (c_X1_hasCode l D cI cR d e1 e2 e3 e4 n P X Y L ((b : Nat) : Int) hge (by unfold zR; omega)) (zuV wd_218 wd_215 wd_216 wd_217 wd_14) 1 rfl q_X1_hasCode ⟨⟨rfl, rfl⟩, Nat.le_of_ble_eq_true rfl, Nat.le_of_ble_eq_true rfl⟩ hV.1 [0, 1, 2, 3, 4] rfl 0 rfl rfl rfl rfl rfl (Nat.le_of_ble_eq_true rfl) hl.1 ⟨Nat.zero_le _, Nat.zero_le _⟩ dX1_setCode_10 ?_
    refine zz_ifb_eq (pc := 13) (tgt := 23) S dX1_setCode_13 (by decide) (fun c13 => ?_) (fun c13 => ?_)
    · exfalso; omega
    · refine lv_aload_n (pc := 16) S.1 S.2.1 dX1_setCode_16 rfl (lv_at hl 0 rfl) ?_
      refine zz_get (pc := 17) S hV.1 iX1 0 rfl rfl 4 (by decide) wd_42 rfl rfl dX1_setCode_17 ?_
      refine lv_iload_n (pc := 20) S.1 S.2.1 dX1_setCode_20 rfl (lv_at hl 1 rfl) ?_
      refine lv_iload_n (pc := 21) S.1 S.2.1 dX1_setCode_21 rfl (lv_at hl 2 rfl) ?_
      refine zz_iast (pc := 22) (k := a) (v := b) S hV 4 rfl (by omega) (ws' := [(d, .inr (1, [.int (nI n), .ref e1, .ref e2, .ref e3, .ref e4])), (e1, zA cI 8 P), (e2, zA cI 16 X), (e3, zA cI 16 Y), (e4, zA cI 8 (va_up L a b))]) rfl dX1_setCode_22 (fun H locs hV => ?_)
      exact zz_vretM (pc := 23) S hr hlocks hV (rfl) dX1_setCode_23
abbrev wm_X1_dropFromPlan : List Cond := .code yX1_dropFromPlan cX1_dropFromPlan 5 none :: wU
theorem q_X1_dropFromPlan : yX1_dropFromPlan.cls = RX1 ∧ yX1_dropFromPlan.cls ≠ "java/lang/invoke/MethodHandle" ∧ yX1_dropFromPlan.cls ≠ "java/lang/invoke/VarHandle" ∧ (parseMethodDescriptor yX1_dropFromPlan.desc).map (fun d => d.parameters.length) = some 1 := by decide +kernel
set_option maxHeartbeats 4000000 in
set_option maxRecDepth 100000 in
theorem c_X1_dropFromPlan (l : Launch) (D : va_G) (cI cR : ClassId) (d e1 e2 e3 e4 n : Nat) (P X Y L : Nat → Nat) (a : Nat) (t : Nat) (sz : Nat) (hok : zOk n P X Y L) (ha : a < n) (ht : t < n ∧ L t / 2 = a) : Met l yX1_dropFromPlan wm_X1_dropFromPlan ({ frames := 0, cells := 0, slots := 0, locals := 0 } : Room) (va_Pc [.ref d, .int (nI a)] (zX D cI cR [(d, .inr (1, [.int (nI n), .ref e1, .ref e2, .ref e3, .ref e4])), (e1, zA cI 8 P), (e2, zA cI 16 X), (e3, zA cI 16 Y), (e4, zA cI 8 L)] sz)) (zQv D cI cR (va_A [(d, .inr (1, [.int (nI n), .ref e1, .ref e2, .ref e3, .ref e4])), (e1, zA cI 8 P), (e2, zA cI 16 X), (e3, zA cI 16 Y), (e4, zA cI 8 L)] sz) (fun w => w = [(d, .inr (1, [.int (nI n), .ref e1, .ref e2, .ref e3, .ref e4])), (e1, zA cI 8 P), (e2, zA cI 16 X), (e3, zA cI 16 Y), (e4, zA cI 8 (dpl L a t n))])) 0 0 (va_A [(d, .inr (1, [.int (nI n), .ref e1, .ref e2, .ref e3, .ref e4])), (e1, zA cI 8 P), (e2, zA cI 16 X), (e3, zA cI 16 Y), (e4, zA cI 8 L)] sz) := by
  refine Met.ofW (cc := cX1_dropFromPlan) (maxL := 5) (ret := none) (by decide) rfl ?_
  intro p e s m args below meth c s₁ B hml hv
  obtain ⟨rfl, hsz, hG, hD0⟩ := hv
  have S : CallFix p m c cX1_dropFromPlan 5 s ([.ref d, .int (nI a)] : List Value).toArray wU RX1 := ⟨B.exec, B.bytes, hml, findClass_of_methodNamed B.named, fun w h => atoms_spec (ws := wm_X1_dropFromPlan) B.pre w (List.mem_cons_of_mem _ h)⟩
  have hr := B.returns
  have hlocks := B.notSynchronized
  subst hsz
  have hD := hD0.self (sz := s.heap.size)
  generalize hAe : va_A [(d, .inr (1, [.int (nI n), .ref e1, .ref e2, .ref e3, .ref e4])), (e1, zA cI 8 P), (e2, zA cI 16 X), (e3, zA cI 16 Y), (e4, zA cI 8 L)] s.heap.size = A at hD ⊢
  have hV : zV D cI cR A [(d, .inr (1, [.int (nI n), .ref e1, .ref e2, .ref e3, .ref e4])), (e1, zA cI 8 P), (e2, zA cI 16 X), (e3, zA cI 16 Y), (e4, zA cI 8 L)] s s.heap [] := ⟨hG, hD, va_S.rf, fun q h => by rw [← hAe]; exact Or.inr h⟩
  have hl := lv_entry ([.ref d, .int (nI a)]) (n := 5) (Nat.le_of_ble_eq_true rfl)
  rw [lg_entry_eq]
  generalize (lg_sl ([.ref d, .int (nI a)]) ++ List.replicate (5 - (lg_sl ([.ref d, .int (nI a)])).length) Slot.unset).toArray = ls at hl ⊢
  have hl : lv_has ls 5 [(0, .ref d), (1, .int (nI a))] := hl
  obtain ⟨⟨hn, hPf, hXY⟩, hLf, hinj⟩ := id hok
  refine zz_iconst (pc := 0) (v := nI 0) S dX1_dropFromPlan_0 rfl ?_
  refine lv_istore_n (pc := 1) (lv' := [(2, .int (nI 0)), (0, .ref d), (1, .int (nI a))]) S.1 S.2.1 dX1_dropFromPlan_1 rfl hl (by decide) rfl (fun ls hl => ?_)
  refine zz_iconst (pc := 2) (v := nI 0) S dX1_dropFromPlan_2 rfl ?_
  refine lv_istore_n (pc := 3) (lv' := [(3, .int (nI 0)), (2, .int (nI 0)), (0, .ref d), (1, .int (nI a))]) S.1 S.2.1 dX1_dropFromPlan_3 rfl hl (by decide) rfl (fun ls hl => ?_)
  have L1 : ∀ (f : Nat) (k : Nat), (k ≤ n) → n - k < f → ∀ (H : Heap) (locs : List Loc), zV D cI cR A [(d, .inr (1, [.int (nI n), .ref e1, .ref e2, .ref e3, .ref e4])), (e1, zA cI 8 P), (e2, zA cI 16 X), (e3, zA cI 16 Y), (e4, zA cI 8 (dpl L a t k))] s H locs → ∀ ls : Array Slot, lv_has ls 5 [(0, .ref d), (1, .int (nI a)), (2, .int (nI (kpt t k))), (3, .int (nI k))] → W p l e (headSpec wm_X1_dropFromPlan ({ frames := 0, cells := 0, slots := 0, locals := 0 } : Room)).room s m ([.ref d, .int (nI a)] : List Value).toArray below meth c H locs 0 0 (MQ below (zQv D cI cR A (fun w => w = [(d, .inr (1, [.int (nI n), .ref e1, .ref e2, .ref e3, .ref e4])), (e1, zA cI 8 P), (e2, zA cI 16 X), (e3, zA cI 16 Y), (e4, zA cI 8 (dpl L a t n))])) ([.ref d, .int (nI a)] : List Value).toArray s 0 0 A) (F0 m 4 ls []) := by
    intro f
    induction f with
    | zero => intro k hk hf; exact absurd hf (Nat.not_lt_zero _)
    | succ f ih2 =>
      intro k hk hf H locs hV ls hl
      have hq := kpt_f t k
      have hq2 := kpt_f t (k + 1)
      refine lv_iload_n (pc := 4) S.1 S.2.1 dX1_dropFromPlan_4 rfl (lv_at hl 3 rfl) ?_
      refine lv_aload_n (pc := 5) S.1 S.2.1 dX1_dropFromPlan_5 rfl (lv_at hl 0 rfl) ?_
      refine zz_get (pc := 6) S hV.1 iX1 0 rfl rfl 0 (by decide) wd_93 rfl rfl dX1_dropFromPlan_6 ?_
      refine zz_icmp_ge (pc := 9) (tgt := 60) S dX1_dropFromPlan_9 (by decide) (n_le (by omega) (by omega)) (fun c9 => ?_) (fun c9 => ?_)
      · have hV : zV D cI cR A [(d, .inr (1, [.int (nI n), .ref e1, .ref e2, .ref e3, .ref e4])), (e1, zA cI 8 P), (e2, zA cI 16 X), (e3, zA cI 16 Y), (e4, zA cI 8 (dpl L a t n))] s H locs := hV.arr 4 rfl (fun j hj => by rw [show k = n by omega]) rfl
        exact zz_vretM (pc := 60) S hr hlocks hV (rfl) dX1_dropFromPlan_60
      · refine lv_aload_n (pc := 12) S.1 S.2.1 dX1_dropFromPlan_12 rfl (lv_at hl 0 rfl) ?_
        refine zz_get (pc := 13) S hV.1 iX1 0 rfl rfl 4 (by decide) wd_42 rfl rfl dX1_dropFromPlan_13 ?_
        refine lv_iload_n (pc := 16) S.1 S.2.1 dX1_dropFromPlan_16 rfl (lv_at hl 3 rfl) ?_
        refine zz_iald (pc := 17) (k := k) S hV.1 4 rfl (by omega) dX1_dropFromPlan_17 ?_
        refine zz_cast (v := nI (L k)) (congrArg nI (dpl_k L a t k)) ?_
        have g3 := hLf k (by omega)
        refine lv_istore (pc := 18) (lv' := [(4, .int (nI (L k))), (0, .ref d), (1, .int (nI a)), (2, .int (nI (kpt t k))), (3, .int (nI k))]) S.1 S.2.1 dX1_dropFromPlan_18 hl (by decide) rfl (fun ls hl => ?_)
        refine lv_iload (pc := 20) S.1 S.2.1 dX1_dropFromPlan_20 (lv_at hl 0 rfl) ?_
        refine zz_iconst (pc := 22) (v := nI 2) S dX1_dropFromPlan_22 rfl ?_
        refine zz_idiv (pc := 23) (v := nI ((L k) / 2)) S dX1_dropFromPlan_23 (by decide) (n_div (by omega) (by decide) (by decide)) ?_
        refine lv_iload_n (pc := 24) S.1 S.2.1 dX1_dropFromPlan_24 rfl (lv_at hl 2 rfl) ?_
        refine zz_icmp_eq (pc := 25) (tgt := 54) S dX1_dropFromPlan_25 (by decide) (n_eq (by omega) (by omega)) (fun c25 => ?_) (fun c25 => ?_)
        · have hkt : k = t := hinj k t (by omega) (by omega) (by omega)
          refine lv_iinc (pc := 54) (v := nI (k + 1)) (lv' := [(3, .int (nI (k + 1))), (4, .int (nI (L k))), (0, .ref d), (1, .int (nI a)), (2, .int (nI (kpt t k)))]) S.1 S.2.1 dX1_dropFromPlan_54 hl (k := 4) rfl (n_add _ _) (by decide) rfl (fun ls hl => ?_)
          refine lv_goto (pc := 57) (tgt := 4) S.1 S.2.1 dX1_dropFromPlan_57 (by decide) ?_
          have hV : zV D cI cR A [(d, .inr (1, [.int (nI n), .ref e1, .ref e2, .ref e3, .ref e4])), (e1, zA cI 8 P), (e2, zA cI 16 X), (e3, zA cI 16 Y), (e4, zA cI 8 (dpl L a t (k + 1)))] s H locs := hV.arr 4 rfl (fun j hj => by first | exact dpl_s L a t k _ j (by assumption) (by first | exact (adj_t (by omega)).symm | exact (adj_f (by omega)).symm) | (rw [show k = t by assumption]; exact dpl_t L a t j)) rfl
          exact ih2 (k + 1) (by omega) (by omega) H locs hV ls (by rw [show kpt t (k + 1) = kpt t k by omega]; exact lv_sub hl [2, 3, 4, 0] rfl)
        · have hkt : ¬ k = t := by intro q; rw [q] at c25; omega
          refine lv_aload_n (pc := 28) S.1 S.2.1 dX1_dropFromPlan_28 rfl (lv_at hl 1 rfl) ?_
          refine zz_get (pc := 29) S hV.1 iX1 0 rfl rfl 4 (by decide) wd_42 rfl rfl dX1_dropFromPlan_29 ?_
          refine lv_iload_n (pc := 32) S.1 S.2.1 dX1_dropFromPlan_32 rfl (lv_at hl 3 rfl) ?_
          refine lv_iload (pc := 33) S.1 S.2.1 dX1_dropFromPlan_33 (lv_at hl 0 rfl) ?_
          refine zz_iconst (pc := 35) (v := nI 2) S dX1_dropFromPlan_35 rfl ?_
          refine zz_idiv (pc := 36) (v := nI ((L k) / 2)) S dX1_dropFromPlan_36 (by decide) (n_div (by omega) (by decide) (by decide)) ?_
          refine lv_iload_n (pc := 37) S.1 S.2.1 dX1_dropFromPlan_37 rfl (lv_at hl 2 rfl) ?_
          refine zz_icmp_le (pc := 38) (tgt := 48) S dX1_dropFromPlan_38 (by decide) (n_le (by omega) (by omega)) (fun c38 => ?_) (fun c38 => ?_)
          · refine lv_iload (pc := 48) S.1 S.2.1 dX1_dropFromPlan_48 (lv_at hl 0 rfl) ?_
            refine zz_iast (pc := 50) (k := kpt t k) (v := L k) S hV 4 rfl (by omega) (ws' := [(d, .inr (1, [.int (nI n), .ref e1, .ref e2, .ref e3, .ref e4])), (e1, zA cI 8 P), (e2, zA cI 16 X), (e3, zA cI 16 Y), (e4, zA cI 8 (va_up (dpl L a t k) (kpt t k) (L k)))]) rfl dX1_dropFromPlan_50 (fun H locs hV => ?_)
            refine lv_iinc (pc := 51) (v := nI (kpt t k + 1)) (lv' := [(2, .int (nI (kpt t k + 1))), (4, .int (nI (L k))), (0, .ref d), (1, .int (nI a)), (3, .int (nI k))]) S.1 S.2.1 dX1_dropFromPlan_51 hl (k := 3) rfl (n_add _ _) (by decide) rfl (fun ls hl => ?_)
            refine lv_iinc (pc := 54) (v := nI (k + 1)) (lv' := [(3, .int (nI (k + 1))), (2, .int (nI (kpt t k + 1))), (4, .int (nI (L k))), (0, .ref d), (1, .int (nI a))]) S.1 S.2.1 dX1_dropFromPlan_54 hl (k := 4) rfl (n_add _ _) (by decide) rfl (fun ls hl => ?_)
            refine lv_goto (pc := 57) (tgt := 4) S.1 S.2.1 dX1_dropFromPlan_57 (by decide) ?_
            have hV : zV D cI cR A [(d, .inr (1, [.int (nI n), .ref e1, .ref e2, .ref e3, .ref e4])), (e1, zA cI 8 P), (e2, zA cI 16 X), (e3, zA cI 16 Y), (e4, zA cI 8 (dpl L a t (k + 1)))] s H locs := hV.arr 4 rfl (fun j hj => by first | exact dpl_s L a t k _ j (by assumption) (by first | exact (adj_t (by omega)).symm | exact (adj_f (by omega)).symm) | (rw [show k = t by assumption]; exact dpl_t L a t j)) rfl
            exact ih2 (k + 1) (by omega) (by omega) H locs hV ls (by rw [show kpt t (k + 1) = kpt t k + 1 by omega]; exact lv_sub hl [3, 4, 1, 0] rfl)
          · refine lv_iload (pc := 41) S.1 S.2.1 dX1_dropFromPlan_41 (lv_at hl 0 rfl) ?_
            refine zz_iconst (pc := 43) (v := nI 2) S dX1_dropFromPlan_43 rfl ?_
            refine zz_isub (pc := 44) (v := nI ((L k) - 2)) S dX1_dropFromPlan_44 (n_sub (by omega)) ?_
            refine lv_goto (pc := 45) (tgt := 50) S.1 S.2.1 dX1_dropFromPlan_45 (by decide) ?_
            refine zz_iast (pc := 50) (k := kpt t k) (v := (L k) - 2) S hV 4 rfl (by omega) (ws' := [(d, .inr (1, [.int (nI n), .ref e1, .ref e2, .ref e3, .ref e4])), (e1, zA cI 8 P), (e2, zA cI 16 X), (e3, zA cI 16 Y), (e4, zA cI 8 (va_up (dpl L a t k) (kpt t k) ((L k) - 2)))]) rfl dX1_dropFromPlan_50 (fun H locs hV => ?_)
            refine lv_iinc (pc := 51) (v := nI (kpt t k + 1)) (lv' := [(2, .int (nI (kpt t k + 1))), (4, .int (nI (L k))), (0, .ref d), (1, .int (nI a)), (3, .int (nI k))]) S.1 S.2.1 dX1_dropFromPlan_51 hl (k := 3) rfl (n_add _ _) (by decide) rfl (fun ls hl => ?_)
            refine lv_iinc (pc := 54) (v := nI (k + 1)) (lv' := [(3, .int (nI (k + 1))), (2, .int (nI (kpt t k + 1))), (4, .int (nI (L k))), (0, .ref d), (1, .int (nI a))]) S.1 S.2.1 dX1_dropFromPlan_54 hl (k := 4) rfl (n_add _ _) (by decide) rfl (fun ls hl => ?_)
            refine lv_goto (pc := 57) (tgt := 4) S.1 S.2.1 dX1_dropFromPlan_57 (by decide) ?_
            have hV : zV D cI cR A [(d, .inr (1, [.int (nI n), .ref e1, .ref e2, .ref e3, .ref e4])), (e1, zA cI 8 P), (e2, zA cI 16 X), (e3, zA cI 16 Y), (e4, zA cI 8 (dpl L a t (k + 1)))] s H locs := hV.arr 4 rfl (fun j hj => by first | exact dpl_s L a t k _ j (by assumption) (by first | exact (adj_t (by omega)).symm | exact (adj_f (by omega)).symm) | (rw [show k = t by assumption]; exact dpl_t L a t j)) rfl
            exact ih2 (k + 1) (by omega) (by omega) H locs hV ls (by rw [show kpt t (k + 1) = kpt t k + 1 by omega]; exact lv_sub hl [3, 4, 1, 0] rfl)
  have hV : zV D cI cR A [(d, .inr (1, [.int (nI n), .ref e1, .ref e2, .ref e3, .ref e4])), (e1, zA cI 8 P), (e2, zA cI 16 X), (e3, zA cI 16 Y), (e4, zA cI 8 (dpl L a t 0))] s s.heap [] := hV.arr 4 rfl (fun j hj => by exact dpl_0 L a t j) rfl
  exact L1 (n - 0 + 1) 0 (by omega) (Nat.lt_succ_self _) s.heap [] hV ls (by rw [show kpt t 0 = 0 from rfl]; exact lv_sub hl [2, 3, 1, 0] rfl)
abbrev wm_X1_drop : List Cond := .code yX1_drop cX1_drop 3 none :: wU
theorem q_X1_drop : yX1_drop.cls = RX1 ∧ yX1_drop.cls ≠ "java/lang/invoke/MethodHandle" ∧ yX1_drop.cls ≠ "java/lang/invoke/VarHandle" ∧ (parseMethodDescriptor yX1_drop.desc).map (fun d => d.parameters.length) = some 1 := by decide +kernel
set_option maxHeartbeats 4000000 in
set_option maxRecDepth 100000 in
theorem c_X1_drop (l : Launch) (D : va_G) (cI cR : ClassId) (d e1 e2 e3 e4 n : Nat) (P X Y L : Nat → Nat) (a : Nat) (t : Nat) (sz : Nat) (hok : zOk n P X Y L) (ha : a < n) (ht : t < n ∧ L t / 2 = a) : Met l yX1_drop wm_X1_drop ({ frames := 1, cells := 0, slots := 0, locals := 24 } : Room) (va_Pc [.ref d, .int (nI a)] (zX D cI cR [(d, .inr (1, [.int (nI n), .ref e1, .ref e2, .ref e3, .ref e4])), (e1, zA cI 8 P), (e2, zA cI 16 X), (e3, zA cI 16 Y), (e4, zA cI 8 L)] sz)) (zQv D cI cR (va_A [(d, .inr (1, [.int (nI n), .ref e1, .ref e2, .ref e3, .ref e4])), (e1, zA cI 8 P), (e2, zA cI 16 X), (e3, zA cI 16 Y), (e4, zA cI 8 L)] sz) (fun w => w = [(d, .inr (1, [.int (nI (n - 1)), .ref e1, .ref e2, .ref e3, .ref e4])), (e1, zA cI 8 (shl P 1 a (n - 1))), (e2, zA cI 16 (shl X 2 (2 * a) (2 * n - 2))), (e3, zA cI 16 (shl Y 2 (2 * a) (2 * n - 2))), (e4, zA cI 8 (dpl L a t n))])) 0 0 (va_A [(d, .inr (1, [.int (nI n), .ref e1, .ref e2, .ref e3, .ref e4])), (e1, zA cI 8 P), (e2, zA cI 16 X), (e3, zA cI 16 Y), (e4, zA cI 8 L)] sz) := by
  refine Met.ofW (cc := cX1_drop) (maxL := 3) (ret := none) (by decide) rfl ?_
  intro p e s m args below meth c s₁ B hml hv
  obtain ⟨rfl, hsz, hG, hD0⟩ := hv
  have S : CallFix p m c cX1_drop 3 s ([.ref d, .int (nI a)] : List Value).toArray wU RX1 := ⟨B.exec, B.bytes, hml, findClass_of_methodNamed B.named, fun w h => atoms_spec (ws := wm_X1_drop) B.pre w (List.mem_cons_of_mem _ h)⟩
  have hr := B.returns
  have hlocks := B.notSynchronized
  subst hsz
  have hD := hD0.self (sz := s.heap.size)
  generalize hAe : va_A [(d, .inr (1, [.int (nI n), .ref e1, .ref e2, .ref e3, .ref e4])), (e1, zA cI 8 P), (e2, zA cI 16 X), (e3, zA cI 16 Y), (e4, zA cI 8 L)] s.heap.size = A at hD ⊢
  have hV : zV D cI cR A [(d, .inr (1, [.int (nI n), .ref e1, .ref e2, .ref e3, .ref e4])), (e1, zA cI 8 P), (e2, zA cI 16 X), (e3, zA cI 16 Y), (e4, zA cI 8 L)] s s.heap [] := ⟨hG, hD, va_S.rf, fun q h => by rw [← hAe]; exact Or.inr h⟩
  have hl := lv_entry ([.ref d, .int (nI a)]) (n := 3) (Nat.le_of_ble_eq_true rfl)
  rw [lg_entry_eq]
  generalize (lg_sl ([.ref d, .int (nI a)]) ++ List.replicate (3 - (lg_sl ([.ref d, .int (nI a)])).length) Slot.unset).toArray = ls at hl ⊢
  have hl : lv_has ls 3 [(0, .ref d), (1, .int (nI a))] := hl
  obtain ⟨⟨hn, hPf, hXY⟩, hLf, hinj⟩ := id hok
  refine lv_aload_n (pc := 0) S.1 S.2.1 dX1_drop_0 rfl (lv_at hl 0 rfl) ?_
  refine lv_iload_n (pc := 1) S.1 S.2.1 dX1_drop_1 rfl (lv_at hl 1 rfl) ?_
  refine zz_callV (pc := 2) (As := [.int (zI ((a : Nat) : Int))]) (rest := []) S (c_X1_hasStroke l D cI cR d e1 e2 e3 e4 n P X Y L ((a : Nat) : Int) hok.1 (by unfold zR; omega)) (zuV wd_148 wd_153 wd_146 wd_147 wd_14) 1 rfl q_X1_hasStroke ⟨⟨rfl, rfl⟩, Nat.le_of_ble_eq_true rfl, Nat.le_of_ble_eq_true rfl⟩ hV.1 [0, 1, 2, 3, 4] rfl 0 rfl rfl rfl rfl rfl (Nat.le_of_ble_eq_true rfl) hl.1 ⟨Nat.zero_le _, Nat.zero_le _⟩ dX1_drop_2 ?_
  refine zz_ifb_ne (pc := 5) (tgt := 9) S dX1_drop_5 (by decide) (fun c5 => ?_) (fun c5 => ?_)
  · refine lv_aload_n (pc := 9) S.1 S.2.1 dX1_drop_9 rfl (lv_at hl 0 rfl) ?_
    refine lv_iload_n (pc := 10) S.1 S.2.1 dX1_drop_10 rfl (lv_at hl 1 rfl) ?_
    refine zz_callMv (pc := 11) (As := [.int (nI a)]) (rest := []) (wr := []) S hV (c_X1_dropFromPlan l D cI cR d e1 e2 e3 e4 n P X Y L a t s.heap.size hok (by omega) (by omega)) (zuV wd_157 wd_154 wd_155 wd_156 wd_14) 1 rfl q_X1_dropFromPlan ⟨⟨rfl, rfl⟩, Nat.le_of_ble_eq_true rfl, Nat.le_of_ble_eq_true rfl⟩ [0, 1, 2, 3, 4] [] rfl rfl (by decide) (by decide) (by decide) 0 rfl rfl rfl rfl rfl (Nat.le_of_ble_eq_true rfl) hl.1 ⟨Nat.zero_le _, Nat.zero_le _⟩ dX1_drop_11 (fun w1 H locs hp hV => ?_)
    obtain rfl := hp
    have hV : zV D cI cR A [(d, .inr (1, [.int (nI n), .ref e1, .ref e2, .ref e3, .ref e4])), (e1, zA cI 8 P), (e2, zA cI 16 X), (e3, zA cI 16 Y), (e4, zA cI 8 (dpl L a t n))] s H locs := hV.perm [0, 1, 2, 3, 4] (by decide) rfl
    refine lv_iload_n (pc := 14) S.1 S.2.1 dX1_drop_14 rfl (lv_at hl 1 rfl) ?_
    refine zz_iconst (pc := 15) (v := nI 1) S dX1_drop_15 rfl ?_
    refine zz_iadd (pc := 16) (v := nI (a + 1)) S dX1_drop_16 (n_add _ _) ?_
    refine lv_istore_n (pc := 17) (lv' := [(2, .int (nI (a + 1))), (0, .ref d), (1, .int (nI a))]) S.1 S.2.1 dX1_drop_17 rfl hl (by decide) rfl (fun ls hl => ?_)
    have L2 : ∀ (f : Nat) (k : Nat), (a + 1 ≤ k ∧ k ≤ n) → n - k < f → ∀ (H : Heap) (locs : List Loc), zV D cI cR A [(d, .inr (1, [.int (nI n), .ref e1, .ref e2, .ref e3, .ref e4])), (e1, zA cI 8 (shl P 1 a (k - 1))), (e2, zA cI 16 X), (e3, zA cI 16 Y), (e4, zA cI 8 (dpl L a t n))] s H locs → ∀ ls : Array Slot, lv_has ls 3 [(0, .ref d), (1, .int (nI a)), (2, .int (nI k))] → W p l e (headSpec wm_X1_drop ({ frames := 1, cells := 0, slots := 0, locals := 24 } : Room)).room s m ([.ref d, .int (nI a)] : List Value).toArray below meth c H locs 0 0 (MQ below (zQv D cI cR A (fun w => w = [(d, .inr (1, [.int (nI (n - 1)), .ref e1, .ref e2, .ref e3, .ref e4])), (e1, zA cI 8 (shl P 1 a (n - 1))), (e2, zA cI 16 (shl X 2 (2 * a) (2 * n - 2))), (e3, zA cI 16 (shl Y 2 (2 * a) (2 * n - 2))), (e4, zA cI 8 (dpl L a t n))])) ([.ref d, .int (nI a)] : List Value).toArray s 0 0 A) (F0 m 18 ls []) := by
      intro f
      induction f with
      | zero => intro k hk hf; exact absurd hf (Nat.not_lt_zero _)
      | succ f ih3 =>
        intro k hk hf H locs hV ls hl
        refine lv_iload_n (pc := 18) S.1 S.2.1 dX1_drop_18 rfl (lv_at hl 2 rfl) ?_
        refine lv_aload_n (pc := 19) S.1 S.2.1 dX1_drop_19 rfl (lv_at hl 0 rfl) ?_
        refine zz_get (pc := 20) S hV.1 iX1 0 rfl rfl 0 (by decide) wd_93 rfl rfl dX1_drop_20 ?_
        refine zz_icmp_ge (pc := 23) (tgt := 46) S dX1_drop_23 (by decide) (n_le (by omega) (by omega)) (fun c23 => ?_) (fun c23 => ?_)
        · refine zz_iconst (pc := 46) (v := nI 2) S dX1_drop_46 rfl ?_
          refine lv_iload_n (pc := 47) S.1 S.2.1 dX1_drop_47 rfl (lv_at hl 1 rfl) ?_
          refine zz_imul (pc := 48) (v := nI (2 * a)) S dX1_drop_48 (n_mul _ _) ?_
          refine zz_iconst (pc := 49) (v := nI 2) S dX1_drop_49 rfl ?_
          refine zz_iadd (pc := 50) (v := nI (2 * a + 2)) S dX1_drop_50 (n_add _ _) ?_
          refine lv_istore_n (pc := 51) (lv' := [(2, .int (nI (2 * a + 2))), (0, .ref d), (1, .int (nI a))]) S.1 S.2.1 dX1_drop_51 rfl hl (by decide) rfl (fun ls hl => ?_)
          have L4 : ∀ (f : Nat) (k : Nat), (2 * a + 2 ≤ k ∧ k ≤ 2 * n) → 2 * n - k < f → ∀ (H : Heap) (locs : List Loc), zV D cI cR A [(d, .inr (1, [.int (nI n), .ref e1, .ref e2, .ref e3, .ref e4])), (e1, zA cI 8 (shl P 1 a (n - 1))), (e2, zA cI 16 (shl X 2 (2 * a) (k - 2))), (e3, zA cI 16 (shl Y 2 (2 * a) (k - 2))), (e4, zA cI 8 (dpl L a t n))] s H locs → ∀ ls : Array Slot, lv_has ls 3 [(0, .ref d), (1, .int (nI a)), (2, .int (nI k))] → W p l e (headSpec wm_X1_drop ({ frames := 1, cells := 0, slots := 0, locals := 24 } : Room)).room s m ([.ref d, .int (nI a)] : List Value).toArray below meth c H locs 0 0 (MQ below (zQv D cI cR A (fun w => w = [(d, .inr (1, [.int (nI (n - 1)), .ref e1, .ref e2, .ref e3, .ref e4])), (e1, zA cI 8 (shl P 1 a (n - 1))), (e2, zA cI 16 (shl X 2 (2 * a) (2 * n - 2))), (e3, zA cI 16 (shl Y 2 (2 * a) (2 * n - 2))), (e4, zA cI 8 (dpl L a t n))])) ([.ref d, .int (nI a)] : List Value).toArray s 0 0 A) (F0 m 52 ls []) := by
            intro f
            induction f with
            | zero => intro k hk hf; exact absurd hf (Nat.not_lt_zero _)
            | succ f ih5 =>
              intro k hk hf H locs hV ls hl
              refine lv_iload_n (pc := 52) S.1 S.2.1 dX1_drop_52 rfl (lv_at hl 2 rfl) ?_
              refine zz_iconst (pc := 53) (v := nI 2) S dX1_drop_53 rfl ?_
              refine lv_aload_n (pc := 54) S.1 S.2.1 dX1_drop_54 rfl (lv_at hl 0 rfl) ?_
              refine zz_get (pc := 55) S hV.1 iX1 0 rfl rfl 0 (by decide) wd_93 rfl rfl dX1_drop_55 ?_
              refine zz_imul (pc := 58) (v := nI (2 * n)) S dX1_drop_58 (n_mul _ _) ?_
              refine zz_icmp_ge (pc := 59) (tgt := 96) S dX1_drop_59 (by decide) (n_le (by omega) (by omega)) (fun c59 => ?_) (fun c59 => ?_)
              · refine lv_aload_n (pc := 96) S.1 S.2.1 dX1_drop_96 rfl (lv_at hl 0 rfl) ?_
                refine lv_dup (pc := 97) S.1 S.2.1 dX1_drop_97 rfl ?_
                refine zz_get (pc := 98) S hV.1 iX1 0 rfl rfl 0 (by decide) wd_93 rfl rfl dX1_drop_98 ?_
                refine zz_iconst (pc := 101) (v := nI 1) S dX1_drop_101 rfl ?_
                refine zz_isub (pc := 102) (v := nI (n - 1)) S dX1_drop_102 (n_sub (by omega)) ?_
                refine zz_put (pc := 103) (v := .int (nI (n - 1))) (ty := .int) S hV iX1 tyX1 tyX1_ok nmX1 0 rfl rfl 0 (by decide) wd_93 rfl rfl (by decide +kernel) rfl rfl (Nat.le_of_ble_eq_true rfl) (ws' := [(d, .inr (1, [.int (nI (n - 1)), .ref e1, .ref e2, .ref e3, .ref e4])), (e1, zA cI 8 (shl P 1 a (n - 1))), (e2, zA cI 16 (shl X 2 (2 * a) (k - 2))), (e3, zA cI 16 (shl Y 2 (2 * a) (k - 2))), (e4, zA cI 8 (dpl L a t n))]) rfl dX1_drop_103 (fun H locs hV => ?_)
                have hV : zV D cI cR A [(d, .inr (1, [.int (nI (n - 1)), .ref e1, .ref e2, .ref e3, .ref e4])), (e1, zA cI 8 (shl P 1 a (n - 1))), (e2, zA cI 16 (shl X 2 (2 * a) (2 * n - 2))), (e3, zA cI 16 (shl Y 2 (2 * a) (k - 2))), (e4, zA cI 8 (dpl L a t n))] s H locs := hV.arr 2 rfl (fun j hj => by rw [show k = 2 * n by omega]) rfl
                have hV : zV D cI cR A [(d, .inr (1, [.int (nI (n - 1)), .ref e1, .ref e2, .ref e3, .ref e4])), (e1, zA cI 8 (shl P 1 a (n - 1))), (e2, zA cI 16 (shl X 2 (2 * a) (2 * n - 2))), (e3, zA cI 16 (shl Y 2 (2 * a) (2 * n - 2))), (e4, zA cI 8 (dpl L a t n))] s H locs := hV.arr 3 rfl (fun j hj => by rw [show k = 2 * n by omega]) rfl
                exact zz_vretM (pc := 106) S hr hlocks hV (rfl) dX1_drop_106
              · refine lv_aload_n (pc := 62) S.1 S.2.1 dX1_drop_62 rfl (lv_at hl 0 rfl) ?_
                refine zz_get (pc := 63) S hV.1 iX1 0 rfl rfl 2 (by decide) wd_40 rfl rfl dX1_drop_63 ?_
                refine lv_iload_n (pc := 66) S.1 S.2.1 dX1_drop_66 rfl (lv_at hl 2 rfl) ?_
                refine zz_iconst (pc := 67) (v := nI 2) S dX1_drop_67 rfl ?_
                refine zz_isub (pc := 68) (v := nI (k - 2)) S dX1_drop_68 (n_sub (by omega)) ?_
                refine lv_aload_n (pc := 69) S.1 S.2.1 dX1_drop_69 rfl (lv_at hl 0 rfl) ?_
                refine zz_get (pc := 70) S hV.1 iX1 0 rfl rfl 2 (by decide) wd_40 rfl rfl dX1_drop_70 ?_
                refine lv_iload_n (pc := 73) S.1 S.2.1 dX1_drop_73 rfl (lv_at hl 2 rfl) ?_
                refine zz_iald (pc := 74) (k := k) S hV.1 2 rfl (by omega) dX1_drop_74 ?_
                refine zz_iast (pc := 75) (k := k - 2) (v := (shl X 2 (2 * a) (k - 2)) k) S hV 2 rfl (by omega) (ws' := [(d, .inr (1, [.int (nI n), .ref e1, .ref e2, .ref e3, .ref e4])), (e1, zA cI 8 (shl P 1 a (n - 1))), (e2, zA cI 16 (va_up (shl X 2 (2 * a) (k - 2)) (k - 2) ((shl X 2 (2 * a) (k - 2)) k))), (e3, zA cI 16 (shl Y 2 (2 * a) (k - 2))), (e4, zA cI 8 (dpl L a t n))]) rfl dX1_drop_75 (fun H locs hV => ?_)
                refine lv_aload_n (pc := 76) S.1 S.2.1 dX1_drop_76 rfl (lv_at hl 0 rfl) ?_
                refine zz_get (pc := 77) S hV.1 iX1 0 rfl rfl 3 (by decide) wd_41 rfl rfl dX1_drop_77 ?_
                refine lv_iload_n (pc := 80) S.1 S.2.1 dX1_drop_80 rfl (lv_at hl 2 rfl) ?_
                refine zz_iconst (pc := 81) (v := nI 2) S dX1_drop_81 rfl ?_
                refine zz_isub (pc := 82) (v := nI (k - 2)) S dX1_drop_82 (n_sub (by omega)) ?_
                refine lv_aload_n (pc := 83) S.1 S.2.1 dX1_drop_83 rfl (lv_at hl 0 rfl) ?_
                refine zz_get (pc := 84) S hV.1 iX1 0 rfl rfl 3 (by decide) wd_41 rfl rfl dX1_drop_84 ?_
                refine lv_iload_n (pc := 87) S.1 S.2.1 dX1_drop_87 rfl (lv_at hl 2 rfl) ?_
                refine zz_iald (pc := 88) (k := k) S hV.1 3 rfl (by omega) dX1_drop_88 ?_
                refine zz_iast (pc := 89) (k := k - 2) (v := (shl Y 2 (2 * a) (k - 2)) k) S hV 3 rfl (by omega) (ws' := [(d, .inr (1, [.int (nI n), .ref e1, .ref e2, .ref e3, .ref e4])), (e1, zA cI 8 (shl P 1 a (n - 1))), (e2, zA cI 16 (va_up (shl X 2 (2 * a) (k - 2)) (k - 2) ((shl X 2 (2 * a) (k - 2)) k))), (e3, zA cI 16 (va_up (shl Y 2 (2 * a) (k - 2)) (k - 2) ((shl Y 2 (2 * a) (k - 2)) k))), (e4, zA cI 8 (dpl L a t n))]) rfl dX1_drop_89 (fun H locs hV => ?_)
                refine lv_iinc (pc := 90) (v := nI (k + 1)) (lv' := [(2, .int (nI (k + 1))), (0, .ref d), (1, .int (nI a))]) S.1 S.2.1 dX1_drop_90 hl (k := 2) rfl (n_add _ _) (by decide) rfl (fun ls hl => ?_)
                refine lv_goto (pc := 93) (tgt := 52) S.1 S.2.1 dX1_drop_93 (by decide) ?_
                have hV : zV D cI cR A [(d, .inr (1, [.int (nI n), .ref e1, .ref e2, .ref e3, .ref e4])), (e1, zA cI 8 (shl P 1 a (n - 1))), (e2, zA cI 16 (shl X 2 (2 * a) ((k + 1) - 2))), (e3, zA cI 16 (va_up (shl Y 2 (2 * a) (k - 2)) (k - 2) ((shl Y 2 (2 * a) (k - 2)) k))), (e4, zA cI 8 (dpl L a t n))] s H locs := hV.arr 2 rfl (fun j hj => by rw [shl_s X 2 (2 * a) k j (by omega) (by omega), show k - 2 + 1 = k + 1 - 2 by omega]) rfl
                have hV : zV D cI cR A [(d, .inr (1, [.int (nI n), .ref e1, .ref e2, .ref e3, .ref e4])), (e1, zA cI 8 (shl P 1 a (n - 1))), (e2, zA cI 16 (shl X 2 (2 * a) ((k + 1) - 2))), (e3, zA cI 16 (shl Y 2 (2 * a) ((k + 1) - 2))), (e4, zA cI 8 (dpl L a t n))] s H locs := hV.arr 3 rfl (fun j hj => by rw [shl_s Y 2 (2 * a) k j (by omega) (by omega), show k - 2 + 1 = k + 1 - 2 by omega]) rfl
                exact ih5 (k + 1) (by omega) (by omega) H locs hV ls (lv_sub hl [1, 2, 0] rfl)
          have hV : zV D cI cR A [(d, .inr (1, [.int (nI n), .ref e1, .ref e2, .ref e3, .ref e4])), (e1, zA cI 8 (shl P 1 a (n - 1))), (e2, zA cI 16 X), (e3, zA cI 16 Y), (e4, zA cI 8 (dpl L a t n))] s H locs := hV.arr 1 rfl (fun j hj => by rw [show k = n by omega]) rfl
          have hV : zV D cI cR A [(d, .inr (1, [.int (nI n), .ref e1, .ref e2, .ref e3, .ref e4])), (e1, zA cI 8 (shl P 1 a (n - 1))), (e2, zA cI 16 (shl X 2 (2 * a) ((2 * a + 2) - 2))), (e3, zA cI 16 Y), (e4, zA cI 8 (dpl L a t n))] s H locs := hV.arr 2 rfl (fun j hj => by exact shl_0 X 2 (2 * a) _ j (by omega)) rfl
          have hV : zV D cI cR A [(d, .inr (1, [.int (nI n), .ref e1, .ref e2, .ref e3, .ref e4])), (e1, zA cI 8 (shl P 1 a (n - 1))), (e2, zA cI 16 (shl X 2 (2 * a) ((2 * a + 2) - 2))), (e3, zA cI 16 (shl Y 2 (2 * a) ((2 * a + 2) - 2))), (e4, zA cI 8 (dpl L a t n))] s H locs := hV.arr 3 rfl (fun j hj => by exact shl_0 Y 2 (2 * a) _ j (by omega)) rfl
          exact L4 (2 * n - (2 * a + 2) + 1) (2 * a + 2) (by omega) (Nat.lt_succ_self _) H locs hV ls (lv_sub hl [1, 2, 0] rfl)
        · refine lv_aload_n (pc := 26) S.1 S.2.1 dX1_drop_26 rfl (lv_at hl 0 rfl) ?_
          refine zz_get (pc := 27) S hV.1 iX1 0 rfl rfl 1 (by decide) wd_39 rfl rfl dX1_drop_27 ?_
          refine lv_iload_n (pc := 30) S.1 S.2.1 dX1_drop_30 rfl (lv_at hl 2 rfl) ?_
          refine zz_iconst (pc := 31) (v := nI 1) S dX1_drop_31 rfl ?_
          refine zz_isub (pc := 32) (v := nI (k - 1)) S dX1_drop_32 (n_sub (by omega)) ?_
          refine lv_aload_n (pc := 33) S.1 S.2.1 dX1_drop_33 rfl (lv_at hl 0 rfl) ?_
          refine zz_get (pc := 34) S hV.1 iX1 0 rfl rfl 1 (by decide) wd_39 rfl rfl dX1_drop_34 ?_
          refine lv_iload_n (pc := 37) S.1 S.2.1 dX1_drop_37 rfl (lv_at hl 2 rfl) ?_
          refine zz_iald (pc := 38) (k := k) S hV.1 1 rfl (by omega) dX1_drop_38 ?_
          refine zz_iast (pc := 39) (k := k - 1) (v := (shl P 1 a (k - 1)) k) S hV 1 rfl (by omega) (ws' := [(d, .inr (1, [.int (nI n), .ref e1, .ref e2, .ref e3, .ref e4])), (e1, zA cI 8 (va_up (shl P 1 a (k - 1)) (k - 1) ((shl P 1 a (k - 1)) k))), (e2, zA cI 16 X), (e3, zA cI 16 Y), (e4, zA cI 8 (dpl L a t n))]) rfl dX1_drop_39 (fun H locs hV => ?_)
          refine lv_iinc (pc := 40) (v := nI (k + 1)) (lv' := [(2, .int (nI (k + 1))), (0, .ref d), (1, .int (nI a))]) S.1 S.2.1 dX1_drop_40 hl (k := 2) rfl (n_add _ _) (by decide) rfl (fun ls hl => ?_)
          refine lv_goto (pc := 43) (tgt := 18) S.1 S.2.1 dX1_drop_43 (by decide) ?_
          have hV : zV D cI cR A [(d, .inr (1, [.int (nI n), .ref e1, .ref e2, .ref e3, .ref e4])), (e1, zA cI 8 (shl P 1 a ((k + 1) - 1))), (e2, zA cI 16 X), (e3, zA cI 16 Y), (e4, zA cI 8 (dpl L a t n))] s H locs := hV.arr 1 rfl (fun j hj => by rw [shl_s P 1 a k j (by omega) (by omega), show k - 1 + 1 = k + 1 - 1 by omega]) rfl
          exact ih3 (k + 1) (by omega) (by omega) H locs hV ls (lv_sub hl [1, 2, 0] rfl)
    have hV : zV D cI cR A [(d, .inr (1, [.int (nI n), .ref e1, .ref e2, .ref e3, .ref e4])), (e1, zA cI 8 (shl P 1 a ((a + 1) - 1))), (e2, zA cI 16 X), (e3, zA cI 16 Y), (e4, zA cI 8 (dpl L a t n))] s H locs := hV.arr 1 rfl (fun j hj => by exact shl_0 P 1 a _ j (by omega)) rfl
    exact L2 (n - (a + 1) + 1) (a + 1) (by omega) (Nat.lt_succ_self _) H locs hV ls (lv_sub hl [1, 2, 0] rfl)
  · exfalso; omega
abbrev wm_X1_turn : List Cond := .code yX1_turn cX1_turn 2 none :: wU
theorem q_X1_turn : yX1_turn.cls = RX1 ∧ yX1_turn.cls ≠ "java/lang/invoke/MethodHandle" ∧ yX1_turn.cls ≠ "java/lang/invoke/VarHandle" ∧ (parseMethodDescriptor yX1_turn.desc).map (fun d => d.parameters.length) = some 1 := by decide +kernel
set_option maxHeartbeats 4000000 in
set_option maxRecDepth 100000 in
theorem c_X1_turn (l : Launch) (D : va_G) (cI cR : ClassId) (d e1 e2 e3 e4 n : Nat) (P X Y L : Nat → Nat) (a : Nat) (sz : Nat) (hge : zGe n P X Y) (ha : a < n) : Met l yX1_turn wm_X1_turn ({ frames := 1, cells := 0, slots := 0, locals := 21 } : Room) (va_Pc [.ref d, .int (nI a)] (zX D cI cR [(d, .inr (1, [.int (nI n), .ref e1, .ref e2, .ref e3, .ref e4])), (e1, zA cI 8 P), (e2, zA cI 16 X), (e3, zA cI 16 Y), (e4, zA cI 8 L)] sz)) (zQv D cI cR (va_A [(d, .inr (1, [.int (nI n), .ref e1, .ref e2, .ref e3, .ref e4])), (e1, zA cI 8 P), (e2, zA cI 16 X), (e3, zA cI 16 Y), (e4, zA cI 8 L)] sz) (fun w => w = [(d, .inr (1, [.int (nI n), .ref e1, .ref e2, .ref e3, .ref e4])), (e1, zA cI 8 P), (e2, zA cI 16 X), (e3, zA cI 16 Y), (e4, zA cI 8 (va_up L a (sw (L a))))])) 0 0 (va_A [(d, .inr (1, [.int (nI n), .ref e1, .ref e2, .ref e3, .ref e4])), (e1, zA cI 8 P), (e2, zA cI 16 X), (e3, zA cI 16 Y), (e4, zA cI 8 L)] sz) := by
  refine Met.ofW (cc := cX1_turn) (maxL := 2) (ret := none) (by decide) rfl ?_
  intro p e s m args below meth c s₁ B hml hv
  obtain ⟨rfl, hsz, hG, hD0⟩ := hv
  have S : CallFix p m c cX1_turn 2 s ([.ref d, .int (nI a)] : List Value).toArray wU RX1 := ⟨B.exec, B.bytes, hml, findClass_of_methodNamed B.named, fun w h => atoms_spec (ws := wm_X1_turn) B.pre w (List.mem_cons_of_mem _ h)⟩
  have hr := B.returns
  have hlocks := B.notSynchronized
  subst hsz
  have hD := hD0.self (sz := s.heap.size)
  generalize hAe : va_A [(d, .inr (1, [.int (nI n), .ref e1, .ref e2, .ref e3, .ref e4])), (e1, zA cI 8 P), (e2, zA cI 16 X), (e3, zA cI 16 Y), (e4, zA cI 8 L)] s.heap.size = A at hD ⊢
  have hV : zV D cI cR A [(d, .inr (1, [.int (nI n), .ref e1, .ref e2, .ref e3, .ref e4])), (e1, zA cI 8 P), (e2, zA cI 16 X), (e3, zA cI 16 Y), (e4, zA cI 8 L)] s s.heap [] := ⟨hG, hD, va_S.rf, fun q h => by rw [← hAe]; exact Or.inr h⟩
  have hl := lv_entry ([.ref d, .int (nI a)]) (n := 2) (Nat.le_of_ble_eq_true rfl)
  rw [lg_entry_eq]
  generalize (lg_sl ([.ref d, .int (nI a)]) ++ List.replicate (2 - (lg_sl ([.ref d, .int (nI a)])).length) Slot.unset).toArray = ls at hl ⊢
  have hl : lv_has ls 2 [(0, .ref d), (1, .int (nI a))] := hl
  obtain ⟨hn, hPf, hXY⟩ := id hge
  refine lv_aload_n (pc := 0) S.1 S.2.1 dX1_turn_0 rfl (lv_at hl 0 rfl) ?_
  refine lv_iload_n (pc := 1) S.1 S.2.1 dX1_turn_1 rfl (lv_at hl 1 rfl) ?_
  refine zz_callV (pc := 2) (As := [.int (zI ((a : Nat) : Int))]) (rest := []) S (c_X1_hasPosition l D cI cR d e1 e2 e3 e4 n P X Y L ((a : Nat) : Int) hge (by unfold zR; omega)) (zuV wd_347 wd_352 wd_345 wd_346 wd_14) 1 rfl q_X1_hasPosition ⟨⟨rfl, rfl⟩, Nat.le_of_ble_eq_true rfl, Nat.le_of_ble_eq_true rfl⟩ hV.1 [0, 1, 2, 3, 4] rfl 0 rfl rfl rfl rfl rfl (Nat.le_of_ble_eq_true rfl) hl.1 ⟨Nat.zero_le _, Nat.zero_le _⟩ dX1_turn_2 ?_
  refine zz_ifb_eq (pc := 5) (tgt := 22) S dX1_turn_5 (by decide) (fun c5 => ?_) (fun c5 => ?_)
  · exfalso; omega
  · refine lv_aload_n (pc := 8) S.1 S.2.1 dX1_turn_8 rfl (lv_at hl 0 rfl) ?_
    refine zz_get (pc := 9) S hV.1 iX1 0 rfl rfl 4 (by decide) wd_42 rfl rfl dX1_turn_9 ?_
    refine lv_iload_n (pc := 12) S.1 S.2.1 dX1_turn_12 rfl (lv_at hl 1 rfl) ?_
    refine lv_aload_n (pc := 13) S.1 S.2.1 dX1_turn_13 rfl (lv_at hl 0 rfl) ?_
    refine zz_get (pc := 14) S hV.1 iX1 0 rfl rfl 4 (by decide) wd_42 rfl rfl dX1_turn_14 ?_
    refine lv_iload_n (pc := 17) S.1 S.2.1 dX1_turn_17 rfl (lv_at hl 1 rfl) ?_
    refine zz_iald (pc := 18) (k := a) S hV.1 4 rfl (by omega) dX1_turn_18 ?_
    refine zz_iconst (pc := 19) (v := nI 1) S dX1_turn_19 rfl ?_
    refine zz_ixor (pc := 20) (v := nI (sw (L a))) S dX1_turn_20 (n_xor1 _) ?_
    refine zz_iast (pc := 21) (k := a) (v := sw (L a)) S hV 4 rfl (by omega) (ws' := [(d, .inr (1, [.int (nI n), .ref e1, .ref e2, .ref e3, .ref e4])), (e1, zA cI 8 P), (e2, zA cI 16 X), (e3, zA cI 16 Y), (e4, zA cI 8 (va_up L a (sw (L a))))]) rfl dX1_turn_21 (fun H locs hV => ?_)
    exact zz_vretM (pc := 22) S hr hlocks hV (rfl) dX1_turn_22
abbrev wm_X1_append : List Cond := .code yX1_append cX1_append 7 (some .int) :: wU
theorem q_X1_append : yX1_append.cls = RX1 ∧ yX1_append.cls ≠ "java/lang/invoke/MethodHandle" ∧ yX1_append.cls ≠ "java/lang/invoke/VarHandle" ∧ (parseMethodDescriptor yX1_append.desc).map (fun d => d.parameters.length) = some 5 := by decide +kernel
set_option maxHeartbeats 4000000 in
set_option maxRecDepth 100000 in
theorem c_X1_append (l : Launch) (D : va_G) (cI cR : ClassId) (d e1 e2 e3 e4 n : Nat) (P X Y L : Nat → Nat) (x1 : Nat) (y1 : Nat) (x2 : Nat) (y2 : Nat) (q : Nat) (sz : Nat) (hge : zGe n P X Y) (ha : n < 8) : Met l yX1_append wm_X1_append ({ frames := 0, cells := 0, slots := 0, locals := 0 } : Room) (va_Pc [.ref d, .int (nI x1), .int (nI y1), .int (nI x2), .int (nI y2), .int (nI q)] (zX D cI cR [(d, .inr (1, [.int (nI n), .ref e1, .ref e2, .ref e3, .ref e4])), (e1, zA cI 8 P), (e2, zA cI 16 X), (e3, zA cI 16 Y), (e4, zA cI 8 L)] sz)) (zQi D cI cR (va_A [(d, .inr (1, [.int (nI n), .ref e1, .ref e2, .ref e3, .ref e4])), (e1, zA cI 8 P), (e2, zA cI 16 X), (e3, zA cI 16 Y), (e4, zA cI 8 L)] sz) (fun r w => (w = [(d, .inr (1, [.int (nI (n + 1)), .ref e1, .ref e2, .ref e3, .ref e4])), (e1, zA cI 8 (va_up P n q)), (e2, zA cI 16 (va_up (va_up X (2 * n) x1) (2 * n + 1) x2)), (e3, zA cI 16 (va_up (va_up Y (2 * n) y1) (2 * n + 1) y2)), (e4, zA cI 8 (va_up L n (2 * n)))] ∧ r = nI n))) 0 0 (va_A [(d, .inr (1, [.int (nI n), .ref e1, .ref e2, .ref e3, .ref e4])), (e1, zA cI 8 P), (e2, zA cI 16 X), (e3, zA cI 16 Y), (e4, zA cI 8 L)] sz) := by
  refine Met.ofW (cc := cX1_append) (maxL := 7) (ret := (some .int)) (by decide) rfl ?_
  intro p e s m args below meth c s₁ B hml hv
  obtain ⟨rfl, hsz, hG, hD0⟩ := hv
  have S : CallFix p m c cX1_append 7 s ([.ref d, .int (nI x1), .int (nI y1), .int (nI x2), .int (nI y2), .int (nI q)] : List Value).toArray wU RX1 := ⟨B.exec, B.bytes, hml, findClass_of_methodNamed B.named, fun w h => atoms_spec (ws := wm_X1_append) B.pre w (List.mem_cons_of_mem _ h)⟩
  have hr := B.returns
  have hlocks := B.notSynchronized
  subst hsz
  have hD := hD0.self (sz := s.heap.size)
  generalize hAe : va_A [(d, .inr (1, [.int (nI n), .ref e1, .ref e2, .ref e3, .ref e4])), (e1, zA cI 8 P), (e2, zA cI 16 X), (e3, zA cI 16 Y), (e4, zA cI 8 L)] s.heap.size = A at hD ⊢
  have hV : zV D cI cR A [(d, .inr (1, [.int (nI n), .ref e1, .ref e2, .ref e3, .ref e4])), (e1, zA cI 8 P), (e2, zA cI 16 X), (e3, zA cI 16 Y), (e4, zA cI 8 L)] s s.heap [] := ⟨hG, hD, va_S.rf, fun q h => by rw [← hAe]; exact Or.inr h⟩
  have hl := lv_entry ([.ref d, .int (nI x1), .int (nI y1), .int (nI x2), .int (nI y2), .int (nI q)]) (n := 7) (Nat.le_of_ble_eq_true rfl)
  rw [lg_entry_eq]
  generalize (lg_sl ([.ref d, .int (nI x1), .int (nI y1), .int (nI x2), .int (nI y2), .int (nI q)]) ++ List.replicate (7 - (lg_sl ([.ref d, .int (nI x1), .int (nI y1), .int (nI x2), .int (nI y2), .int (nI q)])).length) Slot.unset).toArray = ls at hl ⊢
  have hl : lv_has ls 7 [(0, .ref d), (1, .int (nI x1)), (2, .int (nI y1)), (3, .int (nI x2)), (4, .int (nI y2)), (5, .int (nI q))] := hl
  obtain ⟨hn, hPf, hXY⟩ := id hge
  refine lv_aload_n (pc := 0) S.1 S.2.1 dX1_append_0 rfl (lv_at hl 0 rfl) ?_
  refine zz_get (pc := 1) S hV.1 iX1 0 rfl rfl 0 (by decide) wd_93 rfl rfl dX1_append_1 ?_
  refine zz_if_lt (pc := 4) (tgt := 16) S dX1_append_4 (by decide) (n_lt0 (by omega)) (fun c4 => ?_) (fun c4 => ?_)
  · exfalso; omega
  · refine lv_aload_n (pc := 7) S.1 S.2.1 dX1_append_7 rfl (lv_at hl 0 rfl) ?_
    refine zz_get (pc := 8) S hV.1 iX1 0 rfl rfl 0 (by decide) wd_93 rfl rfl dX1_append_8 ?_
    refine zz_bipush (pc := 11) (v := nI 8) S dX1_append_11 rfl ?_
    refine zz_icmp_lt (pc := 13) (tgt := 19) S dX1_append_13 (by decide) (n_lt (by omega) (by omega)) (fun c13 => ?_) (fun c13 => ?_)
    · refine lv_aload_n (pc := 19) S.1 S.2.1 dX1_append_19 rfl (lv_at hl 0 rfl) ?_
      refine zz_get (pc := 20) S hV.1 iX1 0 rfl rfl 0 (by decide) wd_93 rfl rfl dX1_append_20 ?_
      refine lv_istore (pc := 23) (lv' := [(6, .int (nI n)), (0, .ref d), (1, .int (nI x1)), (2, .int (nI y1)), (3, .int (nI x2)), (4, .int (nI y2)), (5, .int (nI q))]) S.1 S.2.1 dX1_append_23 hl (by decide) rfl (fun ls hl => ?_)
      refine lv_aload_n (pc := 25) S.1 S.2.1 dX1_append_25 rfl (lv_at hl 1 rfl) ?_
      refine zz_get (pc := 26) S hV.1 iX1 0 rfl rfl 1 (by decide) wd_39 rfl rfl dX1_append_26 ?_
      refine lv_iload (pc := 29) S.1 S.2.1 dX1_append_29 (lv_at hl 0 rfl) ?_
      refine lv_iload (pc := 31) S.1 S.2.1 dX1_append_31 (lv_at hl 6 rfl) ?_
      refine zz_iast (pc := 33) (k := n) (v := q) S hV 1 rfl (by omega) (ws' := [(d, .inr (1, [.int (nI n), .ref e1, .ref e2, .ref e3, .ref e4])), (e1, zA cI 8 (va_up P n q)), (e2, zA cI 16 X), (e3, zA cI 16 Y), (e4, zA cI 8 L)]) rfl dX1_append_33 (fun H locs hV => ?_)
      refine lv_aload_n (pc := 34) S.1 S.2.1 dX1_append_34 rfl (lv_at hl 1 rfl) ?_
      refine zz_get (pc := 35) S hV.1 iX1 0 rfl rfl 2 (by decide) wd_40 rfl rfl dX1_append_35 ?_
      refine zz_iconst (pc := 38) (v := nI 2) S dX1_append_38 rfl ?_
      refine lv_iload (pc := 39) S.1 S.2.1 dX1_append_39 (lv_at hl 0 rfl) ?_
      refine zz_imul (pc := 41) (v := nI (2 * n)) S dX1_append_41 (n_mul _ _) ?_
      refine lv_iload_n (pc := 42) S.1 S.2.1 dX1_append_42 rfl (lv_at hl 2 rfl) ?_
      refine zz_iast (pc := 43) (k := 2 * n) (v := x1) S hV 2 rfl (by omega) (ws' := [(d, .inr (1, [.int (nI n), .ref e1, .ref e2, .ref e3, .ref e4])), (e1, zA cI 8 (va_up P n q)), (e2, zA cI 16 (va_up X (2 * n) x1)), (e3, zA cI 16 Y), (e4, zA cI 8 L)]) rfl dX1_append_43 (fun H locs hV => ?_)
      refine lv_aload_n (pc := 44) S.1 S.2.1 dX1_append_44 rfl (lv_at hl 1 rfl) ?_
      refine zz_get (pc := 45) S hV.1 iX1 0 rfl rfl 3 (by decide) wd_41 rfl rfl dX1_append_45 ?_
      refine zz_iconst (pc := 48) (v := nI 2) S dX1_append_48 rfl ?_
      refine lv_iload (pc := 49) S.1 S.2.1 dX1_append_49 (lv_at hl 0 rfl) ?_
      refine zz_imul (pc := 51) (v := nI (2 * n)) S dX1_append_51 (n_mul _ _) ?_
      refine lv_iload_n (pc := 52) S.1 S.2.1 dX1_append_52 rfl (lv_at hl 3 rfl) ?_
      refine zz_iast (pc := 53) (k := 2 * n) (v := y1) S hV 3 rfl (by omega) (ws' := [(d, .inr (1, [.int (nI n), .ref e1, .ref e2, .ref e3, .ref e4])), (e1, zA cI 8 (va_up P n q)), (e2, zA cI 16 (va_up X (2 * n) x1)), (e3, zA cI 16 (va_up Y (2 * n) y1)), (e4, zA cI 8 L)]) rfl dX1_append_53 (fun H locs hV => ?_)
      refine lv_aload_n (pc := 54) S.1 S.2.1 dX1_append_54 rfl (lv_at hl 1 rfl) ?_
      refine zz_get (pc := 55) S hV.1 iX1 0 rfl rfl 2 (by decide) wd_40 rfl rfl dX1_append_55 ?_
      refine zz_iconst (pc := 58) (v := nI 2) S dX1_append_58 rfl ?_
      refine lv_iload (pc := 59) S.1 S.2.1 dX1_append_59 (lv_at hl 0 rfl) ?_
      refine zz_imul (pc := 61) (v := nI (2 * n)) S dX1_append_61 (n_mul _ _) ?_
      refine zz_iconst (pc := 62) (v := nI 1) S dX1_append_62 rfl ?_
      refine zz_iadd (pc := 63) (v := nI (2 * n + 1)) S dX1_append_63 (n_add _ _) ?_
      refine lv_iload_n (pc := 64) S.1 S.2.1 dX1_append_64 rfl (lv_at hl 4 rfl) ?_
      refine zz_iast (pc := 65) (k := 2 * n + 1) (v := x2) S hV 2 rfl (by omega) (ws' := [(d, .inr (1, [.int (nI n), .ref e1, .ref e2, .ref e3, .ref e4])), (e1, zA cI 8 (va_up P n q)), (e2, zA cI 16 (va_up (va_up X (2 * n) x1) (2 * n + 1) x2)), (e3, zA cI 16 (va_up Y (2 * n) y1)), (e4, zA cI 8 L)]) rfl dX1_append_65 (fun H locs hV => ?_)
      refine lv_aload_n (pc := 66) S.1 S.2.1 dX1_append_66 rfl (lv_at hl 1 rfl) ?_
      refine zz_get (pc := 67) S hV.1 iX1 0 rfl rfl 3 (by decide) wd_41 rfl rfl dX1_append_67 ?_
      refine zz_iconst (pc := 70) (v := nI 2) S dX1_append_70 rfl ?_
      refine lv_iload (pc := 71) S.1 S.2.1 dX1_append_71 (lv_at hl 0 rfl) ?_
      refine zz_imul (pc := 73) (v := nI (2 * n)) S dX1_append_73 (n_mul _ _) ?_
      refine zz_iconst (pc := 74) (v := nI 1) S dX1_append_74 rfl ?_
      refine zz_iadd (pc := 75) (v := nI (2 * n + 1)) S dX1_append_75 (n_add _ _) ?_
      refine lv_iload (pc := 76) S.1 S.2.1 dX1_append_76 (lv_at hl 5 rfl) ?_
      refine zz_iast (pc := 78) (k := 2 * n + 1) (v := y2) S hV 3 rfl (by omega) (ws' := [(d, .inr (1, [.int (nI n), .ref e1, .ref e2, .ref e3, .ref e4])), (e1, zA cI 8 (va_up P n q)), (e2, zA cI 16 (va_up (va_up X (2 * n) x1) (2 * n + 1) x2)), (e3, zA cI 16 (va_up (va_up Y (2 * n) y1) (2 * n + 1) y2)), (e4, zA cI 8 L)]) rfl dX1_append_78 (fun H locs hV => ?_)
      refine lv_aload_n (pc := 79) S.1 S.2.1 dX1_append_79 rfl (lv_at hl 1 rfl) ?_
      refine zz_get (pc := 80) S hV.1 iX1 0 rfl rfl 4 (by decide) wd_42 rfl rfl dX1_append_80 ?_
      refine lv_iload (pc := 83) S.1 S.2.1 dX1_append_83 (lv_at hl 0 rfl) ?_
      refine zz_iconst (pc := 85) (v := nI 2) S dX1_append_85 rfl ?_
      refine lv_iload (pc := 86) S.1 S.2.1 dX1_append_86 (lv_at hl 0 rfl) ?_
      refine zz_imul (pc := 88) (v := nI (2 * n)) S dX1_append_88 (n_mul _ _) ?_
      refine zz_iast (pc := 89) (k := n) (v := 2 * n) S hV 4 rfl (by omega) (ws' := [(d, .inr (1, [.int (nI n), .ref e1, .ref e2, .ref e3, .ref e4])), (e1, zA cI 8 (va_up P n q)), (e2, zA cI 16 (va_up (va_up X (2 * n) x1) (2 * n + 1) x2)), (e3, zA cI 16 (va_up (va_up Y (2 * n) y1) (2 * n + 1) y2)), (e4, zA cI 8 (va_up L n (2 * n)))]) rfl dX1_append_89 (fun H locs hV => ?_)
      refine lv_aload_n (pc := 90) S.1 S.2.1 dX1_append_90 rfl (lv_at hl 1 rfl) ?_
      refine lv_dup (pc := 91) S.1 S.2.1 dX1_append_91 rfl ?_
      refine zz_get (pc := 92) S hV.1 iX1 0 rfl rfl 0 (by decide) wd_93 rfl rfl dX1_append_92 ?_
      refine zz_iconst (pc := 95) (v := nI 1) S dX1_append_95 rfl ?_
      refine zz_iadd (pc := 96) (v := nI (n + 1)) S dX1_append_96 (n_add _ _) ?_
      refine zz_put (pc := 97) (v := .int (nI (n + 1))) (ty := .int) S hV iX1 tyX1 tyX1_ok nmX1 0 rfl rfl 0 (by decide) wd_93 rfl rfl (by decide +kernel) rfl rfl (Nat.le_of_ble_eq_true rfl) (ws' := [(d, .inr (1, [.int (nI (n + 1)), .ref e1, .ref e2, .ref e3, .ref e4])), (e1, zA cI 8 (va_up P n q)), (e2, zA cI 16 (va_up (va_up X (2 * n) x1) (2 * n + 1) x2)), (e3, zA cI 16 (va_up (va_up Y (2 * n) y1) (2 * n + 1) y2)), (e4, zA cI 8 (va_up L n (2 * n)))]) rfl dX1_append_97 (fun H locs hV => ?_)
      refine lv_iload (pc := 100) S.1 S.2.1 dX1_append_100 (lv_at hl 0 rfl) ?_
      exact zz_iretM (pc := 102) S hr hlocks hV (⟨rfl, rfl⟩) dX1_append_102
    · exfalso; omega
abbrev wm_X1_move : List Cond := .code yX1_move cX1_move 5 none :: wU
theorem q_X1_move : yX1_move.cls = RX1 ∧ yX1_move.cls ≠ "java/lang/invoke/MethodHandle" ∧ yX1_move.cls ≠ "java/lang/invoke/VarHandle" ∧ (parseMethodDescriptor yX1_move.desc).map (fun d => d.parameters.length) = some 2 := by decide +kernel
set_option maxHeartbeats 4000000 in
set_option maxRecDepth 100000 in
theorem c_X1_move (l : Launch) (D : va_G) (cI cR : ClassId) (d e1 e2 e3 e4 n : Nat) (P X Y L : Nat → Nat) (a : Nat) (b : Nat) (sz : Nat) (hge : zGe n P X Y) (ha : a < n) (hb : b < n) : Met l yX1_move wm_X1_move ({ frames := 1, cells := 0, slots := 0, locals := 21 } : Room) (va_Pc [.ref d, .int (nI a), .int (nI b)] (zX D cI cR [(d, .inr (1, [.int (nI n), .ref e1, .ref e2, .ref e3, .ref e4])), (e1, zA cI 8 P), (e2, zA cI 16 X), (e3, zA cI 16 Y), (e4, zA cI 8 L)] sz)) (zQv D cI cR (va_A [(d, .inr (1, [.int (nI n), .ref e1, .ref e2, .ref e3, .ref e4])), (e1, zA cI 8 P), (e2, zA cI 16 X), (e3, zA cI 16 Y), (e4, zA cI 8 L)] sz) (fun w => w = [(d, .inr (1, [.int (nI n), .ref e1, .ref e2, .ref e3, .ref e4])), (e1, zA cI 8 P), (e2, zA cI 16 X), (e3, zA cI 16 Y), (e4, zA cI 8 (mvp L a b))])) 0 0 (va_A [(d, .inr (1, [.int (nI n), .ref e1, .ref e2, .ref e3, .ref e4])), (e1, zA cI 8 P), (e2, zA cI 16 X), (e3, zA cI 16 Y), (e4, zA cI 8 L)] sz) := by
  refine Met.ofW (cc := cX1_move) (maxL := 5) (ret := none) (by decide) rfl ?_
  intro p e s m args below meth c s₁ B hml hv
  obtain ⟨rfl, hsz, hG, hD0⟩ := hv
  have S : CallFix p m c cX1_move 5 s ([.ref d, .int (nI a), .int (nI b)] : List Value).toArray wU RX1 := ⟨B.exec, B.bytes, hml, findClass_of_methodNamed B.named, fun w h => atoms_spec (ws := wm_X1_move) B.pre w (List.mem_cons_of_mem _ h)⟩
  have hr := B.returns
  have hlocks := B.notSynchronized
  subst hsz
  have hD := hD0.self (sz := s.heap.size)
  generalize hAe : va_A [(d, .inr (1, [.int (nI n), .ref e1, .ref e2, .ref e3, .ref e4])), (e1, zA cI 8 P), (e2, zA cI 16 X), (e3, zA cI 16 Y), (e4, zA cI 8 L)] s.heap.size = A at hD ⊢
  have hV : zV D cI cR A [(d, .inr (1, [.int (nI n), .ref e1, .ref e2, .ref e3, .ref e4])), (e1, zA cI 8 P), (e2, zA cI 16 X), (e3, zA cI 16 Y), (e4, zA cI 8 L)] s s.heap [] := ⟨hG, hD, va_S.rf, fun q h => by rw [← hAe]; exact Or.inr h⟩
  have hl := lv_entry ([.ref d, .int (nI a), .int (nI b)]) (n := 5) (Nat.le_of_ble_eq_true rfl)
  rw [lg_entry_eq]
  generalize (lg_sl ([.ref d, .int (nI a), .int (nI b)]) ++ List.replicate (5 - (lg_sl ([.ref d, .int (nI a), .int (nI b)])).length) Slot.unset).toArray = ls at hl ⊢
  have hl : lv_has ls 5 [(0, .ref d), (1, .int (nI a)), (2, .int (nI b))] := hl
  obtain ⟨hn, hPf, hXY⟩ := id hge
  refine lv_aload_n (pc := 0) S.1 S.2.1 dX1_move_0 rfl (lv_at hl 0 rfl) ?_
  refine lv_iload_n (pc := 1) S.1 S.2.1 dX1_move_1 rfl (lv_at hl 1 rfl) ?_
  refine zz_callV (pc := 2) (As := [.int (zI ((a : Nat) : Int))]) (rest := []) S (c_X1_hasPosition l D cI cR d e1 e2 e3 e4 n P X Y L ((a : Nat) : Int) hge (by unfold zR; omega)) (zuV wd_347 wd_352 wd_345 wd_346 wd_14) 1 rfl q_X1_hasPosition ⟨⟨rfl, rfl⟩, Nat.le_of_ble_eq_true rfl, Nat.le_of_ble_eq_true rfl⟩ hV.1 [0, 1, 2, 3, 4] rfl 0 rfl rfl rfl rfl rfl (Nat.le_of_ble_eq_true rfl) hl.1 ⟨Nat.zero_le _, Nat.zero_le _⟩ dX1_move_2 ?_
  refine zz_ifb_eq (pc := 5) (tgt := 16) S dX1_move_5 (by decide) (fun c5 => ?_) (fun c5 => ?_)
  · exfalso; omega
  · refine lv_aload_n (pc := 8) S.1 S.2.1 dX1_move_8 rfl (lv_at hl 0 rfl) ?_
    refine lv_iload_n (pc := 9) S.1 S.2.1 dX1_move_9 rfl (lv_at hl 2 rfl) ?_
    refine zz_callV (pc := 10) (As := [.int (zI ((b : Nat) : Int))]) (rest := []) S (c_X1_hasPosition l D cI cR d e1 e2 e3 e4 n P X Y L ((b : Nat) : Int) hge (by unfold zR; omega)) (zuV wd_347 wd_352 wd_345 wd_346 wd_14) 1 rfl q_X1_hasPosition ⟨⟨rfl, rfl⟩, Nat.le_of_ble_eq_true rfl, Nat.le_of_ble_eq_true rfl⟩ hV.1 [0, 1, 2, 3, 4] rfl 0 rfl rfl rfl rfl rfl (Nat.le_of_ble_eq_true rfl) hl.1 ⟨Nat.zero_le _, Nat.zero_le _⟩ dX1_move_10 ?_
    refine zz_ifb_ne (pc := 13) (tgt := 17) S dX1_move_13 (by decide) (fun c13 => ?_) (fun c13 => ?_)
    · refine lv_aload_n (pc := 17) S.1 S.2.1 dX1_move_17 rfl (lv_at hl 0 rfl) ?_
      refine zz_get (pc := 18) S hV.1 iX1 0 rfl rfl 4 (by decide) wd_42 rfl rfl dX1_move_18 ?_
      refine lv_iload_n (pc := 21) S.1 S.2.1 dX1_move_21 rfl (lv_at hl 1 rfl) ?_
      refine zz_iald (pc := 22) (k := a) S hV.1 4 rfl (by omega) dX1_move_22 ?_
      refine lv_istore_n (pc := 23) (lv' := [(3, .int (nI (L a))), (0, .ref d), (1, .int (nI a)), (2, .int (nI b))]) S.1 S.2.1 dX1_move_23 rfl hl (by decide) rfl (fun ls hl => ?_)
      refine lv_iload_n (pc := 24) S.1 S.2.1 dX1_move_24 rfl (lv_at hl 2 rfl) ?_
      refine lv_istore (pc := 25) (lv' := [(4, .int (nI a)), (3, .int (nI (L a))), (0, .ref d), (1, .int (nI a)), (2, .int (nI b))]) S.1 S.2.1 dX1_move_25 hl (by decide) rfl (fun ls hl => ?_)
      have L1 : ∀ (f : Nat) (k : Nat), ((a < b ∧ a ≤ k ∧ k ≤ b) ∨ (b ≤ a ∧ k = a)) → b - k < f → ∀ (H : Heap) (locs : List Loc), zV D cI cR A [(d, .inr (1, [.int (nI n), .ref e1, .ref e2, .ref e3, .ref e4])), (e1, zA cI 8 P), (e2, zA cI 16 X), (e3, zA cI 16 Y), (e4, zA cI 8 (shl L 1 a k))] s H locs → ∀ ls : Array Slot, lv_has ls 5 [(0, .ref d), (1, .int (nI a)), (2, .int (nI b)), (3, .int (nI (L a))), (4, .int (nI k))] → W p l e (headSpec wm_X1_move ({ frames := 1, cells := 0, slots := 0, locals := 21 } : Room)).room s m ([.ref d, .int (nI a), .int (nI b)] : List Value).toArray below meth c H locs 0 0 (MQ below (zQv D cI cR A (fun w => w = [(d, .inr (1, [.int (nI n), .ref e1, .ref e2, .ref e3, .ref e4])), (e1, zA cI 8 P), (e2, zA cI 16 X), (e3, zA cI 16 Y), (e4, zA cI 8 (mvp L a b))])) ([.ref d, .int (nI a), .int (nI b)] : List Value).toArray s 0 0 A) (F0 m 27 ls []) := by
        intro f
        induction f with
        | zero => intro k hk hf; exact absurd hf (Nat.not_lt_zero _)
        | succ f ih2 =>
          intro k hk hf H locs hV ls hl
          refine lv_iload (pc := 27) S.1 S.2.1 dX1_move_27 (lv_at hl 4 rfl) ?_
          refine lv_iload_n (pc := 29) S.1 S.2.1 dX1_move_29 rfl (lv_at hl 2 rfl) ?_
          refine zz_icmp_ge (pc := 30) (tgt := 55) S dX1_move_30 (by decide) (n_le (by omega) (by omega)) (fun c30 => ?_) (fun c30 => ?_)
          · refine lv_iload_n (pc := 55) S.1 S.2.1 dX1_move_55 rfl (lv_at hl 1 rfl) ?_
            refine lv_istore (pc := 56) (lv' := [(4, .int (nI a)), (0, .ref d), (1, .int (nI a)), (2, .int (nI b)), (3, .int (nI (L a)))]) S.1 S.2.1 dX1_move_56 hl (by decide) rfl (fun ls hl => ?_)
            have L3 : ∀ (f : Nat) (k : Nat), ((a < b ∧ k = a) ∨ (b ≤ k ∧ k ≤ a)) → k < f → ∀ (H : Heap) (locs : List Loc), zV D cI cR A [(d, .inr (1, [.int (nI n), .ref e1, .ref e2, .ref e3, .ref e4])), (e1, zA cI 8 P), (e2, zA cI 16 X), (e3, zA cI 16 Y), (e4, zA cI 8 (m2 L a b k))] s H locs → ∀ ls : Array Slot, lv_has ls 5 [(0, .ref d), (1, .int (nI a)), (2, .int (nI b)), (3, .int (nI (L a))), (4, .int (nI k))] → W p l e (headSpec wm_X1_move ({ frames := 1, cells := 0, slots := 0, locals := 21 } : Room)).room s m ([.ref d, .int (nI a), .int (nI b)] : List Value).toArray below meth c H locs 0 0 (MQ below (zQv D cI cR A (fun w => w = [(d, .inr (1, [.int (nI n), .ref e1, .ref e2, .ref e3, .ref e4])), (e1, zA cI 8 P), (e2, zA cI 16 X), (e3, zA cI 16 Y), (e4, zA cI 8 (mvp L a b))])) ([.ref d, .int (nI a), .int (nI b)] : List Value).toArray s 0 0 A) (F0 m 58 ls []) := by
              intro f
              induction f with
              | zero => intro k hk hf; exact absurd hf (Nat.not_lt_zero _)
              | succ f ih4 =>
                intro k hk hf H locs hV ls hl
                refine lv_iload (pc := 58) S.1 S.2.1 dX1_move_58 (lv_at hl 4 rfl) ?_
                refine lv_iload_n (pc := 60) S.1 S.2.1 dX1_move_60 rfl (lv_at hl 2 rfl) ?_
                refine zz_icmp_le (pc := 61) (tgt := 86) S dX1_move_61 (by decide) (n_le (by omega) (by omega)) (fun c61 => ?_) (fun c61 => ?_)
                · refine lv_aload_n (pc := 86) S.1 S.2.1 dX1_move_86 rfl (lv_at hl 0 rfl) ?_
                  refine zz_get (pc := 87) S hV.1 iX1 0 rfl rfl 4 (by decide) wd_42 rfl rfl dX1_move_87 ?_
                  refine lv_iload_n (pc := 90) S.1 S.2.1 dX1_move_90 rfl (lv_at hl 2 rfl) ?_
                  refine lv_iload_n (pc := 91) S.1 S.2.1 dX1_move_91 rfl (lv_at hl 3 rfl) ?_
                  refine zz_iast (pc := 92) (k := b) (v := L a) S hV 4 rfl (by omega) (ws' := [(d, .inr (1, [.int (nI n), .ref e1, .ref e2, .ref e3, .ref e4])), (e1, zA cI 8 P), (e2, zA cI 16 X), (e3, zA cI 16 Y), (e4, zA cI 8 (va_up (m2 L a b k) b (L a)))]) rfl dX1_move_92 (fun H locs hV => ?_)
                  have hV : zV D cI cR A [(d, .inr (1, [.int (nI n), .ref e1, .ref e2, .ref e3, .ref e4])), (e1, zA cI 8 P), (e2, zA cI 16 X), (e3, zA cI 16 Y), (e4, zA cI 8 (mvp L a b))] s H locs := hV.arr 4 rfl (fun j hj => by exact m2_e L a b k j _ (by omega) rfl) rfl
                  exact zz_vretM (pc := 93) S hr hlocks hV (rfl) dX1_move_93
                · refine lv_aload_n (pc := 64) S.1 S.2.1 dX1_move_64 rfl (lv_at hl 0 rfl) ?_
                  refine zz_get (pc := 65) S hV.1 iX1 0 rfl rfl 4 (by decide) wd_42 rfl rfl dX1_move_65 ?_
                  refine lv_iload (pc := 68) S.1 S.2.1 dX1_move_68 (lv_at hl 4 rfl) ?_
                  refine lv_aload_n (pc := 70) S.1 S.2.1 dX1_move_70 rfl (lv_at hl 0 rfl) ?_
                  refine zz_get (pc := 71) S hV.1 iX1 0 rfl rfl 4 (by decide) wd_42 rfl rfl dX1_move_71 ?_
                  refine lv_iload (pc := 74) S.1 S.2.1 dX1_move_74 (lv_at hl 4 rfl) ?_
                  refine zz_iconst (pc := 76) (v := nI 1) S dX1_move_76 rfl ?_
                  refine zz_isub (pc := 77) (v := nI (k - 1)) S dX1_move_77 (n_sub (by omega)) ?_
                  refine zz_iald (pc := 78) (k := k - 1) S hV.1 4 rfl (by omega) dX1_move_78 ?_
                  refine zz_iast (pc := 79) (k := k) (v := (m2 L a b k) (k - 1)) S hV 4 rfl (by omega) (ws' := [(d, .inr (1, [.int (nI n), .ref e1, .ref e2, .ref e3, .ref e4])), (e1, zA cI 8 P), (e2, zA cI 16 X), (e3, zA cI 16 Y), (e4, zA cI 8 (va_up (m2 L a b k) k ((m2 L a b k) (k - 1))))]) rfl dX1_move_79 (fun H locs hV => ?_)
                  refine lv_iinc (pc := 80) (v := nI (k - 1)) (lv' := [(4, .int (nI (k - 1))), (0, .ref d), (1, .int (nI a)), (2, .int (nI b)), (3, .int (nI (L a)))]) S.1 S.2.1 dX1_move_80 hl (k := 4) rfl (n_dec (by omega)) (by decide) rfl (fun ls hl => ?_)
                  refine lv_goto (pc := 83) (tgt := 58) S.1 S.2.1 dX1_move_83 (by decide) ?_
                  have hV : zV D cI cR A [(d, .inr (1, [.int (nI n), .ref e1, .ref e2, .ref e3, .ref e4])), (e1, zA cI 8 P), (e2, zA cI 16 X), (e3, zA cI 16 Y), (e4, zA cI 8 (m2 L a b (k - 1)))] s H locs := hV.arr 4 rfl (fun j hj => by exact m2_s L a b k j (by omega) (by omega) (by omega)) rfl
                  exact ih4 (k - 1) (by omega) (by omega) H locs hV ls (lv_sub hl [1, 2, 3, 4, 0] rfl)
            have hV : zV D cI cR A [(d, .inr (1, [.int (nI n), .ref e1, .ref e2, .ref e3, .ref e4])), (e1, zA cI 8 P), (e2, zA cI 16 X), (e3, zA cI 16 Y), (e4, zA cI 8 (m2 L a b a))] s H locs := hV.arr 4 rfl (fun j hj => by exact m2_0 L a b k j (by omega)) rfl
            exact L3 (a + 1) a (by omega) (Nat.lt_succ_self _) H locs hV ls (lv_sub hl [1, 2, 3, 4, 0] rfl)
          · refine lv_aload_n (pc := 33) S.1 S.2.1 dX1_move_33 rfl (lv_at hl 0 rfl) ?_
            refine zz_get (pc := 34) S hV.1 iX1 0 rfl rfl 4 (by decide) wd_42 rfl rfl dX1_move_34 ?_
            refine lv_iload (pc := 37) S.1 S.2.1 dX1_move_37 (lv_at hl 4 rfl) ?_
            refine lv_aload_n (pc := 39) S.1 S.2.1 dX1_move_39 rfl (lv_at hl 0 rfl) ?_
            refine zz_get (pc := 40) S hV.1 iX1 0 rfl rfl 4 (by decide) wd_42 rfl rfl dX1_move_40 ?_
            refine lv_iload (pc := 43) S.1 S.2.1 dX1_move_43 (lv_at hl 4 rfl) ?_
            refine zz_iconst (pc := 45) (v := nI 1) S dX1_move_45 rfl ?_
            refine zz_iadd (pc := 46) (v := nI (k + 1)) S dX1_move_46 (n_add _ _) ?_
            refine zz_iald (pc := 47) (k := k + 1) S hV.1 4 rfl (by omega) dX1_move_47 ?_
            refine zz_iast (pc := 48) (k := k) (v := (shl L 1 a k) (k + 1)) S hV 4 rfl (by omega) (ws' := [(d, .inr (1, [.int (nI n), .ref e1, .ref e2, .ref e3, .ref e4])), (e1, zA cI 8 P), (e2, zA cI 16 X), (e3, zA cI 16 Y), (e4, zA cI 8 (va_up (shl L 1 a k) k ((shl L 1 a k) (k + 1))))]) rfl dX1_move_48 (fun H locs hV => ?_)
            refine lv_iinc (pc := 49) (v := nI (k + 1)) (lv' := [(4, .int (nI (k + 1))), (0, .ref d), (1, .int (nI a)), (2, .int (nI b)), (3, .int (nI (L a)))]) S.1 S.2.1 dX1_move_49 hl (k := 4) rfl (n_add _ _) (by decide) rfl (fun ls hl => ?_)
            refine lv_goto (pc := 52) (tgt := 27) S.1 S.2.1 dX1_move_52 (by decide) ?_
            have hV : zV D cI cR A [(d, .inr (1, [.int (nI n), .ref e1, .ref e2, .ref e3, .ref e4])), (e1, zA cI 8 P), (e2, zA cI 16 X), (e3, zA cI 16 Y), (e4, zA cI 8 (shl L 1 a (k + 1)))] s H locs := hV.arr 4 rfl (fun j hj => by have q := shl_s L 1 a (k + 1) j (by omega) (by omega); rw [show k + 1 - 1 = k by omega] at q; exact q) rfl
            exact ih2 (k + 1) (by omega) (by omega) H locs hV ls (lv_sub hl [1, 2, 3, 4, 0] rfl)
      have hV : zV D cI cR A [(d, .inr (1, [.int (nI n), .ref e1, .ref e2, .ref e3, .ref e4])), (e1, zA cI 8 P), (e2, zA cI 16 X), (e3, zA cI 16 Y), (e4, zA cI 8 (shl L 1 a a))] s s.heap [] := hV.arr 4 rfl (fun j hj => by exact shl_0 L 1 a a j (Nat.le_refl a)) rfl
      exact L1 (b - a + 1) a (by omega) (Nat.lt_succ_self _) s.heap [] hV ls (lv_sub hl [2, 3, 4, 1, 0] rfl)
    · exfalso; omega
abbrev wm_X1_orderByNearest : List Cond := .code yX1_orderByNearest cX1_orderByNearest 5 none :: wU
theorem q_X1_orderByNearest : yX1_orderByNearest.cls = RX1 ∧ yX1_orderByNearest.cls ≠ "java/lang/invoke/MethodHandle" ∧ yX1_orderByNearest.cls ≠ "java/lang/invoke/VarHandle" ∧ (parseMethodDescriptor yX1_orderByNearest.desc).map (fun d => d.parameters.length) = some 1 := by decide +kernel
set_option maxHeartbeats 4000000 in
set_option maxRecDepth 100000 in
theorem c_X1_orderByNearest (l : Launch) (D : va_G) (cI cR : ClassId) (d e1 e2 e3 e4 n : Nat) (P X Y L : Nat → Nat) (C : Nat) (sz : Nat) (hge : zGe n P X Y) (hC : C ≤ 500) : Met l yX1_orderByNearest wm_X1_orderByNearest ({ frames := 5, cells := 0, slots := 0, locals := 115 } : Room) (va_Pc [.ref d, .int (nI C)] (zX D cI cR [(d, .inr (1, [.int (nI n), .ref e1, .ref e2, .ref e3, .ref e4])), (e1, zA cI 8 P), (e2, zA cI 16 X), (e3, zA cI 16 Y), (e4, zA cI 8 L)] sz)) (zQv D cI cR (va_A [(d, .inr (1, [.int (nI n), .ref e1, .ref e2, .ref e3, .ref e4])), (e1, zA cI 8 P), (e2, zA cI 16 X), (e3, zA cI 16 Y), (e4, zA cI 8 L)] sz) (fun w => w = [(d, .inr (1, [.int (nI n), .ref e1, .ref e2, .ref e3, .ref e4])), (e1, zA cI 8 P), (e2, zA cI 16 X), (e3, zA cI 16 Y), (e4, zA cI 8 (nearL P X Y C n L n))])) 0 0 (va_A [(d, .inr (1, [.int (nI n), .ref e1, .ref e2, .ref e3, .ref e4])), (e1, zA cI 8 P), (e2, zA cI 16 X), (e3, zA cI 16 Y), (e4, zA cI 8 L)] sz) := by
  refine Met.ofW (cc := cX1_orderByNearest) (maxL := 5) (ret := none) (by decide) rfl ?_
  intro p e s m args below meth c s₁ B hml hv
  obtain ⟨rfl, hsz, hG, hD0⟩ := hv
  have S : CallFix p m c cX1_orderByNearest 5 s ([.ref d, .int (nI C)] : List Value).toArray wU RX1 := ⟨B.exec, B.bytes, hml, findClass_of_methodNamed B.named, fun w h => atoms_spec (ws := wm_X1_orderByNearest) B.pre w (List.mem_cons_of_mem _ h)⟩
  have hr := B.returns
  have hlocks := B.notSynchronized
  subst hsz
  have hD := hD0.self (sz := s.heap.size)
  generalize hAe : va_A [(d, .inr (1, [.int (nI n), .ref e1, .ref e2, .ref e3, .ref e4])), (e1, zA cI 8 P), (e2, zA cI 16 X), (e3, zA cI 16 Y), (e4, zA cI 8 L)] s.heap.size = A at hD ⊢
  have hV : zV D cI cR A [(d, .inr (1, [.int (nI n), .ref e1, .ref e2, .ref e3, .ref e4])), (e1, zA cI 8 P), (e2, zA cI 16 X), (e3, zA cI 16 Y), (e4, zA cI 8 L)] s s.heap [] := ⟨hG, hD, va_S.rf, fun q h => by rw [← hAe]; exact Or.inr h⟩
  have hl := lv_entry ([.ref d, .int (nI C)]) (n := 5) (Nat.le_of_ble_eq_true rfl)
  rw [lg_entry_eq]
  generalize (lg_sl ([.ref d, .int (nI C)]) ++ List.replicate (5 - (lg_sl ([.ref d, .int (nI C)])).length) Slot.unset).toArray = ls at hl ⊢
  have hl : lv_has ls 5 [(0, .ref d), (1, .int (nI C))] := hl
  obtain ⟨hn, hPf, hXY⟩ := id hge
  have hpw : 0 < 2 ^ n := Nat.pow_pos (by decide)
  refine zz_iconst (pc := 0) (v := nI 1) S dX1_orderByNearest_0 rfl ?_
  refine lv_aload_n (pc := 1) S.1 S.2.1 dX1_orderByNearest_1 rfl (lv_at hl 0 rfl) ?_
  refine zz_get (pc := 2) S hV.1 iX1 0 rfl rfl 0 (by decide) wd_93 rfl rfl dX1_orderByNearest_2 ?_
  refine zz_ishl (pc := 5) (v := nI (2 ^ n)) S dX1_orderByNearest_5 (n_shl1 (by omega)) ?_
  refine zz_iconst (pc := 6) (v := nI 1) S dX1_orderByNearest_6 rfl ?_
  refine zz_isub (pc := 7) (v := nI ((2 ^ n) - 1)) S dX1_orderByNearest_7 (n_sub (by omega)) ?_
  refine lv_istore_n (pc := 8) (lv' := [(2, .int (nI ((2 ^ n) - 1))), (0, .ref d), (1, .int (nI C))]) S.1 S.2.1 dX1_orderByNearest_8 rfl hl (by decide) rfl (fun ls hl => ?_)
  refine zz_iconst (pc := 9) (v := zI (-1)) S dX1_orderByNearest_9 rfl ?_
  refine lv_istore_n (pc := 10) (lv' := [(3, .int (zI (-1))), (2, .int (nI ((2 ^ n) - 1))), (0, .ref d), (1, .int (nI C))]) S.1 S.2.1 dX1_orderByNearest_10 rfl hl (by decide) rfl (fun ls hl => ?_)
  refine zz_iconst (pc := 11) (v := nI 0) S dX1_orderByNearest_11 rfl ?_
  refine lv_istore (pc := 12) (lv' := [(4, .int (nI 0)), (3, .int (zI (-1))), (2, .int (nI ((2 ^ n) - 1))), (0, .ref d), (1, .int (nI C))]) S.1 S.2.1 dX1_orderByNearest_12 hl (by decide) rfl (fun ls hl => ?_)
  have L1 : ∀ (f : Nat) (k : Nat), (k ≤ n) → n - k < f → ∀ (H : Heap) (locs : List Loc), zV D cI cR A [(d, .inr (1, [.int (nI n), .ref e1, .ref e2, .ref e3, .ref e4])), (e1, zA cI 8 P), (e2, zA cI 16 X), (e3, zA cI 16 Y), (e4, zA cI 8 (nearL P X Y C n L k))] s H locs → ∀ ls : Array Slot, lv_has ls 5 [(0, .ref d), (1, .int (nI C)), (2, .int (nI ((nst P X Y C n k).1))), (3, .int (zI ((nst P X Y C n k).2))), (4, .int (nI k))] → W p l e (headSpec wm_X1_orderByNearest ({ frames := 5, cells := 0, slots := 0, locals := 115 } : Room)).room s m ([.ref d, .int (nI C)] : List Value).toArray below meth c H locs 0 0 (MQ below (zQv D cI cR A (fun w => w = [(d, .inr (1, [.int (nI n), .ref e1, .ref e2, .ref e3, .ref e4])), (e1, zA cI 8 P), (e2, zA cI 16 X), (e3, zA cI 16 Y), (e4, zA cI 8 (nearL P X Y C n L n))])) ([.ref d, .int (nI C)] : List Value).toArray s 0 0 A) (F0 m 14 ls []) := by
    intro f
    induction f with
    | zero => intro k hk hf; exact absurd hf (Nat.not_lt_zero _)
    | succ f ih2 =>
      intro k hk hf H locs hV ls hl
      have h1 := nst_ok P X Y C n hn k hk
      obtain ⟨h2, h3, h4, h5⟩ := h1
      refine lv_iload (pc := 14) S.1 S.2.1 dX1_orderByNearest_14 (lv_at hl 4 rfl) ?_
      refine lv_aload_n (pc := 16) S.1 S.2.1 dX1_orderByNearest_16 rfl (lv_at hl 0 rfl) ?_
      refine zz_get (pc := 17) S hV.1 iX1 0 rfl rfl 0 (by decide) wd_93 rfl rfl dX1_orderByNearest_17 ?_
      refine zz_icmp_ge (pc := 20) (tgt := 54) S dX1_orderByNearest_20 (by decide) (n_le (by omega) (by omega)) (fun c20 => ?_) (fun c20 => ?_)
      · have hV : zV D cI cR A [(d, .inr (1, [.int (nI n), .ref e1, .ref e2, .ref e3, .ref e4])), (e1, zA cI 8 P), (e2, zA cI 16 X), (e3, zA cI 16 Y), (e4, zA cI 8 (nearL P X Y C n L n))] s H locs := hV.arr 4 rfl (fun j hj => by rw [show k = n by omega]) rfl
        exact zz_vretM (pc := 54) S hr hlocks hV (rfl) dX1_orderByNearest_54
      · have h6 := nst_ok P X Y C n hn (k + 1) (by omega)
        obtain ⟨h7, h8, h9, h10⟩ := h6
        have h11 := amf_ge (S := (nst P X Y C n k).1) (n := n) (g := fun j => stp P X Y C (nst P X Y C n k).2 j) (by omega)
        have h12 : (nst P X Y C n (k + 1)).2 = amf (fun j => inS (nst P X Y C n k).1 j) (fun j => stp P X Y C (nst P X Y C n k).2 j) (2 * n) := rfl
        refine lv_aload_n (pc := 23) S.1 S.2.1 dX1_orderByNearest_23 rfl (lv_at hl 0 rfl) ?_
        refine lv_iload_n (pc := 24) S.1 S.2.1 dX1_orderByNearest_24 rfl (lv_at hl 2 rfl) ?_
        refine lv_iload_n (pc := 25) S.1 S.2.1 dX1_orderByNearest_25 rfl (lv_at hl 3 rfl) ?_
        refine lv_iload_n (pc := 26) S.1 S.2.1 dX1_orderByNearest_26 rfl (lv_at hl 1 rfl) ?_
        refine zz_callV (pc := 27) (As := [.int (nI ((nst P X Y C n k).1)), .int (zI ((nst P X Y C n k).2)), .int (nI C)]) (rest := []) S (c_X1_nearestCode l D cI cR d e1 e2 e3 e4 n P X Y (nearL P X Y C n L k) ((nst P X Y C n k).1) ((nst P X Y C n k).2) C hge (by omega) (by omega) (by omega)) (zuV wd_591 wd_588 wd_589 wd_590 wd_14) 3 rfl q_X1_nearestCode ⟨⟨rfl, rfl⟩, Nat.le_of_ble_eq_true rfl, Nat.le_of_ble_eq_true rfl⟩ hV.1 [0, 1, 2, 3, 4] rfl 0 rfl rfl rfl rfl rfl (Nat.le_of_ble_eq_true rfl) hl.1 ⟨Nat.zero_le _, Nat.zero_le _⟩ dX1_orderByNearest_27 ?_
        have g3 := amf_rng (fun j => inS ((nst P X Y C n k).1) j) (fun j => stp P X Y C ((nst P X Y C n k).2) j) (2 * n)
        refine zz_cast (v := nI ((nst P X Y C n (k + 1)).2.toNat)) ((zn_of (z := amf (fun j => inS (nst P X Y C n k).1 j) (fun j => stp P X Y C (nst P X Y C n k).2 j) (2 * n)) (n := (nst P X Y C n (k + 1)).2.toNat) (by show amf _ _ _ = (((amf (fun j => inS (nst P X Y C n k).1 j) (fun j => stp P X Y C (nst P X Y C n k).2 j) (2 * n)).toNat : Nat) : Int); omega))) ?_
        refine lv_istore_n (pc := 30) (lv' := [(3, .int (nI ((nst P X Y C n (k + 1)).2.toNat))), (0, .ref d), (1, .int (nI C)), (2, .int (nI ((nst P X Y C n k).1))), (4, .int (nI k))]) S.1 S.2.1 dX1_orderByNearest_30 rfl hl (by decide) rfl (fun ls hl => ?_)
        refine lv_aload_n (pc := 31) S.1 S.2.1 dX1_orderByNearest_31 rfl (lv_at hl 1 rfl) ?_
        refine lv_iload (pc := 32) S.1 S.2.1 dX1_orderByNearest_32 (lv_at hl 4 rfl) ?_
        refine lv_iload_n (pc := 34) S.1 S.2.1 dX1_orderByNearest_34 rfl (lv_at hl 0 rfl) ?_
        refine zz_callMv (pc := 35) (As := [.int (nI k), .int (nI ((nst P X Y C n (k + 1)).2.toNat))]) (rest := []) (wr := []) S hV (c_X1_setCode l D cI cR d e1 e2 e3 e4 n P X Y (nearL P X Y C n L k) k ((nst P X Y C n (k + 1)).2.toNat) H.size hge (by omega) (by omega)) (zuV wd_575 wd_592 wd_573 wd_574 wd_14) 2 rfl q_X1_setCode ⟨⟨rfl, rfl⟩, Nat.le_of_ble_eq_true rfl, Nat.le_of_ble_eq_true rfl⟩ [0, 1, 2, 3, 4] [] rfl rfl (by decide) (by decide) (by decide) 0 rfl rfl rfl rfl rfl (Nat.le_of_ble_eq_true rfl) hl.1 ⟨Nat.zero_le _, Nat.zero_le _⟩ dX1_orderByNearest_35 (fun w1 H locs hp hV => ?_)
        obtain rfl := hp
        have hV : zV D cI cR A [(d, .inr (1, [.int (nI n), .ref e1, .ref e2, .ref e3, .ref e4])), (e1, zA cI 8 P), (e2, zA cI 16 X), (e3, zA cI 16 Y), (e4, zA cI 8 (va_up (nearL P X Y C n L k) k ((nst P X Y C n (k + 1)).2.toNat)))] s H locs := hV.perm [0, 1, 2, 3, 4] (by decide) rfl
        refine lv_iload_n (pc := 38) S.1 S.2.1 dX1_orderByNearest_38 rfl (lv_at hl 3 rfl) ?_
        refine zz_iconst (pc := 39) (v := nI 1) S dX1_orderByNearest_39 rfl ?_
        refine lv_iload_n (pc := 40) S.1 S.2.1 dX1_orderByNearest_40 rfl (lv_at hl 0 rfl) ?_
        refine zz_iconst (pc := 41) (v := nI 2) S dX1_orderByNearest_41 rfl ?_
        refine zz_idiv (pc := 42) (v := nI (((nst P X Y C n (k + 1)).2.toNat) / 2)) S dX1_orderByNearest_42 (by decide) (n_div (by omega) (by decide) (by decide)) ?_
        refine zz_ishl (pc := 43) (v := nI (2 ^ (((nst P X Y C n (k + 1)).2.toNat) / 2))) S dX1_orderByNearest_43 (n_shl1 (by omega)) ?_
        refine zz_iconst (pc := 44) (v := zI (-1)) S dX1_orderByNearest_44 rfl ?_
        refine zz_ixor (pc := 45) (v := (nI (2 ^ (((nst P X Y C n (k + 1)).2.toNat) / 2)) ^^^ zI (-1))) S dX1_orderByNearest_45 (rfl) ?_
        refine zz_iand (pc := 46) (v := nI (clb ((nst P X Y C n k).1) (((nst P X Y C n (k + 1)).2.toNat) / 2))) S dX1_orderByNearest_46 (n_clb (by omega) (by omega)) ?_
        refine lv_istore_n (pc := 47) (lv' := [(2, .int (nI (clb ((nst P X Y C n k).1) (((nst P X Y C n (k + 1)).2.toNat) / 2)))), (3, .int (nI ((nst P X Y C n (k + 1)).2.toNat))), (0, .ref d), (1, .int (nI C)), (4, .int (nI k))]) S.1 S.2.1 dX1_orderByNearest_47 rfl hl (by decide) rfl (fun ls hl => ?_)
        refine lv_iinc (pc := 48) (v := nI (k + 1)) (lv' := [(4, .int (nI (k + 1))), (2, .int (nI (clb ((nst P X Y C n k).1) (((nst P X Y C n (k + 1)).2.toNat) / 2)))), (3, .int (nI ((nst P X Y C n (k + 1)).2.toNat))), (0, .ref d), (1, .int (nI C))]) S.1 S.2.1 dX1_orderByNearest_48 hl (k := 4) rfl (n_add _ _) (by decide) rfl (fun ls hl => ?_)
        refine lv_goto (pc := 51) (tgt := 14) S.1 S.2.1 dX1_orderByNearest_51 (by decide) ?_
        have hV : zV D cI cR A [(d, .inr (1, [.int (nI n), .ref e1, .ref e2, .ref e3, .ref e4])), (e1, zA cI 8 P), (e2, zA cI 16 X), (e3, zA cI 16 Y), (e4, zA cI 8 (nearL P X Y C n L (k + 1)))] s H locs := hV.arr 4 rfl (fun j hj => by exact nearL_s P X Y C n L k j _ rfl) rfl
        exact ih2 (k + 1) (by omega) (by omega) H locs hV ls (by rw [show (nst P X Y C n (k + 1)).2 = ((nst P X Y C n (k + 1)).2.toNat : Int) by omega]; exact lv_sub hl [3, 4, 1, 2, 0] rfl)
  have hV : zV D cI cR A [(d, .inr (1, [.int (nI n), .ref e1, .ref e2, .ref e3, .ref e4])), (e1, zA cI 8 P), (e2, zA cI 16 X), (e3, zA cI 16 Y), (e4, zA cI 8 (nearL P X Y C n L 0))] s s.heap [] := hV.arr 4 rfl (fun j hj => by exact nearL_0 P X Y C n L j) rfl
  exact L1 (n - 0 + 1) 0 (by omega) (Nat.lt_succ_self _) s.heap [] hV ls (lv_sub hl [3, 4, 2, 1, 0] rfl)
