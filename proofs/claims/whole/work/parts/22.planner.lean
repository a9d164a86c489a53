abbrev wm_X4_endAt : List Cond := .code yX4_endAt cX4_endAt 2 (some .int) :: wU
theorem q_X4_endAt : yX4_endAt.cls = RX4 ∧ yX4_endAt.cls ≠ "java/lang/invoke/MethodHandle" ∧ yX4_endAt.cls ≠ "java/lang/invoke/VarHandle" ∧ (parseMethodDescriptor yX4_endAt.desc).map (fun d => d.parameters.length) = some 1 := by decide +kernel
set_option maxHeartbeats 4000000 in
set_option maxRecDepth 100000 in
theorem c_X4_endAt (l : Launch) (D : va_G) (cI cR : ClassId) (v v1 : Nat) (en : Nat → Nat) (a : Int) (ha : -1 ≤ a ∧ a ≤ 7) : Met l yX4_endAt wm_X4_endAt ({ frames := 1, cells := 0, slots := 0, locals := 22 } : Room) (va_Pc [.ref v, .int (zI a)] (zW D cI cR [(v, .inr (4, [.ref v1])), (v1, zA cI 8 en)])) (vp_Si (fun r => r = nI (enAt en a))) 0 0 (fun _ => False) := by
  refine Met.ofW (cc := cX4_endAt) (maxL := 2) (ret := (some .int)) (by decide) rfl ?_
  intro p e s m args below meth c s₁ B hml hv
  obtain ⟨rfl, hG⟩ := hv
  have S : CallFix p m c cX4_endAt 2 s ([.ref v, .int (zI a)] : List Value).toArray wU RX4 := ⟨B.exec, B.bytes, hml, findClass_of_methodNamed B.named, fun w h => atoms_spec (ws := wm_X4_endAt) B.pre w (List.mem_cons_of_mem _ h)⟩
  have hr := B.returns
  have hlocks := B.notSynchronized
  have hG : zG D cI cR [(v, .inr (4, [.ref v1])), (v1, zA cI 8 en)] s s.heap := hG
  have hl := lv_entry ([.ref v, .int (zI a)]) (n := 2) (Nat.le_of_ble_eq_true rfl)
  rw [lg_entry_eq]
  generalize (lg_sl ([.ref v, .int (zI a)]) ++ List.replicate (2 - (lg_sl ([.ref v, .int (zI a)])).length) Slot.unset).toArray = ls at hl ⊢
  have hl : lv_has ls 2 [(0, .ref v), (1, .int (zI a))] := hl
  refine lv_iload_n (pc := 0) S.1 S.2.1 dX4_endAt_0 rfl (lv_at hl 1 rfl) ?_
  refine zz_iconst (pc := 1) (v := nI 0) S dX4_endAt_1 rfl ?_
  refine zz_bipush (pc := 2) (v := nI 7) S dX4_endAt_2 rfl ?_
  refine zz_callSN (pc := 4) (As := [.int (zI a), .int (zI 0), .int (zI 7)]) (rest := []) S (c_X5_isWithin l D cI cR a 0 7 (by unfold zR; omega) (by unfold zR; omega) (by unfold zR; omega)) (zu0 wd_85) 3 rfl q_X5_isWithin.2 ⟨⟨rfl, rfl⟩, Nat.le_of_ble_eq_true rfl, Nat.le_of_ble_eq_true rfl⟩ (hG.2.2.2.2.1) wd_2 wd_84 rfl rfl (Nat.le_of_ble_eq_true rfl) hl.1 ⟨Nat.zero_le _, Nat.zero_le _⟩ dX4_endAt_4 ?_
  refine zz_ifb_eq (pc := 7) (tgt := 19) S dX4_endAt_7 (by decide) (fun c7 => ?_) (fun c7 => ?_)
  · refine zz_iconst (pc := 19) (v := nI 0) S dX4_endAt_19 rfl ?_
    exact zz_iretS (pc := 20) S hr hlocks (congrArg nI (by first | exact (enAt_p (by omega)).symm | exact (enAt_n (by omega)).symm)) dX4_endAt_20
  · refine lv_aload_n (pc := 10) S.1 S.2.1 dX4_endAt_10 rfl (lv_at hl 0 rfl) ?_
    refine zz_get (pc := 11) S hG iX4 0 rfl rfl 0 (by decide) wd_62 rfl rfl dX4_endAt_11 ?_
    refine lv_iload_n (pc := 14) S.1 S.2.1 dX4_endAt_14 rfl (lv_at hl 1 rfl) ?_
    refine zz_cast (v := nI a.toNat) (zn_of (by omega)) ?_
    refine zz_iald (pc := 15) (k := a.toNat) S hG 1 rfl (by omega) dX4_endAt_15 ?_
    refine lv_goto (pc := 16) (tgt := 20) S.1 S.2.1 dX4_endAt_16 (by decide) ?_
    exact zz_iretS (pc := 20) S hr hlocks (congrArg nI (by first | exact (enAt_p (by omega)).symm | exact (enAt_n (by omega)).symm)) dX4_endAt_20
abbrev wm_X4_beginAt : List Cond := .code yX4_beginAt cX4_beginAt 2 (some .int) :: wU
theorem q_X4_beginAt : yX4_beginAt.cls = RX4 ∧ yX4_beginAt.cls ≠ "java/lang/invoke/MethodHandle" ∧ yX4_beginAt.cls ≠ "java/lang/invoke/VarHandle" ∧ (parseMethodDescriptor yX4_beginAt.desc).map (fun d => d.parameters.length) = some 1 := by decide +kernel
set_option maxHeartbeats 4000000 in
set_option maxRecDepth 100000 in
theorem c_X4_beginAt (l : Launch) (D : va_G) (cI cR : ClassId) (v v1 : Nat) (en : Nat → Nat) (a : Nat) (ha : a ≤ 8) : Met l yX4_beginAt wm_X4_beginAt ({ frames := 2, cells := 0, slots := 0, locals := 43 } : Room) (va_Pc [.ref v, .int (nI a)] (zW D cI cR [(v, .inr (4, [.ref v1])), (v1, zA cI 8 en)])) (vp_Si (fun r => r = nI (enAt en (((a : Nat) : Int) - 1)))) 0 0 (fun _ => False) := by
  refine Met.ofW (cc := cX4_beginAt) (maxL := 2) (ret := (some .int)) (by decide) rfl ?_
  intro p e s m args below meth c s₁ B hml hv
  obtain ⟨rfl, hG⟩ := hv
  have S : CallFix p m c cX4_beginAt 2 s ([.ref v, .int (nI a)] : List Value).toArray wU RX4 := ⟨B.exec, B.bytes, hml, findClass_of_methodNamed B.named, fun w h => atoms_spec (ws := wm_X4_beginAt) B.pre w (List.mem_cons_of_mem _ h)⟩
  have hr := B.returns
  have hlocks := B.notSynchronized
  have hG : zG D cI cR [(v, .inr (4, [.ref v1])), (v1, zA cI 8 en)] s s.heap := hG
  have hl := lv_entry ([.ref v, .int (nI a)]) (n := 2) (Nat.le_of_ble_eq_true rfl)
  rw [lg_entry_eq]
  generalize (lg_sl ([.ref v, .int (nI a)]) ++ List.replicate (2 - (lg_sl ([.ref v, .int (nI a)])).length) Slot.unset).toArray = ls at hl ⊢
  have hl : lv_has ls 2 [(0, .ref v), (1, .int (nI a))] := hl
  refine lv_aload_n (pc := 0) S.1 S.2.1 dX4_beginAt_0 rfl (lv_at hl 0 rfl) ?_
  refine lv_iload_n (pc := 1) S.1 S.2.1 dX4_beginAt_1 rfl (lv_at hl 1 rfl) ?_
  refine zz_iconst (pc := 2) (v := nI 1) S dX4_beginAt_2 rfl ?_
  refine zz_isub (pc := 3) (v := zI (((a : Nat) : Int) - 1)) S dX4_beginAt_3 (zI_sub ((a : Nat) : Int) 1) ?_
  refine zz_callV (pc := 4) (As := [.int (zI (((a : Nat) : Int) - 1))]) (rest := []) S (c_X4_endAt l D cI cR v v1 en (((a : Nat) : Int) - 1) (by omega)) (zuV wd_657 wd_654 wd_655 wd_656 wd_30) 1 rfl q_X4_endAt ⟨⟨rfl, rfl⟩, Nat.le_of_ble_eq_true rfl, Nat.le_of_ble_eq_true rfl⟩ hG [0, 1] rfl 0 rfl rfl rfl rfl rfl (Nat.le_of_ble_eq_true rfl) hl.1 ⟨Nat.zero_le _, Nat.zero_le _⟩ dX4_beginAt_4 ?_
  exact zz_iretS (pc := 7) S hr hlocks (rfl) dX4_beginAt_7
abbrev wm_X4_compute : List Cond := .code yX4_compute cX4_compute 8 none :: wU
theorem q_X4_compute : yX4_compute.cls = RX4 ∧ yX4_compute.cls ≠ "java/lang/invoke/MethodHandle" ∧ yX4_compute.cls ≠ "java/lang/invoke/VarHandle" ∧ (parseMethodDescriptor yX4_compute.desc).map (fun d => d.parameters.length) = some 3 := by decide +kernel
set_option maxHeartbeats 4000000 in
set_option maxRecDepth 100000 in
theorem c_X4_compute (l : Launch) (D : va_G) (cI cR : ClassId) (v v1 : Nat) (en : Nat → Nat) (d e1 e2 e3 e4 n : Nat) (P X Y L : Nat → Nat) (V Ac : Nat) (sz : Nat) (hok : zOk n P X Y L) (hn1 : 1 ≤ n) (hV0 : V ≤ 9999) (hA0 : Ac ≤ 99) : Met l yX4_compute wm_X4_compute ({ frames := 4, cells := 0, slots := 0, locals := 87 } : Room) (va_Pc [.ref v, .ref d, .int (nI V), .int (nI Ac)] (zX D cI cR [(v, .inr (4, [.ref v1])), (v1, zA cI 8 en), (d, .inr (1, [.int (nI n), .ref e1, .ref e2, .ref e3, .ref e4])), (e1, zA cI 8 P), (e2, zA cI 16 X), (e3, zA cI 16 Y), (e4, zA cI 8 L)] sz)) (zQv D cI cR (va_A [(v, .inr (4, [.ref v1])), (v1, zA cI 8 en), (d, .inr (1, [.int (nI n), .ref e1, .ref e2, .ref e3, .ref e4])), (e1, zA cI 8 P), (e2, zA cI 16 X), (e3, zA cI 16 Y), (e4, zA cI 8 L)] sz) (fun w => ∃ (en5 : Nat → Nat), w = [(v, .inr (4, [.ref v1])), (v1, zA cI 8 en5), (d, .inr (1, [.int (nI n), .ref e1, .ref e2, .ref e3, .ref e4])), (e1, zA cI 8 P), (e2, zA cI 16 X), (e3, zA cI 16 Y), (e4, zA cI 8 L)] ∧ (∀ j, j < n → en5 j = eds n P X Y L V Ac j))) 0 0 (va_A [(v, .inr (4, [.ref v1])), (v1, zA cI 8 en), (d, .inr (1, [.int (nI n), .ref e1, .ref e2, .ref e3, .ref e4])), (e1, zA cI 8 P), (e2, zA cI 16 X), (e3, zA cI 16 Y), (e4, zA cI 8 L)] sz) := by
  refine Met.ofW (cc := cX4_compute) (maxL := 8) (ret := none) (by decide) rfl ?_
  intro p e s m args below meth c s₁ B hml hv
  obtain ⟨rfl, hsz, hG, hD0⟩ := hv
  have S : CallFix p m c cX4_compute 8 s ([.ref v, .ref d, .int (nI V), .int (nI Ac)] : List Value).toArray wU RX4 := ⟨B.exec, B.bytes, hml, findClass_of_methodNamed B.named, fun w h => atoms_spec (ws := wm_X4_compute) B.pre w (List.mem_cons_of_mem _ h)⟩
  have hr := B.returns
  have hlocks := B.notSynchronized
  subst hsz
  have hD := hD0.self (sz := s.heap.size)
  generalize hAe : va_A [(v, .inr (4, [.ref v1])), (v1, zA cI 8 en), (d, .inr (1, [.int (nI n), .ref e1, .ref e2, .ref e3, .ref e4])), (e1, zA cI 8 P), (e2, zA cI 16 X), (e3, zA cI 16 Y), (e4, zA cI 8 L)] s.heap.size = A at hD ⊢
  have hV : zV D cI cR A [(v, .inr (4, [.ref v1])), (v1, zA cI 8 en), (d, .inr (1, [.int (nI n), .ref e1, .ref e2, .ref e3, .ref e4])), (e1, zA cI 8 P), (e2, zA cI 16 X), (e3, zA cI 16 Y), (e4, zA cI 8 L)] s s.heap [] := ⟨hG, hD, va_S.rf, fun q h => by rw [← hAe]; exact Or.inr h⟩
  have hl := lv_entry ([.ref v, .ref d, .int (nI V), .int (nI Ac)]) (n := 8) (Nat.le_of_ble_eq_true rfl)
  rw [lg_entry_eq]
  generalize (lg_sl ([.ref v, .ref d, .int (nI V), .int (nI Ac)]) ++ List.replicate (8 - (lg_sl ([.ref v, .ref d, .int (nI V), .int (nI Ac)])).length) Slot.unset).toArray = ls at hl ⊢
  have hl : lv_has ls 8 [(0, .ref v), (1, .ref d), (2, .int (nI V)), (3, .int (nI Ac))] := hl
  obtain ⟨⟨hn, hPf, hXY⟩, hLf, hinj⟩ := id hok
  refine lv_aload_n (pc := 0) S.1 S.2.1 dX4_compute_0 rfl (lv_at hl 1 rfl) ?_
  refine zz_callV (pc := 1) (As := []) (rest := []) S (c_X1_size l D cI cR d e1 e2 e3 e4 n P X Y L hok.1) (zuV wd_92 wd_648 wd_90 wd_91 wd_14) 0 rfl q_X1_size ⟨⟨rfl, rfl⟩, Nat.le_of_ble_eq_true rfl, Nat.le_of_ble_eq_true rfl⟩ hV.1 [2, 3, 4, 5, 6] rfl 2 rfl rfl rfl rfl rfl (Nat.le_of_ble_eq_true rfl) hl.1 ⟨Nat.zero_le _, Nat.zero_le _⟩ dX4_compute_1 ?_
  refine zz_bipush (pc := 4) (v := nI 8) S dX4_compute_4 rfl ?_
  refine zz_min (pc := 6) (v := nI (min n 8)) S wd_647 wd_105 wd_106 wd_107 ⟨Nat.le_of_ble_eq_true rfl, Nat.le_of_ble_eq_true rfl⟩ ⟨Nat.zero_le _, Nat.zero_le _⟩ hl.1 dX4_compute_6 (n_min (by omega) (by omega)) ?_
  refine zz_cast (v := nI n) (congrArg nI (by omega)) ?_
  refine lv_istore (pc := 9) (lv' := [(4, .int (nI n)), (0, .ref v), (1, .ref d), (2, .int (nI V)), (3, .int (nI Ac))]) S.1 S.2.1 dX4_compute_9 hl (by decide) rfl (fun ls hl => ?_)
  refine zz_iconst (pc := 11) (v := nI 0) S dX4_compute_11 rfl ?_
  refine lv_istore (pc := 12) (lv' := [(5, .int (nI 0)), (4, .int (nI n)), (0, .ref v), (1, .ref d), (2, .int (nI V)), (3, .int (nI Ac))]) S.1 S.2.1 dX4_compute_12 hl (by decide) rfl (fun ls hl => ?_)
  have L1 : ∀ (f : Nat) (k : Nat) (en2 : Nat → Nat), (k ≤ n) → (∀ j, j < k → en2 j = fwd n P X Y L V Ac j) → n - k < f → ∀ (H : Heap) (locs : List Loc), zV D cI cR A [(v, .inr (4, [.ref v1])), (v1, zA cI 8 en2), (d, .inr (1, [.int (nI n), .ref e1, .ref e2, .ref e3, .ref e4])), (e1, zA cI 8 P), (e2, zA cI 16 X), (e3, zA cI 16 Y), (e4, zA cI 8 L)] s H locs → ∀ ls : Array Slot, lv_has ls 8 [(0, .ref v), (1, .ref d), (2, .int (nI V)), (3, .int (nI Ac)), (4, .int (nI n)), (5, .int (nI k))] → W p l e (headSpec wm_X4_compute ({ frames := 4, cells := 0, slots := 0, locals := 87 } : Room)).room s m ([.ref v, .ref d, .int (nI V), .int (nI Ac)] : List Value).toArray below meth c H locs 0 0 (MQ below (zQv D cI cR A (fun w => ∃ (en5 : Nat → Nat), w = [(v, .inr (4, [.ref v1])), (v1, zA cI 8 en5), (d, .inr (1, [.int (nI n), .ref e1, .ref e2, .ref e3, .ref e4])), (e1, zA cI 8 P), (e2, zA cI 16 X), (e3, zA cI 16 Y), (e4, zA cI 8 L)] ∧ (∀ j, j < n → en5 j = eds n P X Y L V Ac j))) ([.ref v, .ref d, .int (nI V), .int (nI Ac)] : List Value).toArray s 0 0 A) (F0 m 14 ls []) := by
    intro f
    induction f with
    | zero => intro k en2 hk hf2 hf; exact absurd hf (Nat.not_lt_zero _)
    | succ f ih2 =>
      intro k en2 hk hf2 hf H locs hV ls hl
      refine lv_iload (pc := 14) S.1 S.2.1 dX4_compute_14 (lv_at hl 5 rfl) ?_
      refine lv_iload (pc := 16) S.1 S.2.1 dX4_compute_16 (lv_at hl 4 rfl) ?_
      refine zz_icmp_ge (pc := 18) (tgt := 86) S dX4_compute_18 (by decide) (n_le (by omega) (by omega)) (fun c18 => ?_) (fun c18 => ?_)
      · refine lv_iload (pc := 86) S.1 S.2.1 dX4_compute_86 (lv_at hl 4 rfl) ?_
        refine zz_iconst (pc := 88) (v := nI 1) S dX4_compute_88 rfl ?_
        refine zz_isub (pc := 89) (v := nI (n - 1)) S dX4_compute_89 (n_sub (by omega)) ?_
        refine lv_istore (pc := 90) (lv' := [(5, .int (nI (n - 1))), (0, .ref v), (1, .ref d), (2, .int (nI V)), (3, .int (nI Ac)), (4, .int (nI n))]) S.1 S.2.1 dX4_compute_90 hl (by decide) rfl (fun ls hl => ?_)
        have L3 : ∀ (f : Nat) (k : Nat) (en3 : Nat → Nat), (k < n) → (bwO n P X Y L V Ac en3 k) → k < f → ∀ (H : Heap) (locs : List Loc), zV D cI cR A [(v, .inr (4, [.ref v1])), (v1, zA cI 8 en3), (d, .inr (1, [.int (nI n), .ref e1, .ref e2, .ref e3, .ref e4])), (e1, zA cI 8 P), (e2, zA cI 16 X), (e3, zA cI 16 Y), (e4, zA cI 8 L)] s H locs → ∀ ls : Array Slot, lv_has ls 8 [(0, .ref v), (1, .ref d), (2, .int (nI V)), (3, .int (nI Ac)), (4, .int (nI n)), (5, .int (nI k))] → W p l e (headSpec wm_X4_compute ({ frames := 4, cells := 0, slots := 0, locals := 87 } : Room)).room s m ([.ref v, .ref d, .int (nI V), .int (nI Ac)] : List Value).toArray below meth c H locs 0 0 (MQ below (zQv D cI cR A (fun w => ∃ (en5 : Nat → Nat), w = [(v, .inr (4, [.ref v1])), (v1, zA cI 8 en5), (d, .inr (1, [.int (nI n), .ref e1, .ref e2, .ref e3, .ref e4])), (e1, zA cI 8 P), (e2, zA cI 16 X), (e3, zA cI 16 Y), (e4, zA cI 8 L)] ∧ (∀ j, j < n → en5 j = eds n P X Y L V Ac j))) ([.ref v, .ref d, .int (nI V), .int (nI Ac)] : List Value).toArray s 0 0 A) (F0 m 92 ls []) := by
          intro f
          induction f with
          | zero => intro k en3 hk3 hb3 hf; exact absurd hf (Nat.not_lt_zero _)
          | succ f ih4 =>
            intro k en3 hk3 hb3 hf H locs hV ls hl
            refine lv_iload (pc := 92) S.1 S.2.1 dX4_compute_92 (lv_at hl 5 rfl) ?_
            refine zz_if_le (pc := 94) (tgt := 146) S dX4_compute_94 (by decide) (n_le0 (by omega)) (fun c94 => ?_) (fun c94 => ?_)
            · exact zz_vretM (pc := 146) S hr hlocks hV (⟨en3, rfl, (by intro j hj; exact hb3.2 j (by omega) hj)⟩) dX4_compute_146
            · refine lv_aload_n (pc := 97) S.1 S.2.1 dX4_compute_97 rfl (lv_at hl 0 rfl) ?_
              refine zz_get (pc := 98) S hV.1 iX4 0 rfl rfl 0 (by decide) wd_62 rfl rfl dX4_compute_98 ?_
              refine lv_iload (pc := 101) S.1 S.2.1 dX4_compute_101 (lv_at hl 5 rfl) ?_
              refine zz_iald (pc := 103) (k := k) S hV.1 1 rfl (by omega) dX4_compute_103 ?_
              have hel := eds_le n P X Y L V Ac k
              have hgn := gn_le (Ac := Ac) (X := X) (Y := Y) (n := n) (c := L k) hXY (by omega) (hLf k (by omega))
              refine zz_cast (v := nI (eds n P X Y L V Ac k)) (congrArg nI (hb3.2 k (by omega) (by omega))) ?_
              refine zz_iconst (pc := 104) (v := nI 2) S dX4_compute_104 rfl ?_
              refine lv_iload_n (pc := 105) S.1 S.2.1 dX4_compute_105 rfl (lv_at hl 3 rfl) ?_
              refine zz_imul (pc := 106) (v := nI (2 * Ac)) S dX4_compute_106 (n_mul _ _) ?_
              refine lv_aload_n (pc := 107) S.1 S.2.1 dX4_compute_107 rfl (lv_at hl 1 rfl) ?_
              refine lv_iload (pc := 108) S.1 S.2.1 dX4_compute_108 (lv_at hl 5 rfl) ?_
              refine zz_callV (pc := 110) (As := [.int (nI k)]) (rest := [.int (nI (2 * Ac)), .int (nI (eds n P X Y L V Ac k))]) S (c_X1_lengthAt l D cI cR d e1 e2 e3 e4 n P X Y L k hok (by omega)) (zuV wd_661 wd_658 wd_659 wd_660 wd_14) 1 rfl q_X1_lengthAt ⟨⟨rfl, rfl⟩, Nat.le_of_ble_eq_true rfl, Nat.le_of_ble_eq_true rfl⟩ hV.1 [2, 3, 4, 5, 6] rfl 2 rfl rfl rfl rfl rfl (Nat.le_of_ble_eq_true rfl) hl.1 ⟨Nat.zero_le _, Nat.zero_le _⟩ dX4_compute_110 ?_
              have g5 := lng_le (X := X) (Y := Y) (c := L k) (n := n) hXY (hLf k (by omega))
              refine zz_imul (pc := 113) (v := nI ((2 * Ac) * (lng X Y (L k)))) S dX4_compute_113 (n_mul _ _) ?_
              refine zz_iadd (pc := 114) (v := nI (eds n P X Y L V Ac k + ((2 * Ac) * (lng X Y (L k))))) S dX4_compute_114 (n_add _ _) ?_
              refine lv_istore (pc := 115) (lv' := [(6, .int (nI (eds n P X Y L V Ac k + ((2 * Ac) * (lng X Y (L k)))))), (0, .ref v), (1, .ref d), (2, .int (nI V)), (3, .int (nI Ac)), (4, .int (nI n)), (5, .int (nI k))]) S.1 S.2.1 dX4_compute_115 hl (by decide) rfl (fun ls hl => ?_)
              refine lv_aload_n (pc := 117) S.1 S.2.1 dX4_compute_117 rfl (lv_at hl 1 rfl) ?_
              refine zz_get (pc := 118) S hV.1 iX4 0 rfl rfl 0 (by decide) wd_62 rfl rfl dX4_compute_118 ?_
              refine lv_iload (pc := 121) S.1 S.2.1 dX4_compute_121 (lv_at hl 6 rfl) ?_
              refine zz_iconst (pc := 123) (v := nI 1) S dX4_compute_123 rfl ?_
              refine zz_isub (pc := 124) (v := nI (k - 1)) S dX4_compute_124 (n_sub (by omega)) ?_
              refine lv_aload_n (pc := 125) S.1 S.2.1 dX4_compute_125 rfl (lv_at hl 1 rfl) ?_
              refine zz_get (pc := 126) S hV.1 iX4 0 rfl rfl 0 (by decide) wd_62 rfl rfl dX4_compute_126 ?_
              refine lv_iload (pc := 129) S.1 S.2.1 dX4_compute_129 (lv_at hl 6 rfl) ?_
              refine zz_iconst (pc := 131) (v := nI 1) S dX4_compute_131 rfl ?_
              refine zz_isub (pc := 132) (v := nI (k - 1)) S dX4_compute_132 (n_sub (by omega)) ?_
              refine zz_iald (pc := 133) (k := k - 1) S hV.1 1 rfl (by omega) dX4_compute_133 ?_
              have hfl := fwd_le n P X Y L V Ac (k - 1)
              refine zz_cast (v := nI (fwd n P X Y L V Ac (k - 1))) (congrArg nI (hb3.1 (k - 1) (by omega))) ?_
              refine lv_iload (pc := 134) S.1 S.2.1 dX4_compute_134 (lv_at hl 0 rfl) ?_
              refine zz_min (pc := 136) (v := nI (min (fwd n P X Y L V Ac (k - 1)) (eds n P X Y L V Ac k + ((2 * Ac) * (lng X Y (L k)))))) S wd_647 wd_105 wd_106 wd_107 ⟨Nat.le_of_ble_eq_true rfl, Nat.le_of_ble_eq_true rfl⟩ ⟨Nat.zero_le _, Nat.zero_le _⟩ hl.1 dX4_compute_136 (n_min (by omega) (by omega)) ?_
              refine zz_iast (pc := 139) (k := k - 1) (v := min (fwd n P X Y L V Ac (k - 1)) (eds n P X Y L V Ac k + ((2 * Ac) * (lng X Y (L k))))) S hV 1 rfl (by omega) (ws' := [(v, .inr (4, [.ref v1])), (v1, zA cI 8 (va_up en3 (k - 1) (min (fwd n P X Y L V Ac (k - 1)) (eds n P X Y L V Ac k + ((2 * Ac) * (lng X Y (L k))))))), (d, .inr (1, [.int (nI n), .ref e1, .ref e2, .ref e3, .ref e4])), (e1, zA cI 8 P), (e2, zA cI 16 X), (e3, zA cI 16 Y), (e4, zA cI 8 L)]) rfl dX4_compute_139 (fun H locs hV => ?_)
              refine lv_iinc (pc := 140) (v := nI (k - 1)) (lv' := [(5, .int (nI (k - 1))), (6, .int (nI (eds n P X Y L V Ac k + ((2 * Ac) * (lng X Y (L k)))))), (0, .ref v), (1, .ref d), (2, .int (nI V)), (3, .int (nI Ac)), (4, .int (nI n))]) S.1 S.2.1 dX4_compute_140 hl (k := 6) rfl (n_dec (by omega)) (by decide) rfl (fun ls hl => ?_)
              refine lv_goto (pc := 143) (tgt := 92) S.1 S.2.1 dX4_compute_143 (by decide) ?_
              have hV : zV D cI cR A [(v, .inr (4, [.ref v1])), (v1, zA cI 8 (va_up en3 (k - 1) (min (fwd n P X Y L V Ac (k - 1)) (eds n P X Y L V Ac k + ((2 * Ac) * (lng X Y (L k))))))), (d, .inr (1, [.int (nI n), .ref e1, .ref e2, .ref e3, .ref e4])), (e1, zA cI 8 P), (e2, zA cI 16 X), (e3, zA cI 16 Y), (e4, zA cI 8 L)] s H locs := hV.arr 1 rfl (fun j hj => by rfl) rfl
              exact ih4 (k - 1) (va_up en3 (k - 1) (min (fwd n P X Y L V Ac (k - 1)) (eds n P X Y L V Ac k + ((2 * Ac) * (lng X Y (L k)))))) (by omega) (by exact bwO_s hb3 (by omega) (eds_s (by omega) (by omega)).symm) (by omega) H locs hV ls (lv_sub hl [2, 3, 4, 5, 6, 0] rfl)
        exact L3 ((n - 1) + 1) (n - 1) en2 (by omega) (by exact bwO_0 hn1 (fun j hj => hf2 j (by omega))) (Nat.lt_succ_self _) H locs hV ls (lv_sub hl [1, 2, 3, 4, 5, 0] rfl)
      · refine lv_aload_n (pc := 21) S.1 S.2.1 dX4_compute_21 rfl (lv_at hl 0 rfl) ?_
        refine zz_get (pc := 22) S hV.1 iX4 0 rfl rfl 0 (by decide) wd_62 rfl rfl dX4_compute_22 ?_
        refine lv_iload (pc := 25) S.1 S.2.1 dX4_compute_25 (lv_at hl 5 rfl) ?_
        refine zz_iconst (pc := 27) (v := nI 0) S dX4_compute_27 rfl ?_
        refine zz_iast (pc := 28) (k := k) (v := 0) S hV 1 rfl (by omega) (ws' := [(v, .inr (4, [.ref v1])), (v1, zA cI 8 (va_up en2 k 0)), (d, .inr (1, [.int (nI n), .ref e1, .ref e2, .ref e3, .ref e4])), (e1, zA cI 8 P), (e2, zA cI 16 X), (e3, zA cI 16 Y), (e4, zA cI 8 L)]) rfl dX4_compute_28 (fun H locs hV => ?_)
        refine lv_aload_n (pc := 29) S.1 S.2.1 dX4_compute_29 rfl (lv_at hl 1 rfl) ?_
        refine lv_iload (pc := 30) S.1 S.2.1 dX4_compute_30 (lv_at hl 5 rfl) ?_
        refine zz_callV (pc := 32) (As := [.int (nI k)]) (rest := []) S (c_X1_isLinkedToNext l D cI cR d e1 e2 e3 e4 n P X Y L k hok (by omega)) (zuV wd_463 wd_649 wd_461 wd_462 wd_14) 1 rfl q_X1_isLinkedToNext ⟨⟨rfl, rfl⟩, Nat.le_of_ble_eq_true rfl, Nat.le_of_ble_eq_true rfl⟩ hV.1 [2, 3, 4, 5, 6] rfl 2 rfl rfl rfl rfl rfl (Nat.le_of_ble_eq_true rfl) hl.1 ⟨Nat.zero_le _, Nat.zero_le _⟩ dX4_compute_32 ?_
        refine zz_ifb_eq (pc := 35) (tgt := 80) S dX4_compute_35 (by decide) (fun c35 => ?_) (fun c35 => ?_)
        · refine lv_iinc (pc := 80) (v := nI (k + 1)) (lv' := [(5, .int (nI (k + 1))), (0, .ref v), (1, .ref d), (2, .int (nI V)), (3, .int (nI Ac)), (4, .int (nI n))]) S.1 S.2.1 dX4_compute_80 hl (k := 5) rfl (n_add _ _) (by decide) rfl (fun ls hl => ?_)
          refine lv_goto (pc := 83) (tgt := 14) S.1 S.2.1 dX4_compute_83 (by decide) ?_
          have hV : zV D cI cR A [(v, .inr (4, [.ref v1])), (v1, zA cI 8 (va_up en2 k 0)), (d, .inr (1, [.int (nI n), .ref e1, .ref e2, .ref e3, .ref e4])), (e1, zA cI 8 P), (e2, zA cI 16 X), (e3, zA cI 16 Y), (e4, zA cI 8 L)] s H locs := hV.arr 1 rfl (fun j hj => by rfl) rfl
          exact ih2 (k + 1) (va_up en2 k 0) (by omega) (by exact fw_s hf2 (fwd_f c35).symm) (by omega) H locs hV ls (lv_sub hl [1, 2, 3, 4, 5, 0] rfl)
        · refine lv_aload_n (pc := 38) S.1 S.2.1 dX4_compute_38 rfl (lv_at hl 0 rfl) ?_
          refine lv_iload (pc := 39) S.1 S.2.1 dX4_compute_39 (lv_at hl 5 rfl) ?_
          refine zz_callV (pc := 41) (As := [.int (nI k)]) (rest := []) S (c_X4_beginAt l D cI cR v v1 (va_up en2 k 0) k (by omega)) (zuV wd_653 wd_650 wd_651 wd_652 wd_30) 1 rfl q_X4_beginAt ⟨⟨rfl, rfl⟩, Nat.le_of_ble_eq_true rfl, Nat.le_of_ble_eq_true rfl⟩ hV.1 [0, 1] rfl 0 rfl rfl rfl rfl rfl (Nat.le_of_ble_eq_true rfl) hl.1 ⟨Nat.zero_le _, Nat.zero_le _⟩ dX4_compute_41 ?_
          have hfl := fwp_le n P X Y L V Ac k
          refine zz_cast (v := nI (fwp n P X Y L V Ac k)) (congrArg nI (enAt_f hf2 0)) ?_
          refine zz_iconst (pc := 44) (v := nI 2) S dX4_compute_44 rfl ?_
          refine lv_iload_n (pc := 45) S.1 S.2.1 dX4_compute_45 rfl (lv_at hl 3 rfl) ?_
          refine zz_imul (pc := 46) (v := nI (2 * Ac)) S dX4_compute_46 (n_mul _ _) ?_
          refine lv_aload_n (pc := 47) S.1 S.2.1 dX4_compute_47 rfl (lv_at hl 1 rfl) ?_
          refine lv_iload (pc := 48) S.1 S.2.1 dX4_compute_48 (lv_at hl 5 rfl) ?_
          refine zz_callV (pc := 50) (As := [.int (nI k)]) (rest := [.int (nI (2 * Ac)), .int (nI (fwp n P X Y L V Ac k))]) S (c_X1_lengthAt l D cI cR d e1 e2 e3 e4 n P X Y L k hok (by omega)) (zuV wd_661 wd_658 wd_659 wd_660 wd_14) 1 rfl q_X1_lengthAt ⟨⟨rfl, rfl⟩, Nat.le_of_ble_eq_true rfl, Nat.le_of_ble_eq_true rfl⟩ hV.1 [2, 3, 4, 5, 6] rfl 2 rfl rfl rfl rfl rfl (Nat.le_of_ble_eq_true rfl) hl.1 ⟨Nat.zero_le _, Nat.zero_le _⟩ dX4_compute_50 ?_
          have g6 := lng_le (X := X) (Y := Y) (c := L k) (n := n) hXY (hLf k (by omega))
          refine zz_imul (pc := 53) (v := nI ((2 * Ac) * (lng X Y (L k)))) S dX4_compute_53 (n_mul _ _) ?_
          refine zz_iadd (pc := 54) (v := nI (fwp n P X Y L V Ac k + ((2 * Ac) * (lng X Y (L k))))) S dX4_compute_54 (n_add _ _) ?_
          refine lv_istore (pc := 55) (lv' := [(6, .int (nI (fwp n P X Y L V Ac k + ((2 * Ac) * (lng X Y (L k)))))), (0, .ref v), (1, .ref d), (2, .int (nI V)), (3, .int (nI Ac)), (4, .int (nI n)), (5, .int (nI k))]) S.1 S.2.1 dX4_compute_55 hl (by decide) rfl (fun ls hl => ?_)
          have hl1 := c35.1
          have hgn := gn_le (Ac := Ac) (X := X) (Y := Y) (n := n) (c := L k) hXY (by omega) (hLf k (by omega))
          refine lv_aload_n (pc := 57) S.1 S.2.1 dX4_compute_57 rfl (lv_at hl 2 rfl) ?_
          refine lv_iload (pc := 58) S.1 S.2.1 dX4_compute_58 (lv_at hl 6 rfl) ?_
          refine lv_iload_n (pc := 60) S.1 S.2.1 dX4_compute_60 rfl (lv_at hl 3 rfl) ?_
          refine zz_callV (pc := 61) (As := [.int (nI k), .int (nI V)]) (rest := []) S (c_X1_cornerSquare l D cI cR d e1 e2 e3 e4 n P X Y L k V hok (by omega) (by omega)) (zuV wd_621 wd_662 wd_619 wd_620 wd_14) 2 rfl q_X1_cornerSquare ⟨⟨rfl, rfl⟩, Nat.le_of_ble_eq_true rfl, Nat.le_of_ble_eq_true rfl⟩ hV.1 [2, 3, 4, 5, 6] rfl 2 rfl rfl rfl rfl rfl (Nat.le_of_ble_eq_true rfl) hl.1 ⟨Nat.zero_le _, Nat.zero_le _⟩ dX4_compute_61 ?_
          have g7 := crn_le X Y V (L k) (L (k + 1))
          refine lv_istore (pc := 64) (lv' := [(7, .int (nI (crn X Y V (L k) (L (k + 1))))), (6, .int (nI (fwp n P X Y L V Ac k + ((2 * Ac) * (lng X Y (L k)))))), (0, .ref v), (1, .ref d), (2, .int (nI V)), (3, .int (nI Ac)), (4, .int (nI n)), (5, .int (nI k))]) S.1 S.2.1 dX4_compute_64 hl (by decide) rfl (fun ls hl => ?_)
          refine lv_aload_n (pc := 66) S.1 S.2.1 dX4_compute_66 rfl (lv_at hl 2 rfl) ?_
          refine zz_get (pc := 67) S hV.1 iX4 0 rfl rfl 0 (by decide) wd_62 rfl rfl dX4_compute_67 ?_
          refine lv_iload (pc := 70) S.1 S.2.1 dX4_compute_70 (lv_at hl 7 rfl) ?_
          refine lv_iload (pc := 72) S.1 S.2.1 dX4_compute_72 (lv_at hl 0 rfl) ?_
          refine lv_iload (pc := 74) S.1 S.2.1 dX4_compute_74 (lv_at hl 1 rfl) ?_
          refine zz_min (pc := 76) (v := nI (min (crn X Y V (L k) (L (k + 1))) (fwp n P X Y L V Ac k + ((2 * Ac) * (lng X Y (L k)))))) S wd_647 wd_105 wd_106 wd_107 ⟨Nat.le_of_ble_eq_true rfl, Nat.le_of_ble_eq_true rfl⟩ ⟨Nat.zero_le _, Nat.zero_le _⟩ hl.1 dX4_compute_76 (n_min (by omega) (by omega)) ?_
          refine zz_iast (pc := 79) (k := k) (v := min (crn X Y V (L k) (L (k + 1))) (fwp n P X Y L V Ac k + ((2 * Ac) * (lng X Y (L k))))) S hV 1 rfl (by omega) (ws' := [(v, .inr (4, [.ref v1])), (v1, zA cI 8 (va_up (va_up en2 k 0) k (min (crn X Y V (L k) (L (k + 1))) (fwp n P X Y L V Ac k + ((2 * Ac) * (lng X Y (L k))))))), (d, .inr (1, [.int (nI n), .ref e1, .ref e2, .ref e3, .ref e4])), (e1, zA cI 8 P), (e2, zA cI 16 X), (e3, zA cI 16 Y), (e4, zA cI 8 L)]) rfl dX4_compute_79 (fun H locs hV => ?_)
          refine lv_iinc (pc := 80) (v := nI (k + 1)) (lv' := [(5, .int (nI (k + 1))), (7, .int (nI (crn X Y V (L k) (L (k + 1))))), (6, .int (nI (fwp n P X Y L V Ac k + ((2 * Ac) * (lng X Y (L k)))))), (0, .ref v), (1, .ref d), (2, .int (nI V)), (3, .int (nI Ac)), (4, .int (nI n))]) S.1 S.2.1 dX4_compute_80 hl (k := 7) rfl (n_add _ _) (by decide) rfl (fun ls hl => ?_)
          refine lv_goto (pc := 83) (tgt := 14) S.1 S.2.1 dX4_compute_83 (by decide) ?_
          have hV : zV D cI cR A [(v, .inr (4, [.ref v1])), (v1, zA cI 8 (va_up (va_up en2 k 0) k (min (crn X Y V (L k) (L (k + 1))) (fwp n P X Y L V Ac k + ((2 * Ac) * (lng X Y (L k))))))), (d, .inr (1, [.int (nI n), .ref e1, .ref e2, .ref e3, .ref e4])), (e1, zA cI 8 P), (e2, zA cI 16 X), (e3, zA cI 16 Y), (e4, zA cI 8 L)] s H locs := hV.arr 1 rfl (fun j hj => by rfl) rfl
          exact ih2 (k + 1) (va_up (va_up en2 k 0) k (min (crn X Y V (L k) (L (k + 1))) (fwp n P X Y L V Ac k + ((2 * Ac) * (lng X Y (L k)))))) (by omega) (by exact fw_w hf2 (fwd_t c35).symm) (by omega) H locs hV ls (lv_sub hl [3, 4, 5, 6, 7, 0] rfl)
  exact L1 (n - 0 + 1) 0 en (by omega) (by intro j hj; omega) (Nat.lt_succ_self _) s.heap [] hV ls (lv_sub hl [2, 3, 4, 5, 1, 0] rfl)
abbrev wm_X5_strokeCount : List Cond := .code yX5_strokeCount cX5_strokeCount 1 (some .int) :: wU
theorem q_X5_strokeCount : yX5_strokeCount.cls = RX5 ∧ yX5_strokeCount.cls ≠ "java/lang/invoke/MethodHandle" ∧ yX5_strokeCount.cls ≠ "java/lang/invoke/VarHandle" ∧ (parseMethodDescriptor yX5_strokeCount.desc).map (fun d => d.parameters.length) = some 0 := by decide +kernel
set_option maxHeartbeats 4000000 in
set_option maxRecDepth 100000 in
theorem c_X5_strokeCount (l : Launch) (D : va_G) (cI cR : ClassId) (z h b g v C V Ac : Nat) (d e1 e2 e3 e4 n : Nat) (P X Y L : Nat → Nat) (hok : zOk n P X Y L) (hset : zSt C V Ac) : Met l yX5_strokeCount wm_X5_strokeCount ({ frames := 1, cells := 0, slots := 0, locals := 20 } : Room) (va_Pc [.ref z] (zW D cI cR [(z, .inr (5, [.ref d, .ref h, .ref b, .ref g, .ref v, .int (nI C), .int (nI V), .int (nI Ac)])), (d, .inr (1, [.int (nI n), .ref e1, .ref e2, .ref e3, .ref e4])), (e1, zA cI 8 P), (e2, zA cI 16 X), (e3, zA cI 16 Y), (e4, zA cI 8 L)])) (vp_Si (fun r => r = nI n)) 0 0 (fun _ => False) := by
  refine Met.ofW (cc := cX5_strokeCount) (maxL := 1) (ret := (some .int)) (by decide) rfl ?_
  intro p e s m args below meth c s₁ B hml hv
  obtain ⟨rfl, hG⟩ := hv
  have S : CallFix p m c cX5_strokeCount 1 s ([.ref z] : List Value).toArray wU RX5 := ⟨B.exec, B.bytes, hml, findClass_of_methodNamed B.named, fun w h => atoms_spec (ws := wm_X5_strokeCount) B.pre w (List.mem_cons_of_mem _ h)⟩
  have hr := B.returns
  have hlocks := B.notSynchronized
  have hG : zG D cI cR [(z, .inr (5, [.ref d, .ref h, .ref b, .ref g, .ref v, .int (nI C), .int (nI V), .int (nI Ac)])), (d, .inr (1, [.int (nI n), .ref e1, .ref e2, .ref e3, .ref e4])), (e1, zA cI 8 P), (e2, zA cI 16 X), (e3, zA cI 16 Y), (e4, zA cI 8 L)] s s.heap := hG
  have hl := lv_entry ([.ref z]) (n := 1) (Nat.le_of_ble_eq_true rfl)
  rw [lg_entry_eq]
  generalize (lg_sl ([.ref z]) ++ List.replicate (1 - (lg_sl ([.ref z])).length) Slot.unset).toArray = ls at hl ⊢
  have hl : lv_has ls 1 [(0, .ref z)] := hl
  obtain ⟨⟨hn, hPf, hXY⟩, hLf, hinj⟩ := id hok
  obtain ⟨hC, hV9, hA9⟩ := id hset
  refine lv_aload_n (pc := 0) S.1 S.2.1 dX5_strokeCount_0 rfl (lv_at hl 0 rfl) ?_
  refine zz_get (pc := 1) S hG iX5 0 rfl rfl 0 (by decide) wd_15 rfl rfl dX5_strokeCount_1 ?_
  refine zz_callV (pc := 4) (As := []) (rest := []) S (c_X1_size l D cI cR d e1 e2 e3 e4 n P X Y L hok.1) (zuV wd_92 wd_89 wd_90 wd_91 wd_14) 0 rfl q_X1_size ⟨⟨rfl, rfl⟩, Nat.le_of_ble_eq_true rfl, Nat.le_of_ble_eq_true rfl⟩ hG [1, 2, 3, 4, 5] rfl 1 rfl rfl rfl rfl rfl (Nat.le_of_ble_eq_true rfl) hl.1 ⟨Nat.zero_le _, Nat.zero_le _⟩ dX5_strokeCount_4 ?_
  exact zz_iretS (pc := 7) S hr hlocks (rfl) dX5_strokeCount_7
abbrev wm_X5_penOf : List Cond := .code yX5_penOf cX5_penOf 2 (some .int) :: wU
theorem q_X5_penOf : yX5_penOf.cls = RX5 ∧ yX5_penOf.cls ≠ "java/lang/invoke/MethodHandle" ∧ yX5_penOf.cls ≠ "java/lang/invoke/VarHandle" ∧ (parseMethodDescriptor yX5_penOf.desc).map (fun d => d.parameters.length) = some 1 := by decide +kernel
set_option maxHeartbeats 4000000 in
set_option maxRecDepth 100000 in
theorem c_X5_penOf (l : Launch) (D : va_G) (cI cR : ClassId) (z h b g v C V Ac : Nat) (d e1 e2 e3 e4 n : Nat) (P X Y L : Nat → Nat) (a : Int) (hok : zOk n P X Y L) (hset : zSt C V Ac) (ha : zR a) : Met l yX5_penOf wm_X5_penOf ({ frames := 2, cells := 0, slots := 0, locals := 42 } : Room) (va_Pc [.ref z, .int (zI a)] (zW D cI cR [(z, .inr (5, [.ref d, .ref h, .ref b, .ref g, .ref v, .int (nI C), .int (nI V), .int (nI Ac)])), (d, .inr (1, [.int (nI n), .ref e1, .ref e2, .ref e3, .ref e4])), (e1, zA cI 8 P), (e2, zA cI 16 X), (e3, zA cI 16 Y), (e4, zA cI 8 L)])) (vp_Si (fun r => r = zI (an_penOf n P a))) 0 0 (fun _ => False) := by
  refine Met.ofW (cc := cX5_penOf) (maxL := 2) (ret := (some .int)) (by decide) rfl ?_
  intro p e s m args below meth c s₁ B hml hv
  obtain ⟨rfl, hG⟩ := hv
  have S : CallFix p m c cX5_penOf 2 s ([.ref z, .int (zI a)] : List Value).toArray wU RX5 := ⟨B.exec, B.bytes, hml, findClass_of_methodNamed B.named, fun w h => atoms_spec (ws := wm_X5_penOf) B.pre w (List.mem_cons_of_mem _ h)⟩
  have hr := B.returns
  have hlocks := B.notSynchronized
  have hG : zG D cI cR [(z, .inr (5, [.ref d, .ref h, .ref b, .ref g, .ref v, .int (nI C), .int (nI V), .int (nI Ac)])), (d, .inr (1, [.int (nI n), .ref e1, .ref e2, .ref e3, .ref e4])), (e1, zA cI 8 P), (e2, zA cI 16 X), (e3, zA cI 16 Y), (e4, zA cI 8 L)] s s.heap := hG
  have hl := lv_entry ([.ref z, .int (zI a)]) (n := 2) (Nat.le_of_ble_eq_true rfl)
  rw [lg_entry_eq]
  generalize (lg_sl ([.ref z, .int (zI a)]) ++ List.replicate (2 - (lg_sl ([.ref z, .int (zI a)])).length) Slot.unset).toArray = ls at hl ⊢
  have hl : lv_has ls 2 [(0, .ref z), (1, .int (zI a))] := hl
  have r_ha := id ha
  unfold zR at r_ha
  obtain ⟨⟨hn, hPf, hXY⟩, hLf, hinj⟩ := id hok
  obtain ⟨hC, hV9, hA9⟩ := id hset
  refine lv_aload_n (pc := 0) S.1 S.2.1 dX5_penOf_0 rfl (lv_at hl 0 rfl) ?_
  refine zz_get (pc := 1) S hG iX5 0 rfl rfl 0 (by decide) wd_15 rfl rfl dX5_penOf_1 ?_
  refine lv_iload_n (pc := 4) S.1 S.2.1 dX5_penOf_4 rfl (lv_at hl 1 rfl) ?_
  refine zz_callV (pc := 5) (As := [.int (zI a)]) (rest := []) S (c_X1_hasStroke l D cI cR d e1 e2 e3 e4 n P X Y L a hok.1 (by unfold zR; omega)) (zuV wd_148 wd_145 wd_146 wd_147 wd_14) 1 rfl q_X1_hasStroke ⟨⟨rfl, rfl⟩, Nat.le_of_ble_eq_true rfl, Nat.le_of_ble_eq_true rfl⟩ hG [1, 2, 3, 4, 5] rfl 1 rfl rfl rfl rfl rfl (Nat.le_of_ble_eq_true rfl) hl.1 ⟨Nat.zero_le _, Nat.zero_le _⟩ dX5_penOf_5 ?_
  refine zz_ifb_eq (pc := 8) (tgt := 22) S dX5_penOf_8 (by decide) (fun c8 => ?_) (fun c8 => ?_)
  · refine zz_iconst (pc := 22) (v := zI (-1)) S dX5_penOf_22 rfl ?_
    exact zz_iretS (pc := 23) S hr hlocks (congrArg zI (a₁ := (-1)) (by first | exact (if_pos (by omega)).symm | exact (if_neg (by omega)).symm)) dX5_penOf_23
  · have hl : lv_has ls 2 [(0, .ref z), (1, .int (nI a.toNat))] := by rw [← (zn_of (z := a) (n := a.toNat) (by omega))]; exact hl
    refine lv_aload_n (pc := 11) S.1 S.2.1 dX5_penOf_11 rfl (lv_at hl 0 rfl) ?_
    refine zz_get (pc := 12) S hG iX5 0 rfl rfl 0 (by decide) wd_15 rfl rfl dX5_penOf_12 ?_
    refine lv_iload_n (pc := 15) S.1 S.2.1 dX5_penOf_15 rfl (lv_at hl 1 rfl) ?_
    refine zz_callV (pc := 16) (As := [.int (nI a.toNat)]) (rest := []) S (c_X1_penOfStroke l D cI cR d e1 e2 e3 e4 n P X Y L a.toNat hok.1 (by omega)) (zuV wd_185 wd_182 wd_183 wd_184 wd_14) 1 rfl q_X1_penOfStroke ⟨⟨rfl, rfl⟩, Nat.le_of_ble_eq_true rfl, Nat.le_of_ble_eq_true rfl⟩ hG [1, 2, 3, 4, 5] rfl 1 rfl rfl rfl rfl rfl (Nat.le_of_ble_eq_true rfl) hl.1 ⟨Nat.zero_le _, Nat.zero_le _⟩ dX5_penOf_16 ?_
    have g1 := hPf a.toNat (by omega)
    refine lv_goto (pc := 19) (tgt := 23) S.1 S.2.1 dX5_penOf_19 (by decide) ?_
    exact zz_iretS (pc := 23) S hr hlocks (congrArg zI (a₁ := ((P a.toNat : Nat) : Int)) (by first | exact (if_pos (by omega)).symm | exact (if_neg (by omega)).symm)) dX5_penOf_23
abbrev wm_X5_alikeTo : List Cond := .code yX5_alikeTo cX5_alikeTo 2 (some .int) :: wU
theorem q_X5_alikeTo : yX5_alikeTo.cls = RX5 ∧ yX5_alikeTo.cls ≠ "java/lang/invoke/MethodHandle" ∧ yX5_alikeTo.cls ≠ "java/lang/invoke/VarHandle" ∧ (parseMethodDescriptor yX5_alikeTo.desc).map (fun d => d.parameters.length) = some 1 := by decide +kernel
set_option maxHeartbeats 4000000 in
set_option maxRecDepth 100000 in
theorem c_X5_alikeTo (l : Launch) (D : va_G) (cI cR : ClassId) (z h b g v C V Ac : Nat) (d e1 e2 e3 e4 n : Nat) (P X Y L : Nat → Nat) (a : Int) (hok : zOk n P X Y L) (hset : zSt C V Ac) (ha : zR a) : Met l yX5_alikeTo wm_X5_alikeTo ({ frames := 5, cells := 0, slots := 0, locals := 110 } : Room) (va_Pc [.ref z, .int (zI a)] (zW D cI cR [(z, .inr (5, [.ref d, .ref h, .ref b, .ref g, .ref v, .int (nI C), .int (nI V), .int (nI Ac)])), (d, .inr (1, [.int (nI n), .ref e1, .ref e2, .ref e3, .ref e4])), (e1, zA cI 8 P), (e2, zA cI 16 X), (e3, zA cI 16 Y), (e4, zA cI 8 L)])) (vp_Si (fun r => r = zI (an_alike n P X Y a))) 0 0 (fun _ => False) := by
  refine Met.ofW (cc := cX5_alikeTo) (maxL := 2) (ret := (some .int)) (by decide) rfl ?_
  intro p e s m args below meth c s₁ B hml hv
  obtain ⟨rfl, hG⟩ := hv
  have S : CallFix p m c cX5_alikeTo 2 s ([.ref z, .int (zI a)] : List Value).toArray wU RX5 := ⟨B.exec, B.bytes, hml, findClass_of_methodNamed B.named, fun w h => atoms_spec (ws := wm_X5_alikeTo) B.pre w (List.mem_cons_of_mem _ h)⟩
  have hr := B.returns
  have hlocks := B.notSynchronized
  have hG : zG D cI cR [(z, .inr (5, [.ref d, .ref h, .ref b, .ref g, .ref v, .int (nI C), .int (nI V), .int (nI Ac)])), (d, .inr (1, [.int (nI n), .ref e1, .ref e2, .ref e3, .ref e4])), (e1, zA cI 8 P), (e2, zA cI 16 X), (e3, zA cI 16 Y), (e4, zA cI 8 L)] s s.heap := hG
  have hl := lv_entry ([.ref z, .int (zI a)]) (n := 2) (Nat.le_of_ble_eq_true rfl)
  rw [lg_entry_eq]
  generalize (lg_sl ([.ref z, .int (zI a)]) ++ List.replicate (2 - (lg_sl ([.ref z, .int (zI a)])).length) Slot.unset).toArray = ls at hl ⊢
  have hl : lv_has ls 2 [(0, .ref z), (1, .int (zI a))] := hl
  have r_ha := id ha
  unfold zR at r_ha
  obtain ⟨⟨hn, hPf, hXY⟩, hLf, hinj⟩ := id hok
  obtain ⟨hC, hV9, hA9⟩ := id hset
  refine lv_aload_n (pc := 0) S.1 S.2.1 dX5_alikeTo_0 rfl (lv_at hl 0 rfl) ?_
  refine zz_get (pc := 1) S hG iX5 0 rfl rfl 0 (by decide) wd_15 rfl rfl dX5_alikeTo_1 ?_
  refine lv_iload_n (pc := 4) S.1 S.2.1 dX5_alikeTo_4 rfl (lv_at hl 1 rfl) ?_
  refine zz_callV (pc := 5) (As := [.int (zI a)]) (rest := []) S (c_X1_hasStroke l D cI cR d e1 e2 e3 e4 n P X Y L a hok.1 (by unfold zR; omega)) (zuV wd_148 wd_145 wd_146 wd_147 wd_14) 1 rfl q_X1_hasStroke ⟨⟨rfl, rfl⟩, Nat.le_of_ble_eq_true rfl, Nat.le_of_ble_eq_true rfl⟩ hG [1, 2, 3, 4, 5] rfl 1 rfl rfl rfl rfl rfl (Nat.le_of_ble_eq_true rfl) hl.1 ⟨Nat.zero_le _, Nat.zero_le _⟩ dX5_alikeTo_5 ?_
  refine zz_ifb_eq (pc := 8) (tgt := 22) S dX5_alikeTo_8 (by decide) (fun c8 => ?_) (fun c8 => ?_)
  · refine zz_iconst (pc := 22) (v := zI (-1)) S dX5_alikeTo_22 rfl ?_
    exact zz_iretS (pc := 23) S hr hlocks (congrArg zI (a₁ := (-1)) (by first | exact (if_pos (by omega)).symm | exact (if_neg (by omega)).symm)) dX5_alikeTo_23
  · have hl : lv_has ls 2 [(0, .ref z), (1, .int (nI a.toNat))] := by rw [← (zn_of (z := a) (n := a.toNat) (by omega))]; exact hl
    refine lv_aload_n (pc := 11) S.1 S.2.1 dX5_alikeTo_11 rfl (lv_at hl 0 rfl) ?_
    refine zz_get (pc := 12) S hG iX5 0 rfl rfl 0 (by decide) wd_15 rfl rfl dX5_alikeTo_12 ?_
    refine lv_iload_n (pc := 15) S.1 S.2.1 dX5_alikeTo_15 rfl (lv_at hl 1 rfl) ?_
    refine zz_callV (pc := 16) (As := [.int (nI a.toNat)]) (rest := []) S (c_X1_lowestAlike l D cI cR d e1 e2 e3 e4 n P X Y L a.toNat hok.1 (by omega)) (zuV wd_201 wd_198 wd_199 wd_200 wd_14) 1 rfl q_X1_lowestAlike ⟨⟨rfl, rfl⟩, Nat.le_of_ble_eq_true rfl, Nat.le_of_ble_eq_true rfl⟩ hG [1, 2, 3, 4, 5] rfl 1 rfl rfl rfl rfl rfl (Nat.le_of_ble_eq_true rfl) hl.1 ⟨Nat.zero_le _, Nat.zero_le _⟩ dX5_alikeTo_16 ?_
    have g1 := ffn_rng (fun j => ¬ j = a.toNat ∧ alk P X Y a.toNat j) n
    refine lv_goto (pc := 19) (tgt := 23) S.1 S.2.1 dX5_alikeTo_19 (by decide) ?_
    exact zz_iretS (pc := 23) S hr hlocks (congrArg zI (a₁ := ffn (fun j => ¬ j = a.toNat ∧ alk P X Y a.toNat j) n 0) (by first | exact (if_pos (by omega)).symm | exact (if_neg (by omega)).symm)) dX5_alikeTo_23
abbrev wm_X5_coveredBy : List Cond := .code yX5_coveredBy cX5_coveredBy 2 (some .int) :: wU
theorem q_X5_coveredBy : yX5_coveredBy.cls = RX5 ∧ yX5_coveredBy.cls ≠ "java/lang/invoke/MethodHandle" ∧ yX5_coveredBy.cls ≠ "java/lang/invoke/VarHandle" ∧ (parseMethodDescriptor yX5_coveredBy.desc).map (fun d => d.parameters.length) = some 1 := by decide +kernel
set_option maxHeartbeats 4000000 in
set_option maxRecDepth 100000 in
theorem c_X5_coveredBy (l : Launch) (D : va_G) (cI cR : ClassId) (z h b g v C V Ac : Nat) (d e1 e2 e3 e4 n : Nat) (P X Y L : Nat → Nat) (a : Int) (hok : zOk n P X Y L) (hset : zSt C V Ac) (ha : zR a) : Met l yX5_coveredBy wm_X5_coveredBy ({ frames := 6, cells := 0, slots := 0, locals := 132 } : Room) (va_Pc [.ref z, .int (zI a)] (zW D cI cR [(z, .inr (5, [.ref d, .ref h, .ref b, .ref g, .ref v, .int (nI C), .int (nI V), .int (nI Ac)])), (d, .inr (1, [.int (nI n), .ref e1, .ref e2, .ref e3, .ref e4])), (e1, zA cI 8 P), (e2, zA cI 16 X), (e3, zA cI 16 Y), (e4, zA cI 8 L)])) (vp_Si (fun r => r = zI (an_cover n P X Y a))) 0 0 (fun _ => False) := by
  refine Met.ofW (cc := cX5_coveredBy) (maxL := 2) (ret := (some .int)) (by decide) rfl ?_
  intro p e s m args below meth c s₁ B hml hv
  obtain ⟨rfl, hG⟩ := hv
  have S : CallFix p m c cX5_coveredBy 2 s ([.ref z, .int (zI a)] : List Value).toArray wU RX5 := ⟨B.exec, B.bytes, hml, findClass_of_methodNamed B.named, fun w h => atoms_spec (ws := wm_X5_coveredBy) B.pre w (List.mem_cons_of_mem _ h)⟩
  have hr := B.returns
  have hlocks := B.notSynchronized
  have hG : zG D cI cR [(z, .inr (5, [.ref d, .ref h, .ref b, .ref g, .ref v, .int (nI C), .int (nI V), .int (nI Ac)])), (d, .inr (1, [.int (nI n), .ref e1, .ref e2, .ref e3, .ref e4])), (e1, zA cI 8 P), (e2, zA cI 16 X), (e3, zA cI 16 Y), (e4, zA cI 8 L)] s s.heap := hG
  have hl := lv_entry ([.ref z, .int (zI a)]) (n := 2) (Nat.le_of_ble_eq_true rfl)
  rw [lg_entry_eq]
  generalize (lg_sl ([.ref z, .int (zI a)]) ++ List.replicate (2 - (lg_sl ([.ref z, .int (zI a)])).length) Slot.unset).toArray = ls at hl ⊢
  have hl : lv_has ls 2 [(0, .ref z), (1, .int (zI a))] := hl
  have r_ha := id ha
  unfold zR at r_ha
  obtain ⟨⟨hn, hPf, hXY⟩, hLf, hinj⟩ := id hok
  obtain ⟨hC, hV9, hA9⟩ := id hset
  refine lv_aload_n (pc := 0) S.1 S.2.1 dX5_coveredBy_0 rfl (lv_at hl 0 rfl) ?_
  refine zz_get (pc := 1) S hG iX5 0 rfl rfl 0 (by decide) wd_15 rfl rfl dX5_coveredBy_1 ?_
  refine lv_iload_n (pc := 4) S.1 S.2.1 dX5_coveredBy_4 rfl (lv_at hl 1 rfl) ?_
  refine zz_callV (pc := 5) (As := [.int (zI a)]) (rest := []) S (c_X1_hasStroke l D cI cR d e1 e2 e3 e4 n P X Y L a hok.1 (by unfold zR; omega)) (zuV wd_148 wd_145 wd_146 wd_147 wd_14) 1 rfl q_X1_hasStroke ⟨⟨rfl, rfl⟩, Nat.le_of_ble_eq_true rfl, Nat.le_of_ble_eq_true rfl⟩ hG [1, 2, 3, 4, 5] rfl 1 rfl rfl rfl rfl rfl (Nat.le_of_ble_eq_true rfl) hl.1 ⟨Nat.zero_le _, Nat.zero_le _⟩ dX5_coveredBy_5 ?_
  refine zz_ifb_eq (pc := 8) (tgt := 22) S dX5_coveredBy_8 (by decide) (fun c8 => ?_) (fun c8 => ?_)
  · refine zz_iconst (pc := 22) (v := zI (-1)) S dX5_coveredBy_22 rfl ?_
    exact zz_iretS (pc := 23) S hr hlocks (congrArg zI (a₁ := (-1)) (by first | exact (if_pos (by omega)).symm | exact (if_neg (by omega)).symm)) dX5_coveredBy_23
  · have hl : lv_has ls 2 [(0, .ref z), (1, .int (nI a.toNat))] := by rw [← (zn_of (z := a) (n := a.toNat) (by omega))]; exact hl
    refine lv_aload_n (pc := 11) S.1 S.2.1 dX5_coveredBy_11 rfl (lv_at hl 0 rfl) ?_
    refine zz_get (pc := 12) S hG iX5 0 rfl rfl 0 (by decide) wd_15 rfl rfl dX5_coveredBy_12 ?_
    refine lv_iload_n (pc := 15) S.1 S.2.1 dX5_coveredBy_15 rfl (lv_at hl 1 rfl) ?_
    refine zz_callV (pc := 16) (As := [.int (nI a.toNat)]) (rest := []) S (c_X1_lowestCover l D cI cR d e1 e2 e3 e4 n P X Y L a.toNat hok.1 (by omega)) (zuV wd_238 wd_235 wd_236 wd_237 wd_14) 1 rfl q_X1_lowestCover ⟨⟨rfl, rfl⟩, Nat.le_of_ble_eq_true rfl, Nat.le_of_ble_eq_true rfl⟩ hG [1, 2, 3, 4, 5] rfl 1 rfl rfl rfl rfl rfl (Nat.le_of_ble_eq_true rfl) hl.1 ⟨Nat.zero_le _, Nat.zero_le _⟩ dX5_coveredBy_16 ?_
    have g1 := ffn_rng (fun j => cov P X Y j a.toNat) n
    refine lv_goto (pc := 19) (tgt := 23) S.1 S.2.1 dX5_coveredBy_19 (by decide) ?_
    exact zz_iretS (pc := 23) S hr hlocks (congrArg zI (a₁ := ffn (fun j => cov P X Y j a.toNat) n 0) (by first | exact (if_pos (by omega)).symm | exact (if_neg (by omega)).symm)) dX5_coveredBy_23
abbrev wm_X5_codeOrError : List Cond := .code yX5_codeOrError cX5_codeOrError 2 (some .int) :: wU
theorem q_X5_codeOrError : yX5_codeOrError.cls = RX5 ∧ yX5_codeOrError.cls ≠ "java/lang/invoke/MethodHandle" ∧ yX5_codeOrError.cls ≠ "java/lang/invoke/VarHandle" ∧ (parseMethodDescriptor yX5_codeOrError.desc).map (fun d => d.parameters.length) = some 1 := by decide +kernel
set_option maxHeartbeats 4000000 in
set_option maxRecDepth 100000 in
theorem c_X5_codeOrError (l : Launch) (D : va_G) (cI cR : ClassId) (z h b g v C V Ac : Nat) (d e1 e2 e3 e4 n : Nat) (P X Y L : Nat → Nat) (a : Int) (hok : zOk n P X Y L) (hset : zSt C V Ac) (ha : zR a) : Met l yX5_codeOrError wm_X5_codeOrError ({ frames := 2, cells := 0, slots := 0, locals := 42 } : Room) (va_Pc [.ref z, .int (zI a)] (zW D cI cR [(z, .inr (5, [.ref d, .ref h, .ref b, .ref g, .ref v, .int (nI C), .int (nI V), .int (nI Ac)])), (d, .inr (1, [.int (nI n), .ref e1, .ref e2, .ref e3, .ref e4])), (e1, zA cI 8 P), (e2, zA cI 16 X), (e3, zA cI 16 Y), (e4, zA cI 8 L)])) (vp_Si (fun r => r = zI (an_code n L a))) 0 0 (fun _ => False) := by
  refine Met.ofW (cc := cX5_codeOrError) (maxL := 2) (ret := (some .int)) (by decide) rfl ?_
  intro p e s m args below meth c s₁ B hml hv
  obtain ⟨rfl, hG⟩ := hv
  have S : CallFix p m c cX5_codeOrError 2 s ([.ref z, .int (zI a)] : List Value).toArray wU RX5 := ⟨B.exec, B.bytes, hml, findClass_of_methodNamed B.named, fun w h => atoms_spec (ws := wm_X5_codeOrError) B.pre w (List.mem_cons_of_mem _ h)⟩
  have hr := B.returns
  have hlocks := B.notSynchronized
  have hG : zG D cI cR [(z, .inr (5, [.ref d, .ref h, .ref b, .ref g, .ref v, .int (nI C), .int (nI V), .int (nI Ac)])), (d, .inr (1, [.int (nI n), .ref e1, .ref e2, .ref e3, .ref e4])), (e1, zA cI 8 P), (e2, zA cI 16 X), (e3, zA cI 16 Y), (e4, zA cI 8 L)] s s.heap := hG
  have hl := lv_entry ([.ref z, .int (zI a)]) (n := 2) (Nat.le_of_ble_eq_true rfl)
  rw [lg_entry_eq]
  generalize (lg_sl ([.ref z, .int (zI a)]) ++ List.replicate (2 - (lg_sl ([.ref z, .int (zI a)])).length) Slot.unset).toArray = ls at hl ⊢
  have hl : lv_has ls 2 [(0, .ref z), (1, .int (zI a))] := hl
  have r_ha := id ha
  unfold zR at r_ha
  obtain ⟨⟨hn, hPf, hXY⟩, hLf, hinj⟩ := id hok
  obtain ⟨hC, hV9, hA9⟩ := id hset
  refine lv_iload_n (pc := 0) S.1 S.2.1 dX5_codeOrError_0 rfl (lv_at hl 1 rfl) ?_
  refine zz_if_ge (pc := 1) (tgt := 6) S dX5_codeOrError_1 (by decide) (z_ge0 (by unfold zR; omega)) (fun c1 => ?_) (fun c1 => ?_)
  · refine lv_aload_n (pc := 6) S.1 S.2.1 dX5_codeOrError_6 rfl (lv_at hl 0 rfl) ?_
    refine zz_get (pc := 7) S hG iX5 0 rfl rfl 0 (by decide) wd_15 rfl rfl dX5_codeOrError_7 ?_
    refine lv_iload_n (pc := 10) S.1 S.2.1 dX5_codeOrError_10 rfl (lv_at hl 1 rfl) ?_
    refine zz_callV (pc := 11) (As := [.int (zI a)]) (rest := []) S (c_X1_hasPosition l D cI cR d e1 e2 e3 e4 n P X Y L a hok.1 (by unfold zR; omega)) (zuV wd_347 wd_344 wd_345 wd_346 wd_14) 1 rfl q_X1_hasPosition ⟨⟨rfl, rfl⟩, Nat.le_of_ble_eq_true rfl, Nat.le_of_ble_eq_true rfl⟩ hG [1, 2, 3, 4, 5] rfl 1 rfl rfl rfl rfl rfl (Nat.le_of_ble_eq_true rfl) hl.1 ⟨Nat.zero_le _, Nat.zero_le _⟩ dX5_codeOrError_11 ?_
    refine zz_ifb_eq (pc := 14) (tgt := 28) S dX5_codeOrError_14 (by decide) (fun c14 => ?_) (fun c14 => ?_)
    · refine zz_bipush (pc := 28) (v := zI (-3)) S dX5_codeOrError_28 rfl ?_
      exact zz_iretS (pc := 30) S hr hlocks (congrArg zI (a₁ := (-3)) (by first | exact (if_pos (by omega)).symm | exact ((if_neg (by omega)).trans (if_pos (by omega))).symm | exact ((if_neg (by omega)).trans (if_neg (by omega))).symm)) dX5_codeOrError_30
    · have hl : lv_has ls 2 [(0, .ref z), (1, .int (nI a.toNat))] := by rw [← (zn_of (z := a) (n := a.toNat) (by omega))]; exact hl
      refine lv_aload_n (pc := 17) S.1 S.2.1 dX5_codeOrError_17 rfl (lv_at hl 0 rfl) ?_
      refine zz_get (pc := 18) S hG iX5 0 rfl rfl 0 (by decide) wd_15 rfl rfl dX5_codeOrError_18 ?_
      refine lv_iload_n (pc := 21) S.1 S.2.1 dX5_codeOrError_21 rfl (lv_at hl 1 rfl) ?_
      refine zz_callV (pc := 22) (As := [.int (nI a.toNat)]) (rest := []) S (c_X1_codeAt l D cI cR d e1 e2 e3 e4 n P X Y L a.toNat hok (by omega)) (zuV wd_351 wd_348 wd_349 wd_350 wd_14) 1 rfl q_X1_codeAt ⟨⟨rfl, rfl⟩, Nat.le_of_ble_eq_true rfl, Nat.le_of_ble_eq_true rfl⟩ hG [1, 2, 3, 4, 5] rfl 1 rfl rfl rfl rfl rfl (Nat.le_of_ble_eq_true rfl) hl.1 ⟨Nat.zero_le _, Nat.zero_le _⟩ dX5_codeOrError_22 ?_
      have g1 := hLf a.toNat (by omega)
      refine lv_goto (pc := 25) (tgt := 30) S.1 S.2.1 dX5_codeOrError_25 (by decide) ?_
      exact zz_iretS (pc := 30) S hr hlocks (congrArg zI (a₁ := ((L a.toNat : Nat) : Int)) (by first | exact (if_pos (by omega)).symm | exact ((if_neg (by omega)).trans (if_pos (by omega))).symm | exact ((if_neg (by omega)).trans (if_neg (by omega))).symm)) dX5_codeOrError_30
  · refine zz_iconst (pc := 4) (v := zI (-1)) S dX5_codeOrError_4 rfl ?_
    exact zz_iretS (pc := 5) S hr hlocks (congrArg zI (a₁ := (-1)) (by first | exact (if_pos (by omega)).symm | exact ((if_neg (by omega)).trans (if_pos (by omega))).symm | exact ((if_neg (by omega)).trans (if_neg (by omega))).symm)) dX5_codeOrError_5
abbrev wm_X5_strokeAt : List Cond := .code yX5_strokeAt cX5_strokeAt 3 (some .int) :: wU
theorem q_X5_strokeAt : yX5_strokeAt.cls = RX5 ∧ yX5_strokeAt.cls ≠ "java/lang/invoke/MethodHandle" ∧ yX5_strokeAt.cls ≠ "java/lang/invoke/VarHandle" ∧ (parseMethodDescriptor yX5_strokeAt.desc).map (fun d => d.parameters.length) = some 1 := by decide +kernel
set_option maxHeartbeats 4000000 in
set_option maxRecDepth 100000 in
theorem c_X5_strokeAt (l : Launch) (D : va_G) (cI cR : ClassId) (z h b g v C V Ac : Nat) (d e1 e2 e3 e4 n : Nat) (P X Y L : Nat → Nat) (a : Int) (hok : zOk n P X Y L) (hset : zSt C V Ac) (ha : zR a) : Met l yX5_strokeAt wm_X5_strokeAt ({ frames := 3, cells := 0, slots := 0, locals := 63 } : Room) (va_Pc [.ref z, .int (zI a)] (zW D cI cR [(z, .inr (5, [.ref d, .ref h, .ref b, .ref g, .ref v, .int (nI C), .int (nI V), .int (nI Ac)])), (d, .inr (1, [.int (nI n), .ref e1, .ref e2, .ref e3, .ref e4])), (e1, zA cI 8 P), (e2, zA cI 16 X), (e3, zA cI 16 Y), (e4, zA cI 8 L)])) (vp_Si (fun r => r = zI (an_stroke n L a))) 0 0 (fun _ => False) := by
  refine Met.ofW (cc := cX5_strokeAt) (maxL := 3) (ret := (some .int)) (by decide) rfl ?_
  intro p e s m args below meth c s₁ B hml hv
  obtain ⟨rfl, hG⟩ := hv
  have S : CallFix p m c cX5_strokeAt 3 s ([.ref z, .int (zI a)] : List Value).toArray wU RX5 := ⟨B.exec, B.bytes, hml, findClass_of_methodNamed B.named, fun w h => atoms_spec (ws := wm_X5_strokeAt) B.pre w (List.mem_cons_of_mem _ h)⟩
  have hr := B.returns
  have hlocks := B.notSynchronized
  have hG : zG D cI cR [(z, .inr (5, [.ref d, .ref h, .ref b, .ref g, .ref v, .int (nI C), .int (nI V), .int (nI Ac)])), (d, .inr (1, [.int (nI n), .ref e1, .ref e2, .ref e3, .ref e4])), (e1, zA cI 8 P), (e2, zA cI 16 X), (e3, zA cI 16 Y), (e4, zA cI 8 L)] s s.heap := hG
  have hl := lv_entry ([.ref z, .int (zI a)]) (n := 3) (Nat.le_of_ble_eq_true rfl)
  rw [lg_entry_eq]
  generalize (lg_sl ([.ref z, .int (zI a)]) ++ List.replicate (3 - (lg_sl ([.ref z, .int (zI a)])).length) Slot.unset).toArray = ls at hl ⊢
  have hl : lv_has ls 3 [(0, .ref z), (1, .int (zI a))] := hl
  have r_ha := id ha
  unfold zR at r_ha
  obtain ⟨⟨hn, hPf, hXY⟩, hLf, hinj⟩ := id hok
  obtain ⟨hC, hV9, hA9⟩ := id hset
  refine lv_aload_n (pc := 0) S.1 S.2.1 dX5_strokeAt_0 rfl (lv_at hl 0 rfl) ?_
  refine lv_iload_n (pc := 1) S.1 S.2.1 dX5_strokeAt_1 rfl (lv_at hl 1 rfl) ?_
  refine zz_callV (pc := 2) (As := [.int (zI a)]) (rest := []) S (c_X5_codeOrError l D cI cR z h b g v C V Ac d e1 e2 e3 e4 n P X Y L a hok hset (by unfold zR; omega)) (zuV wd_343 wd_340 wd_341 wd_342 wd_2) 1 rfl q_X5_codeOrError ⟨⟨rfl, rfl⟩, Nat.le_of_ble_eq_true rfl, Nat.le_of_ble_eq_true rfl⟩ hG [0, 1, 2, 3, 4, 5] rfl 0 rfl rfl rfl rfl rfl (Nat.le_of_ble_eq_true rfl) hl.1 ⟨Nat.zero_le _, Nat.zero_le _⟩ dX5_strokeAt_2 ?_
  have g1 := an_code_rng (L := L) hn hLf a
  refine lv_istore_n (pc := 5) (lv' := [(2, .int (zI (an_code n L a))), (0, .ref z), (1, .int (zI a))]) S.1 S.2.1 dX5_strokeAt_5 rfl hl (by decide) rfl (fun ls hl => ?_)
  refine lv_iload_n (pc := 6) S.1 S.2.1 dX5_strokeAt_6 rfl (lv_at hl 0 rfl) ?_
  refine zz_if_ge (pc := 7) (tgt := 14) S dX5_strokeAt_7 (by decide) (z_ge0 (by unfold zR; omega)) (fun c7 => ?_) (fun c7 => ?_)
  · have hl : lv_has ls 3 [(2, .int (nI ((an_code n L a).toNat))), (0, .ref z), (1, .int (zI a))] := by rw [← (zn_of (z := an_code n L a) (n := (an_code n L a).toNat) (by omega))]; exact hl
    refine lv_iload_n (pc := 14) S.1 S.2.1 dX5_strokeAt_14 rfl (lv_at hl 0 rfl) ?_
    refine zz_iconst (pc := 15) (v := nI 2) S dX5_strokeAt_15 rfl ?_
    refine zz_idiv (pc := 16) (v := nI (((an_code n L a).toNat) / 2)) S dX5_strokeAt_16 (by decide) (n_div (by omega) (by decide) (by decide)) ?_
    exact zz_iretS (pc := 17) S hr hlocks (congrArg zI (a₁ := ((((an_code n L a).toNat) / 2 : Nat) : Int)) (by first | exact an_st (by omega) | exact an_st' (by omega))) dX5_strokeAt_17
  · refine lv_iload_n (pc := 10) S.1 S.2.1 dX5_strokeAt_10 rfl (lv_at hl 0 rfl) ?_
    refine lv_goto (pc := 11) (tgt := 17) S.1 S.2.1 dX5_strokeAt_11 (by decide) ?_
    exact zz_iretS (pc := 17) S hr hlocks (congrArg zI (a₁ := an_code n L a) (by first | exact an_st (by omega) | exact an_st' (by omega))) dX5_strokeAt_17
abbrev wm_X5_directionAt : List Cond := .code yX5_directionAt cX5_directionAt 3 (some .int) :: wU
theorem q_X5_directionAt : yX5_directionAt.cls = RX5 ∧ yX5_directionAt.cls ≠ "java/lang/invoke/MethodHandle" ∧ yX5_directionAt.cls ≠ "java/lang/invoke/VarHandle" ∧ (parseMethodDescriptor yX5_directionAt.desc).map (fun d => d.parameters.length) = some 1 := by decide +kernel
set_option maxHeartbeats 4000000 in
set_option maxRecDepth 100000 in
theorem c_X5_directionAt (l : Launch) (D : va_G) (cI cR : ClassId) (z h b g v C V Ac : Nat) (d e1 e2 e3 e4 n : Nat) (P X Y L : Nat → Nat) (a : Int) (hok : zOk n P X Y L) (hset : zSt C V Ac) (ha : zR a) : Met l yX5_directionAt wm_X5_directionAt ({ frames := 3, cells := 0, slots := 0, locals := 63 } : Room) (va_Pc [.ref z, .int (zI a)] (zW D cI cR [(z, .inr (5, [.ref d, .ref h, .ref b, .ref g, .ref v, .int (nI C), .int (nI V), .int (nI Ac)])), (d, .inr (1, [.int (nI n), .ref e1, .ref e2, .ref e3, .ref e4])), (e1, zA cI 8 P), (e2, zA cI 16 X), (e3, zA cI 16 Y), (e4, zA cI 8 L)])) (vp_Si (fun r => r = zI (an_dir n L a))) 0 0 (fun _ => False) := by
  refine Met.ofW (cc := cX5_directionAt) (maxL := 3) (ret := (some .int)) (by decide) rfl ?_
  intro p e s m args below meth c s₁ B hml hv
  obtain ⟨rfl, hG⟩ := hv
  have S : CallFix p m c cX5_directionAt 3 s ([.ref z, .int (zI a)] : List Value).toArray wU RX5 := ⟨B.exec, B.bytes, hml, findClass_of_methodNamed B.named, fun w h => atoms_spec (ws := wm_X5_directionAt) B.pre w (List.mem_cons_of_mem _ h)⟩
  have hr := B.returns
  have hlocks := B.notSynchronized
  have hG : zG D cI cR [(z, .inr (5, [.ref d, .ref h, .ref b, .ref g, .ref v, .int (nI C), .int (nI V), .int (nI Ac)])), (d, .inr (1, [.int (nI n), .ref e1, .ref e2, .ref e3, .ref e4])), (e1, zA cI 8 P), (e2, zA cI 16 X), (e3, zA cI 16 Y), (e4, zA cI 8 L)] s s.heap := hG
  have hl := lv_entry ([.ref z, .int (zI a)]) (n := 3) (Nat.le_of_ble_eq_true rfl)
  rw [lg_entry_eq]
  generalize (lg_sl ([.ref z, .int (zI a)]) ++ List.replicate (3 - (lg_sl ([.ref z, .int (zI a)])).length) Slot.unset).toArray = ls at hl ⊢
  have hl : lv_has ls 3 [(0, .ref z), (1, .int (zI a))] := hl
  have r_ha := id ha
  unfold zR at r_ha
  obtain ⟨⟨hn, hPf, hXY⟩, hLf, hinj⟩ := id hok
  obtain ⟨hC, hV9, hA9⟩ := id hset
  refine lv_aload_n (pc := 0) S.1 S.2.1 dX5_directionAt_0 rfl (lv_at hl 0 rfl) ?_
  refine lv_iload_n (pc := 1) S.1 S.2.1 dX5_directionAt_1 rfl (lv_at hl 1 rfl) ?_
  refine zz_callV (pc := 2) (As := [.int (zI a)]) (rest := []) S (c_X5_codeOrError l D cI cR z h b g v C V Ac d e1 e2 e3 e4 n P X Y L a hok hset (by unfold zR; omega)) (zuV wd_343 wd_340 wd_341 wd_342 wd_2) 1 rfl q_X5_codeOrError ⟨⟨rfl, rfl⟩, Nat.le_of_ble_eq_true rfl, Nat.le_of_ble_eq_true rfl⟩ hG [0, 1, 2, 3, 4, 5] rfl 0 rfl rfl rfl rfl rfl (Nat.le_of_ble_eq_true rfl) hl.1 ⟨Nat.zero_le _, Nat.zero_le _⟩ dX5_directionAt_2 ?_
  have g1 := an_code_rng (L := L) hn hLf a
  refine lv_istore_n (pc := 5) (lv' := [(2, .int (zI (an_code n L a))), (0, .ref z), (1, .int (zI a))]) S.1 S.2.1 dX5_directionAt_5 rfl hl (by decide) rfl (fun ls hl => ?_)
  refine lv_iload_n (pc := 6) S.1 S.2.1 dX5_directionAt_6 rfl (lv_at hl 0 rfl) ?_
  refine zz_if_ge (pc := 7) (tgt := 14) S dX5_directionAt_7 (by decide) (z_ge0 (by unfold zR; omega)) (fun c7 => ?_) (fun c7 => ?_)
  · have hl : lv_has ls 3 [(2, .int (nI ((an_code n L a).toNat))), (0, .ref z), (1, .int (zI a))] := by rw [← (zn_of (z := an_code n L a) (n := (an_code n L a).toNat) (by omega))]; exact hl
    refine lv_iload_n (pc := 14) S.1 S.2.1 dX5_directionAt_14 rfl (lv_at hl 0 rfl) ?_
    refine zz_iconst (pc := 15) (v := nI 2) S dX5_directionAt_15 rfl ?_
    refine zz_irem (pc := 16) (v := nI (((an_code n L a).toNat) % 2)) S dX5_directionAt_16 (by decide) (n_rem (by omega) (by decide) (by decide)) ?_
    exact zz_iretS (pc := 17) S hr hlocks (congrArg zI (a₁ := ((((an_code n L a).toNat) % 2 : Nat) : Int)) (by first | exact an_di (by omega) | exact an_di' (by omega))) dX5_directionAt_17
  · refine lv_iload_n (pc := 10) S.1 S.2.1 dX5_directionAt_10 rfl (lv_at hl 0 rfl) ?_
    refine lv_goto (pc := 11) (tgt := 17) S.1 S.2.1 dX5_directionAt_11 (by decide) ?_
    exact zz_iretS (pc := 17) S hr hlocks (congrArg zI (a₁ := an_code n L a) (by first | exact an_di (by omega) | exact an_di' (by omega))) dX5_directionAt_17
abbrev wm_X5_cost : List Cond := .code yX5_cost cX5_cost 1 (some .int) :: wU
theorem q_X5_cost : yX5_cost.cls = RX5 ∧ yX5_cost.cls ≠ "java/lang/invoke/MethodHandle" ∧ yX5_cost.cls ≠ "java/lang/invoke/VarHandle" ∧ (parseMethodDescriptor yX5_cost.desc).map (fun d => d.parameters.length) = some 0 := by decide +kernel
set_option maxHeartbeats 4000000 in
set_option maxRecDepth 100000 in
theorem c_X5_cost (l : Launch) (D : va_G) (cI cR : ClassId) (z h b g v C V Ac : Nat) (d e1 e2 e3 e4 n : Nat) (P X Y L : Nat → Nat) (hok : zOk n P X Y L) (hset : zSt C V Ac) : Met l yX5_cost wm_X5_cost ({ frames := 5, cells := 0, slots := 0, locals := 112 } : Room) (va_Pc [.ref z] (zW D cI cR [(z, .inr (5, [.ref d, .ref h, .ref b, .ref g, .ref v, .int (nI C), .int (nI V), .int (nI Ac)])), (d, .inr (1, [.int (nI n), .ref e1, .ref e2, .ref e3, .ref e4])), (e1, zA cI 8 P), (e2, zA cI 16 X), (e3, zA cI 16 Y), (e4, zA cI 8 L)])) (vp_Si (fun r => r = nI (zs (fun j => stp P X Y C (prv L j) (L j)) n))) 0 0 (fun _ => False) := by
  refine Met.ofW (cc := cX5_cost) (maxL := 1) (ret := (some .int)) (by decide) rfl ?_
  intro p e s m args below meth c s₁ B hml hv
  obtain ⟨rfl, hG⟩ := hv
  have S : CallFix p m c cX5_cost 1 s ([.ref z] : List Value).toArray wU RX5 := ⟨B.exec, B.bytes, hml, findClass_of_methodNamed B.named, fun w h => atoms_spec (ws := wm_X5_cost) B.pre w (List.mem_cons_of_mem _ h)⟩
  have hr := B.returns
  have hlocks := B.notSynchronized
  have hG : zG D cI cR [(z, .inr (5, [.ref d, .ref h, .ref b, .ref g, .ref v, .int (nI C), .int (nI V), .int (nI Ac)])), (d, .inr (1, [.int (nI n), .ref e1, .ref e2, .ref e3, .ref e4])), (e1, zA cI 8 P), (e2, zA cI 16 X), (e3, zA cI 16 Y), (e4, zA cI 8 L)] s s.heap := hG
  have hl := lv_entry ([.ref z]) (n := 1) (Nat.le_of_ble_eq_true rfl)
  rw [lg_entry_eq]
  generalize (lg_sl ([.ref z]) ++ List.replicate (1 - (lg_sl ([.ref z])).length) Slot.unset).toArray = ls at hl ⊢
  have hl : lv_has ls 1 [(0, .ref z)] := hl
  obtain ⟨⟨hn, hPf, hXY⟩, hLf, hinj⟩ := id hok
  obtain ⟨hC, hV9, hA9⟩ := id hset
  refine lv_aload_n (pc := 0) S.1 S.2.1 dX5_cost_0 rfl (lv_at hl 0 rfl) ?_
  refine zz_get (pc := 1) S hG iX5 0 rfl rfl 0 (by decide) wd_15 rfl rfl dX5_cost_1 ?_
  refine lv_aload_n (pc := 4) S.1 S.2.1 dX5_cost_4 rfl (lv_at hl 0 rfl) ?_
  refine zz_get (pc := 5) S hG iX5 0 rfl rfl 5 (by decide) wd_32 rfl rfl dX5_cost_5 ?_
  refine zz_callV (pc := 8) (As := [.int (nI C)]) (rest := []) S (c_X1_planCost l D cI cR d e1 e2 e3 e4 n P X Y L C hok (by omega)) (zuV wd_404 wd_401 wd_402 wd_403 wd_14) 1 rfl q_X1_planCost ⟨⟨rfl, rfl⟩, Nat.le_of_ble_eq_true rfl, Nat.le_of_ble_eq_true rfl⟩ hG [1, 2, 3, 4, 5] rfl 1 rfl rfl rfl rfl rfl (Nat.le_of_ble_eq_true rfl) hl.1 ⟨Nat.zero_le _, Nat.zero_le _⟩ dX5_cost_8 ?_
  have g1 := zs_le (f := (fun j => stp P X Y C (prv L j) (L j))) (m := 599) (n := n) (fun k hk => cst_le hXY hLf (by omega) hk)
  exact zz_iretS (pc := 11) S hr hlocks (rfl) dX5_cost_11
abbrev wm_X5_penChanges : List Cond := .code yX5_penChanges cX5_penChanges 1 (some .int) :: wU
theorem q_X5_penChanges : yX5_penChanges.cls = RX5 ∧ yX5_penChanges.cls ≠ "java/lang/invoke/MethodHandle" ∧ yX5_penChanges.cls ≠ "java/lang/invoke/VarHandle" ∧ (parseMethodDescriptor yX5_penChanges.desc).map (fun d => d.parameters.length) = some 0 := by decide +kernel
set_option maxHeartbeats 4000000 in
set_option maxRecDepth 100000 in
theorem c_X5_penChanges (l : Launch) (D : va_G) (cI cR : ClassId) (z h b g v C V Ac : Nat) (d e1 e2 e3 e4 n : Nat) (P X Y L : Nat → Nat) (hok : zOk n P X Y L) (hset : zSt C V Ac) : Met l yX5_penChanges wm_X5_penChanges ({ frames := 4, cells := 0, slots := 0, locals := 87 } : Room) (va_Pc [.ref z] (zW D cI cR [(z, .inr (5, [.ref d, .ref h, .ref b, .ref g, .ref v, .int (nI C), .int (nI V), .int (nI Ac)])), (d, .inr (1, [.int (nI n), .ref e1, .ref e2, .ref e3, .ref e4])), (e1, zA cI 8 P), (e2, zA cI 16 X), (e3, zA cI 16 Y), (e4, zA cI 8 L)])) (vp_Si (fun r => r = nI (zs (fun j => zB (¬ oP P (prv L j) = oP P ((L j : Nat) : Int))) n))) 0 0 (fun _ => False) := by
  refine Met.ofW (cc := cX5_penChanges) (maxL := 1) (ret := (some .int)) (by decide) rfl ?_
  intro p e s m args below meth c s₁ B hml hv
  obtain ⟨rfl, hG⟩ := hv
  have S : CallFix p m c cX5_penChanges 1 s ([.ref z] : List Value).toArray wU RX5 := ⟨B.exec, B.bytes, hml, findClass_of_methodNamed B.named, fun w h => atoms_spec (ws := wm_X5_penChanges) B.pre w (List.mem_cons_of_mem _ h)⟩
  have hr := B.returns
  have hlocks := B.notSynchronized
  have hG : zG D cI cR [(z, .inr (5, [.ref d, .ref h, .ref b, .ref g, .ref v, .int (nI C), .int (nI V), .int (nI Ac)])), (d, .inr (1, [.int (nI n), .ref e1, .ref e2, .ref e3, .ref e4])), (e1, zA cI 8 P), (e2, zA cI 16 X), (e3, zA cI 16 Y), (e4, zA cI 8 L)] s s.heap := hG
  have hl := lv_entry ([.ref z]) (n := 1) (Nat.le_of_ble_eq_true rfl)
  rw [lg_entry_eq]
  generalize (lg_sl ([.ref z]) ++ List.replicate (1 - (lg_sl ([.ref z])).length) Slot.unset).toArray = ls at hl ⊢
  have hl : lv_has ls 1 [(0, .ref z)] := hl
  obtain ⟨⟨hn, hPf, hXY⟩, hLf, hinj⟩ := id hok
  obtain ⟨hC, hV9, hA9⟩ := id hset
  refine lv_aload_n (pc := 0) S.1 S.2.1 dX5_penChanges_0 rfl (lv_at hl 0 rfl) ?_
  refine zz_get (pc := 1) S hG iX5 0 rfl rfl 0 (by decide) wd_15 rfl rfl dX5_penChanges_1 ?_
  refine zz_callV (pc := 4) (As := []) (rest := []) S (c_X1_countPenChanges l D cI cR d e1 e2 e3 e4 n P X Y L hok) (zuV wd_447 wd_444 wd_445 wd_446 wd_14) 0 rfl q_X1_countPenChanges ⟨⟨rfl, rfl⟩, Nat.le_of_ble_eq_true rfl, Nat.le_of_ble_eq_true rfl⟩ hG [1, 2, 3, 4, 5] rfl 1 rfl rfl rfl rfl rfl (Nat.le_of_ble_eq_true rfl) hl.1 ⟨Nat.zero_le _, Nat.zero_le _⟩ dX5_penChanges_4 ?_
  have g1 := zs_le (f := (fun j => zB (¬ oP P (prv L j) = oP P ((L j : Nat) : Int)))) (m := 1) (n := n) (fun k _ => zB_le _)
  exact zz_iretS (pc := 7) S hr hlocks (rfl) dX5_penChanges_7
abbrev wm_X5_runCount : List Cond := .code yX5_runCount cX5_runCount 1 (some .int) :: wU
theorem q_X5_runCount : yX5_runCount.cls = RX5 ∧ yX5_runCount.cls ≠ "java/lang/invoke/MethodHandle" ∧ yX5_runCount.cls ≠ "java/lang/invoke/VarHandle" ∧ (parseMethodDescriptor yX5_runCount.desc).map (fun d => d.parameters.length) = some 0 := by decide +kernel
set_option maxHeartbeats 4000000 in
set_option maxRecDepth 100000 in
theorem c_X5_runCount (l : Launch) (D : va_G) (cI cR : ClassId) (z h b g v C V Ac : Nat) (d e1 e2 e3 e4 n : Nat) (P X Y L : Nat → Nat) (hok : zOk n P X Y L) (hset : zSt C V Ac) : Met l yX5_runCount wm_X5_runCount ({ frames := 5, cells := 0, slots := 0, locals := 109 } : Room) (va_Pc [.ref z] (zW D cI cR [(z, .inr (5, [.ref d, .ref h, .ref b, .ref g, .ref v, .int (nI C), .int (nI V), .int (nI Ac)])), (d, .inr (1, [.int (nI n), .ref e1, .ref e2, .ref e3, .ref e4])), (e1, zA cI 8 P), (e2, zA cI 16 X), (e3, zA cI 16 Y), (e4, zA cI 8 L)])) (vp_Si (fun r => r = nI (rnk n P X Y L n))) 0 0 (fun _ => False) := by
  refine Met.ofW (cc := cX5_runCount) (maxL := 1) (ret := (some .int)) (by decide) rfl ?_
  intro p e s m args below meth c s₁ B hml hv
  obtain ⟨rfl, hG⟩ := hv
  have S : CallFix p m c cX5_runCount 1 s ([.ref z] : List Value).toArray wU RX5 := ⟨B.exec, B.bytes, hml, findClass_of_methodNamed B.named, fun w h => atoms_spec (ws := wm_X5_runCount) B.pre w (List.mem_cons_of_mem _ h)⟩
  have hr := B.returns
  have hlocks := B.notSynchronized
  have hG : zG D cI cR [(z, .inr (5, [.ref d, .ref h, .ref b, .ref g, .ref v, .int (nI C), .int (nI V), .int (nI Ac)])), (d, .inr (1, [.int (nI n), .ref e1, .ref e2, .ref e3, .ref e4])), (e1, zA cI 8 P), (e2, zA cI 16 X), (e3, zA cI 16 Y), (e4, zA cI 8 L)] s s.heap := hG
  have hl := lv_entry ([.ref z]) (n := 1) (Nat.le_of_ble_eq_true rfl)
  rw [lg_entry_eq]
  generalize (lg_sl ([.ref z]) ++ List.replicate (1 - (lg_sl ([.ref z])).length) Slot.unset).toArray = ls at hl ⊢
  have hl : lv_has ls 1 [(0, .ref z)] := hl
  obtain ⟨⟨hn, hPf, hXY⟩, hLf, hinj⟩ := id hok
  obtain ⟨hC, hV9, hA9⟩ := id hset
  refine lv_aload_n (pc := 0) S.1 S.2.1 dX5_runCount_0 rfl (lv_at hl 0 rfl) ?_
  refine zz_get (pc := 1) S hG iX5 0 rfl rfl 0 (by decide) wd_15 rfl rfl dX5_runCount_1 ?_
  refine zz_callV (pc := 4) (As := []) (rest := []) S (c_X1_countRuns l D cI cR d e1 e2 e3 e4 n P X Y L hok) (zuV wd_459 wd_456 wd_457 wd_458 wd_14) 0 rfl q_X1_countRuns ⟨⟨rfl, rfl⟩, Nat.le_of_ble_eq_true rfl, Nat.le_of_ble_eq_true rfl⟩ hG [1, 2, 3, 4, 5] rfl 1 rfl rfl rfl rfl rfl (Nat.le_of_ble_eq_true rfl) hl.1 ⟨Nat.zero_le _, Nat.zero_le _⟩ dX5_runCount_4 ?_
  have g1 := rnk_le n P X Y L n
  exact zz_iretS (pc := 7) S hr hlocks (rfl) dX5_runCount_7
abbrev wm_X5_runLength : List Cond := .code yX5_runLength cX5_runLength 3 (some .int) :: wU
theorem q_X5_runLength : yX5_runLength.cls = RX5 ∧ yX5_runLength.cls ≠ "java/lang/invoke/MethodHandle" ∧ yX5_runLength.cls ≠ "java/lang/invoke/VarHandle" ∧ (parseMethodDescriptor yX5_runLength.desc).map (fun d => d.parameters.length) = some 1 := by decide +kernel
set_option maxHeartbeats 4000000 in
set_option maxRecDepth 100000 in
theorem c_X5_runLength (l : Launch) (D : va_G) (cI cR : ClassId) (z h b g v C V Ac : Nat) (d e1 e2 e3 e4 n : Nat) (P X Y L : Nat → Nat) (a : Int) (hok : zOk n P X Y L) (hset : zSt C V Ac) (ha : zR a) : Met l yX5_runLength wm_X5_runLength ({ frames := 5, cells := 0, slots := 0, locals := 111 } : Room) (va_Pc [.ref z, .int (zI a)] (zW D cI cR [(z, .inr (5, [.ref d, .ref h, .ref b, .ref g, .ref v, .int (nI C), .int (nI V), .int (nI Ac)])), (d, .inr (1, [.int (nI n), .ref e1, .ref e2, .ref e3, .ref e4])), (e1, zA cI 8 P), (e2, zA cI 16 X), (e3, zA cI 16 Y), (e4, zA cI 8 L)])) (vp_Si (fun r => r = zI (an_runLen n P X Y L a))) 0 0 (fun _ => False) := by
  refine Met.ofW (cc := cX5_runLength) (maxL := 3) (ret := (some .int)) (by decide) rfl ?_
  intro p e s m args below meth c s₁ B hml hv
  obtain ⟨rfl, hG⟩ := hv
  have S : CallFix p m c cX5_runLength 3 s ([.ref z, .int (zI a)] : List Value).toArray wU RX5 := ⟨B.exec, B.bytes, hml, findClass_of_methodNamed B.named, fun w h => atoms_spec (ws := wm_X5_runLength) B.pre w (List.mem_cons_of_mem _ h)⟩
  have hr := B.returns
  have hlocks := B.notSynchronized
  have hG : zG D cI cR [(z, .inr (5, [.ref d, .ref h, .ref b, .ref g, .ref v, .int (nI C), .int (nI V), .int (nI Ac)])), (d, .inr (1, [.int (nI n), .ref e1, .ref e2, .ref e3, .ref e4])), (e1, zA cI 8 P), (e2, zA cI 16 X), (e3, zA cI 16 Y), (e4, zA cI 8 L)] s s.heap := hG
  have hl := lv_entry ([.ref z, .int (zI a)]) (n := 3) (Nat.le_of_ble_eq_true rfl)
  rw [lg_entry_eq]
  generalize (lg_sl ([.ref z, .int (zI a)]) ++ List.replicate (3 - (lg_sl ([.ref z, .int (zI a)])).length) Slot.unset).toArray = ls at hl ⊢
  have hl : lv_has ls 3 [(0, .ref z), (1, .int (zI a))] := hl
  have r_ha := id ha
  unfold zR at r_ha
  obtain ⟨⟨hn, hPf, hXY⟩, hLf, hinj⟩ := id hok
  obtain ⟨hC, hV9, hA9⟩ := id hset
  refine lv_iload_n (pc := 0) S.1 S.2.1 dX5_runLength_0 rfl (lv_at hl 1 rfl) ?_
  refine zz_if_ge (pc := 1) (tgt := 6) S dX5_runLength_1 (by decide) (z_ge0 (by unfold zR; omega)) (fun c1 => ?_) (fun c1 => ?_)
  · refine lv_aload_n (pc := 6) S.1 S.2.1 dX5_runLength_6 rfl (lv_at hl 0 rfl) ?_
    refine zz_get (pc := 7) S hG iX5 0 rfl rfl 0 (by decide) wd_15 rfl rfl dX5_runLength_7 ?_
    refine lv_iload_n (pc := 10) S.1 S.2.1 dX5_runLength_10 rfl (lv_at hl 1 rfl) ?_
    refine zz_callV (pc := 11) (As := [.int (zI a)]) (rest := []) S (c_X1_lengthOfRun l D cI cR d e1 e2 e3 e4 n P X Y L a hok (by unfold zR; omega)) (zuV wd_479 wd_476 wd_477 wd_478 wd_14) 1 rfl q_X1_lengthOfRun ⟨⟨rfl, rfl⟩, Nat.le_of_ble_eq_true rfl, Nat.le_of_ble_eq_true rfl⟩ hG [1, 2, 3, 4, 5] rfl 1 rfl rfl rfl rfl rfl (Nat.le_of_ble_eq_true rfl) hl.1 ⟨Nat.zero_le _, Nat.zero_le _⟩ dX5_runLength_11 ?_
    have g1 := zs_le (f := (fun j => zB (((rnk n P X Y L j : Nat) : Int) = a))) (m := 1) (n := n) (fun k _ => zB_le _)
    refine lv_istore_n (pc := 14) (lv' := [(2, .int (nI (zs (fun j => zB (((rnk n P X Y L j : Nat) : Int) = a)) n))), (0, .ref z), (1, .int (zI a))]) S.1 S.2.1 dX5_runLength_14 rfl hl (by decide) rfl (fun ls hl => ?_)
    refine lv_iload_n (pc := 15) S.1 S.2.1 dX5_runLength_15 rfl (lv_at hl 0 rfl) ?_
    refine zz_if_ne (pc := 16) (tgt := 24) S dX5_runLength_16 (by decide) (n_eq0 (by omega)) (fun c16 => ?_) (fun c16 => ?_)
    · refine lv_iload_n (pc := 24) S.1 S.2.1 dX5_runLength_24 rfl (lv_at hl 0 rfl) ?_
      exact zz_iretS (pc := 25) S hr hlocks (congrArg zI (a₁ := ((zs (fun j => zB (((rnk n P X Y L j : Nat) : Int) = a)) n : Nat) : Int)) (by exact (an_runL (k := n) (by omega) rfl (by omega)).symm)) dX5_runLength_25
    · refine zz_bipush (pc := 19) (v := zI (-3)) S dX5_runLength_19 rfl ?_
      refine lv_goto (pc := 21) (tgt := 25) S.1 S.2.1 dX5_runLength_21 (by decide) ?_
      exact zz_iretS (pc := 25) S hr hlocks (congrArg zI (a₁ := (-3)) (by exact (an_runL (k := n) (by omega) rfl (by omega)).symm)) dX5_runLength_25
  · refine zz_iconst (pc := 4) (v := zI (-1)) S dX5_runLength_4 rfl ?_
    exact zz_iretS (pc := 5) S hr hlocks (congrArg zI (a₁ := (-1)) (by exact (if_pos (by omega)).symm)) dX5_runLength_5
abbrev wm_X5_cornerLimit : List Cond := .code yX5_cornerLimit cX5_cornerLimit 2 (some .int) :: wU
theorem q_X5_cornerLimit : yX5_cornerLimit.cls = RX5 ∧ yX5_cornerLimit.cls ≠ "java/lang/invoke/MethodHandle" ∧ yX5_cornerLimit.cls ≠ "java/lang/invoke/VarHandle" ∧ (parseMethodDescriptor yX5_cornerLimit.desc).map (fun d => d.parameters.length) = some 1 := by decide +kernel
set_option maxHeartbeats 4000000 in
set_option maxRecDepth 100000 in
theorem c_X5_cornerLimit (l : Launch) (D : va_G) (cI cR : ClassId) (z h b g v C V Ac : Nat) (d e1 e2 e3 e4 n : Nat) (P X Y L : Nat → Nat) (a : Int) (hok : zOk n P X Y L) (hset : zSt C V Ac) (ha : zR a) : Met l yX5_cornerLimit wm_X5_cornerLimit ({ frames := 4, cells := 0, slots := 0, locals := 87 } : Room) (va_Pc [.ref z, .int (zI a)] (zW D cI cR [(z, .inr (5, [.ref d, .ref h, .ref b, .ref g, .ref v, .int (nI C), .int (nI V), .int (nI Ac)])), (d, .inr (1, [.int (nI n), .ref e1, .ref e2, .ref e3, .ref e4])), (e1, zA cI 8 P), (e2, zA cI 16 X), (e3, zA cI 16 Y), (e4, zA cI 8 L)])) (vp_Si (fun r => r = zI (an_corner n P X Y L V a))) 0 0 (fun _ => False) := by
  refine Met.ofW (cc := cX5_cornerLimit) (maxL := 2) (ret := (some .int)) (by decide) rfl ?_
  intro p e s m args below meth c s₁ B hml hv
  obtain ⟨rfl, hG⟩ := hv
  have S : CallFix p m c cX5_cornerLimit 2 s ([.ref z, .int (zI a)] : List Value).toArray wU RX5 := ⟨B.exec, B.bytes, hml, findClass_of_methodNamed B.named, fun w h => atoms_spec (ws := wm_X5_cornerLimit) B.pre w (List.mem_cons_of_mem _ h)⟩
  have hr := B.returns
  have hlocks := B.notSynchronized
  have hG : zG D cI cR [(z, .inr (5, [.ref d, .ref h, .ref b, .ref g, .ref v, .int (nI C), .int (nI V), .int (nI Ac)])), (d, .inr (1, [.int (nI n), .ref e1, .ref e2, .ref e3, .ref e4])), (e1, zA cI 8 P), (e2, zA cI 16 X), (e3, zA cI 16 Y), (e4, zA cI 8 L)] s s.heap := hG
  have hl := lv_entry ([.ref z, .int (zI a)]) (n := 2) (Nat.le_of_ble_eq_true rfl)
  rw [lg_entry_eq]
  generalize (lg_sl ([.ref z, .int (zI a)]) ++ List.replicate (2 - (lg_sl ([.ref z, .int (zI a)])).length) Slot.unset).toArray = ls at hl ⊢
  have hl : lv_has ls 2 [(0, .ref z), (1, .int (zI a))] := hl
  have r_ha := id ha
  unfold zR at r_ha
  obtain ⟨⟨hn, hPf, hXY⟩, hLf, hinj⟩ := id hok
  obtain ⟨hC, hV9, hA9⟩ := id hset
  refine lv_aload_n (pc := 0) S.1 S.2.1 dX5_cornerLimit_0 rfl (lv_at hl 0 rfl) ?_
  refine zz_get (pc := 1) S hG iX5 0 rfl rfl 0 (by decide) wd_15 rfl rfl dX5_cornerLimit_1 ?_
  refine lv_iload_n (pc := 4) S.1 S.2.1 dX5_cornerLimit_4 rfl (lv_at hl 1 rfl) ?_
  refine zz_callV (pc := 5) (As := [.int (zI a)]) (rest := []) S (c_X1_hasPosition l D cI cR d e1 e2 e3 e4 n P X Y L a hok.1 (by unfold zR; omega)) (zuV wd_347 wd_344 wd_345 wd_346 wd_14) 1 rfl q_X1_hasPosition ⟨⟨rfl, rfl⟩, Nat.le_of_ble_eq_true rfl, Nat.le_of_ble_eq_true rfl⟩ hG [1, 2, 3, 4, 5] rfl 1 rfl rfl rfl rfl rfl (Nat.le_of_ble_eq_true rfl) hl.1 ⟨Nat.zero_le _, Nat.zero_le _⟩ dX5_cornerLimit_5 ?_
  refine zz_ifb_ne (pc := 8) (tgt := 13) S dX5_cornerLimit_8 (by decide) (fun c8 => ?_) (fun c8 => ?_)
  · have hl : lv_has ls 2 [(0, .ref z), (1, .int (nI a.toNat))] := by rw [← (zn_of (z := a) (n := a.toNat) (by omega))]; exact hl
    refine lv_aload_n (pc := 13) S.1 S.2.1 dX5_cornerLimit_13 rfl (lv_at hl 0 rfl) ?_
    refine zz_get (pc := 14) S hG iX5 0 rfl rfl 0 (by decide) wd_15 rfl rfl dX5_cornerLimit_14 ?_
    refine lv_iload_n (pc := 17) S.1 S.2.1 dX5_cornerLimit_17 rfl (lv_at hl 1 rfl) ?_
    refine zz_callV (pc := 18) (As := [.int (nI a.toNat)]) (rest := []) S (c_X1_isLinkedToNext l D cI cR d e1 e2 e3 e4 n P X Y L a.toNat hok (by omega)) (zuV wd_463 wd_617 wd_461 wd_462 wd_14) 1 rfl q_X1_isLinkedToNext ⟨⟨rfl, rfl⟩, Nat.le_of_ble_eq_true rfl, Nat.le_of_ble_eq_true rfl⟩ hG [1, 2, 3, 4, 5] rfl 1 rfl rfl rfl rfl rfl (Nat.le_of_ble_eq_true rfl) hl.1 ⟨Nat.zero_le _, Nat.zero_le _⟩ dX5_cornerLimit_18 ?_
    refine zz_ifb_eq (pc := 21) (tgt := 39) S dX5_cornerLimit_21 (by decide) (fun c21 => ?_) (fun c21 => ?_)
    · refine zz_bipush (pc := 39) (v := zI (-3)) S dX5_cornerLimit_39 rfl ?_
      exact zz_iretS (pc := 41) S hr hlocks (congrArg zI (a₁ := (-3)) (by first | exact (an_cornerN (by omega)).symm | exact (an_cornerT (by omega) c21).symm | exact (an_cornerF (by omega) c21).symm)) dX5_cornerLimit_41
    · refine lv_aload_n (pc := 24) S.1 S.2.1 dX5_cornerLimit_24 rfl (lv_at hl 0 rfl) ?_
      refine zz_get (pc := 25) S hG iX5 0 rfl rfl 0 (by decide) wd_15 rfl rfl dX5_cornerLimit_25 ?_
      refine lv_iload_n (pc := 28) S.1 S.2.1 dX5_cornerLimit_28 rfl (lv_at hl 1 rfl) ?_
      refine lv_aload_n (pc := 29) S.1 S.2.1 dX5_cornerLimit_29 rfl (lv_at hl 0 rfl) ?_
      refine zz_get (pc := 30) S hG iX5 0 rfl rfl 6 (by decide) wd_33 rfl rfl dX5_cornerLimit_30 ?_
      have hl1 := c21.1
      refine zz_callV (pc := 33) (As := [.int (nI a.toNat), .int (nI V)]) (rest := []) S (c_X1_cornerSquare l D cI cR d e1 e2 e3 e4 n P X Y L a.toNat V hok (by omega) (by omega)) (zuV wd_621 wd_618 wd_619 wd_620 wd_14) 2 rfl q_X1_cornerSquare ⟨⟨rfl, rfl⟩, Nat.le_of_ble_eq_true rfl, Nat.le_of_ble_eq_true rfl⟩ hG [1, 2, 3, 4, 5] rfl 1 rfl rfl rfl rfl rfl (Nat.le_of_ble_eq_true rfl) hl.1 ⟨Nat.zero_le _, Nat.zero_le _⟩ dX5_cornerLimit_33 ?_
      have g1 := crn_le X Y V (L a.toNat) (L (a.toNat + 1))
      refine lv_goto (pc := 36) (tgt := 41) S.1 S.2.1 dX5_cornerLimit_36 (by decide) ?_
      exact zz_iretS (pc := 41) S hr hlocks (congrArg zI (a₁ := ((crn X Y V (L a.toNat) (L (a.toNat + 1)) : Nat) : Int)) (by first | exact (an_cornerN (by omega)).symm | exact (an_cornerT (by omega) c21).symm | exact (an_cornerF (by omega) c21).symm)) dX5_cornerLimit_41
  · refine zz_iconst (pc := 11) (v := zI (-1)) S dX5_cornerLimit_11 rfl ?_
    exact zz_iretS (pc := 12) S hr hlocks (congrArg zI (a₁ := (-1)) (by first | exact (an_cornerN (by omega)).symm | exact (an_cornerT (by omega) c21).symm | exact (an_cornerF (by omega) c21).symm)) dX5_cornerLimit_12
abbrev wm_X5_beginEdit : List Cond := .code yX5_beginEdit cX5_beginEdit 1 none :: wU
theorem q_X5_beginEdit : yX5_beginEdit.cls = RX5 ∧ yX5_beginEdit.cls ≠ "java/lang/invoke/MethodHandle" ∧ yX5_beginEdit.cls ≠ "java/lang/invoke/VarHandle" ∧ (parseMethodDescriptor yX5_beginEdit.desc).map (fun d => d.parameters.length) = some 0 := by decide +kernel
set_option maxHeartbeats 4000000 in
set_option maxRecDepth 100000 in
theorem c_X5_beginEdit (l : Launch) (D : va_G) (cI cR : ClassId) (z h b g v C V Ac : Nat) (d e1 e2 e3 e4 n : Nat) (P X Y L : Nat → Nat) (r : Nat) (qa qb qc qd qe : Nat → Nat) (hn9 : Nat → Nat) (hP hX hY hL : Nat → Nat → Nat) (nx dp : Nat) (b1 b2 b3 cc tt kk : Nat) (sg rs cd : Nat → Nat) (sz : Nat) (hok : zOk n P X Y L) (hset : zSt C V Ac) (hnx : nx < 4) (hdp : dp ≤ 4) : Met l yX5_beginEdit wm_X5_beginEdit ({ frames := 3, cells := 0, slots := 0, locals := 61 } : Room) (va_Pc [.ref z] (zX D cI cR [(z, .inr (5, [.ref d, .ref h, .ref b, .ref g, .ref v, .int (nI C), .int (nI V), .int (nI Ac)])), (d, .inr (1, [.int (nI n), .ref e1, .ref e2, .ref e3, .ref e4])), (e1, zA cI 8 P), (e2, zA cI 16 X), (e3, zA cI 16 Y), (e4, zA cI 8 L), (h, .inr (2, [.ref r, .int (nI nx), .int (nI dp)])), (r, zAR cR 4 (rg qa)), (qa 0, .inr (1, [.int (nI (hn9 0)), .ref (qb 0), .ref (qc 0), .ref (qd 0), .ref (qe 0)])), (qb 0, zA cI 8 (hP 0)), (qc 0, zA cI 16 (hX 0)), (qd 0, zA cI 16 (hY 0)), (qe 0, zA cI 8 (hL 0)), (qa 1, .inr (1, [.int (nI (hn9 1)), .ref (qb 1), .ref (qc 1), .ref (qd 1), .ref (qe 1)])), (qb 1, zA cI 8 (hP 1)), (qc 1, zA cI 16 (hX 1)), (qd 1, zA cI 16 (hY 1)), (qe 1, zA cI 8 (hL 1)), (qa 2, .inr (1, [.int (nI (hn9 2)), .ref (qb 2), .ref (qc 2), .ref (qd 2), .ref (qe 2)])), (qb 2, zA cI 8 (hP 2)), (qc 2, zA cI 16 (hX 2)), (qd 2, zA cI 16 (hY 2)), (qe 2, zA cI 8 (hL 2)), (qa 3, .inr (1, [.int (nI (hn9 3)), .ref (qb 3), .ref (qc 3), .ref (qd 3), .ref (qe 3)])), (qb 3, zA cI 8 (hP 3)), (qc 3, zA cI 16 (hX 3)), (qd 3, zA cI 16 (hY 3)), (qe 3, zA cI 8 (hL 3)), (b, .inr (0, [.ref b1, .ref b2, .ref b3, .int (nI cc), .int (nI tt), .int (nI kk)])), (b1, zA cI 272 sg), (b2, zA cI 4096 rs), (b3, zA cI 8 cd)] sz)) (zQv D cI cR (va_A [(z, .inr (5, [.ref d, .ref h, .ref b, .ref g, .ref v, .int (nI C), .int (nI V), .int (nI Ac)])), (d, .inr (1, [.int (nI n), .ref e1, .ref e2, .ref e3, .ref e4])), (e1, zA cI 8 P), (e2, zA cI 16 X), (e3, zA cI 16 Y), (e4, zA cI 8 L), (h, .inr (2, [.ref r, .int (nI nx), .int (nI dp)])), (r, zAR cR 4 (rg qa)), (qa 0, .inr (1, [.int (nI (hn9 0)), .ref (qb 0), .ref (qc 0), .ref (qd 0), .ref (qe 0)])), (qb 0, zA cI 8 (hP 0)), (qc 0, zA cI 16 (hX 0)), (qd 0, zA cI 16 (hY 0)), (qe 0, zA cI 8 (hL 0)), (qa 1, .inr (1, [.int (nI (hn9 1)), .ref (qb 1), .ref (qc 1), .ref (qd 1), .ref (qe 1)])), (qb 1, zA cI 8 (hP 1)), (qc 1, zA cI 16 (hX 1)), (qd 1, zA cI 16 (hY 1)), (qe 1, zA cI 8 (hL 1)), (qa 2, .inr (1, [.int (nI (hn9 2)), .ref (qb 2), .ref (qc 2), .ref (qd 2), .ref (qe 2)])), (qb 2, zA cI 8 (hP 2)), (qc 2, zA cI 16 (hX 2)), (qd 2, zA cI 16 (hY 2)), (qe 2, zA cI 8 (hL 2)), (qa 3, .inr (1, [.int (nI (hn9 3)), .ref (qb 3), .ref (qc 3), .ref (qd 3), .ref (qe 3)])), (qb 3, zA cI 8 (hP 3)), (qc 3, zA cI 16 (hX 3)), (qd 3, zA cI 16 (hY 3)), (qe 3, zA cI 8 (hL 3)), (b, .inr (0, [.ref b1, .ref b2, .ref b3, .int (nI cc), .int (nI tt), .int (nI kk)])), (b1, zA cI 272 sg), (b2, zA cI 4096 rs), (b3, zA cI 8 cd)] sz) (fun w => w = [(z, .inr (5, [.ref d, .ref h, .ref b, .ref g, .ref v, .int (nI C), .int (nI V), .int (nI Ac)])), (d, .inr (1, [.int (nI n), .ref e1, .ref e2, .ref e3, .ref e4])), (e1, zA cI 8 P), (e2, zA cI 16 X), (e3, zA cI 16 Y), (e4, zA cI 8 L), (h, .inr (2, [.ref r, .int (nI ((nx + 1) % 4)), .int (nI (min (dp + 1) 4))])), (r, zAR cR 4 (rg qa)), (qa 0, .inr (1, [.int (nI ((va_up hn9 nx n) 0)), .ref (qb 0), .ref (qc 0), .ref (qd 0), .ref (qe 0)])), (qb 0, zA cI 8 ((va_up hP nx P) 0)), (qc 0, zA cI 16 ((va_up hX nx X) 0)), (qd 0, zA cI 16 ((va_up hY nx Y) 0)), (qe 0, zA cI 8 ((va_up hL nx L) 0)), (qa 1, .inr (1, [.int (nI ((va_up hn9 nx n) 1)), .ref (qb 1), .ref (qc 1), .ref (qd 1), .ref (qe 1)])), (qb 1, zA cI 8 ((va_up hP nx P) 1)), (qc 1, zA cI 16 ((va_up hX nx X) 1)), (qd 1, zA cI 16 ((va_up hY nx Y) 1)), (qe 1, zA cI 8 ((va_up hL nx L) 1)), (qa 2, .inr (1, [.int (nI ((va_up hn9 nx n) 2)), .ref (qb 2), .ref (qc 2), .ref (qd 2), .ref (qe 2)])), (qb 2, zA cI 8 ((va_up hP nx P) 2)), (qc 2, zA cI 16 ((va_up hX nx X) 2)), (qd 2, zA cI 16 ((va_up hY nx Y) 2)), (qe 2, zA cI 8 ((va_up hL nx L) 2)), (qa 3, .inr (1, [.int (nI ((va_up hn9 nx n) 3)), .ref (qb 3), .ref (qc 3), .ref (qd 3), .ref (qe 3)])), (qb 3, zA cI 8 ((va_up hP nx P) 3)), (qc 3, zA cI 16 ((va_up hX nx X) 3)), (qd 3, zA cI 16 ((va_up hY nx Y) 3)), (qe 3, zA cI 8 ((va_up hL nx L) 3)), (b, .inr (0, [.ref b1, .ref b2, .ref b3, .int (nI cc), .int (nI tt), .int (nI 0)])), (b1, zA cI 272 sg), (b2, zA cI 4096 rs), (b3, zA cI 8 cd)])) 0 0 (va_A [(z, .inr (5, [.ref d, .ref h, .ref b, .ref g, .ref v, .int (nI C), .int (nI V), .int (nI Ac)])), (d, .inr (1, [.int (nI n), .ref e1, .ref e2, .ref e3, .ref e4])), (e1, zA cI 8 P), (e2, zA cI 16 X), (e3, zA cI 16 Y), (e4, zA cI 8 L), (h, .inr (2, [.ref r, .int (nI nx), .int (nI dp)])), (r, zAR cR 4 (rg qa)), (qa 0, .inr (1, [.int (nI (hn9 0)), .ref (qb 0), .ref (qc 0), .ref (qd 0), .ref (qe 0)])), (qb 0, zA cI 8 (hP 0)), (qc 0, zA cI 16 (hX 0)), (qd 0, zA cI 16 (hY 0)), (qe 0, zA cI 8 (hL 0)), (qa 1, .inr (1, [.int (nI (hn9 1)), .ref (qb 1), .ref (qc 1), .ref (qd 1), .ref (qe 1)])), (qb 1, zA cI 8 (hP 1)), (qc 1, zA cI 16 (hX 1)), (qd 1, zA cI 16 (hY 1)), (qe 1, zA cI 8 (hL 1)), (qa 2, .inr (1, [.int (nI (hn9 2)), .ref (qb 2), .ref (qc 2), .ref (qd 2), .ref (qe 2)])), (qb 2, zA cI 8 (hP 2)), (qc 2, zA cI 16 (hX 2)), (qd 2, zA cI 16 (hY 2)), (qe 2, zA cI 8 (hL 2)), (qa 3, .inr (1, [.int (nI (hn9 3)), .ref (qb 3), .ref (qc 3), .ref (qd 3), .ref (qe 3)])), (qb 3, zA cI 8 (hP 3)), (qc 3, zA cI 16 (hX 3)), (qd 3, zA cI 16 (hY 3)), (qe 3, zA cI 8 (hL 3)), (b, .inr (0, [.ref b1, .ref b2, .ref b3, .int (nI cc), .int (nI tt), .int (nI kk)])), (b1, zA cI 272 sg), (b2, zA cI 4096 rs), (b3, zA cI 8 cd)] sz) := by
  refine Met.ofW (cc := cX5_beginEdit) (maxL := 1) (ret := none) (by decide) rfl ?_
  intro p e s m args below meth c s₁ B hml hv
  obtain ⟨rfl, hsz, hG, hD0⟩ := hv
  have S : CallFix p m c cX5_beginEdit 1 s ([.ref z] : List Value).toArray wU RX5 := ⟨B.exec, B.bytes, hml, findClass_of_methodNamed B.named, fun w h => atoms_spec (ws := wm_X5_beginEdit) B.pre w (List.mem_cons_of_mem _ h)⟩
  have hr := B.returns
  have hlocks := B.notSynchronized
  subst hsz
  have hD := hD0.self (sz := s.heap.size)
  generalize hAe : va_A [(z, .inr (5, [.ref d, .ref h, .ref b, .ref g, .ref v, .int (nI C), .int (nI V), .int (nI Ac)])), (d, .inr (1, [.int (nI n), .ref e1, .ref e2, .ref e3, .ref e4])), (e1, zA cI 8 P), (e2, zA cI 16 X), (e3, zA cI 16 Y), (e4, zA cI 8 L), (h, .inr (2, [.ref r, .int (nI nx), .int (nI dp)])), (r, zAR cR 4 (rg qa)), (qa 0, .inr (1, [.int (nI (hn9 0)), .ref (qb 0), .ref (qc 0), .ref (qd 0), .ref (qe 0)])), (qb 0, zA cI 8 (hP 0)), (qc 0, zA cI 16 (hX 0)), (qd 0, zA cI 16 (hY 0)), (qe 0, zA cI 8 (hL 0)), (qa 1, .inr (1, [.int (nI (hn9 1)), .ref (qb 1), .ref (qc 1), .ref (qd 1), .ref (qe 1)])), (qb 1, zA cI 8 (hP 1)), (qc 1, zA cI 16 (hX 1)), (qd 1, zA cI 16 (hY 1)), (qe 1, zA cI 8 (hL 1)), (qa 2, .inr (1, [.int (nI (hn9 2)), .ref (qb 2), .ref (qc 2), .ref (qd 2), .ref (qe 2)])), (qb 2, zA cI 8 (hP 2)), (qc 2, zA cI 16 (hX 2)), (qd 2, zA cI 16 (hY 2)), (qe 2, zA cI 8 (hL 2)), (qa 3, .inr (1, [.int (nI (hn9 3)), .ref (qb 3), .ref (qc 3), .ref (qd 3), .ref (qe 3)])), (qb 3, zA cI 8 (hP 3)), (qc 3, zA cI 16 (hX 3)), (qd 3, zA cI 16 (hY 3)), (qe 3, zA cI 8 (hL 3)), (b, .inr (0, [.ref b1, .ref b2, .ref b3, .int (nI cc), .int (nI tt), .int (nI kk)])), (b1, zA cI 272 sg), (b2, zA cI 4096 rs), (b3, zA cI 8 cd)] s.heap.size = A at hD ⊢
  have hV : zV D cI cR A [(z, .inr (5, [.ref d, .ref h, .ref b, .ref g, .ref v, .int (nI C), .int (nI V), .int (nI Ac)])), (d, .inr (1, [.int (nI n), .ref e1, .ref e2, .ref e3, .ref e4])), (e1, zA cI 8 P), (e2, zA cI 16 X), (e3, zA cI 16 Y), (e4, zA cI 8 L), (h, .inr (2, [.ref r, .int (nI nx), .int (nI dp)])), (r, zAR cR 4 (rg qa)), (qa 0, .inr (1, [.int (nI (hn9 0)), .ref (qb 0), .ref (qc 0), .ref (qd 0), .ref (qe 0)])), (qb 0, zA cI 8 (hP 0)), (qc 0, zA cI 16 (hX 0)), (qd 0, zA cI 16 (hY 0)), (qe 0, zA cI 8 (hL 0)), (qa 1, .inr (1, [.int (nI (hn9 1)), .ref (qb 1), .ref (qc 1), .ref (qd 1), .ref (qe 1)])), (qb 1, zA cI 8 (hP 1)), (qc 1, zA cI 16 (hX 1)), (qd 1, zA cI 16 (hY 1)), (qe 1, zA cI 8 (hL 1)), (qa 2, .inr (1, [.int (nI (hn9 2)), .ref (qb 2), .ref (qc 2), .ref (qd 2), .ref (qe 2)])), (qb 2, zA cI 8 (hP 2)), (qc 2, zA cI 16 (hX 2)), (qd 2, zA cI 16 (hY 2)), (qe 2, zA cI 8 (hL 2)), (qa 3, .inr (1, [.int (nI (hn9 3)), .ref (qb 3), .ref (qc 3), .ref (qd 3), .ref (qe 3)])), (qb 3, zA cI 8 (hP 3)), (qc 3, zA cI 16 (hX 3)), (qd 3, zA cI 16 (hY 3)), (qe 3, zA cI 8 (hL 3)), (b, .inr (0, [.ref b1, .ref b2, .ref b3, .int (nI cc), .int (nI tt), .int (nI kk)])), (b1, zA cI 272 sg), (b2, zA cI 4096 rs), (b3, zA cI 8 cd)] s s.heap [] := ⟨hG, hD, va_S.rf, fun q h => by rw [← hAe]; exact Or.inr h⟩
  have hl := lv_entry ([.ref z]) (n := 1) (Nat.le_of_ble_eq_true rfl)
  rw [lg_entry_eq]
  generalize (lg_sl ([.ref z]) ++ List.replicate (1 - (lg_sl ([.ref z])).length) Slot.unset).toArray = ls at hl ⊢
  have hl : lv_has ls 1 [(0, .ref z)] := hl
  obtain ⟨⟨hn, hPf, hXY⟩, hLf, hinj⟩ := id hok
  obtain ⟨hC, hV9, hA9⟩ := id hset
  refine lv_aload_n (pc := 0) S.1 S.2.1 dX5_beginEdit_0 rfl (lv_at hl 0 rfl) ?_
  refine zz_get (pc := 1) S hV.1 iX5 0 rfl rfl 1 (by decide) wd_19 rfl rfl dX5_beginEdit_1 ?_
  refine lv_aload_n (pc := 4) S.1 S.2.1 dX5_beginEdit_4 rfl (lv_at hl 0 rfl) ?_
  refine zz_get (pc := 5) S hV.1 iX5 0 rfl rfl 0 (by decide) wd_15 rfl rfl dX5_beginEdit_5 ?_
  refine zz_callMv (pc := 8) (As := [.ref d]) (rest := []) (wr := [(z, .inr (5, [.ref d, .ref h, .ref b, .ref g, .ref v, .int (nI C), .int (nI V), .int (nI Ac)])), (b, .inr (0, [.ref b1, .ref b2, .ref b3, .int (nI cc), .int (nI tt), .int (nI kk)])), (b1, zA cI 272 sg), (b2, zA cI 4096 rs), (b3, zA cI 8 cd)]) S hV (c_X2_keep l D cI cR h r qa qb qc qd qe hn9 hP hX hY hL nx dp d e1 e2 e3 e4 n P X Y L s.heap.size (by omega) (by omega)) (zuV wd_101 wd_98 wd_99 wd_100 wd_18) 1 rfl q_X2_keep ⟨⟨rfl, rfl⟩, Nat.le_of_ble_eq_true rfl, Nat.le_of_ble_eq_true rfl⟩ [6, 7, 8, 9, 10, 11, 12, 13, 14, 15, 16, 17, 18, 19, 20, 21, 22, 23, 24, 25, 26, 27, 1, 2, 3, 4, 5] [0, 28, 29, 30, 31] rfl rfl (by decide) (by decide) (by decide) 6 rfl rfl rfl rfl rfl (Nat.le_of_ble_eq_true rfl) hl.1 ⟨Nat.zero_le _, Nat.zero_le _⟩ dX5_beginEdit_8 (fun w1 H locs hp hV => ?_)
  obtain rfl := hp
  have hV : zV D cI cR A [(z, .inr (5, [.ref d, .ref h, .ref b, .ref g, .ref v, .int (nI C), .int (nI V), .int (nI Ac)])), (d, .inr (1, [.int (nI n), .ref e1, .ref e2, .ref e3, .ref e4])), (e1, zA cI 8 P), (e2, zA cI 16 X), (e3, zA cI 16 Y), (e4, zA cI 8 L), (h, .inr (2, [.ref r, .int (nI ((nx + 1) % 4)), .int (nI (min (dp + 1) 4))])), (r, zAR cR 4 (rg qa)), (qa 0, .inr (1, [.int (nI ((va_up hn9 nx n) 0)), .ref (qb 0), .ref (qc 0), .ref (qd 0), .ref (qe 0)])), (qb 0, zA cI 8 ((va_up hP nx P) 0)), (qc 0, zA cI 16 ((va_up hX nx X) 0)), (qd 0, zA cI 16 ((va_up hY nx Y) 0)), (qe 0, zA cI 8 ((va_up hL nx L) 0)), (qa 1, .inr (1, [.int (nI ((va_up hn9 nx n) 1)), .ref (qb 1), .ref (qc 1), .ref (qd 1), .ref (qe 1)])), (qb 1, zA cI 8 ((va_up hP nx P) 1)), (qc 1, zA cI 16 ((va_up hX nx X) 1)), (qd 1, zA cI 16 ((va_up hY nx Y) 1)), (qe 1, zA cI 8 ((va_up hL nx L) 1)), (qa 2, .inr (1, [.int (nI ((va_up hn9 nx n) 2)), .ref (qb 2), .ref (qc 2), .ref (qd 2), .ref (qe 2)])), (qb 2, zA cI 8 ((va_up hP nx P) 2)), (qc 2, zA cI 16 ((va_up hX nx X) 2)), (qd 2, zA cI 16 ((va_up hY nx Y) 2)), (qe 2, zA cI 8 ((va_up hL nx L) 2)), (qa 3, .inr (1, [.int (nI ((va_up hn9 nx n) 3)), .ref (qb 3), .ref (qc 3), .ref (qd 3), .ref (qe 3)])), (qb 3, zA cI 8 ((va_up hP nx P) 3)), (qc 3, zA cI 16 ((va_up hX nx X) 3)), (qd 3, zA cI 16 ((va_up hY nx Y) 3)), (qe 3, zA cI 8 ((va_up hL nx L) 3)), (b, .inr (0, [.ref b1, .ref b2, .ref b3, .int (nI cc), .int (nI tt), .int (nI kk)])), (b1, zA cI 272 sg), (b2, zA cI 4096 rs), (b3, zA cI 8 cd)] s H locs := hV.perm [0, 27, 28, 29, 30, 31, 5, 6, 7, 8, 9, 10, 11, 12, 13, 14, 15, 16, 17, 18, 19, 20, 21, 22, 23, 24, 25, 26, 1, 2, 3, 4] (by decide) rfl
  refine lv_aload_n (pc := 11) S.1 S.2.1 dX5_beginEdit_11 rfl (lv_at hl 0 rfl) ?_
  refine zz_get (pc := 12) S hV.1 iX5 0 rfl rfl 2 (by decide) wd_23 rfl rfl dX5_beginEdit_12 ?_
  refine zz_callMv (pc := 15) (As := []) (rest := []) (wr := [(z, .inr (5, [.ref d, .ref h, .ref b, .ref g, .ref v, .int (nI C), .int (nI V), .int (nI Ac)])), (d, .inr (1, [.int (nI n), .ref e1, .ref e2, .ref e3, .ref e4])), (e1, zA cI 8 P), (e2, zA cI 16 X), (e3, zA cI 16 Y), (e4, zA cI 8 L), (h, .inr (2, [.ref r, .int (nI ((nx + 1) % 4)), .int (nI (min (dp + 1) 4))])), (r, zAR cR 4 (rg qa)), (qa 0, .inr (1, [.int (nI ((va_up hn9 nx n) 0)), .ref (qb 0), .ref (qc 0), .ref (qd 0), .ref (qe 0)])), (qb 0, zA cI 8 ((va_up hP nx P) 0)), (qc 0, zA cI 16 ((va_up hX nx X) 0)), (qd 0, zA cI 16 ((va_up hY nx Y) 0)), (qe 0, zA cI 8 ((va_up hL nx L) 0)), (qa 1, .inr (1, [.int (nI ((va_up hn9 nx n) 1)), .ref (qb 1), .ref (qc 1), .ref (qd 1), .ref (qe 1)])), (qb 1, zA cI 8 ((va_up hP nx P) 1)), (qc 1, zA cI 16 ((va_up hX nx X) 1)), (qd 1, zA cI 16 ((va_up hY nx Y) 1)), (qe 1, zA cI 8 ((va_up hL nx L) 1)), (qa 2, .inr (1, [.int (nI ((va_up hn9 nx n) 2)), .ref (qb 2), .ref (qc 2), .ref (qd 2), .ref (qe 2)])), (qb 2, zA cI 8 ((va_up hP nx P) 2)), (qc 2, zA cI 16 ((va_up hX nx X) 2)), (qd 2, zA cI 16 ((va_up hY nx Y) 2)), (qe 2, zA cI 8 ((va_up hL nx L) 2)), (qa 3, .inr (1, [.int (nI ((va_up hn9 nx n) 3)), .ref (qb 3), .ref (qc 3), .ref (qd 3), .ref (qe 3)])), (qb 3, zA cI 8 ((va_up hP nx P) 3)), (qc 3, zA cI 16 ((va_up hX nx X) 3)), (qd 3, zA cI 16 ((va_up hY nx Y) 3)), (qe 3, zA cI 8 ((va_up hL nx L) 3))]) S hV (c_X0_forget l D cI cR b b1 b2 b3 cc tt kk sg rs cd H.size) (zuV wd_123 wd_120 wd_121 wd_122 wd_22) 0 rfl q_X0_forget ⟨⟨rfl, rfl⟩, Nat.le_of_ble_eq_true rfl, Nat.le_of_ble_eq_true rfl⟩ [28, 29, 30, 31] [0, 1, 2, 3, 4, 5, 6, 7, 8, 9, 10, 11, 12, 13, 14, 15, 16, 17, 18, 19, 20, 21, 22, 23, 24, 25, 26, 27] rfl rfl (by decide) (by decide) (by decide) 28 rfl rfl rfl rfl rfl (Nat.le_of_ble_eq_true rfl) hl.1 ⟨Nat.zero_le _, Nat.zero_le _⟩ dX5_beginEdit_15 (fun w1 H locs hp hV => ?_)
  obtain rfl := hp
  have hV : zV D cI cR A [(z, .inr (5, [.ref d, .ref h, .ref b, .ref g, .ref v, .int (nI C), .int (nI V), .int (nI Ac)])), (d, .inr (1, [.int (nI n), .ref e1, .ref e2, .ref e3, .ref e4])), (e1, zA cI 8 P), (e2, zA cI 16 X), (e3, zA cI 16 Y), (e4, zA cI 8 L), (h, .inr (2, [.ref r, .int (nI ((nx + 1) % 4)), .int (nI (min (dp + 1) 4))])), (r, zAR cR 4 (rg qa)), (qa 0, .inr (1, [.int (nI ((va_up hn9 nx n) 0)), .ref (qb 0), .ref (qc 0), .ref (qd 0), .ref (qe 0)])), (qb 0, zA cI 8 ((va_up hP nx P) 0)), (qc 0, zA cI 16 ((va_up hX nx X) 0)), (qd 0, zA cI 16 ((va_up hY nx Y) 0)), (qe 0, zA cI 8 ((va_up hL nx L) 0)), (qa 1, .inr (1, [.int (nI ((va_up hn9 nx n) 1)), .ref (qb 1), .ref (qc 1), .ref (qd 1), .ref (qe 1)])), (qb 1, zA cI 8 ((va_up hP nx P) 1)), (qc 1, zA cI 16 ((va_up hX nx X) 1)), (qd 1, zA cI 16 ((va_up hY nx Y) 1)), (qe 1, zA cI 8 ((va_up hL nx L) 1)), (qa 2, .inr (1, [.int (nI ((va_up hn9 nx n) 2)), .ref (qb 2), .ref (qc 2), .ref (qd 2), .ref (qe 2)])), (qb 2, zA cI 8 ((va_up hP nx P) 2)), (qc 2, zA cI 16 ((va_up hX nx X) 2)), (qd 2, zA cI 16 ((va_up hY nx Y) 2)), (qe 2, zA cI 8 ((va_up hL nx L) 2)), (qa 3, .inr (1, [.int (nI ((va_up hn9 nx n) 3)), .ref (qb 3), .ref (qc 3), .ref (qd 3), .ref (qe 3)])), (qb 3, zA cI 8 ((va_up hP nx P) 3)), (qc 3, zA cI 16 ((va_up hX nx X) 3)), (qd 3, zA cI 16 ((va_up hY nx Y) 3)), (qe 3, zA cI 8 ((va_up hL nx L) 3)), (b, .inr (0, [.ref b1, .ref b2, .ref b3, .int (nI cc), .int (nI tt), .int (nI 0)])), (b1, zA cI 272 sg), (b2, zA cI 4096 rs), (b3, zA cI 8 cd)] s H locs := hV.perm [0, 1, 2, 3, 4, 5, 6, 7, 8, 9, 10, 11, 12, 13, 14, 15, 16, 17, 18, 19, 20, 21, 22, 23, 24, 25, 26, 27, 28, 29, 30, 31] (by decide) rfl
  exact zz_vretM (pc := 18) S hr hlocks hV (rfl) dX5_beginEdit_18
abbrev wm_X5_addStroke : List Cond := .code yX5_addStroke cX5_addStroke 6 (some .int) :: wU
theorem q_X5_addStroke : yX5_addStroke.cls = RX5 ∧ yX5_addStroke.cls ≠ "java/lang/invoke/MethodHandle" ∧ yX5_addStroke.cls ≠ "java/lang/invoke/VarHandle" ∧ (parseMethodDescriptor yX5_addStroke.desc).map (fun d => d.parameters.length) = some 5 := by decide +kernel
set_option maxHeartbeats 4000000 in
set_option maxRecDepth 100000 in
theorem c_X5_addStroke_e (l : Launch) (D : va_G) (cI cR : ClassId) (z h b g v C V Ac : Nat) (d e1 e2 e3 e4 n : Nat) (P X Y L : Nat → Nat) (x1 : Int) (y1 : Int) (x2 : Int) (y2 : Int) (q : Int) (hok : zOk n P X Y L) (hset : zSt C V Ac) (hx1 : zR x1) (hy1 : zR y1) (hx2 : zR x2) (hy2 : zR y2) (hq : zR q) (hbad : ¬ ((0 ≤ x1 ∧ x1 ≤ 99) ∧ (0 ≤ y1 ∧ y1 ≤ 99) ∧ (0 ≤ x2 ∧ x2 ≤ 99) ∧ (0 ≤ y2 ∧ y2 ≤ 99) ∧ (0 ≤ q ∧ q ≤ 3) ∧ ¬ (x1 = x2 ∧ y1 = y2))) : Met l yX5_addStroke wm_X5_addStroke ({ frames := 2, cells := 0, slots := 0, locals := 43 } : Room) (va_Pc [.ref z, .int (zI x1), .int (zI y1), .int (zI x2), .int (zI y2), .int (zI q)] (zW D cI cR [(z, .inr (5, [.ref d, .ref h, .ref b, .ref g, .ref v, .int (nI C), .int (nI V), .int (nI Ac)])), (d, .inr (1, [.int (nI n), .ref e1, .ref e2, .ref e3, .ref e4])), (e1, zA cI 8 P), (e2, zA cI 16 X), (e3, zA cI 16 Y), (e4, zA cI 8 L)])) (vp_Si (fun r => r = zI (-1))) 0 0 (fun _ => False) := by
  refine Met.ofW (cc := cX5_addStroke) (maxL := 6) (ret := (some .int)) (by decide) rfl ?_
  intro p e s m args below meth c s₁ B hml hv
  obtain ⟨rfl, hG⟩ := hv
  have S : CallFix p m c cX5_addStroke 6 s ([.ref z, .int (zI x1), .int (zI y1), .int (zI x2), .int (zI y2), .int (zI q)] : List Value).toArray wU RX5 := ⟨B.exec, B.bytes, hml, findClass_of_methodNamed B.named, fun w h => atoms_spec (ws := wm_X5_addStroke) B.pre w (List.mem_cons_of_mem _ h)⟩
  have hr := B.returns
  have hlocks := B.notSynchronized
  have hG : zG D cI cR [(z, .inr (5, [.ref d, .ref h, .ref b, .ref g, .ref v, .int (nI C), .int (nI V), .int (nI Ac)])), (d, .inr (1, [.int (nI n), .ref e1, .ref e2, .ref e3, .ref e4])), (e1, zA cI 8 P), (e2, zA cI 16 X), (e3, zA cI 16 Y), (e4, zA cI 8 L)] s s.heap := hG
  have hl := lv_entry ([.ref z, .int (zI x1), .int (zI y1), .int (zI x2), .int (zI y2), .int (zI q)]) (n := 6) (Nat.le_of_ble_eq_true rfl)
  rw [lg_entry_eq]
  generalize (lg_sl ([.ref z, .int (zI x1), .int (zI y1), .int (zI x2), .int (zI y2), .int (zI q)]) ++ List.replicate (6 - (lg_sl ([.ref z, .int (zI x1), .int (zI y1), .int (zI x2), .int (zI y2), .int (zI q)])).length) Slot.unset).toArray = ls at hl ⊢
  have hl : lv_has ls 6 [(0, .ref z), (1, .int (zI x1)), (2, .int (zI y1)), (3, .int (zI x2)), (4, .int (zI y2)), (5, .int (zI q))] := hl
  have r_hx1 := id hx1
  unfold zR at r_hx1
  have r_hy1 := id hy1
  unfold zR at r_hy1
  have r_hx2 := id hx2
  unfold zR at r_hx2
  have r_hy2 := id hy2
  unfold zR at r_hy2
  have r_hq := id hq
  unfold zR at r_hq
  obtain ⟨⟨hn, hPf, hXY⟩, hLf, hinj⟩ := id hok
  obtain ⟨hC, hV9, hA9⟩ := id hset
  refine lv_iload_n (pc := 0) S.1 S.2.1 dX5_addStroke_0 rfl (lv_at hl 1 rfl) ?_
  refine lv_iload_n (pc := 1) S.1 S.2.1 dX5_addStroke_1 rfl (lv_at hl 2 rfl) ?_
  refine zz_callS (pc := 2) (As := [.int (zI x1), .int (zI y1)]) (rest := []) S (c_X5_isPoint l D cI cR x1 y1 (by unfold zR; omega) (by unfold zR; omega)) (zuS wd_82 wd_80 wd_81 wd_2) 2 rfl q_X5_isPoint.2 ⟨⟨rfl, rfl⟩, Nat.le_of_ble_eq_true rfl, Nat.le_of_ble_eq_true rfl⟩ rfl rfl (Nat.le_of_ble_eq_true rfl) hl.1 ⟨Nat.zero_le _, Nat.zero_le _⟩ dX5_addStroke_2 ?_
  refine zz_ifb_eq (pc := 5) (tgt := 36) S dX5_addStroke_5 (by decide) (fun c5 => ?_) (fun c5 => ?_)
  · refine zz_iconst (pc := 36) (v := zI (-1)) S dX5_addStroke_36 rfl ?_
    exact zz_iretS (pc := 37) S hr hlocks (rfl) dX5_addStroke_37
  · refine lv_iload_n (pc := 8) S.1 S.2.1 dX5_addStroke_8 rfl (lv_at hl 3 rfl) ?_
    refine lv_iload (pc := 9) S.1 S.2.1 dX5_addStroke_9 (lv_at hl 4 rfl) ?_
    refine zz_callS (pc := 11) (As := [.int (zI x2), .int (zI y2)]) (rest := []) S (c_X5_isPoint l D cI cR x2 y2 (by unfold zR; omega) (by unfold zR; omega)) (zuS wd_82 wd_80 wd_81 wd_2) 2 rfl q_X5_isPoint.2 ⟨⟨rfl, rfl⟩, Nat.le_of_ble_eq_true rfl, Nat.le_of_ble_eq_true rfl⟩ rfl rfl (Nat.le_of_ble_eq_true rfl) hl.1 ⟨Nat.zero_le _, Nat.zero_le _⟩ dX5_addStroke_11 ?_
    refine zz_ifb_eq (pc := 14) (tgt := 36) S dX5_addStroke_14 (by decide) (fun c14 => ?_) (fun c14 => ?_)
    · refine zz_iconst (pc := 36) (v := zI (-1)) S dX5_addStroke_36 rfl ?_
      exact zz_iretS (pc := 37) S hr hlocks (rfl) dX5_addStroke_37
    · refine lv_iload (pc := 17) S.1 S.2.1 dX5_addStroke_17 (lv_at hl 5 rfl) ?_
      refine zz_callS (pc := 19) (As := [.int (zI q)]) (rest := []) S (c_X5_isPen l D cI cR q (by unfold zR; omega)) (zuS wd_88 wd_86 wd_87 wd_2) 1 rfl q_X5_isPen.2 ⟨⟨rfl, rfl⟩, Nat.le_of_ble_eq_true rfl, Nat.le_of_ble_eq_true rfl⟩ rfl rfl (Nat.le_of_ble_eq_true rfl) hl.1 ⟨Nat.zero_le _, Nat.zero_le _⟩ dX5_addStroke_19 ?_
      refine zz_ifb_eq (pc := 22) (tgt := 36) S dX5_addStroke_22 (by decide) (fun c22 => ?_) (fun c22 => ?_)
      · refine zz_iconst (pc := 36) (v := zI (-1)) S dX5_addStroke_36 rfl ?_
        exact zz_iretS (pc := 37) S hr hlocks (rfl) dX5_addStroke_37
      · refine lv_iload_n (pc := 25) S.1 S.2.1 dX5_addStroke_25 rfl (lv_at hl 1 rfl) ?_
        refine lv_iload_n (pc := 26) S.1 S.2.1 dX5_addStroke_26 rfl (lv_at hl 3 rfl) ?_
        refine zz_icmp_ne (pc := 27) (tgt := 38) S dX5_addStroke_27 (by decide) (zI_eq (a := x1) (b := x2) (by unfold zR; omega) (by unfold zR; omega)) (fun c27 => ?_) (fun c27 => ?_)
        · exfalso; omega
        · refine lv_iload_n (pc := 30) S.1 S.2.1 dX5_addStroke_30 rfl (lv_at hl 2 rfl) ?_
          refine lv_iload (pc := 31) S.1 S.2.1 dX5_addStroke_31 (lv_at hl 4 rfl) ?_
          refine zz_icmp_ne (pc := 33) (tgt := 38) S dX5_addStroke_33 (by decide) (zI_eq (a := y1) (b := y2) (by unfold zR; omega) (by unfold zR; omega)) (fun c33 => ?_) (fun c33 => ?_)
          · exfalso; omega
          · refine zz_iconst (pc := 36) (v := zI (-1)) S dX5_addStroke_36 rfl ?_
            exact zz_iretS (pc := 37) S hr hlocks (rfl) dX5_addStroke_37
set_option maxHeartbeats 4000000 in
set_option maxRecDepth 100000 in
theorem c_X5_addStroke_f (l : Launch) (D : va_G) (cI cR : ClassId) (z h b g v C V Ac : Nat) (d e1 e2 e3 e4 n : Nat) (P X Y L : Nat → Nat) (x1 : Nat) (y1 : Nat) (x2 : Nat) (y2 : Nat) (q : Nat) (hok : zOk n P X Y L) (hset : zSt C V Ac) (hgood : (x1 ≤ 99 ∧ y1 ≤ 99) ∧ (x2 ≤ 99 ∧ y2 ≤ 99) ∧ q ≤ 3 ∧ ¬ (x1 = x2 ∧ y1 = y2)) (hfull : ¬ n < 8) : Met l yX5_addStroke wm_X5_addStroke ({ frames := 2, cells := 0, slots := 0, locals := 43 } : Room) (va_Pc [.ref z, .int (nI x1), .int (nI y1), .int (nI x2), .int (nI y2), .int (nI q)] (zW D cI cR [(z, .inr (5, [.ref d, .ref h, .ref b, .ref g, .ref v, .int (nI C), .int (nI V), .int (nI Ac)])), (d, .inr (1, [.int (nI n), .ref e1, .ref e2, .ref e3, .ref e4])), (e1, zA cI 8 P), (e2, zA cI 16 X), (e3, zA cI 16 Y), (e4, zA cI 8 L)])) (vp_Si (fun r => r = zI (-2))) 0 0 (fun _ => False) := by
  refine Met.ofW (cc := cX5_addStroke) (maxL := 6) (ret := (some .int)) (by decide) rfl ?_
  intro p e s m args below meth c s₁ B hml hv
  obtain ⟨rfl, hG⟩ := hv
  have S : CallFix p m c cX5_addStroke 6 s ([.ref z, .int (nI x1), .int (nI y1), .int (nI x2), .int (nI y2), .int (nI q)] : List Value).toArray wU RX5 := ⟨B.exec, B.bytes, hml, findClass_of_methodNamed B.named, fun w h => atoms_spec (ws := wm_X5_addStroke) B.pre w (List.mem_cons_of_mem _ h)⟩
  have hr := B.returns
  have hlocks := B.notSynchronized
  have hG : zG D cI cR [(z, .inr (5, [.ref d, .ref h, .ref b, .ref g, .ref v, .int (nI C), .int (nI V), .int (nI Ac)])), (d, .inr (1, [.int (nI n), .ref e1, .ref e2, .ref e3, .ref e4])), (e1, zA cI 8 P), (e2, zA cI 16 X), (e3, zA cI 16 Y), (e4, zA cI 8 L)] s s.heap := hG
  have hl := lv_entry ([.ref z, .int (nI x1), .int (nI y1), .int (nI x2), .int (nI y2), .int (nI q)]) (n := 6) (Nat.le_of_ble_eq_true rfl)
  rw [lg_entry_eq]
  generalize (lg_sl ([.ref z, .int (nI x1), .int (nI y1), .int (nI x2), .int (nI y2), .int (nI q)]) ++ List.replicate (6 - (lg_sl ([.ref z, .int (nI x1), .int (nI y1), .int (nI x2), .int (nI y2), .int (nI q)])).length) Slot.unset).toArray = ls at hl ⊢
  have hl : lv_has ls 6 [(0, .ref z), (1, .int (nI x1)), (2, .int (nI y1)), (3, .int (nI x2)), (4, .int (nI y2)), (5, .int (nI q))] := hl
  obtain ⟨⟨hn, hPf, hXY⟩, hLf, hinj⟩ := id hok
  obtain ⟨hC, hV9, hA9⟩ := id hset
  refine lv_iload_n (pc := 0) S.1 S.2.1 dX5_addStroke_0 rfl (lv_at hl 1 rfl) ?_
  refine lv_iload_n (pc := 1) S.1 S.2.1 dX5_addStroke_1 rfl (lv_at hl 2 rfl) ?_
  refine zz_callS (pc := 2) (As := [.int (zI ((x1 : Nat) : Int)), .int (zI ((y1 : Nat) : Int))]) (rest := []) S (c_X5_isPoint l D cI cR ((x1 : Nat) : Int) ((y1 : Nat) : Int) (by unfold zR; omega) (by unfold zR; omega)) (zuS wd_82 wd_80 wd_81 wd_2) 2 rfl q_X5_isPoint.2 ⟨⟨rfl, rfl⟩, Nat.le_of_ble_eq_true rfl, Nat.le_of_ble_eq_true rfl⟩ rfl rfl (Nat.le_of_ble_eq_true rfl) hl.1 ⟨Nat.zero_le _, Nat.zero_le _⟩ dX5_addStroke_2 ?_
  refine zz_ifb_eq (pc := 5) (tgt := 36) S dX5_addStroke_5 (by decide) (fun c5 => ?_) (fun c5 => ?_)
  · exfalso; omega
  · refine lv_iload_n (pc := 8) S.1 S.2.1 dX5_addStroke_8 rfl (lv_at hl 3 rfl) ?_
    refine lv_iload (pc := 9) S.1 S.2.1 dX5_addStroke_9 (lv_at hl 4 rfl) ?_
    refine zz_callS (pc := 11) (As := [.int (zI ((x2 : Nat) : Int)), .int (zI ((y2 : Nat) : Int))]) (rest := []) S (c_X5_isPoint l D cI cR ((x2 : Nat) : Int) ((y2 : Nat) : Int) (by unfold zR; omega) (by unfold zR; omega)) (zuS wd_82 wd_80 wd_81 wd_2) 2 rfl q_X5_isPoint.2 ⟨⟨rfl, rfl⟩, Nat.le_of_ble_eq_true rfl, Nat.le_of_ble_eq_true rfl⟩ rfl rfl (Nat.le_of_ble_eq_true rfl) hl.1 ⟨Nat.zero_le _, Nat.zero_le _⟩ dX5_addStroke_11 ?_
    refine zz_ifb_eq (pc := 14) (tgt := 36) S dX5_addStroke_14 (by decide) (fun c14 => ?_) (fun c14 => ?_)
    · exfalso; omega
    · refine lv_iload (pc := 17) S.1 S.2.1 dX5_addStroke_17 (lv_at hl 5 rfl) ?_
      refine zz_callS (pc := 19) (As := [.int (zI ((q : Nat) : Int))]) (rest := []) S (c_X5_isPen l D cI cR ((q : Nat) : Int) (by unfold zR; omega)) (zuS wd_88 wd_86 wd_87 wd_2) 1 rfl q_X5_isPen.2 ⟨⟨rfl, rfl⟩, Nat.le_of_ble_eq_true rfl, Nat.le_of_ble_eq_true rfl⟩ rfl rfl (Nat.le_of_ble_eq_true rfl) hl.1 ⟨Nat.zero_le _, Nat.zero_le _⟩ dX5_addStroke_19 ?_
      refine zz_ifb_eq (pc := 22) (tgt := 36) S dX5_addStroke_22 (by decide) (fun c22 => ?_) (fun c22 => ?_)
      · exfalso; omega
      · refine lv_iload_n (pc := 25) S.1 S.2.1 dX5_addStroke_25 rfl (lv_at hl 1 rfl) ?_
        refine lv_iload_n (pc := 26) S.1 S.2.1 dX5_addStroke_26 rfl (lv_at hl 3 rfl) ?_
        refine zz_icmp_ne (pc := 27) (tgt := 38) S dX5_addStroke_27 (by decide) (n_eq (by omega) (by omega)) (fun c27 => ?_) (fun c27 => ?_)
        · refine lv_aload_n (pc := 38) S.1 S.2.1 dX5_addStroke_38 rfl (lv_at hl 0 rfl) ?_
          refine zz_get (pc := 39) S hG iX5 0 rfl rfl 0 (by decide) wd_15 rfl rfl dX5_addStroke_39 ?_
          refine zz_callV (pc := 42) (As := []) (rest := []) S (c_X1_size l D cI cR d e1 e2 e3 e4 n P X Y L hok.1) (zuV wd_92 wd_89 wd_90 wd_91 wd_14) 0 rfl q_X1_size ⟨⟨rfl, rfl⟩, Nat.le_of_ble_eq_true rfl, Nat.le_of_ble_eq_true rfl⟩ hG [1, 2, 3, 4, 5] rfl 1 rfl rfl rfl rfl rfl (Nat.le_of_ble_eq_true rfl) hl.1 ⟨Nat.zero_le _, Nat.zero_le _⟩ dX5_addStroke_42 ?_
          refine zz_bipush (pc := 45) (v := nI 8) S dX5_addStroke_45 rfl ?_
          refine zz_icmp_lt (pc := 47) (tgt := 53) S dX5_addStroke_47 (by decide) (n_lt (by omega) (by omega)) (fun c47 => ?_) (fun c47 => ?_)
          · exfalso; omega
          · refine zz_bipush (pc := 50) (v := zI (-2)) S dX5_addStroke_50 rfl ?_
            exact zz_iretS (pc := 52) S hr hlocks (rfl) dX5_addStroke_52
        · refine lv_iload_n (pc := 30) S.1 S.2.1 dX5_addStroke_30 rfl (lv_at hl 2 rfl) ?_
          refine lv_iload (pc := 31) S.1 S.2.1 dX5_addStroke_31 (lv_at hl 4 rfl) ?_
          refine zz_icmp_ne (pc := 33) (tgt := 38) S dX5_addStroke_33 (by decide) (n_eq (by omega) (by omega)) (fun c33 => ?_) (fun c33 => ?_)
          · refine lv_aload_n (pc := 38) S.1 S.2.1 dX5_addStroke_38 rfl (lv_at hl 0 rfl) ?_
            refine zz_get (pc := 39) S hG iX5 0 rfl rfl 0 (by decide) wd_15 rfl rfl dX5_addStroke_39 ?_
            refine zz_callV (pc := 42) (As := []) (rest := []) S (c_X1_size l D cI cR d e1 e2 e3 e4 n P X Y L hok.1) (zuV wd_92 wd_89 wd_90 wd_91 wd_14) 0 rfl q_X1_size ⟨⟨rfl, rfl⟩, Nat.le_of_ble_eq_true rfl, Nat.le_of_ble_eq_true rfl⟩ hG [1, 2, 3, 4, 5] rfl 1 rfl rfl rfl rfl rfl (Nat.le_of_ble_eq_true rfl) hl.1 ⟨Nat.zero_le _, Nat.zero_le _⟩ dX5_addStroke_42 ?_
            refine zz_bipush (pc := 45) (v := nI 8) S dX5_addStroke_45 rfl ?_
            refine zz_icmp_lt (pc := 47) (tgt := 53) S dX5_addStroke_47 (by decide) (n_lt (by omega) (by omega)) (fun c47 => ?_) (fun c47 => ?_)
            · exfalso; omega
            · refine zz_bipush (pc := 50) (v := zI (-2)) S dX5_addStroke_50 rfl ?_
              exact zz_iretS (pc := 52) S hr hlocks (rfl) dX5_addStroke_52
          · exfalso; omega
set_option maxHeartbeats 4000000 in
set_option maxRecDepth 100000 in
theorem c_X5_addStroke_k (l : Launch) (D : va_G) (cI cR : ClassId) (z h b g v C V Ac : Nat) (d e1 e2 e3 e4 n : Nat) (P X Y L : Nat → Nat) (r : Nat) (qa qb qc qd qe : Nat → Nat) (hn9 : Nat → Nat) (hP hX hY hL : Nat → Nat → Nat) (nx dp : Nat) (b1 b2 b3 cc tt kk : Nat) (sg rs cd : Nat → Nat) (x1 : Nat) (y1 : Nat) (x2 : Nat) (y2 : Nat) (q : Nat) (sz : Nat) (hok : zOk n P X Y L) (hset : zSt C V Ac) (hnx : nx < 4) (hdp : dp ≤ 4) (hgood : (x1 ≤ 99 ∧ y1 ≤ 99) ∧ (x2 ≤ 99 ∧ y2 ≤ 99) ∧ q ≤ 3 ∧ ¬ (x1 = x2 ∧ y1 = y2)) (hroom : n < 8) : Met l yX5_addStroke wm_X5_addStroke ({ frames := 4, cells := 0, slots := 0, locals := 81 } : Room) (va_Pc [.ref z, .int (nI x1), .int (nI y1), .int (nI x2), .int (nI y2), .int (nI q)] (zX D cI cR [(z, .inr (5, [.ref d, .ref h, .ref b, .ref g, .ref v, .int (nI C), .int (nI V), .int (nI Ac)])), (d, .inr (1, [.int (nI n), .ref e1, .ref e2, .ref e3, .ref e4])), (e1, zA cI 8 P), (e2, zA cI 16 X), (e3, zA cI 16 Y), (e4, zA cI 8 L), (h, .inr (2, [.ref r, .int (nI nx), .int (nI dp)])), (r, zAR cR 4 (rg qa)), (qa 0, .inr (1, [.int (nI (hn9 0)), .ref (qb 0), .ref (qc 0), .ref (qd 0), .ref (qe 0)])), (qb 0, zA cI 8 (hP 0)), (qc 0, zA cI 16 (hX 0)), (qd 0, zA cI 16 (hY 0)), (qe 0, zA cI 8 (hL 0)), (qa 1, .inr (1, [.int (nI (hn9 1)), .ref (qb 1), .ref (qc 1), .ref (qd 1), .ref (qe 1)])), (qb 1, zA cI 8 (hP 1)), (qc 1, zA cI 16 (hX 1)), (qd 1, zA cI 16 (hY 1)), (qe 1, zA cI 8 (hL 1)), (qa 2, .inr (1, [.int (nI (hn9 2)), .ref (qb 2), .ref (qc 2), .ref (qd 2), .ref (qe 2)])), (qb 2, zA cI 8 (hP 2)), (qc 2, zA cI 16 (hX 2)), (qd 2, zA cI 16 (hY 2)), (qe 2, zA cI 8 (hL 2)), (qa 3, .inr (1, [.int (nI (hn9 3)), .ref (qb 3), .ref (qc 3), .ref (qd 3), .ref (qe 3)])), (qb 3, zA cI 8 (hP 3)), (qc 3, zA cI 16 (hX 3)), (qd 3, zA cI 16 (hY 3)), (qe 3, zA cI 8 (hL 3)), (b, .inr (0, [.ref b1, .ref b2, .ref b3, .int (nI cc), .int (nI tt), .int (nI kk)])), (b1, zA cI 272 sg), (b2, zA cI 4096 rs), (b3, zA cI 8 cd)] sz)) (zQi D cI cR (va_A [(z, .inr (5, [.ref d, .ref h, .ref b, .ref g, .ref v, .int (nI C), .int (nI V), .int (nI Ac)])), (d, .inr (1, [.int (nI n), .ref e1, .ref e2, .ref e3, .ref e4])), (e1, zA cI 8 P), (e2, zA cI 16 X), (e3, zA cI 16 Y), (e4, zA cI 8 L), (h, .inr (2, [.ref r, .int (nI nx), .int (nI dp)])), (r, zAR cR 4 (rg qa)), (qa 0, .inr (1, [.int (nI (hn9 0)), .ref (qb 0), .ref (qc 0), .ref (qd 0), .ref (qe 0)])), (qb 0, zA cI 8 (hP 0)), (qc 0, zA cI 16 (hX 0)), (qd 0, zA cI 16 (hY 0)), (qe 0, zA cI 8 (hL 0)), (qa 1, .inr (1, [.int (nI (hn9 1)), .ref (qb 1), .ref (qc 1), .ref (qd 1), .ref (qe 1)])), (qb 1, zA cI 8 (hP 1)), (qc 1, zA cI 16 (hX 1)), (qd 1, zA cI 16 (hY 1)), (qe 1, zA cI 8 (hL 1)), (qa 2, .inr (1, [.int (nI (hn9 2)), .ref (qb 2), .ref (qc 2), .ref (qd 2), .ref (qe 2)])), (qb 2, zA cI 8 (hP 2)), (qc 2, zA cI 16 (hX 2)), (qd 2, zA cI 16 (hY 2)), (qe 2, zA cI 8 (hL 2)), (qa 3, .inr (1, [.int (nI (hn9 3)), .ref (qb 3), .ref (qc 3), .ref (qd 3), .ref (qe 3)])), (qb 3, zA cI 8 (hP 3)), (qc 3, zA cI 16 (hX 3)), (qd 3, zA cI 16 (hY 3)), (qe 3, zA cI 8 (hL 3)), (b, .inr (0, [.ref b1, .ref b2, .ref b3, .int (nI cc), .int (nI tt), .int (nI kk)])), (b1, zA cI 272 sg), (b2, zA cI 4096 rs), (b3, zA cI 8 cd)] sz) (fun r0 w => (w = [(z, .inr (5, [.ref d, .ref h, .ref b, .ref g, .ref v, .int (nI C), .int (nI V), .int (nI Ac)])), (d, .inr (1, [.int (nI (n + 1)), .ref e1, .ref e2, .ref e3, .ref e4])), (e1, zA cI 8 (va_up P n q)), (e2, zA cI 16 (va_up (va_up X (2 * n) x1) (2 * n + 1) x2)), (e3, zA cI 16 (va_up (va_up Y (2 * n) y1) (2 * n + 1) y2)), (e4, zA cI 8 (va_up L n (2 * n))), (h, .inr (2, [.ref r, .int (nI ((nx + 1) % 4)), .int (nI (min (dp + 1) 4))])), (r, zAR cR 4 (rg qa)), (qa 0, .inr (1, [.int (nI ((va_up hn9 nx n) 0)), .ref (qb 0), .ref (qc 0), .ref (qd 0), .ref (qe 0)])), (qb 0, zA cI 8 ((va_up hP nx P) 0)), (qc 0, zA cI 16 ((va_up hX nx X) 0)), (qd 0, zA cI 16 ((va_up hY nx Y) 0)), (qe 0, zA cI 8 ((va_up hL nx L) 0)), (qa 1, .inr (1, [.int (nI ((va_up hn9 nx n) 1)), .ref (qb 1), .ref (qc 1), .ref (qd 1), .ref (qe 1)])), (qb 1, zA cI 8 ((va_up hP nx P) 1)), (qc 1, zA cI 16 ((va_up hX nx X) 1)), (qd 1, zA cI 16 ((va_up hY nx Y) 1)), (qe 1, zA cI 8 ((va_up hL nx L) 1)), (qa 2, .inr (1, [.int (nI ((va_up hn9 nx n) 2)), .ref (qb 2), .ref (qc 2), .ref (qd 2), .ref (qe 2)])), (qb 2, zA cI 8 ((va_up hP nx P) 2)), (qc 2, zA cI 16 ((va_up hX nx X) 2)), (qd 2, zA cI 16 ((va_up hY nx Y) 2)), (qe 2, zA cI 8 ((va_up hL nx L) 2)), (qa 3, .inr (1, [.int (nI ((va_up hn9 nx n) 3)), .ref (qb 3), .ref (qc 3), .ref (qd 3), .ref (qe 3)])), (qb 3, zA cI 8 ((va_up hP nx P) 3)), (qc 3, zA cI 16 ((va_up hX nx X) 3)), (qd 3, zA cI 16 ((va_up hY nx Y) 3)), (qe 3, zA cI 8 ((va_up hL nx L) 3)), (b, .inr (0, [.ref b1, .ref b2, .ref b3, .int (nI cc), .int (nI tt), .int (nI 0)])), (b1, zA cI 272 sg), (b2, zA cI 4096 rs), (b3, zA cI 8 cd)] ∧ r0 = nI n))) 0 0 (va_A [(z, .inr (5, [.ref d, .ref h, .ref b, .ref g, .ref v, .int (nI C), .int (nI V), .int (nI Ac)])), (d, .inr (1, [.int (nI n), .ref e1, .ref e2, .ref e3, .ref e4])), (e1, zA cI 8 P), (e2, zA cI 16 X), (e3, zA cI 16 Y), (e4, zA cI 8 L), (h, .inr (2, [.ref r, .int (nI nx), .int (nI dp)])), (r, zAR cR 4 (rg qa)), (qa 0, .inr (1, [.int (nI (hn9 0)), .ref (qb 0), .ref (qc 0), .ref (qd 0), .ref (qe 0)])), (qb 0, zA cI 8 (hP 0)), (qc 0, zA cI 16 (hX 0)), (qd 0, zA cI 16 (hY 0)), (qe 0, zA cI 8 (hL 0)), (qa 1, .inr (1, [.int (nI (hn9 1)), .ref (qb 1), .ref (qc 1), .ref (qd 1), .ref (qe 1)])), (qb 1, zA cI 8 (hP 1)), (qc 1, zA cI 16 (hX 1)), (qd 1, zA cI 16 (hY 1)), (qe 1, zA cI 8 (hL 1)), (qa 2, .inr (1, [.int (nI (hn9 2)), .ref (qb 2), .ref (qc 2), .ref (qd 2), .ref (qe 2)])), (qb 2, zA cI 8 (hP 2)), (qc 2, zA cI 16 (hX 2)), (qd 2, zA cI 16 (hY 2)), (qe 2, zA cI 8 (hL 2)), (qa 3, .inr (1, [.int (nI (hn9 3)), .ref (qb 3), .ref (qc 3), .ref (qd 3), .ref (qe 3)])), (qb 3, zA cI 8 (hP 3)), (qc 3, zA cI 16 (hX 3)), (qd 3, zA cI 16 (hY 3)), (qe 3, zA cI 8 (hL 3)), (b, .inr (0, [.ref b1, .ref b2, .ref b3, .int (nI cc), .int (nI tt), .int (nI kk)])), (b1, zA cI 272 sg), (b2, zA cI 4096 rs), (b3, zA cI 8 cd)] sz) := by
  refine Met.ofW (cc := cX5_addStroke) (maxL := 6) (ret := (some .int)) (by decide) rfl ?_
  intro p e s m args below meth c s₁ B hml hv
  obtain ⟨rfl, hsz, hG, hD0⟩ := hv
  have S : CallFix p m c cX5_addStroke 6 s ([.ref z, .int (nI x1), .int (nI y1), .int (nI x2), .int (nI y2), .int (nI q)] : List Value).toArray wU RX5 := ⟨B.exec, B.bytes, hml, findClass_of_methodNamed B.named, fun w h => atoms_spec (ws := wm_X5_addStroke) B.pre w (List.mem_cons_of_mem _ h)⟩
  have hr := B.returns
  have hlocks := B.notSynchronized
  subst hsz
  have hD := hD0.self (sz := s.heap.size)
  generalize hAe : va_A [(z, .inr (5, [.ref d, .ref h, .ref b, .ref g, .ref v, .int (nI C), .int (nI V), .int (nI Ac)])), (d, .inr (1, [.int (nI n), .ref e1, .ref e2, .ref e3, .ref e4])), (e1, zA cI 8 P), (e2, zA cI 16 X), (e3, zA cI 16 Y), (e4, zA cI 8 L), (h, .inr (2, [.ref r, .int (nI nx), .int (nI dp)])), (r, zAR cR 4 (rg qa)), (qa 0, .inr (1, [.int (nI (hn9 0)), .ref (qb 0), .ref (qc 0), .ref (qd 0), .ref (qe 0)])), (qb 0, zA cI 8 (hP 0)), (qc 0, zA cI 16 (hX 0)), (qd 0, zA cI 16 (hY 0)), (qe 0, zA cI 8 (hL 0)), (qa 1, .inr (1, [.int (nI (hn9 1)), .ref (qb 1), .ref (qc 1), .ref (qd 1), .ref (qe 1)])), (qb 1, zA cI 8 (hP 1)), (qc 1, zA cI 16 (hX 1)), (qd 1, zA cI 16 (hY 1)), (qe 1, zA cI 8 (hL 1)), (qa 2, .inr (1, [.int (nI (hn9 2)), .ref (qb 2), .ref (qc 2), .ref (qd 2), .ref (qe 2)])), (qb 2, zA cI 8 (hP 2)), (qc 2, zA cI 16 (hX 2)), (qd 2, zA cI 16 (hY 2)), (qe 2, zA cI 8 (hL 2)), (qa 3, .inr (1, [.int (nI (hn9 3)), .ref (qb 3), .ref (qc 3), .ref (qd 3), .ref (qe 3)])), (qb 3, zA cI 8 (hP 3)), (qc 3, zA cI 16 (hX 3)), (qd 3, zA cI 16 (hY 3)), (qe 3, zA cI 8 (hL 3)), (b, .inr (0, [.ref b1, .ref b2, .ref b3, .int (nI cc), .int (nI tt), .int (nI kk)])), (b1, zA cI 272 sg), (b2, zA cI 4096 rs), (b3, zA cI 8 cd)] s.heap.size = A at hD ⊢
  have hV : zV D cI cR A [(z, .inr (5, [.ref d, .ref h, .ref b, .ref g, .ref v, .int (nI C), .int (nI V), .int (nI Ac)])), (d, .inr (1, [.int (nI n), .ref e1, .ref e2, .ref e3, .ref e4])), (e1, zA cI 8 P), (e2, zA cI 16 X), (e3, zA cI 16 Y), (e4, zA cI 8 L), (h, .inr (2, [.ref r, .int (nI nx), .int (nI dp)])), (r, zAR cR 4 (rg qa)), (qa 0, .inr (1, [.int (nI (hn9 0)), .ref (qb 0), .ref (qc 0), .ref (qd 0), .ref (qe 0)])), (qb 0, zA cI 8 (hP 0)), (qc 0, zA cI 16 (hX 0)), (qd 0, zA cI 16 (hY 0)), (qe 0, zA cI 8 (hL 0)), (qa 1, .inr (1, [.int (nI (hn9 1)), .ref (qb 1), .ref (qc 1), .ref (qd 1), .ref (qe 1)])), (qb 1, zA cI 8 (hP 1)), (qc 1, zA cI 16 (hX 1)), (qd 1, zA cI 16 (hY 1)), (qe 1, zA cI 8 (hL 1)), (qa 2, .inr (1, [.int (nI (hn9 2)), .ref (qb 2), .ref (qc 2), .ref (qd 2), .ref (qe 2)])), (qb 2, zA cI 8 (hP 2)), (qc 2, zA cI 16 (hX 2)), (qd 2, zA cI 16 (hY 2)), (qe 2, zA cI 8 (hL 2)), (qa 3, .inr (1, [.int (nI (hn9 3)), .ref (qb 3), .ref (qc 3), .ref (qd 3), .ref (qe 3)])), (qb 3, zA cI 8 (hP 3)), (qc 3, zA cI 16 (hX 3)), (qd 3, zA cI 16 (hY 3)), (qe 3, zA cI 8 (hL 3)), (b, .inr (0, [.ref b1, .ref b2, .ref b3, .int (nI cc), .int (nI tt), .int (nI kk)])), (b1, zA cI 272 sg), (b2, zA cI 4096 rs), (b3, zA cI 8 cd)] s s.heap [] := ⟨hG, hD, va_S.rf, fun q h => by rw [← hAe]; exact Or.inr h⟩
  have hl := lv_entry ([.ref z, .int (nI x1), .int (nI y1), .int (nI x2), .int (nI y2), .int (nI q)]) (n := 6) (Nat.le_of_ble_eq_true rfl)
  rw [lg_entry_eq]
  generalize (lg_sl ([.ref z, .int (nI x1), .int (nI y1), .int (nI x2), .int (nI y2), .int (nI q)]) ++ List.replicate (6 - (lg_sl ([.ref z, .int (nI x1), .int (nI y1), .int (nI x2), .int (nI y2), .int (nI q)])).length) Slot.unset).toArray = ls at hl ⊢
  have hl : lv_has ls 6 [(0, .ref z), (1, .int (nI x1)), (2, .int (nI y1)), (3, .int (nI x2)), (4, .int (nI y2)), (5, .int (nI q))] := hl
  obtain ⟨⟨hn, hPf, hXY⟩, hLf, hinj⟩ := id hok
  obtain ⟨hC, hV9, hA9⟩ := id hset
  refine lv_iload_n (pc := 0) S.1 S.2.1 dX5_addStroke_0 rfl (lv_at hl 1 rfl) ?_
  refine lv_iload_n (pc := 1) S.1 S.2.1 dX5_addStroke_1 rfl (lv_at hl 2 rfl) ?_
  refine zz_callS (pc := 2) (As := [.int (zI ((x1 : Nat) : Int)), .int (zI ((y1 : Nat) : Int))]) (rest := []) S (c_X5_isPoint l D cI cR ((x1 : Nat) : Int) ((y1 : Nat) : Int) (by unfold zR; omega) (by unfold zR; omega)) (zuS wd_82 wd_80 wd_81 wd_2) 2 rfl q_X5_isPoint.2 ⟨⟨rfl, rfl⟩, Nat.le_of_ble_eq_true rfl, Nat.le_of_ble_eq_true rfl⟩ rfl rfl (Nat.le_of_ble_eq_true rfl) hl.1 ⟨Nat.zero_le _, Nat.zero_le _⟩ dX5_addStroke_2 ?_
  refine zz_ifb_eq (pc := 5) (tgt := 36) S dX5_addStroke_5 (by decide) (fun c5 => ?_) (fun c5 => ?_)
  · exfalso; omega
  · refine lv_iload_n (pc := 8) S.1 S.2.1 dX5_addStroke_8 rfl (lv_at hl 3 rfl) ?_
    refine lv_iload (pc := 9) S.1 S.2.1 dX5_addStroke_9 (lv_at hl 4 rfl) ?_
    refine zz_callS (pc := 11) (As := [.int (zI ((x2 : Nat) : Int)), .int (zI ((y2 : Nat) : Int))]) (rest := []) S (c_X5_isPoint l D cI cR ((x2 : Nat) : Int) ((y2 : Nat) : Int) (by unfold zR; omega) (by unfold zR; omega)) (zuS wd_82 wd_80 wd_81 wd_2) 2 rfl q_X5_isPoint.2 ⟨⟨rfl, rfl⟩, Nat.le_of_ble_eq_true rfl, Nat.le_of_ble_eq_true rfl⟩ rfl rfl (Nat.le_of_ble_eq_true rfl) hl.1 ⟨Nat.zero_le _, Nat.zero_le _⟩ dX5_addStroke_11 ?_
    refine zz_ifb_eq (pc := 14) (tgt := 36) S dX5_addStroke_14 (by decide) (fun c14 => ?_) (fun c14 => ?_)
    · exfalso; omega
    · refine lv_iload (pc := 17) S.1 S.2.1 dX5_addStroke_17 (lv_at hl 5 rfl) ?_
      refine zz_callS (pc := 19) (As := [.int (zI ((q : Nat) : Int))]) (rest := []) S (c_X5_isPen l D cI cR ((q : Nat) : Int) (by unfold zR; omega)) (zuS wd_88 wd_86 wd_87 wd_2) 1 rfl q_X5_isPen.2 ⟨⟨rfl, rfl⟩, Nat.le_of_ble_eq_true rfl, Nat.le_of_ble_eq_true rfl⟩ rfl rfl (Nat.le_of_ble_eq_true rfl) hl.1 ⟨Nat.zero_le _, Nat.zero_le _⟩ dX5_addStroke_19 ?_
      refine zz_ifb_eq (pc := 22) (tgt := 36) S dX5_addStroke_22 (by decide) (fun c22 => ?_) (fun c22 => ?_)
      · exfalso; omega
      · refine lv_iload_n (pc := 25) S.1 S.2.1 dX5_addStroke_25 rfl (lv_at hl 1 rfl) ?_
        refine lv_iload_n (pc := 26) S.1 S.2.1 dX5_addStroke_26 rfl (lv_at hl 3 rfl) ?_
        refine zz_icmp_ne (pc := 27) (tgt := 38) S dX5_addStroke_27 (by decide) (n_eq (by omega) (by omega)) (fun c27 => ?_) (fun c27 => ?_)
        · refine lv_aload_n (pc := 38) S.1 S.2.1 dX5_addStroke_38 rfl (lv_at hl 0 rfl) ?_
          refine zz_get (pc := 39) S hV.1 iX5 0 rfl rfl 0 (by decide) wd_15 rfl rfl dX5_addStroke_39 ?_
          refine zz_callV (pc := 42) (As := []) (rest := []) S (c_X1_size l D cI cR d e1 e2 e3 e4 n P X Y L hok.1) (zuV wd_92 wd_89 wd_90 wd_91 wd_14) 0 rfl q_X1_size ⟨⟨rfl, rfl⟩, Nat.le_of_ble_eq_true rfl, Nat.le_of_ble_eq_true rfl⟩ hV.1 [1, 2, 3, 4, 5] rfl 1 rfl rfl rfl rfl rfl (Nat.le_of_ble_eq_true rfl) hl.1 ⟨Nat.zero_le _, Nat.zero_le _⟩ dX5_addStroke_42 ?_
          refine zz_bipush (pc := 45) (v := nI 8) S dX5_addStroke_45 rfl ?_
          refine zz_icmp_lt (pc := 47) (tgt := 53) S dX5_addStroke_47 (by decide) (n_lt (by omega) (by omega)) (fun c47 => ?_) (fun c47 => ?_)
          · refine lv_aload_n (pc := 53) S.1 S.2.1 dX5_addStroke_53 rfl (lv_at hl 0 rfl) ?_
            refine zz_callMv (pc := 54) (As := []) (rest := []) (wr := []) S hV (c_X5_beginEdit l D cI cR z h b g v C V Ac d e1 e2 e3 e4 n P X Y L r qa qb qc qd qe hn9 hP hX hY hL nx dp b1 b2 b3 cc tt kk sg rs cd s.heap.size hok hset (by omega) (by omega)) (zuV wd_97 wd_94 wd_95 wd_96 wd_2) 0 rfl q_X5_beginEdit ⟨⟨rfl, rfl⟩, Nat.le_of_ble_eq_true rfl, Nat.le_of_ble_eq_true rfl⟩ [0, 1, 2, 3, 4, 5, 6, 7, 8, 9, 10, 11, 12, 13, 14, 15, 16, 17, 18, 19, 20, 21, 22, 23, 24, 25, 26, 27, 28, 29, 30, 31] [] rfl rfl (by decide) (by decide) (by decide) 0 rfl rfl rfl rfl rfl (Nat.le_of_ble_eq_true rfl) hl.1 ⟨Nat.zero_le _, Nat.zero_le _⟩ dX5_addStroke_54 (fun w1 H locs hp hV => ?_)
            obtain rfl := hp
            have hV : zV D cI cR A [(z, .inr (5, [.ref d, .ref h, .ref b, .ref g, .ref v, .int (nI C), .int (nI V), .int (nI Ac)])), (d, .inr (1, [.int (nI n), .ref e1, .ref e2, .ref e3, .ref e4])), (e1, zA cI 8 P), (e2, zA cI 16 X), (e3, zA cI 16 Y), (e4, zA cI 8 L), (h, .inr (2, [.ref r, .int (nI ((nx + 1) % 4)), .int (nI (min (dp + 1) 4))])), (r, zAR cR 4 (rg qa)), (qa 0, .inr (1, [.int (nI ((va_up hn9 nx n) 0)), .ref (qb 0), .ref (qc 0), .ref (qd 0), .ref (qe 0)])), (qb 0, zA cI 8 ((va_up hP nx P) 0)), (qc 0, zA cI 16 ((va_up hX nx X) 0)), (qd 0, zA cI 16 ((va_up hY nx Y) 0)), (qe 0, zA cI 8 ((va_up hL nx L) 0)), (qa 1, .inr (1, [.int (nI ((va_up hn9 nx n) 1)), .ref (qb 1), .ref (qc 1), .ref (qd 1), .ref (qe 1)])), (qb 1, zA cI 8 ((va_up hP nx P) 1)), (qc 1, zA cI 16 ((va_up hX nx X) 1)), (qd 1, zA cI 16 ((va_up hY nx Y) 1)), (qe 1, zA cI 8 ((va_up hL nx L) 1)), (qa 2, .inr (1, [.int (nI ((va_up hn9 nx n) 2)), .ref (qb 2), .ref (qc 2), .ref (qd 2), .ref (qe 2)])), (qb 2, zA cI 8 ((va_up hP nx P) 2)), (qc 2, zA cI 16 ((va_up hX nx X) 2)), (qd 2, zA cI 16 ((va_up hY nx Y) 2)), (qe 2, zA cI 8 ((va_up hL nx L) 2)), (qa 3, .inr (1, [.int (nI ((va_up hn9 nx n) 3)), .ref (qb 3), .ref (qc 3), .ref (qd 3), .ref (qe 3)])), (qb 3, zA cI 8 ((va_up hP nx P) 3)), (qc 3, zA cI 16 ((va_up hX nx X) 3)), (qd 3, zA cI 16 ((va_up hY nx Y) 3)), (qe 3, zA cI 8 ((va_up hL nx L) 3)), (b, .inr (0, [.ref b1, .ref b2, .ref b3, .int (nI cc), .int (nI tt), .int (nI 0)])), (b1, zA cI 272 sg), (b2, zA cI 4096 rs), (b3, zA cI 8 cd)] s H locs := hV.perm [0, 1, 2, 3, 4, 5, 6, 7, 8, 9, 10, 11, 12, 13, 14, 15, 16, 17, 18, 19, 20, 21, 22, 23, 24, 25, 26, 27, 28, 29, 30, 31] (by decide) rfl
            refine lv_aload_n (pc := 57) S.1 S.2.1 dX5_addStroke_57 rfl (lv_at hl 0 rfl) ?_
            refine zz_get (pc := 58) S hV.1 iX5 0 rfl rfl 0 (by decide) wd_15 rfl rfl dX5_addStroke_58 ?_
            refine lv_iload_n (pc := 61) S.1 S.2.1 dX5_addStroke_61 rfl (lv_at hl 1 rfl) ?_
            refine lv_iload_n (pc := 62) S.1 S.2.1 dX5_addStroke_62 rfl (lv_at hl 2 rfl) ?_
            refine lv_iload_n (pc := 63) S.1 S.2.1 dX5_addStroke_63 rfl (lv_at hl 3 rfl) ?_
            refine lv_iload (pc := 64) S.1 S.2.1 dX5_addStroke_64 (lv_at hl 4 rfl) ?_
            refine lv_iload (pc := 66) S.1 S.2.1 dX5_addStroke_66 (lv_at hl 5 rfl) ?_
            refine zz_callM (pc := 68) (As := [.int (nI x1), .int (nI y1), .int (nI x2), .int (nI y2), .int (nI q)]) (rest := []) (wr := [(z, .inr (5, [.ref d, .ref h, .ref b, .ref g, .ref v, .int (nI C), .int (nI V), .int (nI Ac)])), (h, .inr (2, [.ref r, .int (nI ((nx + 1) % 4)), .int (nI (min (dp + 1) 4))])), (r, zAR cR 4 (rg qa)), (qa 0, .inr (1, [.int (nI ((va_up hn9 nx n) 0)), .ref (qb 0), .ref (qc 0), .ref (qd 0), .ref (qe 0)])), (qb 0, zA cI 8 ((va_up hP nx P) 0)), (qc 0, zA cI 16 ((va_up hX nx X) 0)), (qd 0, zA cI 16 ((va_up hY nx Y) 0)), (qe 0, zA cI 8 ((va_up hL nx L) 0)), (qa 1, .inr (1, [.int (nI ((va_up hn9 nx n) 1)), .ref (qb 1), .ref (qc 1), .ref (qd 1), .ref (qe 1)])), (qb 1, zA cI 8 ((va_up hP nx P) 1)), (qc 1, zA cI 16 ((va_up hX nx X) 1)), (qd 1, zA cI 16 ((va_up hY nx Y) 1)), (qe 1, zA cI 8 ((va_up hL nx L) 1)), (qa 2, .inr (1, [.int (nI ((va_up hn9 nx n) 2)), .ref (qb 2), .ref (qc 2), .ref (qd 2), .ref (qe 2)])), (qb 2, zA cI 8 ((va_up hP nx P) 2)), (qc 2, zA cI 16 ((va_up hX nx X) 2)), (qd 2, zA cI 16 ((va_up hY nx Y) 2)), (qe 2, zA cI 8 ((va_up hL nx L) 2)), (qa 3, .inr (1, [.int (nI ((va_up hn9 nx n) 3)), .ref (qb 3), .ref (qc 3), .ref (qd 3), .ref (qe 3)])), (qb 3, zA cI 8 ((va_up hP nx P) 3)), (qc 3, zA cI 16 ((va_up hX nx X) 3)), (qd 3, zA cI 16 ((va_up hY nx Y) 3)), (qe 3, zA cI 8 ((va_up hL nx L) 3)), (b, .inr (0, [.ref b1, .ref b2, .ref b3, .int (nI cc), .int (nI tt), .int (nI 0)])), (b1, zA cI 272 sg), (b2, zA cI 4096 rs), (b3, zA cI 8 cd)]) S hV (c_X1_append l D cI cR d e1 e2 e3 e4 n P X Y L x1 y1 x2 y2 q H.size hok.1 (by omega)) (zuV wd_128 wd_125 wd_126 wd_127 wd_14) 5 rfl q_X1_append ⟨⟨rfl, rfl⟩, Nat.le_of_ble_eq_true rfl, Nat.le_of_ble_eq_true rfl⟩ [1, 2, 3, 4, 5] [0, 6, 7, 8, 9, 10, 11, 12, 13, 14, 15, 16, 17, 18, 19, 20, 21, 22, 23, 24, 25, 26, 27, 28, 29, 30, 31] rfl rfl (by decide) (by decide) (by decide) 1 rfl rfl rfl rfl rfl (Nat.le_of_ble_eq_true rfl) hl.1 ⟨Nat.zero_le _, Nat.zero_le _⟩ dX5_addStroke_68 (fun r1 w1 H locs hp hV => ?_)
            obtain ⟨rfl, rfl⟩ := hp
            have hV : zV D cI cR A [(z, .inr (5, [.ref d, .ref h, .ref b, .ref g, .ref v, .int (nI C), .int (nI V), .int (nI Ac)])), (d, .inr (1, [.int (nI (n + 1)), .ref e1, .ref e2, .ref e3, .ref e4])), (e1, zA cI 8 (va_up P n q)), (e2, zA cI 16 (va_up (va_up X (2 * n) x1) (2 * n + 1) x2)), (e3, zA cI 16 (va_up (va_up Y (2 * n) y1) (2 * n + 1) y2)), (e4, zA cI 8 (va_up L n (2 * n))), (h, .inr (2, [.ref r, .int (nI ((nx + 1) % 4)), .int (nI (min (dp + 1) 4))])), (r, zAR cR 4 (rg qa)), (qa 0, .inr (1, [.int (nI ((va_up hn9 nx n) 0)), .ref (qb 0), .ref (qc 0), .ref (qd 0), .ref (qe 0)])), (qb 0, zA cI 8 ((va_up hP nx P) 0)), (qc 0, zA cI 16 ((va_up hX nx X) 0)), (qd 0, zA cI 16 ((va_up hY nx Y) 0)), (qe 0, zA cI 8 ((va_up hL nx L) 0)), (qa 1, .inr (1, [.int (nI ((va_up hn9 nx n) 1)), .ref (qb 1), .ref (qc 1), .ref (qd 1), .ref (qe 1)])), (qb 1, zA cI 8 ((va_up hP nx P) 1)), (qc 1, zA cI 16 ((va_up hX nx X) 1)), (qd 1, zA cI 16 ((va_up hY nx Y) 1)), (qe 1, zA cI 8 ((va_up hL nx L) 1)), (qa 2, .inr (1, [.int (nI ((va_up hn9 nx n) 2)), .ref (qb 2), .ref (qc 2), .ref (qd 2), .ref (qe 2)])), (qb 2, zA cI 8 ((va_up hP nx P) 2)), (qc 2, zA cI 16 ((va_up hX nx X) 2)), (qd 2, zA cI 16 ((va_up hY nx Y) 2)), (qe 2, zA cI 8 ((va_up hL nx L) 2)), (qa 3, .inr (1, [.int (nI ((va_up hn9 nx n) 3)), .ref (qb 3), .ref (qc 3), .ref (qd 3), .ref (qe 3)])), (qb 3, zA cI 8 ((va_up hP nx P) 3)), (qc 3, zA cI 16 ((va_up hX nx X) 3)), (qd 3, zA cI 16 ((va_up hY nx Y) 3)), (qe 3, zA cI 8 ((va_up hL nx L) 3)), (b, .inr (0, [.ref b1, .ref b2, .ref b3, .int (nI cc), .int (nI tt), .int (nI 0)])), (b1, zA cI 272 sg), (b2, zA cI 4096 rs), (b3, zA cI 8 cd)] s H locs := hV.perm [0, 27, 28, 29, 30, 31, 1, 2, 3, 4, 5, 6, 7, 8, 9, 10, 11, 12, 13, 14, 15, 16, 17, 18, 19, 20, 21, 22, 23, 24, 25, 26] (by decide) rfl
            exact zz_iretM (pc := 71) S hr hlocks hV (⟨rfl, rfl⟩) dX5_addStroke_71
          · exfalso; omega
        · refine lv_iload_n (pc := 30) S.1 S.2.1 dX5_addStroke_30 rfl (lv_at hl 2 rfl) ?_
          refine lv_iload (pc := 31) S.1 S.2.1 dX5_addStroke_31 (lv_at hl 4 rfl) ?_
          refine zz_icmp_ne (pc := 33) (tgt := 38) S dX5_addStroke_33 (by decide) (n_eq (by omega) (by omega)) (fun c33 => ?_) (fun c33 => ?_)
          · refine lv_aload_n (pc := 38) S.1 S.2.1 dX5_addStroke_38 rfl (lv_at hl 0 rfl) ?_
            refine zz_get (pc := 39) S hV.1 iX5 0 rfl rfl 0 (by decide) wd_15 rfl rfl dX5_addStroke_39 ?_
            refine zz_callV (pc := 42) (As := []) (rest := []) S (c_X1_size l D cI cR d e1 e2 e3 e4 n P X Y L hok.1) (zuV wd_92 wd_89 wd_90 wd_91 wd_14) 0 rfl q_X1_size ⟨⟨rfl, rfl⟩, Nat.le_of_ble_eq_true rfl, Nat.le_of_ble_eq_true rfl⟩ hV.1 [1, 2, 3, 4, 5] rfl 1 rfl rfl rfl rfl rfl (Nat.le_of_ble_eq_true rfl) hl.1 ⟨Nat.zero_le _, Nat.zero_le _⟩ dX5_addStroke_42 ?_
            refine zz_bipush (pc := 45) (v := nI 8) S dX5_addStroke_45 rfl ?_
            refine zz_icmp_lt (pc := 47) (tgt := 53) S dX5_addStroke_47 (by decide) (n_lt (by omega) (by omega)) (fun c47 => ?_) (fun c47 => ?_)
            · refine lv_aload_n (pc := 53) S.1 S.2.1 dX5_addStroke_53 rfl (lv_at hl 0 rfl) ?_
              refine zz_callMv (pc := 54) (As := []) (rest := []) (wr := []) S hV (c_X5_beginEdit l D cI cR z h b g v C V Ac d e1 e2 e3 e4 n P X Y L r qa qb qc qd qe hn9 hP hX hY hL nx dp b1 b2 b3 cc tt kk sg rs cd s.heap.size hok hset (by omega) (by omega)) (zuV wd_97 wd_94 wd_95 wd_96 wd_2) 0 rfl q_X5_beginEdit ⟨⟨rfl, rfl⟩, Nat.le_of_ble_eq_true rfl, Nat.le_of_ble_eq_true rfl⟩ [0, 1, 2, 3, 4, 5, 6, 7, 8, 9, 10, 11, 12, 13, 14, 15, 16, 17, 18, 19, 20, 21, 22, 23, 24, 25, 26, 27, 28, 29, 30, 31] [] rfl rfl (by decide) (by decide) (by decide) 0 rfl rfl rfl rfl rfl (Nat.le_of_ble_eq_true rfl) hl.1 ⟨Nat.zero_le _, Nat.zero_le _⟩ dX5_addStroke_54 (fun w1 H locs hp hV => ?_)
              obtain rfl := hp
              have hV : zV D cI cR A [(z, .inr (5, [.ref d, .ref h, .ref b, .ref g, .ref v, .int (nI C), .int (nI V), .int (nI Ac)])), (d, .inr (1, [.int (nI n), .ref e1, .ref e2, .ref e3, .ref e4])), (e1, zA cI 8 P), (e2, zA cI 16 X), (e3, zA cI 16 Y), (e4, zA cI 8 L), (h, .inr (2, [.ref r, .int (nI ((nx + 1) % 4)), .int (nI (min (dp + 1) 4))])), (r, zAR cR 4 (rg qa)), (qa 0, .inr (1, [.int (nI ((va_up hn9 nx n) 0)), .ref (qb 0), .ref (qc 0), .ref (qd 0), .ref (qe 0)])), (qb 0, zA cI 8 ((va_up hP nx P) 0)), (qc 0, zA cI 16 ((va_up hX nx X) 0)), (qd 0, zA cI 16 ((va_up hY nx Y) 0)), (qe 0, zA cI 8 ((va_up hL nx L) 0)), (qa 1, .inr (1, [.int (nI ((va_up hn9 nx n) 1)), .ref (qb 1), .ref (qc 1), .ref (qd 1), .ref (qe 1)])), (qb 1, zA cI 8 ((va_up hP nx P) 1)), (qc 1, zA cI 16 ((va_up hX nx X) 1)), (qd 1, zA cI 16 ((va_up hY nx Y) 1)), (qe 1, zA cI 8 ((va_up hL nx L) 1)), (qa 2, .inr (1, [.int (nI ((va_up hn9 nx n) 2)), .ref (qb 2), .ref (qc 2), .ref (qd 2), .ref (qe 2)])), (qb 2, zA cI 8 ((va_up hP nx P) 2)), (qc 2, zA cI 16 ((va_up hX nx X) 2)), (qd 2, zA cI 16 ((va_up hY nx Y) 2)), (qe 2, zA cI 8 ((va_up hL nx L) 2)), (qa 3, .inr (1, [.int (nI ((va_up hn9 nx n) 3)), .ref (qb 3), .ref (qc 3), .ref (qd 3), .ref (qe 3)])), (qb 3, zA cI 8 ((va_up hP nx P) 3)), (qc 3, zA cI 16 ((va_up hX nx X) 3)), (qd 3, zA cI 16 ((va_up hY nx Y) 3)), (qe 3, zA cI 8 ((va_up hL nx L) 3)), (b, .inr (0, [.ref b1, .ref b2, .ref b3, .int (nI cc), .int (nI tt), .int (nI 0)])), (b1, zA cI 272 sg), (b2, zA cI 4096 rs), (b3, zA cI 8 cd)] s H locs := hV.perm [0, 1, 2, 3, 4, 5, 6, 7, 8, 9, 10, 11, 12, 13, 14, 15, 16, 17, 18, 19, 20, 21, 22, 23, 24, 25, 26, 27, 28, 29, 30, 31] (by decide) rfl
              refine lv_aload_n (pc := 57) S.1 S.2.1 dX5_addStroke_57 rfl (lv_at hl 0 rfl) ?_
              refine zz_get (pc := 58) S hV.1 iX5 0 rfl rfl 0 (by decide) wd_15 rfl rfl dX5_addStroke_58 ?_
              refine lv_iload_n (pc := 61) S.1 S.2.1 dX5_addStroke_61 rfl (lv_at hl 1 rfl) ?_
              refine lv_iload_n (pc := 62) S.1 S.2.1 dX5_addStroke_62 rfl (lv_at hl 2 rfl) ?_
              refine lv_iload_n (pc := 63) S.1 S.2.1 dX5_addStroke_63 rfl (lv_at hl 3 rfl) ?_
              refine lv_iload (pc := 64) S.1 S.2.1 dX5_addStroke_64 (lv_at hl 4 rfl) ?_
              refine lv_iload (pc := 66) S.1 S.2.1 dX5_addStroke_66 (lv_at hl 5 rfl) ?_
              refine zz_callM (pc := 68) (As := [.int (nI x1), .int (nI y1), .int (nI x2), .int (nI y2), .int (nI q)]) (rest := []) (wr := [(z, .inr (5, [.ref d, .ref h, .ref b, .ref g, .ref v, .int (nI C), .int (nI V), .int (nI Ac)])), (h, .inr (2, [.ref r, .int (nI ((nx + 1) % 4)), .int (nI (min (dp + 1) 4))])), (r, zAR cR 4 (rg qa)), (qa 0, .inr (1, [.int (nI ((va_up hn9 nx n) 0)), .ref (qb 0), .ref (qc 0), .ref (qd 0), .ref (qe 0)])), (qb 0, zA cI 8 ((va_up hP nx P) 0)), (qc 0, zA cI 16 ((va_up hX nx X) 0)), (qd 0, zA cI 16 ((va_up hY nx Y) 0)), (qe 0, zA cI 8 ((va_up hL nx L) 0)), (qa 1, .inr (1, [.int (nI ((va_up hn9 nx n) 1)), .ref (qb 1), .ref (qc 1), .ref (qd 1), .ref (qe 1)])), (qb 1, zA cI 8 ((va_up hP nx P) 1)), (qc 1, zA cI 16 ((va_up hX nx X) 1)), (qd 1, zA cI 16 ((va_up hY nx Y) 1)), (qe 1, zA cI 8 ((va_up hL nx L) 1)), (qa 2, .inr (1, [.int (nI ((va_up hn9 nx n) 2)), .ref (qb 2), .ref (qc 2), .ref (qd 2), .ref (qe 2)])), (qb 2, zA cI 8 ((va_up hP nx P) 2)), (qc 2, zA cI 16 ((va_up hX nx X) 2)), (qd 2, zA cI 16 ((va_up hY nx Y) 2)), (qe 2, zA cI 8 ((va_up hL nx L) 2)), (qa 3, .inr (1, [.int (nI ((va_up hn9 nx n) 3)), .ref (qb 3), .ref (qc 3), .ref (qd 3), .ref (qe 3)])), (qb 3, zA cI 8 ((va_up hP nx P) 3)), (qc 3, zA cI 16 ((va_up hX nx X) 3)), (qd 3, zA cI 16 ((va_up hY nx Y) 3)), (qe 3, zA cI 8 ((va_up hL nx L) 3)), (b, .inr (0, [.ref b1, .ref b2, .ref b3, .int (nI cc), .int (nI tt), .int (nI 0)])), (b1, zA cI 272 sg), (b2, zA cI 4096 rs), (b3, zA cI 8 cd)]) S hV (c_X1_append l D cI cR d e1 e2 e3 e4 n P X Y L x1 y1 x2 y2 q H.size hok.1 (by omega)) (zuV wd_128 wd_125 wd_126 wd_127 wd_14) 5 rfl q_X1_append ⟨⟨rfl, rfl⟩, Nat.le_of_ble_eq_true rfl, Nat.le_of_ble_eq_true rfl⟩ [1, 2, 3, 4, 5] [0, 6, 7, 8, 9, 10, 11, 12, 13, 14, 15, 16, 17, 18, 19, 20, 21, 22, 23, 24, 25, 26, 27, 28, 29, 30, 31] rfl rfl (by decide) (by decide) (by decide) 1 rfl rfl rfl rfl rfl (Nat.le_of_ble_eq_true rfl) hl.1 ⟨Nat.zero_le _, Nat.zero_le _⟩ dX5_addStroke_68 (fun r1 w1 H locs hp hV => ?_)
              obtain ⟨rfl, rfl⟩ := hp
              have hV : zV D cI cR A [(z, .inr (5, [.ref d, .ref h, .ref b, .ref g, .ref v, .int (nI C), .int (nI V), .int (nI Ac)])), (d, .inr (1, [.int (nI (n + 1)), .ref e1, .ref e2, .ref e3, .ref e4])), (e1, zA cI 8 (va_up P n q)), (e2, zA cI 16 (va_up (va_up X (2 * n) x1) (2 * n + 1) x2)), (e3, zA cI 16 (va_up (va_up Y (2 * n) y1) (2 * n + 1) y2)), (e4, zA cI 8 (va_up L n (2 * n))), (h, .inr (2, [.ref r, .int (nI ((nx + 1) % 4)), .int (nI (min (dp + 1) 4))])), (r, zAR cR 4 (rg qa)), (qa 0, .inr (1, [.int (nI ((va_up hn9 nx n) 0)), .ref (qb 0), .ref (qc 0), .ref (qd 0), .ref (qe 0)])), (qb 0, zA cI 8 ((va_up hP nx P) 0)), (qc 0, zA cI 16 ((va_up hX nx X) 0)), (qd 0, zA cI 16 ((va_up hY nx Y) 0)), (qe 0, zA cI 8 ((va_up hL nx L) 0)), (qa 1, .inr (1, [.int (nI ((va_up hn9 nx n) 1)), .ref (qb 1), .ref (qc 1), .ref (qd 1), .ref (qe 1)])), (qb 1, zA cI 8 ((va_up hP nx P) 1)), (qc 1, zA cI 16 ((va_up hX nx X) 1)), (qd 1, zA cI 16 ((va_up hY nx Y) 1)), (qe 1, zA cI 8 ((va_up hL nx L) 1)), (qa 2, .inr (1, [.int (nI ((va_up hn9 nx n) 2)), .ref (qb 2), .ref (qc 2), .ref (qd 2), .ref (qe 2)])), (qb 2, zA cI 8 ((va_up hP nx P) 2)), (qc 2, zA cI 16 ((va_up hX nx X) 2)), (qd 2, zA cI 16 ((va_up hY nx Y) 2)), (qe 2, zA cI 8 ((va_up hL nx L) 2)), (qa 3, .inr (1, [.int (nI ((va_up hn9 nx n) 3)), .ref (qb 3), .ref (qc 3), .ref (qd 3), .ref (qe 3)])), (qb 3, zA cI 8 ((va_up hP nx P) 3)), (qc 3, zA cI 16 ((va_up hX nx X) 3)), (qd 3, zA cI 16 ((va_up hY nx Y) 3)), (qe 3, zA cI 8 ((va_up hL nx L) 3)), (b, .inr (0, [.ref b1, .ref b2, .ref b3, .int (nI cc), .int (nI tt), .int (nI 0)])), (b1, zA cI 272 sg), (b2, zA cI 4096 rs), (b3, zA cI 8 cd)] s H locs := hV.perm [0, 27, 28, 29, 30, 31, 1, 2, 3, 4, 5, 6, 7, 8, 9, 10, 11, 12, 13, 14, 15, 16, 17, 18, 19, 20, 21, 22, 23, 24, 25, 26] (by decide) rfl
              exact zz_iretM (pc := 71) S hr hlocks hV (⟨rfl, rfl⟩) dX5_addStroke_71
            · exfalso; omega
          · exfalso; omega
abbrev wm_X5_removeStroke : List Cond := .code yX5_removeStroke cX5_removeStroke 2 (some .int) :: wU
theorem q_X5_removeStroke : yX5_removeStroke.cls = RX5 ∧ yX5_removeStroke.cls ≠ "java/lang/invoke/MethodHandle" ∧ yX5_removeStroke.cls ≠ "java/lang/invoke/VarHandle" ∧ (parseMethodDescriptor yX5_removeStroke.desc).map (fun d => d.parameters.length) = some 1 := by decide +kernel
set_option maxHeartbeats 4000000 in
set_option maxRecDepth 100000 in
theorem c_X5_removeStroke_e (l : Launch) (D : va_G) (cI cR : ClassId) (z h b g v C V Ac : Nat) (d e1 e2 e3 e4 n : Nat) (P X Y L : Nat → Nat) (a : Int) (hok : zOk n P X Y L) (hset : zSt C V Ac) (ha : zR a) (hbad : ¬ (0 ≤ a ∧ a < (n : Int))) : Met l yX5_removeStroke wm_X5_removeStroke ({ frames := 1, cells := 0, slots := 0, locals := 21 } : Room) (va_Pc [.ref z, .int (zI a)] (zW D cI cR [(z, .inr (5, [.ref d, .ref h, .ref b, .ref g, .ref v, .int (nI C), .int (nI V), .int (nI Ac)])), (d, .inr (1, [.int (nI n), .ref e1, .ref e2, .ref e3, .ref e4])), (e1, zA cI 8 P), (e2, zA cI 16 X), (e3, zA cI 16 Y), (e4, zA cI 8 L)])) (vp_Si (fun r => r = zI (-1))) 0 0 (fun _ => False) := by
  refine Met.ofW (cc := cX5_removeStroke) (maxL := 2) (ret := (some .int)) (by decide) rfl ?_
  intro p e s m args below meth c s₁ B hml hv
  obtain ⟨rfl, hG⟩ := hv
  have S : CallFix p m c cX5_removeStroke 2 s ([.ref z, .int (zI a)] : List Value).toArray wU RX5 := ⟨B.exec, B.bytes, hml, findClass_of_methodNamed B.named, fun w h => atoms_spec (ws := wm_X5_removeStroke) B.pre w (List.mem_cons_of_mem _ h)⟩
  have hr := B.returns
  have hlocks := B.notSynchronized
  have hG : zG D cI cR [(z, .inr (5, [.ref d, .ref h, .ref b, .ref g, .ref v, .int (nI C), .int (nI V), .int (nI Ac)])), (d, .inr (1, [.int (nI n), .ref e1, .ref e2, .ref e3, .ref e4])), (e1, zA cI 8 P), (e2, zA cI 16 X), (e3, zA cI 16 Y), (e4, zA cI 8 L)] s s.heap := hG
  have hl := lv_entry ([.ref z, .int (zI a)]) (n := 2) (Nat.le_of_ble_eq_true rfl)
  rw [lg_entry_eq]
  generalize (lg_sl ([.ref z, .int (zI a)]) ++ List.replicate (2 - (lg_sl ([.ref z, .int (zI a)])).length) Slot.unset).toArray = ls at hl ⊢
  have hl : lv_has ls 2 [(0, .ref z), (1, .int (zI a))] := hl
  have r_ha := id ha
  unfold zR at r_ha
  obtain ⟨⟨hn, hPf, hXY⟩, hLf, hinj⟩ := id hok
  obtain ⟨hC, hV9, hA9⟩ := id hset
  refine lv_aload_n (pc := 0) S.1 S.2.1 dX5_removeStroke_0 rfl (lv_at hl 0 rfl) ?_
  refine zz_get (pc := 1) S hG iX5 0 rfl rfl 0 (by decide) wd_15 rfl rfl dX5_removeStroke_1 ?_
  refine lv_iload_n (pc := 4) S.1 S.2.1 dX5_removeStroke_4 rfl (lv_at hl 1 rfl) ?_
  refine zz_callV (pc := 5) (As := [.int (zI a)]) (rest := []) S (c_X1_hasStroke l D cI cR d e1 e2 e3 e4 n P X Y L a hok.1 (by unfold zR; omega)) (zuV wd_148 wd_145 wd_146 wd_147 wd_14) 1 rfl q_X1_hasStroke ⟨⟨rfl, rfl⟩, Nat.le_of_ble_eq_true rfl, Nat.le_of_ble_eq_true rfl⟩ hG [1, 2, 3, 4, 5] rfl 1 rfl rfl rfl rfl rfl (Nat.le_of_ble_eq_true rfl) hl.1 ⟨Nat.zero_le _, Nat.zero_le _⟩ dX5_removeStroke_5 ?_
  refine zz_ifb_ne (pc := 8) (tgt := 13) S dX5_removeStroke_8 (by decide) (fun c8 => ?_) (fun c8 => ?_)
  · exfalso; omega
  · refine zz_iconst (pc := 11) (v := zI (-1)) S dX5_removeStroke_11 rfl ?_
    exact zz_iretS (pc := 12) S hr hlocks (rfl) dX5_removeStroke_12
set_option maxHeartbeats 4000000 in
set_option maxRecDepth 100000 in
theorem c_X5_removeStroke_k (l : Launch) (D : va_G) (cI cR : ClassId) (z h b g v C V Ac : Nat) (d e1 e2 e3 e4 n : Nat) (P X Y L : Nat → Nat) (r : Nat) (qa qb qc qd qe : Nat → Nat) (hn9 : Nat → Nat) (hP hX hY hL : Nat → Nat → Nat) (nx dp : Nat) (b1 b2 b3 cc tt kk : Nat) (sg rs cd : Nat → Nat) (a : Nat) (sz : Nat) (hok : zOk n P X Y L) (hset : zSt C V Ac) (hnx : nx < 4) (hdp : dp ≤ 4) (ha : a < n) : Met l yX5_removeStroke wm_X5_removeStroke ({ frames := 4, cells := 0, slots := 0, locals := 81 } : Room) (va_Pc [.ref z, .int (nI a)] (zX D cI cR [(z, .inr (5, [.ref d, .ref h, .ref b, .ref g, .ref v, .int (nI C), .int (nI V), .int (nI Ac)])), (d, .inr (1, [.int (nI n), .ref e1, .ref e2, .ref e3, .ref e4])), (e1, zA cI 8 P), (e2, zA cI 16 X), (e3, zA cI 16 Y), (e4, zA cI 8 L), (h, .inr (2, [.ref r, .int (nI nx), .int (nI dp)])), (r, zAR cR 4 (rg qa)), (qa 0, .inr (1, [.int (nI (hn9 0)), .ref (qb 0), .ref (qc 0), .ref (qd 0), .ref (qe 0)])), (qb 0, zA cI 8 (hP 0)), (qc 0, zA cI 16 (hX 0)), (qd 0, zA cI 16 (hY 0)), (qe 0, zA cI 8 (hL 0)), (qa 1, .inr (1, [.int (nI (hn9 1)), .ref (qb 1), .ref (qc 1), .ref (qd 1), .ref (qe 1)])), (qb 1, zA cI 8 (hP 1)), (qc 1, zA cI 16 (hX 1)), (qd 1, zA cI 16 (hY 1)), (qe 1, zA cI 8 (hL 1)), (qa 2, .inr (1, [.int (nI (hn9 2)), .ref (qb 2), .ref (qc 2), .ref (qd 2), .ref (qe 2)])), (qb 2, zA cI 8 (hP 2)), (qc 2, zA cI 16 (hX 2)), (qd 2, zA cI 16 (hY 2)), (qe 2, zA cI 8 (hL 2)), (qa 3, .inr (1, [.int (nI (hn9 3)), .ref (qb 3), .ref (qc 3), .ref (qd 3), .ref (qe 3)])), (qb 3, zA cI 8 (hP 3)), (qc 3, zA cI 16 (hX 3)), (qd 3, zA cI 16 (hY 3)), (qe 3, zA cI 8 (hL 3)), (b, .inr (0, [.ref b1, .ref b2, .ref b3, .int (nI cc), .int (nI tt), .int (nI kk)])), (b1, zA cI 272 sg), (b2, zA cI 4096 rs), (b3, zA cI 8 cd)] sz)) (zQi D cI cR (va_A [(z, .inr (5, [.ref d, .ref h, .ref b, .ref g, .ref v, .int (nI C), .int (nI V), .int (nI Ac)])), (d, .inr (1, [.int (nI n), .ref e1, .ref e2, .ref e3, .ref e4])), (e1, zA cI 8 P), (e2, zA cI 16 X), (e3, zA cI 16 Y), (e4, zA cI 8 L), (h, .inr (2, [.ref r, .int (nI nx), .int (nI dp)])), (r, zAR cR 4 (rg qa)), (qa 0, .inr (1, [.int (nI (hn9 0)), .ref (qb 0), .ref (qc 0), .ref (qd 0), .ref (qe 0)])), (qb 0, zA cI 8 (hP 0)), (qc 0, zA cI 16 (hX 0)), (qd 0, zA cI 16 (hY 0)), (qe 0, zA cI 8 (hL 0)), (qa 1, .inr (1, [.int (nI (hn9 1)), .ref (qb 1), .ref (qc 1), .ref (qd 1), .ref (qe 1)])), (qb 1, zA cI 8 (hP 1)), (qc 1, zA cI 16 (hX 1)), (qd 1, zA cI 16 (hY 1)), (qe 1, zA cI 8 (hL 1)), (qa 2, .inr (1, [.int (nI (hn9 2)), .ref (qb 2), .ref (qc 2), .ref (qd 2), .ref (qe 2)])), (qb 2, zA cI 8 (hP 2)), (qc 2, zA cI 16 (hX 2)), (qd 2, zA cI 16 (hY 2)), (qe 2, zA cI 8 (hL 2)), (qa 3, .inr (1, [.int (nI (hn9 3)), .ref (qb 3), .ref (qc 3), .ref (qd 3), .ref (qe 3)])), (qb 3, zA cI 8 (hP 3)), (qc 3, zA cI 16 (hX 3)), (qd 3, zA cI 16 (hY 3)), (qe 3, zA cI 8 (hL 3)), (b, .inr (0, [.ref b1, .ref b2, .ref b3, .int (nI cc), .int (nI tt), .int (nI kk)])), (b1, zA cI 272 sg), (b2, zA cI 4096 rs), (b3, zA cI 8 cd)] sz) (fun r0 w => (w = [(z, .inr (5, [.ref d, .ref h, .ref b, .ref g, .ref v, .int (nI C), .int (nI V), .int (nI Ac)])), (d, .inr (1, [.int (nI (n - 1)), .ref e1, .ref e2, .ref e3, .ref e4])), (e1, zA cI 8 (shl P 1 a (n - 1))), (e2, zA cI 16 (shl X 2 (2 * a) (2 * n - 2))), (e3, zA cI 16 (shl Y 2 (2 * a) (2 * n - 2))), (e4, zA cI 8 (dpl L a (pos n L a) n)), (h, .inr (2, [.ref r, .int (nI ((nx + 1) % 4)), .int (nI (min (dp + 1) 4))])), (r, zAR cR 4 (rg qa)), (qa 0, .inr (1, [.int (nI ((va_up hn9 nx n) 0)), .ref (qb 0), .ref (qc 0), .ref (qd 0), .ref (qe 0)])), (qb 0, zA cI 8 ((va_up hP nx P) 0)), (qc 0, zA cI 16 ((va_up hX nx X) 0)), (qd 0, zA cI 16 ((va_up hY nx Y) 0)), (qe 0, zA cI 8 ((va_up hL nx L) 0)), (qa 1, .inr (1, [.int (nI ((va_up hn9 nx n) 1)), .ref (qb 1), .ref (qc 1), .ref (qd 1), .ref (qe 1)])), (qb 1, zA cI 8 ((va_up hP nx P) 1)), (qc 1, zA cI 16 ((va_up hX nx X) 1)), (qd 1, zA cI 16 ((va_up hY nx Y) 1)), (qe 1, zA cI 8 ((va_up hL nx L) 1)), (qa 2, .inr (1, [.int (nI ((va_up hn9 nx n) 2)), .ref (qb 2), .ref (qc 2), .ref (qd 2), .ref (qe 2)])), (qb 2, zA cI 8 ((va_up hP nx P) 2)), (qc 2, zA cI 16 ((va_up hX nx X) 2)), (qd 2, zA cI 16 ((va_up hY nx Y) 2)), (qe 2, zA cI 8 ((va_up hL nx L) 2)), (qa 3, .inr (1, [.int (nI ((va_up hn9 nx n) 3)), .ref (qb 3), .ref (qc 3), .ref (qd 3), .ref (qe 3)])), (qb 3, zA cI 8 ((va_up hP nx P) 3)), (qc 3, zA cI 16 ((va_up hX nx X) 3)), (qd 3, zA cI 16 ((va_up hY nx Y) 3)), (qe 3, zA cI 8 ((va_up hL nx L) 3)), (b, .inr (0, [.ref b1, .ref b2, .ref b3, .int (nI cc), .int (nI tt), .int (nI 0)])), (b1, zA cI 272 sg), (b2, zA cI 4096 rs), (b3, zA cI 8 cd)] ∧ r0 = nI (n - 1)))) 0 0 (va_A [(z, .inr (5, [.ref d, .ref h, .ref b, .ref g, .ref v, .int (nI C), .int (nI V), .int (nI Ac)])), (d, .inr (1, [.int (nI n), .ref e1, .ref e2, .ref e3, .ref e4])), (e1, zA cI 8 P), (e2, zA cI 16 X), (e3, zA cI 16 Y), (e4, zA cI 8 L), (h, .inr (2, [.ref r, .int (nI nx), .int (nI dp)])), (r, zAR cR 4 (rg qa)), (qa 0, .inr (1, [.int (nI (hn9 0)), .ref (qb 0), .ref (qc 0), .ref (qd 0), .ref (qe 0)])), (qb 0, zA cI 8 (hP 0)), (qc 0, zA cI 16 (hX 0)), (qd 0, zA cI 16 (hY 0)), (qe 0, zA cI 8 (hL 0)), (qa 1, .inr (1, [.int (nI (hn9 1)), .ref (qb 1), .ref (qc 1), .ref (qd 1), .ref (qe 1)])), (qb 1, zA cI 8 (hP 1)), (qc 1, zA cI 16 (hX 1)), (qd 1, zA cI 16 (hY 1)), (qe 1, zA cI 8 (hL 1)), (qa 2, .inr (1, [.int (nI (hn9 2)), .ref (qb 2), .ref (qc 2), .ref (qd 2), .ref (qe 2)])), (qb 2, zA cI 8 (hP 2)), (qc 2, zA cI 16 (hX 2)), (qd 2, zA cI 16 (hY 2)), (qe 2, zA cI 8 (hL 2)), (qa 3, .inr (1, [.int (nI (hn9 3)), .ref (qb 3), .ref (qc 3), .ref (qd 3), .ref (qe 3)])), (qb 3, zA cI 8 (hP 3)), (qc 3, zA cI 16 (hX 3)), (qd 3, zA cI 16 (hY 3)), (qe 3, zA cI 8 (hL 3)), (b, .inr (0, [.ref b1, .ref b2, .ref b3, .int (nI cc), .int (nI tt), .int (nI kk)])), (b1, zA cI 272 sg), (b2, zA cI 4096 rs), (b3, zA cI 8 cd)] sz) := by
  refine Met.ofW (cc := cX5_removeStroke) (maxL := 2) (ret := (some .int)) (by decide) rfl ?_
  intro p e s m args below meth c s₁ B hml hv
  obtain ⟨rfl, hsz, hG, hD0⟩ := hv
  have S : CallFix p m c cX5_removeStroke 2 s ([.ref z, .int (nI a)] : List Value).toArray wU RX5 := ⟨B.exec, B.bytes, hml, findClass_of_methodNamed B.named, fun w h => atoms_spec (ws := wm_X5_removeStroke) B.pre w (List.mem_cons_of_mem _ h)⟩
  have hr := B.returns
  have hlocks := B.notSynchronized
  subst hsz
  have hD := hD0.self (sz := s.heap.size)
  generalize hAe : va_A [(z, .inr (5, [.ref d, .ref h, .ref b, .ref g, .ref v, .int (nI C), .int (nI V), .int (nI Ac)])), (d, .inr (1, [.int (nI n), .ref e1, .ref e2, .ref e3, .ref e4])), (e1, zA cI 8 P), (e2, zA cI 16 X), (e3, zA cI 16 Y), (e4, zA cI 8 L), (h, .inr (2, [.ref r, .int (nI nx), .int (nI dp)])), (r, zAR cR 4 (rg qa)), (qa 0, .inr (1, [.int (nI (hn9 0)), .ref (qb 0), .ref (qc 0), .ref (qd 0), .ref (qe 0)])), (qb 0, zA cI 8 (hP 0)), (qc 0, zA cI 16 (hX 0)), (qd 0, zA cI 16 (hY 0)), (qe 0, zA cI 8 (hL 0)), (qa 1, .inr (1, [.int (nI (hn9 1)), .ref (qb 1), .ref (qc 1), .ref (qd 1), .ref (qe 1)])), (qb 1, zA cI 8 (hP 1)), (qc 1, zA cI 16 (hX 1)), (qd 1, zA cI 16 (hY 1)), (qe 1, zA cI 8 (hL 1)), (qa 2, .inr (1, [.int (nI (hn9 2)), .ref (qb 2), .ref (qc 2), .ref (qd 2), .ref (qe 2)])), (qb 2, zA cI 8 (hP 2)), (qc 2, zA cI 16 (hX 2)), (qd 2, zA cI 16 (hY 2)), (qe 2, zA cI 8 (hL 2)), (qa 3, .inr (1, [.int (nI (hn9 3)), .ref (qb 3), .ref (qc 3), .ref (qd 3), .ref (qe 3)])), (qb 3, zA cI 8 (hP 3)), (qc 3, zA cI 16 (hX 3)), (qd 3, zA cI 16 (hY 3)), (qe 3, zA cI 8 (hL 3)), (b, .inr (0, [.ref b1, .ref b2, .ref b3, .int (nI cc), .int (nI tt), .int (nI kk)])), (b1, zA cI 272 sg), (b2, zA cI 4096 rs), (b3, zA cI 8 cd)] s.heap.size = A at hD ⊢
  have hV : zV D cI cR A [(z, .inr (5, [.ref d, .ref h, .ref b, .ref g, .ref v, .int (nI C), .int (nI V), .int (nI Ac)])), (d, .inr (1, [.int (nI n), .ref e1, .ref e2, .ref e3, .ref e4])), (e1, zA cI 8 P), (e2, zA cI 16 X), (e3, zA cI 16 Y), (e4, zA cI 8 L), (h, .inr (2, [.ref r, .int (nI nx), .int (nI dp)])), (r, zAR cR 4 (rg qa)), (qa 0, .inr (1, [.int (nI (hn9 0)), .ref (qb 0), .ref (qc 0), .ref (qd 0), .ref (qe 0)])), (qb 0, zA cI 8 (hP 0)), (qc 0, zA cI 16 (hX 0)), (qd 0, zA cI 16 (hY 0)), (qe 0, zA cI 8 (hL 0)), (qa 1, .inr (1, [.int (nI (hn9 1)), .ref (qb 1), .ref (qc 1), .ref (qd 1), .ref (qe 1)])), (qb 1, zA cI 8 (hP 1)), (qc 1, zA cI 16 (hX 1)), (qd 1, zA cI 16 (hY 1)), (qe 1, zA cI 8 (hL 1)), (qa 2, .inr (1, [.int (nI (hn9 2)), .ref (qb 2), .ref (qc 2), .ref (qd 2), .ref (qe 2)])), (qb 2, zA cI 8 (hP 2)), (qc 2, zA cI 16 (hX 2)), (qd 2, zA cI 16 (hY 2)), (qe 2, zA cI 8 (hL 2)), (qa 3, .inr (1, [.int (nI (hn9 3)), .ref (qb 3), .ref (qc 3), .ref (qd 3), .ref (qe 3)])), (qb 3, zA cI 8 (hP 3)), (qc 3, zA cI 16 (hX 3)), (qd 3, zA cI 16 (hY 3)), (qe 3, zA cI 8 (hL 3)), (b, .inr (0, [.ref b1, .ref b2, .ref b3, .int (nI cc), .int (nI tt), .int (nI kk)])), (b1, zA cI 272 sg), (b2, zA cI 4096 rs), (b3, zA cI 8 cd)] s s.heap [] := ⟨hG, hD, va_S.rf, fun q h => by rw [← hAe]; exact Or.inr h⟩
  have hl := lv_entry ([.ref z, .int (nI a)]) (n := 2) (Nat.le_of_ble_eq_true rfl)
  rw [lg_entry_eq]
  generalize (lg_sl ([.ref z, .int (nI a)]) ++ List.replicate (2 - (lg_sl ([.ref z, .int (nI a)])).length) Slot.unset).toArray = ls at hl ⊢
  have hl : lv_has ls 2 [(0, .ref z), (1, .int (nI a))] := hl
  obtain ⟨⟨hn, hPf, hXY⟩, hLf, hinj⟩ := id hok
  obtain ⟨hC, hV9, hA9⟩ := id hset
  have hok8 : zOk (n - 1) (shl P 1 a (n - 1)) (shl X 2 (2 * a) (2 * n - 2)) (shl Y 2 (2 * a) (2 * n - 2)) (dpl L a (pos n L a) n) := drp_ok (d := (n, P, X, Y, L)) hok ha
  refine lv_aload_n (pc := 0) S.1 S.2.1 dX5_removeStroke_0 rfl (lv_at hl 0 rfl) ?_
  refine zz_get (pc := 1) S hV.1 iX5 0 rfl rfl 0 (by decide) wd_15 rfl rfl dX5_removeStroke_1 ?_
  refine lv_iload_n (pc := 4) S.1 S.2.1 dX5_removeStroke_4 rfl (lv_at hl 1 rfl) ?_
  refine zz_callV (pc := 5) (As := [.int (zI ((a : Nat) : Int))]) (rest := []) S (c_X1_hasStroke l D cI cR d e1 e2 e3 e4 n P X Y L ((a : Nat) : Int) hok.1 (by unfold zR; omega)) (zuV wd_148 wd_145 wd_146 wd_147 wd_14) 1 rfl q_X1_hasStroke ⟨⟨rfl, rfl⟩, Nat.le_of_ble_eq_true rfl, Nat.le_of_ble_eq_true rfl⟩ hV.1 [1, 2, 3, 4, 5] rfl 1 rfl rfl rfl rfl rfl (Nat.le_of_ble_eq_true rfl) hl.1 ⟨Nat.zero_le _, Nat.zero_le _⟩ dX5_removeStroke_5 ?_
  refine zz_ifb_ne (pc := 8) (tgt := 13) S dX5_removeStroke_8 (by decide) (fun c8 => ?_) (fun c8 => ?_)
  · refine lv_aload_n (pc := 13) S.1 S.2.1 dX5_removeStroke_13 rfl (lv_at hl 0 rfl) ?_
    refine zz_callMv (pc := 14) (As := []) (rest := []) (wr := []) S hV (c_X5_beginEdit l D cI cR z h b g v C V Ac d e1 e2 e3 e4 n P X Y L r qa qb qc qd qe hn9 hP hX hY hL nx dp b1 b2 b3 cc tt kk sg rs cd s.heap.size hok hset (by omega) (by omega)) (zuV wd_97 wd_94 wd_95 wd_96 wd_2) 0 rfl q_X5_beginEdit ⟨⟨rfl, rfl⟩, Nat.le_of_ble_eq_true rfl, Nat.le_of_ble_eq_true rfl⟩ [0, 1, 2, 3, 4, 5, 6, 7, 8, 9, 10, 11, 12, 13, 14, 15, 16, 17, 18, 19, 20, 21, 22, 23, 24, 25, 26, 27, 28, 29, 30, 31] [] rfl rfl (by decide) (by decide) (by decide) 0 rfl rfl rfl rfl rfl (Nat.le_of_ble_eq_true rfl) hl.1 ⟨Nat.zero_le _, Nat.zero_le _⟩ dX5_removeStroke_14 (fun w1 H locs hp hV => ?_)
    obtain rfl := hp
    have hV : zV D cI cR A [(z, .inr (5, [.ref d, .ref h, .ref b, .ref g, .ref v, .int (nI C), .int (nI V), .int (nI Ac)])), (d, .inr (1, [.int (nI n), .ref e1, .ref e2, .ref e3, .ref e4])), (e1, zA cI 8 P), (e2, zA cI 16 X), (e3, zA cI 16 Y), (e4, zA cI 8 L), (h, .inr (2, [.ref r, .int (nI ((nx + 1) % 4)), .int (nI (min (dp + 1) 4))])), (r, zAR cR 4 (rg qa)), (qa 0, .inr (1, [.int (nI ((va_up hn9 nx n) 0)), .ref (qb 0), .ref (qc 0), .ref (qd 0), .ref (qe 0)])), (qb 0, zA cI 8 ((va_up hP nx P) 0)), (qc 0, zA cI 16 ((va_up hX nx X) 0)), (qd 0, zA cI 16 ((va_up hY nx Y) 0)), (qe 0, zA cI 8 ((va_up hL nx L) 0)), (qa 1, .inr (1, [.int (nI ((va_up hn9 nx n) 1)), .ref (qb 1), .ref (qc 1), .ref (qd 1), .ref (qe 1)])), (qb 1, zA cI 8 ((va_up hP nx P) 1)), (qc 1, zA cI 16 ((va_up hX nx X) 1)), (qd 1, zA cI 16 ((va_up hY nx Y) 1)), (qe 1, zA cI 8 ((va_up hL nx L) 1)), (qa 2, .inr (1, [.int (nI ((va_up hn9 nx n) 2)), .ref (qb 2), .ref (qc 2), .ref (qd 2), .ref (qe 2)])), (qb 2, zA cI 8 ((va_up hP nx P) 2)), (qc 2, zA cI 16 ((va_up hX nx X) 2)), (qd 2, zA cI 16 ((va_up hY nx Y) 2)), (qe 2, zA cI 8 ((va_up hL nx L) 2)), (qa 3, .inr (1, [.int (nI ((va_up hn9 nx n) 3)), .ref (qb 3), .ref (qc 3), .ref (qd 3), .ref (qe 3)])), (qb 3, zA cI 8 ((va_up hP nx P) 3)), (qc 3, zA cI 16 ((va_up hX nx X) 3)), (qd 3, zA cI 16 ((va_up hY nx Y) 3)), (qe 3, zA cI 8 ((va_up hL nx L) 3)), (b, .inr (0, [.ref b1, .ref b2, .ref b3, .int (nI cc), .int (nI tt), .int (nI 0)])), (b1, zA cI 272 sg), (b2, zA cI 4096 rs), (b3, zA cI 8 cd)] s H locs := hV.perm [0, 1, 2, 3, 4, 5, 6, 7, 8, 9, 10, 11, 12, 13, 14, 15, 16, 17, 18, 19, 20, 21, 22, 23, 24, 25, 26, 27, 28, 29, 30, 31] (by decide) rfl
    refine lv_aload_n (pc := 17) S.1 S.2.1 dX5_removeStroke_17 rfl (lv_at hl 0 rfl) ?_
    refine zz_get (pc := 18) S hV.1 iX5 0 rfl rfl 0 (by decide) wd_15 rfl rfl dX5_removeStroke_18 ?_
    refine lv_iload_n (pc := 21) S.1 S.2.1 dX5_removeStroke_21 rfl (lv_at hl 1 rfl) ?_
    refine zz_callMv (pc := 22) (As := [.int (nI a)]) (rest := []) (wr := [(z, .inr (5, [.ref d, .ref h, .ref b, .ref g, .ref v, .int (nI C), .int (nI V), .int (nI Ac)])), (h, .inr (2, [.ref r, .int (nI ((nx + 1) % 4)), .int (nI (min (dp + 1) 4))])), (r, zAR cR 4 (rg qa)), (qa 0, .inr (1, [.int (nI ((va_up hn9 nx n) 0)), .ref (qb 0), .ref (qc 0), .ref (qd 0), .ref (qe 0)])), (qb 0, zA cI 8 ((va_up hP nx P) 0)), (qc 0, zA cI 16 ((va_up hX nx X) 0)), (qd 0, zA cI 16 ((va_up hY nx Y) 0)), (qe 0, zA cI 8 ((va_up hL nx L) 0)), (qa 1, .inr (1, [.int (nI ((va_up hn9 nx n) 1)), .ref (qb 1), .ref (qc 1), .ref (qd 1), .ref (qe 1)])), (qb 1, zA cI 8 ((va_up hP nx P) 1)), (qc 1, zA cI 16 ((va_up hX nx X) 1)), (qd 1, zA cI 16 ((va_up hY nx Y) 1)), (qe 1, zA cI 8 ((va_up hL nx L) 1)), (qa 2, .inr (1, [.int (nI ((va_up hn9 nx n) 2)), .ref (qb 2), .ref (qc 2), .ref (qd 2), .ref (qe 2)])), (qb 2, zA cI 8 ((va_up hP nx P) 2)), (qc 2, zA cI 16 ((va_up hX nx X) 2)), (qd 2, zA cI 16 ((va_up hY nx Y) 2)), (qe 2, zA cI 8 ((va_up hL nx L) 2)), (qa 3, .inr (1, [.int (nI ((va_up hn9 nx n) 3)), .ref (qb 3), .ref (qc 3), .ref (qd 3), .ref (qe 3)])), (qb 3, zA cI 8 ((va_up hP nx P) 3)), (qc 3, zA cI 16 ((va_up hX nx X) 3)), (qd 3, zA cI 16 ((va_up hY nx Y) 3)), (qe 3, zA cI 8 ((va_up hL nx L) 3)), (b, .inr (0, [.ref b1, .ref b2, .ref b3, .int (nI cc), .int (nI tt), .int (nI 0)])), (b1, zA cI 272 sg), (b2, zA cI 4096 rs), (b3, zA cI 8 cd)]) S hV (c_X1_drop l D cI cR d e1 e2 e3 e4 n P X Y L a (pos n L a) H.size hok (by omega) (pos_ok hok (by omega))) (zuV wd_152 wd_149 wd_150 wd_151 wd_14) 1 rfl q_X1_drop ⟨⟨rfl, rfl⟩, Nat.le_of_ble_eq_true rfl, Nat.le_of_ble_eq_true rfl⟩ [1, 2, 3, 4, 5] [0, 6, 7, 8, 9, 10, 11, 12, 13, 14, 15, 16, 17, 18, 19, 20, 21, 22, 23, 24, 25, 26, 27, 28, 29, 30, 31] rfl rfl (by decide) (by decide) (by decide) 1 rfl rfl rfl rfl rfl (Nat.le_of_ble_eq_true rfl) hl.1 ⟨Nat.zero_le _, Nat.zero_le _⟩ dX5_removeStroke_22 (fun w1 H locs hp hV => ?_)
    obtain rfl := hp
    have hV : zV D cI cR A [(z, .inr (5, [.ref d, .ref h, .ref b, .ref g, .ref v, .int (nI C), .int (nI V), .int (nI Ac)])), (d, .inr (1, [.int (nI (n - 1)), .ref e1, .ref e2, .ref e3, .ref e4])), (e1, zA cI 8 (shl P 1 a (n - 1))), (e2, zA cI 16 (shl X 2 (2 * a) (2 * n - 2))), (e3, zA cI 16 (shl Y 2 (2 * a) (2 * n - 2))), (e4, zA cI 8 (dpl L a (pos n L a) n)), (h, .inr (2, [.ref r, .int (nI ((nx + 1) % 4)), .int (nI (min (dp + 1) 4))])), (r, zAR cR 4 (rg qa)), (qa 0, .inr (1, [.int (nI ((va_up hn9 nx n) 0)), .ref (qb 0), .ref (qc 0), .ref (qd 0), .ref (qe 0)])), (qb 0, zA cI 8 ((va_up hP nx P) 0)), (qc 0, zA cI 16 ((va_up hX nx X) 0)), (qd 0, zA cI 16 ((va_up hY nx Y) 0)), (qe 0, zA cI 8 ((va_up hL nx L) 0)), (qa 1, .inr (1, [.int (nI ((va_up hn9 nx n) 1)), .ref (qb 1), .ref (qc 1), .ref (qd 1), .ref (qe 1)])), (qb 1, zA cI 8 ((va_up hP nx P) 1)), (qc 1, zA cI 16 ((va_up hX nx X) 1)), (qd 1, zA cI 16 ((va_up hY nx Y) 1)), (qe 1, zA cI 8 ((va_up hL nx L) 1)), (qa 2, .inr (1, [.int (nI ((va_up hn9 nx n) 2)), .ref (qb 2), .ref (qc 2), .ref (qd 2), .ref (qe 2)])), (qb 2, zA cI 8 ((va_up hP nx P) 2)), (qc 2, zA cI 16 ((va_up hX nx X) 2)), (qd 2, zA cI 16 ((va_up hY nx Y) 2)), (qe 2, zA cI 8 ((va_up hL nx L) 2)), (qa 3, .inr (1, [.int (nI ((va_up hn9 nx n) 3)), .ref (qb 3), .ref (qc 3), .ref (qd 3), .ref (qe 3)])), (qb 3, zA cI 8 ((va_up hP nx P) 3)), (qc 3, zA cI 16 ((va_up hX nx X) 3)), (qd 3, zA cI 16 ((va_up hY nx Y) 3)), (qe 3, zA cI 8 ((va_up hL nx L) 3)), (b, .inr (0, [.ref b1, .ref b2, .ref b3, .int (nI cc), .int (nI tt), .int (nI 0)])), (b1, zA cI 272 sg), (b2, zA cI 4096 rs), (b3, zA cI 8 cd)] s H locs := hV.perm [0, 27, 28, 29, 30, 31, 1, 2, 3, 4, 5, 6, 7, 8, 9, 10, 11, 12, 13, 14, 15, 16, 17, 18, 19, 20, 21, 22, 23, 24, 25, 26] (by decide) rfl
    refine lv_aload_n (pc := 25) S.1 S.2.1 dX5_removeStroke_25 rfl (lv_at hl 0 rfl) ?_
    refine zz_get (pc := 26) S hV.1 iX5 0 rfl rfl 0 (by decide) wd_15 rfl rfl dX5_removeStroke_26 ?_
    refine zz_callV (pc := 29) (As := []) (rest := []) S (c_X1_size l D cI cR d e1 e2 e3 e4 (n - 1) (shl P 1 a (n - 1)) (shl X 2 (2 * a) (2 * n - 2)) (shl Y 2 (2 * a) (2 * n - 2)) (dpl L a (pos n L a) n) hok8.1) (zuV wd_92 wd_89 wd_90 wd_91 wd_14) 0 rfl q_X1_size ⟨⟨rfl, rfl⟩, Nat.le_of_ble_eq_true rfl, Nat.le_of_ble_eq_true rfl⟩ hV.1 [1, 2, 3, 4, 5] rfl 1 rfl rfl rfl rfl rfl (Nat.le_of_ble_eq_true rfl) hl.1 ⟨Nat.zero_le _, Nat.zero_le _⟩ dX5_removeStroke_29 ?_
    exact zz_iretM (pc := 32) S hr hlocks hV (⟨rfl, congrArg nI (by first | omega | rfl)⟩) dX5_removeStroke_32
  · exfalso; omega
abbrev wm_X5_removeDuplicates : List Cond := .code yX5_removeDuplicates cX5_removeDuplicates 1 (some .int) :: wU
theorem q_X5_removeDuplicates : yX5_removeDuplicates.cls = RX5 ∧ yX5_removeDuplicates.cls ≠ "java/lang/invoke/MethodHandle" ∧ yX5_removeDuplicates.cls ≠ "java/lang/invoke/VarHandle" ∧ (parseMethodDescriptor yX5_removeDuplicates.desc).map (fun d => d.parameters.length) = some 0 := by decide +kernel
set_option maxHeartbeats 4000000 in
set_option maxRecDepth 100000 in
theorem c_X5_removeDuplicates (l : Launch) (D : va_G) (cI cR : ClassId) (z h b g v C V Ac : Nat) (d e1 e2 e3 e4 n : Nat) (P X Y L : Nat → Nat) (r : Nat) (qa qb qc qd qe : Nat → Nat) (hn9 : Nat → Nat) (hP hX hY hL : Nat → Nat → Nat) (nx dp : Nat) (b1 b2 b3 cc tt kk : Nat) (sg rs cd : Nat → Nat) (sz : Nat) (hok : zOk n P X Y L) (hset : zSt C V Ac) (hnx : nx < 4) (hdp : dp ≤ 4) : Met l yX5_removeDuplicates wm_X5_removeDuplicates ({ frames := 6, cells := 0, slots := 0, locals := 133 } : Room) (va_Pc [.ref z] (zX D cI cR [(z, .inr (5, [.ref d, .ref h, .ref b, .ref g, .ref v, .int (nI C), .int (nI V), .int (nI Ac)])), (d, .inr (1, [.int (nI n), .ref e1, .ref e2, .ref e3, .ref e4])), (e1, zA cI 8 P), (e2, zA cI 16 X), (e3, zA cI 16 Y), (e4, zA cI 8 L), (h, .inr (2, [.ref r, .int (nI nx), .int (nI dp)])), (r, zAR cR 4 (rg qa)), (qa 0, .inr (1, [.int (nI (hn9 0)), .ref (qb 0), .ref (qc 0), .ref (qd 0), .ref (qe 0)])), (qb 0, zA cI 8 (hP 0)), (qc 0, zA cI 16 (hX 0)), (qd 0, zA cI 16 (hY 0)), (qe 0, zA cI 8 (hL 0)), (qa 1, .inr (1, [.int (nI (hn9 1)), .ref (qb 1), .ref (qc 1), .ref (qd 1), .ref (qe 1)])), (qb 1, zA cI 8 (hP 1)), (qc 1, zA cI 16 (hX 1)), (qd 1, zA cI 16 (hY 1)), (qe 1, zA cI 8 (hL 1)), (qa 2, .inr (1, [.int (nI (hn9 2)), .ref (qb 2), .ref (qc 2), .ref (qd 2), .ref (qe 2)])), (qb 2, zA cI 8 (hP 2)), (qc 2, zA cI 16 (hX 2)), (qd 2, zA cI 16 (hY 2)), (qe 2, zA cI 8 (hL 2)), (qa 3, .inr (1, [.int (nI (hn9 3)), .ref (qb 3), .ref (qc 3), .ref (qd 3), .ref (qe 3)])), (qb 3, zA cI 8 (hP 3)), (qc 3, zA cI 16 (hX 3)), (qd 3, zA cI 16 (hY 3)), (qe 3, zA cI 8 (hL 3)), (b, .inr (0, [.ref b1, .ref b2, .ref b3, .int (nI cc), .int (nI tt), .int (nI kk)])), (b1, zA cI 272 sg), (b2, zA cI 4096 rs), (b3, zA cI 8 cd)] sz)) (zQi D cI cR (va_A [(z, .inr (5, [.ref d, .ref h, .ref b, .ref g, .ref v, .int (nI C), .int (nI V), .int (nI Ac)])), (d, .inr (1, [.int (nI n), .ref e1, .ref e2, .ref e3, .ref e4])), (e1, zA cI 8 P), (e2, zA cI 16 X), (e3, zA cI 16 Y), (e4, zA cI 8 L), (h, .inr (2, [.ref r, .int (nI nx), .int (nI dp)])), (r, zAR cR 4 (rg qa)), (qa 0, .inr (1, [.int (nI (hn9 0)), .ref (qb 0), .ref (qc 0), .ref (qd 0), .ref (qe 0)])), (qb 0, zA cI 8 (hP 0)), (qc 0, zA cI 16 (hX 0)), (qd 0, zA cI 16 (hY 0)), (qe 0, zA cI 8 (hL 0)), (qa 1, .inr (1, [.int (nI (hn9 1)), .ref (qb 1), .ref (qc 1), .ref (qd 1), .ref (qe 1)])), (qb 1, zA cI 8 (hP 1)), (qc 1, zA cI 16 (hX 1)), (qd 1, zA cI 16 (hY 1)), (qe 1, zA cI 8 (hL 1)), (qa 2, .inr (1, [.int (nI (hn9 2)), .ref (qb 2), .ref (qc 2), .ref (qd 2), .ref (qe 2)])), (qb 2, zA cI 8 (hP 2)), (qc 2, zA cI 16 (hX 2)), (qd 2, zA cI 16 (hY 2)), (qe 2, zA cI 8 (hL 2)), (qa 3, .inr (1, [.int (nI (hn9 3)), .ref (qb 3), .ref (qc 3), .ref (qd 3), .ref (qe 3)])), (qb 3, zA cI 8 (hP 3)), (qc 3, zA cI 16 (hX 3)), (qd 3, zA cI 16 (hY 3)), (qe 3, zA cI 8 (hL 3)), (b, .inr (0, [.ref b1, .ref b2, .ref b3, .int (nI cc), .int (nI tt), .int (nI kk)])), (b1, zA cI 272 sg), (b2, zA cI 4096 rs), (b3, zA cI 8 cd)] sz) (fun r0 w => ∃ (n5 : Nat) (P5 : Nat → Nat) (X5 : Nat → Nat) (Y5 : Nat → Nat) (L5 : Nat → Nat) (q5 : Nat), (w = [(z, .inr (5, [.ref d, .ref h, .ref b, .ref g, .ref v, .int (nI C), .int (nI V), .int (nI Ac)])), (d, .inr (1, [.int (nI n5), .ref e1, .ref e2, .ref e3, .ref e4])), (e1, zA cI 8 P5), (e2, zA cI 16 X5), (e3, zA cI 16 Y5), (e4, zA cI 8 L5), (h, .inr (2, [.ref r, .int (nI ((nx + 1) % 4)), .int (nI (min (dp + 1) 4))])), (r, zAR cR 4 (rg qa)), (qa 0, .inr (1, [.int (nI ((va_up hn9 nx n) 0)), .ref (qb 0), .ref (qc 0), .ref (qd 0), .ref (qe 0)])), (qb 0, zA cI 8 ((va_up hP nx P) 0)), (qc 0, zA cI 16 ((va_up hX nx X) 0)), (qd 0, zA cI 16 ((va_up hY nx Y) 0)), (qe 0, zA cI 8 ((va_up hL nx L) 0)), (qa 1, .inr (1, [.int (nI ((va_up hn9 nx n) 1)), .ref (qb 1), .ref (qc 1), .ref (qd 1), .ref (qe 1)])), (qb 1, zA cI 8 ((va_up hP nx P) 1)), (qc 1, zA cI 16 ((va_up hX nx X) 1)), (qd 1, zA cI 16 ((va_up hY nx Y) 1)), (qe 1, zA cI 8 ((va_up hL nx L) 1)), (qa 2, .inr (1, [.int (nI ((va_up hn9 nx n) 2)), .ref (qb 2), .ref (qc 2), .ref (qd 2), .ref (qe 2)])), (qb 2, zA cI 8 ((va_up hP nx P) 2)), (qc 2, zA cI 16 ((va_up hX nx X) 2)), (qd 2, zA cI 16 ((va_up hY nx Y) 2)), (qe 2, zA cI 8 ((va_up hL nx L) 2)), (qa 3, .inr (1, [.int (nI ((va_up hn9 nx n) 3)), .ref (qb 3), .ref (qc 3), .ref (qd 3), .ref (qe 3)])), (qb 3, zA cI 8 ((va_up hP nx P) 3)), (qc 3, zA cI 16 ((va_up hX nx X) 3)), (qd 3, zA cI 16 ((va_up hY nx Y) 3)), (qe 3, zA cI 8 ((va_up hL nx L) 3)), (b, .inr (0, [.ref b1, .ref b2, .ref b3, .int (nI cc), .int (nI tt), .int (nI 0)])), (b1, zA cI 272 sg), (b2, zA cI 4096 rs), (b3, zA cI 8 cd)] ∧ r0 = nI q5) ∧ (ddr n (n, P, X, Y, L) 0 = ((n5, P5, X5, Y5, L5), q5)) ∧ (zOk n5 P5 X5 Y5 L5))) 0 0 (va_A [(z, .inr (5, [.ref d, .ref h, .ref b, .ref g, .ref v, .int (nI C), .int (nI V), .int (nI Ac)])), (d, .inr (1, [.int (nI n), .ref e1, .ref e2, .ref e3, .ref e4])), (e1, zA cI 8 P), (e2, zA cI 16 X), (e3, zA cI 16 Y), (e4, zA cI 8 L), (h, .inr (2, [.ref r, .int (nI nx), .int (nI dp)])), (r, zAR cR 4 (rg qa)), (qa 0, .inr (1, [.int (nI (hn9 0)), .ref (qb 0), .ref (qc 0), .ref (qd 0), .ref (qe 0)])), (qb 0, zA cI 8 (hP 0)), (qc 0, zA cI 16 (hX 0)), (qd 0, zA cI 16 (hY 0)), (qe 0, zA cI 8 (hL 0)), (qa 1, .inr (1, [.int (nI (hn9 1)), .ref (qb 1), .ref (qc 1), .ref (qd 1), .ref (qe 1)])), (qb 1, zA cI 8 (hP 1)), (qc 1, zA cI 16 (hX 1)), (qd 1, zA cI 16 (hY 1)), (qe 1, zA cI 8 (hL 1)), (qa 2, .inr (1, [.int (nI (hn9 2)), .ref (qb 2), .ref (qc 2), .ref (qd 2), .ref (qe 2)])), (qb 2, zA cI 8 (hP 2)), (qc 2, zA cI 16 (hX 2)), (qd 2, zA cI 16 (hY 2)), (qe 2, zA cI 8 (hL 2)), (qa 3, .inr (1, [.int (nI (hn9 3)), .ref (qb 3), .ref (qc 3), .ref (qd 3), .ref (qe 3)])), (qb 3, zA cI 8 (hP 3)), (qc 3, zA cI 16 (hX 3)), (qd 3, zA cI 16 (hY 3)), (qe 3, zA cI 8 (hL 3)), (b, .inr (0, [.ref b1, .ref b2, .ref b3, .int (nI cc), .int (nI tt), .int (nI kk)])), (b1, zA cI 272 sg), (b2, zA cI 4096 rs), (b3, zA cI 8 cd)] sz) := by
  refine Met.ofW (cc := cX5_removeDuplicates) (maxL := 1) (ret := (some .int)) (by decide) rfl ?_
  intro p e s m args below meth c s₁ B hml hv
  obtain ⟨rfl, hsz, hG, hD0⟩ := hv
  have S : CallFix p m c cX5_removeDuplicates 1 s ([.ref z] : List Value).toArray wU RX5 := ⟨B.exec, B.bytes, hml, findClass_of_methodNamed B.named, fun w h => atoms_spec (ws := wm_X5_removeDuplicates) B.pre w (List.mem_cons_of_mem _ h)⟩
  have hr := B.returns
  have hlocks := B.notSynchronized
  subst hsz
  have hD := hD0.self (sz := s.heap.size)
  generalize hAe : va_A [(z, .inr (5, [.ref d, .ref h, .ref b, .ref g, .ref v, .int (nI C), .int (nI V), .int (nI Ac)])), (d, .inr (1, [.int (nI n), .ref e1, .ref e2, .ref e3, .ref e4])), (e1, zA cI 8 P), (e2, zA cI 16 X), (e3, zA cI 16 Y), (e4, zA cI 8 L), (h, .inr (2, [.ref r, .int (nI nx), .int (nI dp)])), (r, zAR cR 4 (rg qa)), (qa 0, .inr (1, [.int (nI (hn9 0)), .ref (qb 0), .ref (qc 0), .ref (qd 0), .ref (qe 0)])), (qb 0, zA cI 8 (hP 0)), (qc 0, zA cI 16 (hX 0)), (qd 0, zA cI 16 (hY 0)), (qe 0, zA cI 8 (hL 0)), (qa 1, .inr (1, [.int (nI (hn9 1)), .ref (qb 1), .ref (qc 1), .ref (qd 1), .ref (qe 1)])), (qb 1, zA cI 8 (hP 1)), (qc 1, zA cI 16 (hX 1)), (qd 1, zA cI 16 (hY 1)), (qe 1, zA cI 8 (hL 1)), (qa 2, .inr (1, [.int (nI (hn9 2)), .ref (qb 2), .ref (qc 2), .ref (qd 2), .ref (qe 2)])), (qb 2, zA cI 8 (hP 2)), (qc 2, zA cI 16 (hX 2)), (qd 2, zA cI 16 (hY 2)), (qe 2, zA cI 8 (hL 2)), (qa 3, .inr (1, [.int (nI (hn9 3)), .ref (qb 3), .ref (qc 3), .ref (qd 3), .ref (qe 3)])), (qb 3, zA cI 8 (hP 3)), (qc 3, zA cI 16 (hX 3)), (qd 3, zA cI 16 (hY 3)), (qe 3, zA cI 8 (hL 3)), (b, .inr (0, [.ref b1, .ref b2, .ref b3, .int (nI cc), .int (nI tt), .int (nI kk)])), (b1, zA cI 272 sg), (b2, zA cI 4096 rs), (b3, zA cI 8 cd)] s.heap.size = A at hD ⊢
  have hV : zV D cI cR A [(z, .inr (5, [.ref d, .ref h, .ref b, .ref g, .ref v, .int (nI C), .int (nI V), .int (nI Ac)])), (d, .inr (1, [.int (nI n), .ref e1, .ref e2, .ref e3, .ref e4])), (e1, zA cI 8 P), (e2, zA cI 16 X), (e3, zA cI 16 Y), (e4, zA cI 8 L), (h, .inr (2, [.ref r, .int (nI nx), .int (nI dp)])), (r, zAR cR 4 (rg qa)), (qa 0, .inr (1, [.int (nI (hn9 0)), .ref (qb 0), .ref (qc 0), .ref (qd 0), .ref (qe 0)])), (qb 0, zA cI 8 (hP 0)), (qc 0, zA cI 16 (hX 0)), (qd 0, zA cI 16 (hY 0)), (qe 0, zA cI 8 (hL 0)), (qa 1, .inr (1, [.int (nI (hn9 1)), .ref (qb 1), .ref (qc 1), .ref (qd 1), .ref (qe 1)])), (qb 1, zA cI 8 (hP 1)), (qc 1, zA cI 16 (hX 1)), (qd 1, zA cI 16 (hY 1)), (qe 1, zA cI 8 (hL 1)), (qa 2, .inr (1, [.int (nI (hn9 2)), .ref (qb 2), .ref (qc 2), .ref (qd 2), .ref (qe 2)])), (qb 2, zA cI 8 (hP 2)), (qc 2, zA cI 16 (hX 2)), (qd 2, zA cI 16 (hY 2)), (qe 2, zA cI 8 (hL 2)), (qa 3, .inr (1, [.int (nI (hn9 3)), .ref (qb 3), .ref (qc 3), .ref (qd 3), .ref (qe 3)])), (qb 3, zA cI 8 (hP 3)), (qc 3, zA cI 16 (hX 3)), (qd 3, zA cI 16 (hY 3)), (qe 3, zA cI 8 (hL 3)), (b, .inr (0, [.ref b1, .ref b2, .ref b3, .int (nI cc), .int (nI tt), .int (nI kk)])), (b1, zA cI 272 sg), (b2, zA cI 4096 rs), (b3, zA cI 8 cd)] s s.heap [] := ⟨hG, hD, va_S.rf, fun q h => by rw [← hAe]; exact Or.inr h⟩
  have hl := lv_entry ([.ref z]) (n := 1) (Nat.le_of_ble_eq_true rfl)
  rw [lg_entry_eq]
  generalize (lg_sl ([.ref z]) ++ List.replicate (1 - (lg_sl ([.ref z])).length) Slot.unset).toArray = ls at hl ⊢
  have hl : lv_has ls 1 [(0, .ref z)] := hl
  obtain ⟨⟨hn, hPf, hXY⟩, hLf, hinj⟩ := id hok
  obtain ⟨hC, hV9, hA9⟩ := id hset
  refine lv_aload_n (pc := 0) S.1 S.2.1 dX5_removeDuplicates_0 rfl (lv_at hl 0 rfl) ?_
  refine zz_callMv (pc := 1) (As := []) (rest := []) (wr := []) S hV (c_X5_beginEdit l D cI cR z h b g v C V Ac d e1 e2 e3 e4 n P X Y L r qa qb qc qd qe hn9 hP hX hY hL nx dp b1 b2 b3 cc tt kk sg rs cd s.heap.size hok hset (by omega) (by omega)) (zuV wd_97 wd_94 wd_95 wd_96 wd_2) 0 rfl q_X5_beginEdit ⟨⟨rfl, rfl⟩, Nat.le_of_ble_eq_true rfl, Nat.le_of_ble_eq_true rfl⟩ [0, 1, 2, 3, 4, 5, 6, 7, 8, 9, 10, 11, 12, 13, 14, 15, 16, 17, 18, 19, 20, 21, 22, 23, 24, 25, 26, 27, 28, 29, 30, 31] [] rfl rfl (by decide) (by decide) (by decide) 0 rfl rfl rfl rfl rfl (Nat.le_of_ble_eq_true rfl) hl.1 ⟨Nat.zero_le _, Nat.zero_le _⟩ dX5_removeDuplicates_1 (fun w1 H locs hp hV => ?_)
  obtain rfl := hp
  have hV : zV D cI cR A [(z, .inr (5, [.ref d, .ref h, .ref b, .ref g, .ref v, .int (nI C), .int (nI V), .int (nI Ac)])), (d, .inr (1, [.int (nI n), .ref e1, .ref e2, .ref e3, .ref e4])), (e1, zA cI 8 P), (e2, zA cI 16 X), (e3, zA cI 16 Y), (e4, zA cI 8 L), (h, .inr (2, [.ref r, .int (nI ((nx + 1) % 4)), .int (nI (min (dp + 1) 4))])), (r, zAR cR 4 (rg qa)), (qa 0, .inr (1, [.int (nI ((va_up hn9 nx n) 0)), .ref (qb 0), .ref (qc 0), .ref (qd 0), .ref (qe 0)])), (qb 0, zA cI 8 ((va_up hP nx P) 0)), (qc 0, zA cI 16 ((va_up hX nx X) 0)), (qd 0, zA cI 16 ((va_up hY nx Y) 0)), (qe 0, zA cI 8 ((va_up hL nx L) 0)), (qa 1, .inr (1, [.int (nI ((va_up hn9 nx n) 1)), .ref (qb 1), .ref (qc 1), .ref (qd 1), .ref (qe 1)])), (qb 1, zA cI 8 ((va_up hP nx P) 1)), (qc 1, zA cI 16 ((va_up hX nx X) 1)), (qd 1, zA cI 16 ((va_up hY nx Y) 1)), (qe 1, zA cI 8 ((va_up hL nx L) 1)), (qa 2, .inr (1, [.int (nI ((va_up hn9 nx n) 2)), .ref (qb 2), .ref (qc 2), .ref (qd 2), .ref (qe 2)])), (qb 2, zA cI 8 ((va_up hP nx P) 2)), (qc 2, zA cI 16 ((va_up hX nx X) 2)), (qd 2, zA cI 16 ((va_up hY nx Y) 2)), (qe 2, zA cI 8 ((va_up hL nx L) 2)), (qa 3, .inr (1, [.int (nI ((va_up hn9 nx n) 3)), .ref (qb 3), .ref (qc 3), .ref (qd 3), .ref (qe 3)])), (qb 3, zA cI 8 ((va_up hP nx P) 3)), (qc 3, zA cI 16 ((va_up hX nx X) 3)), (qd 3, zA cI 16 ((va_up hY nx Y) 3)), (qe 3, zA cI 8 ((va_up hL nx L) 3)), (b, .inr (0, [.ref b1, .ref b2, .ref b3, .int (nI cc), .int (nI tt), .int (nI 0)])), (b1, zA cI 272 sg), (b2, zA cI 4096 rs), (b3, zA cI 8 cd)] s H locs := hV.perm [0, 1, 2, 3, 4, 5, 6, 7, 8, 9, 10, 11, 12, 13, 14, 15, 16, 17, 18, 19, 20, 21, 22, 23, 24, 25, 26, 27, 28, 29, 30, 31] (by decide) rfl
  refine lv_aload_n (pc := 4) S.1 S.2.1 dX5_removeDuplicates_4 rfl (lv_at hl 0 rfl) ?_
  refine zz_get (pc := 5) S hV.1 iX5 0 rfl rfl 0 (by decide) wd_15 rfl rfl dX5_removeDuplicates_5 ?_
  refine zz_callM (pc := 8) (As := []) (rest := []) (wr := [(z, .inr (5, [.ref d, .ref h, .ref b, .ref g, .ref v, .int (nI C), .int (nI V), .int (nI Ac)])), (h, .inr (2, [.ref r, .int (nI ((nx + 1) % 4)), .int (nI (min (dp + 1) 4))])), (r, zAR cR 4 (rg qa)), (qa 0, .inr (1, [.int (nI ((va_up hn9 nx n) 0)), .ref (qb 0), .ref (qc 0), .ref (qd 0), .ref (qe 0)])), (qb 0, zA cI 8 ((va_up hP nx P) 0)), (qc 0, zA cI 16 ((va_up hX nx X) 0)), (qd 0, zA cI 16 ((va_up hY nx Y) 0)), (qe 0, zA cI 8 ((va_up hL nx L) 0)), (qa 1, .inr (1, [.int (nI ((va_up hn9 nx n) 1)), .ref (qb 1), .ref (qc 1), .ref (qd 1), .ref (qe 1)])), (qb 1, zA cI 8 ((va_up hP nx P) 1)), (qc 1, zA cI 16 ((va_up hX nx X) 1)), (qd 1, zA cI 16 ((va_up hY nx Y) 1)), (qe 1, zA cI 8 ((va_up hL nx L) 1)), (qa 2, .inr (1, [.int (nI ((va_up hn9 nx n) 2)), .ref (qb 2), .ref (qc 2), .ref (qd 2), .ref (qe 2)])), (qb 2, zA cI 8 ((va_up hP nx P) 2)), (qc 2, zA cI 16 ((va_up hX nx X) 2)), (qd 2, zA cI 16 ((va_up hY nx Y) 2)), (qe 2, zA cI 8 ((va_up hL nx L) 2)), (qa 3, .inr (1, [.int (nI ((va_up hn9 nx n) 3)), .ref (qb 3), .ref (qc 3), .ref (qd 3), .ref (qe 3)])), (qb 3, zA cI 8 ((va_up hP nx P) 3)), (qc 3, zA cI 16 ((va_up hX nx X) 3)), (qd 3, zA cI 16 ((va_up hY nx Y) 3)), (qe 3, zA cI 8 ((va_up hL nx L) 3)), (b, .inr (0, [.ref b1, .ref b2, .ref b3, .int (nI cc), .int (nI tt), .int (nI 0)])), (b1, zA cI 272 sg), (b2, zA cI 4096 rs), (b3, zA cI 8 cd)]) S hV (c_X1_dropDuplicates l D cI cR d e1 e2 e3 e4 n P X Y L H.size hok) (zuV wd_277 wd_274 wd_275 wd_276 wd_14) 0 rfl q_X1_dropDuplicates ⟨⟨rfl, rfl⟩, Nat.le_of_ble_eq_true rfl, Nat.le_of_ble_eq_true rfl⟩ [1, 2, 3, 4, 5] [0, 6, 7, 8, 9, 10, 11, 12, 13, 14, 15, 16, 17, 18, 19, 20, 21, 22, 23, 24, 25, 26, 27, 28, 29, 30, 31] rfl rfl (by decide) (by decide) (by decide) 1 rfl rfl rfl rfl rfl (Nat.le_of_ble_eq_true rfl) hl.1 ⟨Nat.zero_le _, Nat.zero_le _⟩ dX5_removeDuplicates_8 (fun r1 w1 H locs hp hV => ?_)
  obtain ⟨n5x2, P5x2, X5x2, Y5x2, L5x2, q5x2, ⟨rfl, rfl⟩, hddx2, hok5x2⟩ := hp
  have hV : zV D cI cR A [(z, .inr (5, [.ref d, .ref h, .ref b, .ref g, .ref v, .int (nI C), .int (nI V), .int (nI Ac)])), (d, .inr (1, [.int (nI n5x2), .ref e1, .ref e2, .ref e3, .ref e4])), (e1, zA cI 8 P5x2), (e2, zA cI 16 X5x2), (e3, zA cI 16 Y5x2), (e4, zA cI 8 L5x2), (h, .inr (2, [.ref r, .int (nI ((nx + 1) % 4)), .int (nI (min (dp + 1) 4))])), (r, zAR cR 4 (rg qa)), (qa 0, .inr (1, [.int (nI ((va_up hn9 nx n) 0)), .ref (qb 0), .ref (qc 0), .ref (qd 0), .ref (qe 0)])), (qb 0, zA cI 8 ((va_up hP nx P) 0)), (qc 0, zA cI 16 ((va_up hX nx X) 0)), (qd 0, zA cI 16 ((va_up hY nx Y) 0)), (qe 0, zA cI 8 ((va_up hL nx L) 0)), (qa 1, .inr (1, [.int (nI ((va_up hn9 nx n) 1)), .ref (qb 1), .ref (qc 1), .ref (qd 1), .ref (qe 1)])), (qb 1, zA cI 8 ((va_up hP nx P) 1)), (qc 1, zA cI 16 ((va_up hX nx X) 1)), (qd 1, zA cI 16 ((va_up hY nx Y) 1)), (qe 1, zA cI 8 ((va_up hL nx L) 1)), (qa 2, .inr (1, [.int (nI ((va_up hn9 nx n) 2)), .ref (qb 2), .ref (qc 2), .ref (qd 2), .ref (qe 2)])), (qb 2, zA cI 8 ((va_up hP nx P) 2)), (qc 2, zA cI 16 ((va_up hX nx X) 2)), (qd 2, zA cI 16 ((va_up hY nx Y) 2)), (qe 2, zA cI 8 ((va_up hL nx L) 2)), (qa 3, .inr (1, [.int (nI ((va_up hn9 nx n) 3)), .ref (qb 3), .ref (qc 3), .ref (qd 3), .ref (qe 3)])), (qb 3, zA cI 8 ((va_up hP nx P) 3)), (qc 3, zA cI 16 ((va_up hX nx X) 3)), (qd 3, zA cI 16 ((va_up hY nx Y) 3)), (qe 3, zA cI 8 ((va_up hL nx L) 3)), (b, .inr (0, [.ref b1, .ref b2, .ref b3, .int (nI cc), .int (nI tt), .int (nI 0)])), (b1, zA cI 272 sg), (b2, zA cI 4096 rs), (b3, zA cI 8 cd)] s H locs := hV.perm [0, 27, 28, 29, 30, 31, 1, 2, 3, 4, 5, 6, 7, 8, 9, 10, 11, 12, 13, 14, 15, 16, 17, 18, 19, 20, 21, 22, 23, 24, 25, 26] (by decide) rfl
  exact zz_iretM (pc := 11) S hr hlocks hV (⟨n5x2, P5x2, X5x2, Y5x2, L5x2, q5x2, ⟨rfl, rfl⟩, (by exact hddx2), (by exact hok5x2)⟩) dX5_removeDuplicates_11
abbrev wm_X5_movePosition : List Cond := .code yX5_movePosition cX5_movePosition 3 (some .int) :: wU
theorem q_X5_movePosition : yX5_movePosition.cls = RX5 ∧ yX5_movePosition.cls ≠ "java/lang/invoke/MethodHandle" ∧ yX5_movePosition.cls ≠ "java/lang/invoke/VarHandle" ∧ (parseMethodDescriptor yX5_movePosition.desc).map (fun d => d.parameters.length) = some 2 := by decide +kernel
set_option maxHeartbeats 4000000 in
set_option maxRecDepth 100000 in
theorem c_X5_movePosition_e (l : Launch) (D : va_G) (cI cR : ClassId) (z h b g v C V Ac : Nat) (d e1 e2 e3 e4 n : Nat) (P X Y L : Nat → Nat) (a : Int) (y : Int) (hok : zOk n P X Y L) (hset : zSt C V Ac) (ha : zR a) (hy : zR y) (hbad : ¬ ((0 ≤ a ∧ a < (n : Int)) ∧ (0 ≤ y ∧ y < (n : Int)))) : Met l yX5_movePosition wm_X5_movePosition ({ frames := 1, cells := 0, slots := 0, locals := 21 } : Room) (va_Pc [.ref z, .int (zI a), .int (zI y)] (zW D cI cR [(z, .inr (5, [.ref d, .ref h, .ref b, .ref g, .ref v, .int (nI C), .int (nI V), .int (nI Ac)])), (d, .inr (1, [.int (nI n), .ref e1, .ref e2, .ref e3, .ref e4])), (e1, zA cI 8 P), (e2, zA cI 16 X), (e3, zA cI 16 Y), (e4, zA cI 8 L)])) (vp_Si (fun r => r = zI (-1))) 0 0 (fun _ => False) := by
  refine Met.ofW (cc := cX5_movePosition) (maxL := 3) (ret := (some .int)) (by decide) rfl ?_
  intro p e s m args below meth c s₁ B hml hv
  obtain ⟨rfl, hG⟩ := hv
  have S : CallFix p m c cX5_movePosition 3 s ([.ref z, .int (zI a), .int (zI y)] : List Value).toArray wU RX5 := ⟨B.exec, B.bytes, hml, findClass_of_methodNamed B.named, fun w h => atoms_spec (ws := wm_X5_movePosition) B.pre w (List.mem_cons_of_mem _ h)⟩
  have hr := B.returns
  have hlocks := B.notSynchronized
  have hG : zG D cI cR [(z, .inr (5, [.ref d, .ref h, .ref b, .ref g, .ref v, .int (nI C), .int (nI V), .int (nI Ac)])), (d, .inr (1, [.int (nI n), .ref e1, .ref e2, .ref e3, .ref e4])), (e1, zA cI 8 P), (e2, zA cI 16 X), (e3, zA cI 16 Y), (e4, zA cI 8 L)] s s.heap := hG
  have hl := lv_entry ([.ref z, .int (zI a), .int (zI y)]) (n := 3) (Nat.le_of_ble_eq_true rfl)
  rw [lg_entry_eq]
  generalize (lg_sl ([.ref z, .int (zI a), .int (zI y)]) ++ List.replicate (3 - (lg_sl ([.ref z, .int (zI a), .int (zI y)])).length) Slot.unset).toArray = ls at hl ⊢
  have hl : lv_has ls 3 [(0, .ref z), (1, .int (zI a)), (2, .int (zI y))] := hl
  have r_ha := id ha
  unfold zR at r_ha
  have r_hy := id hy
  unfold zR at r_hy
  obtain ⟨⟨hn, hPf, hXY⟩, hLf, hinj⟩ := id hok
  obtain ⟨hC, hV9, hA9⟩ := id hset
  refine lv_aload_n (pc := 0) S.1 S.2.1 dX5_movePosition_0 rfl (lv_at hl 0 rfl) ?_
  refine zz_get (pc := 1) S hG iX5 0 rfl rfl 0 (by decide) wd_15 rfl rfl dX5_movePosition_1 ?_
  refine lv_iload_n (pc := 4) S.1 S.2.1 dX5_movePosition_4 rfl (lv_at hl 1 rfl) ?_
  refine zz_callV (pc := 5) (As := [.int (zI a)]) (rest := []) S (c_X1_hasPosition l D cI cR d e1 e2 e3 e4 n P X Y L a hok.1 (by unfold zR; omega)) (zuV wd_347 wd_344 wd_345 wd_346 wd_14) 1 rfl q_X1_hasPosition ⟨⟨rfl, rfl⟩, Nat.le_of_ble_eq_true rfl, Nat.le_of_ble_eq_true rfl⟩ hG [1, 2, 3, 4, 5] rfl 1 rfl rfl rfl rfl rfl (Nat.le_of_ble_eq_true rfl) hl.1 ⟨Nat.zero_le _, Nat.zero_le _⟩ dX5_movePosition_5 ?_
  refine zz_ifb_eq (pc := 8) (tgt := 22) S dX5_movePosition_8 (by decide) (fun c8 => ?_) (fun c8 => ?_)
  · refine zz_iconst (pc := 22) (v := zI (-1)) S dX5_movePosition_22 rfl ?_
    exact zz_iretS (pc := 23) S hr hlocks (rfl) dX5_movePosition_23
  · refine lv_aload_n (pc := 11) S.1 S.2.1 dX5_movePosition_11 rfl (lv_at hl 0 rfl) ?_
    refine zz_get (pc := 12) S hG iX5 0 rfl rfl 0 (by decide) wd_15 rfl rfl dX5_movePosition_12 ?_
    refine lv_iload_n (pc := 15) S.1 S.2.1 dX5_movePosition_15 rfl (lv_at hl 2 rfl) ?_
    refine zz_callV (pc := 16) (As := [.int (zI y)]) (rest := []) S (c_X1_hasPosition l D cI cR d e1 e2 e3 e4 n P X Y L y hok.1 (by unfold zR; omega)) (zuV wd_347 wd_344 wd_345 wd_346 wd_14) 1 rfl q_X1_hasPosition ⟨⟨rfl, rfl⟩, Nat.le_of_ble_eq_true rfl, Nat.le_of_ble_eq_true rfl⟩ hG [1, 2, 3, 4, 5] rfl 1 rfl rfl rfl rfl rfl (Nat.le_of_ble_eq_true rfl) hl.1 ⟨Nat.zero_le _, Nat.zero_le _⟩ dX5_movePosition_16 ?_
    refine zz_ifb_ne (pc := 19) (tgt := 24) S dX5_movePosition_19 (by decide) (fun c19 => ?_) (fun c19 => ?_)
    · exfalso; omega
    · refine zz_iconst (pc := 22) (v := zI (-1)) S dX5_movePosition_22 rfl ?_
      exact zz_iretS (pc := 23) S hr hlocks (rfl) dX5_movePosition_23
set_option maxHeartbeats 4000000 in
set_option maxRecDepth 100000 in
theorem c_X5_movePosition_k (l : Launch) (D : va_G) (cI cR : ClassId) (z h b g v C V Ac : Nat) (d e1 e2 e3 e4 n : Nat) (P X Y L : Nat → Nat) (r : Nat) (qa qb qc qd qe : Nat → Nat) (hn9 : Nat → Nat) (hP hX hY hL : Nat → Nat → Nat) (nx dp : Nat) (b1 b2 b3 cc tt kk : Nat) (sg rs cd : Nat → Nat) (a : Nat) (y : Nat) (sz : Nat) (hok : zOk n P X Y L) (hset : zSt C V Ac) (hnx : nx < 4) (hdp : dp ≤ 4) (ha : a < n) (hy : y < n) : Met l yX5_movePosition wm_X5_movePosition ({ frames := 4, cells := 0, slots := 0, locals := 81 } : Room) (va_Pc [.ref z, .int (nI a), .int (nI y)] (zX D cI cR [(z, .inr (5, [.ref d, .ref h, .ref b, .ref g, .ref v, .int (nI C), .int (nI V), .int (nI Ac)])), (d, .inr (1, [.int (nI n), .ref e1, .ref e2, .ref e3, .ref e4])), (e1, zA cI 8 P), (e2, zA cI 16 X), (e3, zA cI 16 Y), (e4, zA cI 8 L), (h, .inr (2, [.ref r, .int (nI nx), .int (nI dp)])), (r, zAR cR 4 (rg qa)), (qa 0, .inr (1, [.int (nI (hn9 0)), .ref (qb 0), .ref (qc 0), .ref (qd 0), .ref (qe 0)])), (qb 0, zA cI 8 (hP 0)), (qc 0, zA cI 16 (hX 0)), (qd 0, zA cI 16 (hY 0)), (qe 0, zA cI 8 (hL 0)), (qa 1, .inr (1, [.int (nI (hn9 1)), .ref (qb 1), .ref (qc 1), .ref (qd 1), .ref (qe 1)])), (qb 1, zA cI 8 (hP 1)), (qc 1, zA cI 16 (hX 1)), (qd 1, zA cI 16 (hY 1)), (qe 1, zA cI 8 (hL 1)), (qa 2, .inr (1, [.int (nI (hn9 2)), .ref (qb 2), .ref (qc 2), .ref (qd 2), .ref (qe 2)])), (qb 2, zA cI 8 (hP 2)), (qc 2, zA cI 16 (hX 2)), (qd 2, zA cI 16 (hY 2)), (qe 2, zA cI 8 (hL 2)), (qa 3, .inr (1, [.int (nI (hn9 3)), .ref (qb 3), .ref (qc 3), .ref (qd 3), .ref (qe 3)])), (qb 3, zA cI 8 (hP 3)), (qc 3, zA cI 16 (hX 3)), (qd 3, zA cI 16 (hY 3)), (qe 3, zA cI 8 (hL 3)), (b, .inr (0, [.ref b1, .ref b2, .ref b3, .int (nI cc), .int (nI tt), .int (nI kk)])), (b1, zA cI 272 sg), (b2, zA cI 4096 rs), (b3, zA cI 8 cd)] sz)) (zQi D cI cR (va_A [(z, .inr (5, [.ref d, .ref h, .ref b, .ref g, .ref v, .int (nI C), .int (nI V), .int (nI Ac)])), (d, .inr (1, [.int (nI n), .ref e1, .ref e2, .ref e3, .ref e4])), (e1, zA cI 8 P), (e2, zA cI 16 X), (e3, zA cI 16 Y), (e4, zA cI 8 L), (h, .inr (2, [.ref r, .int (nI nx), .int (nI dp)])), (r, zAR cR 4 (rg qa)), (qa 0, .inr (1, [.int (nI (hn9 0)), .ref (qb 0), .ref (qc 0), .ref (qd 0), .ref (qe 0)])), (qb 0, zA cI 8 (hP 0)), (qc 0, zA cI 16 (hX 0)), (qd 0, zA cI 16 (hY 0)), (qe 0, zA cI 8 (hL 0)), (qa 1, .inr (1, [.int (nI (hn9 1)), .ref (qb 1), .ref (qc 1), .ref (qd 1), .ref (qe 1)])), (qb 1, zA cI 8 (hP 1)), (qc 1, zA cI 16 (hX 1)), (qd 1, zA cI 16 (hY 1)), (qe 1, zA cI 8 (hL 1)), (qa 2, .inr (1, [.int (nI (hn9 2)), .ref (qb 2), .ref (qc 2), .ref (qd 2), .ref (qe 2)])), (qb 2, zA cI 8 (hP 2)), (qc 2, zA cI 16 (hX 2)), (qd 2, zA cI 16 (hY 2)), (qe 2, zA cI 8 (hL 2)), (qa 3, .inr (1, [.int (nI (hn9 3)), .ref (qb 3), .ref (qc 3), .ref (qd 3), .ref (qe 3)])), (qb 3, zA cI 8 (hP 3)), (qc 3, zA cI 16 (hX 3)), (qd 3, zA cI 16 (hY 3)), (qe 3, zA cI 8 (hL 3)), (b, .inr (0, [.ref b1, .ref b2, .ref b3, .int (nI cc), .int (nI tt), .int (nI kk)])), (b1, zA cI 272 sg), (b2, zA cI 4096 rs), (b3, zA cI 8 cd)] sz) (fun r0 w => (w = [(z, .inr (5, [.ref d, .ref h, .ref b, .ref g, .ref v, .int (nI C), .int (nI V), .int (nI Ac)])), (d, .inr (1, [.int (nI n), .ref e1, .ref e2, .ref e3, .ref e4])), (e1, zA cI 8 P), (e2, zA cI 16 X), (e3, zA cI 16 Y), (e4, zA cI 8 (mvp L a y)), (h, .inr (2, [.ref r, .int (nI ((nx + 1) % 4)), .int (nI (min (dp + 1) 4))])), (r, zAR cR 4 (rg qa)), (qa 0, .inr (1, [.int (nI ((va_up hn9 nx n) 0)), .ref (qb 0), .ref (qc 0), .ref (qd 0), .ref (qe 0)])), (qb 0, zA cI 8 ((va_up hP nx P) 0)), (qc 0, zA cI 16 ((va_up hX nx X) 0)), (qd 0, zA cI 16 ((va_up hY nx Y) 0)), (qe 0, zA cI 8 ((va_up hL nx L) 0)), (qa 1, .inr (1, [.int (nI ((va_up hn9 nx n) 1)), .ref (qb 1), .ref (qc 1), .ref (qd 1), .ref (qe 1)])), (qb 1, zA cI 8 ((va_up hP nx P) 1)), (qc 1, zA cI 16 ((va_up hX nx X) 1)), (qd 1, zA cI 16 ((va_up hY nx Y) 1)), (qe 1, zA cI 8 ((va_up hL nx L) 1)), (qa 2, .inr (1, [.int (nI ((va_up hn9 nx n) 2)), .ref (qb 2), .ref (qc 2), .ref (qd 2), .ref (qe 2)])), (qb 2, zA cI 8 ((va_up hP nx P) 2)), (qc 2, zA cI 16 ((va_up hX nx X) 2)), (qd 2, zA cI 16 ((va_up hY nx Y) 2)), (qe 2, zA cI 8 ((va_up hL nx L) 2)), (qa 3, .inr (1, [.int (nI ((va_up hn9 nx n) 3)), .ref (qb 3), .ref (qc 3), .ref (qd 3), .ref (qe 3)])), (qb 3, zA cI 8 ((va_up hP nx P) 3)), (qc 3, zA cI 16 ((va_up hX nx X) 3)), (qd 3, zA cI 16 ((va_up hY nx Y) 3)), (qe 3, zA cI 8 ((va_up hL nx L) 3)), (b, .inr (0, [.ref b1, .ref b2, .ref b3, .int (nI cc), .int (nI tt), .int (nI 0)])), (b1, zA cI 272 sg), (b2, zA cI 4096 rs), (b3, zA cI 8 cd)] ∧ r0 = nI (L a / 2)))) 0 0 (va_A [(z, .inr (5, [.ref d, .ref h, .ref b, .ref g, .ref v, .int (nI C), .int (nI V), .int (nI Ac)])), (d, .inr (1, [.int (nI n), .ref e1, .ref e2, .ref e3, .ref e4])), (e1, zA cI 8 P), (e2, zA cI 16 X), (e3, zA cI 16 Y), (e4, zA cI 8 L), (h, .inr (2, [.ref r, .int (nI nx), .int (nI dp)])), (r, zAR cR 4 (rg qa)), (qa 0, .inr (1, [.int (nI (hn9 0)), .ref (qb 0), .ref (qc 0), .ref (qd 0), .ref (qe 0)])), (qb 0, zA cI 8 (hP 0)), (qc 0, zA cI 16 (hX 0)), (qd 0, zA cI 16 (hY 0)), (qe 0, zA cI 8 (hL 0)), (qa 1, .inr (1, [.int (nI (hn9 1)), .ref (qb 1), .ref (qc 1), .ref (qd 1), .ref (qe 1)])), (qb 1, zA cI 8 (hP 1)), (qc 1, zA cI 16 (hX 1)), (qd 1, zA cI 16 (hY 1)), (qe 1, zA cI 8 (hL 1)), (qa 2, .inr (1, [.int (nI (hn9 2)), .ref (qb 2), .ref (qc 2), .ref (qd 2), .ref (qe 2)])), (qb 2, zA cI 8 (hP 2)), (qc 2, zA cI 16 (hX 2)), (qd 2, zA cI 16 (hY 2)), (qe 2, zA cI 8 (hL 2)), (qa 3, .inr (1, [.int (nI (hn9 3)), .ref (qb 3), .ref (qc 3), .ref (qd 3), .ref (qe 3)])), (qb 3, zA cI 8 (hP 3)), (qc 3, zA cI 16 (hX 3)), (qd 3, zA cI 16 (hY 3)), (qe 3, zA cI 8 (hL 3)), (b, .inr (0, [.ref b1, .ref b2, .ref b3, .int (nI cc), .int (nI tt), .int (nI kk)])), (b1, zA cI 272 sg), (b2, zA cI 4096 rs), (b3, zA cI 8 cd)] sz) := by
  refine Met.ofW (cc := cX5_movePosition) (maxL := 3) (ret := (some .int)) (by decide) rfl ?_
  intro p e s m args below meth c s₁ B hml hv
  obtain ⟨rfl, hsz, hG, hD0⟩ := hv
  have S : CallFix p m c cX5_movePosition 3 s ([.ref z, .int (nI a), .int (nI y)] : List Value).toArray wU RX5 := ⟨B.exec, B.bytes, hml, findClass_of_methodNamed B.named, fun w h => atoms_spec (ws := wm_X5_movePosition) B.pre w (List.mem_cons_of_mem _ h)⟩
  have hr := B.returns
  have hlocks := B.notSynchronized
  subst hsz
  have hD := hD0.self (sz := s.heap.size)
  generalize hAe : va_A [(z, .inr (5, [.ref d, .ref h, .ref b, .ref g, .ref v, .int (nI C), .int (nI V), .int (nI Ac)])), (d, .inr (1, [.int (nI n), .ref e1, .ref e2, .ref e3, .ref e4])), (e1, zA cI 8 P), (e2, zA cI 16 X), (e3, zA cI 16 Y), (e4, zA cI 8 L), (h, .inr (2, [.ref r, .int (nI nx), .int (nI dp)])), (r, zAR cR 4 (rg qa)), (qa 0, .inr (1, [.int (nI (hn9 0)), .ref (qb 0), .ref (qc 0), .ref (qd 0), .ref (qe 0)])), (qb 0, zA cI 8 (hP 0)), (qc 0, zA cI 16 (hX 0)), (qd 0, zA cI 16 (hY 0)), (qe 0, zA cI 8 (hL 0)), (qa 1, .inr (1, [.int (nI (hn9 1)), .ref (qb 1), .ref (qc 1), .ref (qd 1), .ref (qe 1)])), (qb 1, zA cI 8 (hP 1)), (qc 1, zA cI 16 (hX 1)), (qd 1, zA cI 16 (hY 1)), (qe 1, zA cI 8 (hL 1)), (qa 2, .inr (1, [.int (nI (hn9 2)), .ref (qb 2), .ref (qc 2), .ref (qd 2), .ref (qe 2)])), (qb 2, zA cI 8 (hP 2)), (qc 2, zA cI 16 (hX 2)), (qd 2, zA cI 16 (hY 2)), (qe 2, zA cI 8 (hL 2)), (qa 3, .inr (1, [.int (nI (hn9 3)), .ref (qb 3), .ref (qc 3), .ref (qd 3), .ref (qe 3)])), (qb 3, zA cI 8 (hP 3)), (qc 3, zA cI 16 (hX 3)), (qd 3, zA cI 16 (hY 3)), (qe 3, zA cI 8 (hL 3)), (b, .inr (0, [.ref b1, .ref b2, .ref b3, .int (nI cc), .int (nI tt), .int (nI kk)])), (b1, zA cI 272 sg), (b2, zA cI 4096 rs), (b3, zA cI 8 cd)] s.heap.size = A at hD ⊢
  have hV : zV D cI cR A [(z, .inr (5, [.ref d, .ref h, .ref b, .ref g, .ref v, .int (nI C), .int (nI V), .int (nI Ac)])), (d, .inr (1, [.int (nI n), .ref e1, .ref e2, .ref e3, .ref e4])), (e1, zA cI 8 P), (e2, zA cI 16 X), (e3, zA cI 16 Y), (e4, zA cI 8 L), (h, .inr (2, [.ref r, .int (nI nx), .int (nI dp)])), (r, zAR cR 4 (rg qa)), (qa 0, .inr (1, [.int (nI (hn9 0)), .ref (qb 0), .ref (qc 0), .ref (qd 0), .ref (qe 0)])), (qb 0, zA cI 8 (hP 0)), (qc 0, zA cI 16 (hX 0)), (qd 0, zA cI 16 (hY 0)), (qe 0, zA cI 8 (hL 0)), (qa 1, .inr (1, [.int (nI (hn9 1)), .ref (qb 1), .ref (qc 1), .ref (qd 1), .ref (qe 1)])), (qb 1, zA cI 8 (hP 1)), (qc 1, zA cI 16 (hX 1)), (qd 1, zA cI 16 (hY 1)), (qe 1, zA cI 8 (hL 1)), (qa 2, .inr (1, [.int (nI (hn9 2)), .ref (qb 2), .ref (qc 2), .ref (qd 2), .ref (qe 2)])), (qb 2, zA cI 8 (hP 2)), (qc 2, zA cI 16 (hX 2)), (qd 2, zA cI 16 (hY 2)), (qe 2, zA cI 8 (hL 2)), (qa 3, .inr (1, [.int (nI (hn9 3)), .ref (qb 3), .ref (qc 3), .ref (qd 3), .ref (qe 3)])), (qb 3, zA cI 8 (hP 3)), (qc 3, zA cI 16 (hX 3)), (qd 3, zA cI 16 (hY 3)), (qe 3, zA cI 8 (hL 3)), (b, .inr (0, [.ref b1, .ref b2, .ref b3, .int (nI cc), .int (nI tt), .int (nI kk)])), (b1, zA cI 272 sg), (b2, zA cI 4096 rs), (b3, zA cI 8 cd)] s s.heap [] := ⟨hG, hD, va_S.rf, fun q h => by rw [← hAe]; exact Or.inr h⟩
  have hl := lv_entry ([.ref z, .int (nI a), .int (nI y)]) (n := 3) (Nat.le_of_ble_eq_true rfl)
  rw [lg_entry_eq]
  generalize (lg_sl ([.ref z, .int (nI a), .int (nI y)]) ++ List.replicate (3 - (lg_sl ([.ref z, .int (nI a), .int (nI y)])).length) Slot.unset).toArray = ls at hl ⊢
  have hl : lv_has ls 3 [(0, .ref z), (1, .int (nI a)), (2, .int (nI y))] := hl
  obtain ⟨⟨hn, hPf, hXY⟩, hLf, hinj⟩ := id hok
  obtain ⟨hC, hV9, hA9⟩ := id hset
  have hok8 := move_ok (a := a) (b := y) hok ha hy
  refine lv_aload_n (pc := 0) S.1 S.2.1 dX5_movePosition_0 rfl (lv_at hl 0 rfl) ?_
  refine zz_get (pc := 1) S hV.1 iX5 0 rfl rfl 0 (by decide) wd_15 rfl rfl dX5_movePosition_1 ?_
  refine lv_iload_n (pc := 4) S.1 S.2.1 dX5_movePosition_4 rfl (lv_at hl 1 rfl) ?_
  refine zz_callV (pc := 5) (As := [.int (zI ((a : Nat) : Int))]) (rest := []) S (c_X1_hasPosition l D cI cR d e1 e2 e3 e4 n P X Y L ((a : Nat) : Int) hok.1 (by unfold zR; omega)) (zuV wd_347 wd_344 wd_345 wd_346 wd_14) 1 rfl q_X1_hasPosition ⟨⟨rfl, rfl⟩, Nat.le_of_ble_eq_true rfl, Nat.le_of_ble_eq_true rfl⟩ hV.1 [1, 2, 3, 4, 5] rfl 1 rfl rfl rfl rfl rfl (Nat.le_of_ble_eq_true rfl) hl.1 ⟨Nat.zero_le _, Nat.zero_le _⟩ dX5_movePosition_5 ?_
  refine zz_ifb_eq (pc := 8) (tgt := 22) S dX5_movePosition_8 (by decide) (fun c8 => ?_) (fun c8 => ?_)
  · exfalso; omega
  · refine lv_aload_n (pc := 11) S.1 S.2.1 dX5_movePosition_11 rfl (lv_at hl 0 rfl) ?_
    refine zz_get (pc := 12) S hV.1 iX5 0 rfl rfl 0 (by decide) wd_15 rfl rfl dX5_movePosition_12 ?_
    refine lv_iload_n (pc := 15) S.1 S.2.1 dX5_movePosition_15 rfl (lv_at hl 2 rfl) ?_
    refine zz_callV (pc := 16) (As := [.int (zI ((y : Nat) : Int))]) (rest := []) S (c_X1_hasPosition l D cI cR d e1 e2 e3 e4 n P X Y L ((y : Nat) : Int) hok.1 (by unfold zR; omega)) (zuV wd_347 wd_344 wd_345 wd_346 wd_14) 1 rfl q_X1_hasPosition ⟨⟨rfl, rfl⟩, Nat.le_of_ble_eq_true rfl, Nat.le_of_ble_eq_true rfl⟩ hV.1 [1, 2, 3, 4, 5] rfl 1 rfl rfl rfl rfl rfl (Nat.le_of_ble_eq_true rfl) hl.1 ⟨Nat.zero_le _, Nat.zero_le _⟩ dX5_movePosition_16 ?_
    refine zz_ifb_ne (pc := 19) (tgt := 24) S dX5_movePosition_19 (by decide) (fun c19 => ?_) (fun c19 => ?_)
    · refine lv_aload_n (pc := 24) S.1 S.2.1 dX5_movePosition_24 rfl (lv_at hl 0 rfl) ?_
      refine zz_callMv (pc := 25) (As := []) (rest := []) (wr := []) S hV (c_X5_beginEdit l D cI cR z h b g v C V Ac d e1 e2 e3 e4 n P X Y L r qa qb qc qd qe hn9 hP hX hY hL nx dp b1 b2 b3 cc tt kk sg rs cd s.heap.size hok hset (by omega) (by omega)) (zuV wd_97 wd_94 wd_95 wd_96 wd_2) 0 rfl q_X5_beginEdit ⟨⟨rfl, rfl⟩, Nat.le_of_ble_eq_true rfl, Nat.le_of_ble_eq_true rfl⟩ [0, 1, 2, 3, 4, 5, 6, 7, 8, 9, 10, 11, 12, 13, 14, 15, 16, 17, 18, 19, 20, 21, 22, 23, 24, 25, 26, 27, 28, 29, 30, 31] [] rfl rfl (by decide) (by decide) (by decide) 0 rfl rfl rfl rfl rfl (Nat.le_of_ble_eq_true rfl) hl.1 ⟨Nat.zero_le _, Nat.zero_le _⟩ dX5_movePosition_25 (fun w1 H locs hp hV => ?_)
      obtain rfl := hp
      have hV : zV D cI cR A [(z, .inr (5, [.ref d, .ref h, .ref b, .ref g, .ref v, .int (nI C), .int (nI V), .int (nI Ac)])), (d, .inr (1, [.int (nI n), .ref e1, .ref e2, .ref e3, .ref e4])), (e1, zA cI 8 P), (e2, zA cI 16 X), (e3, zA cI 16 Y), (e4, zA cI 8 L), (h, .inr (2, [.ref r, .int (nI ((nx + 1) % 4)), .int (nI (min (dp + 1) 4))])), (r, zAR cR 4 (rg qa)), (qa 0, .inr (1, [.int (nI ((va_up hn9 nx n) 0)), .ref (qb 0), .ref (qc 0), .ref (qd 0), .ref (qe 0)])), (qb 0, zA cI 8 ((va_up hP nx P) 0)), (qc 0, zA cI 16 ((va_up hX nx X) 0)), (qd 0, zA cI 16 ((va_up hY nx Y) 0)), (qe 0, zA cI 8 ((va_up hL nx L) 0)), (qa 1, .inr (1, [.int (nI ((va_up hn9 nx n) 1)), .ref (qb 1), .ref (qc 1), .ref (qd 1), .ref (qe 1)])), (qb 1, zA cI 8 ((va_up hP nx P) 1)), (qc 1, zA cI 16 ((va_up hX nx X) 1)), (qd 1, zA cI 16 ((va_up hY nx Y) 1)), (qe 1, zA cI 8 ((va_up hL nx L) 1)), (qa 2, .inr (1, [.int (nI ((va_up hn9 nx n) 2)), .ref (qb 2), .ref (qc 2), .ref (qd 2), .ref (qe 2)])), (qb 2, zA cI 8 ((va_up hP nx P) 2)), (qc 2, zA cI 16 ((va_up hX nx X) 2)), (qd 2, zA cI 16 ((va_up hY nx Y) 2)), (qe 2, zA cI 8 ((va_up hL nx L) 2)), (qa 3, .inr (1, [.int (nI ((va_up hn9 nx n) 3)), .ref (qb 3), .ref (qc 3), .ref (qd 3), .ref (qe 3)])), (qb 3, zA cI 8 ((va_up hP nx P) 3)), (qc 3, zA cI 16 ((va_up hX nx X) 3)), (qd 3, zA cI 16 ((va_up hY nx Y) 3)), (qe 3, zA cI 8 ((va_up hL nx L) 3)), (b, .inr (0, [.ref b1, .ref b2, .ref b3, .int (nI cc), .int (nI tt), .int (nI 0)])), (b1, zA cI 272 sg), (b2, zA cI 4096 rs), (b3, zA cI 8 cd)] s H locs := hV.perm [0, 1, 2, 3, 4, 5, 6, 7, 8, 9, 10, 11, 12, 13, 14, 15, 16, 17, 18, 19, 20, 21, 22, 23, 24, 25, 26, 27, 28, 29, 30, 31] (by decide) rfl
      refine lv_aload_n (pc := 28) S.1 S.2.1 dX5_movePosition_28 rfl (lv_at hl 0 rfl) ?_
      refine zz_get (pc := 29) S hV.1 iX5 0 rfl rfl 0 (by decide) wd_15 rfl rfl dX5_movePosition_29 ?_
      refine lv_iload_n (pc := 32) S.1 S.2.1 dX5_movePosition_32 rfl (lv_at hl 1 rfl) ?_
      refine lv_iload_n (pc := 33) S.1 S.2.1 dX5_movePosition_33 rfl (lv_at hl 2 rfl) ?_
      refine zz_callMv (pc := 34) (As := [.int (nI a), .int (nI y)]) (rest := []) (wr := [(z, .inr (5, [.ref d, .ref h, .ref b, .ref g, .ref v, .int (nI C), .int (nI V), .int (nI Ac)])), (h, .inr (2, [.ref r, .int (nI ((nx + 1) % 4)), .int (nI (min (dp + 1) 4))])), (r, zAR cR 4 (rg qa)), (qa 0, .inr (1, [.int (nI ((va_up hn9 nx n) 0)), .ref (qb 0), .ref (qc 0), .ref (qd 0), .ref (qe 0)])), (qb 0, zA cI 8 ((va_up hP nx P) 0)), (qc 0, zA cI 16 ((va_up hX nx X) 0)), (qd 0, zA cI 16 ((va_up hY nx Y) 0)), (qe 0, zA cI 8 ((va_up hL nx L) 0)), (qa 1, .inr (1, [.int (nI ((va_up hn9 nx n) 1)), .ref (qb 1), .ref (qc 1), .ref (qd 1), .ref (qe 1)])), (qb 1, zA cI 8 ((va_up hP nx P) 1)), (qc 1, zA cI 16 ((va_up hX nx X) 1)), (qd 1, zA cI 16 ((va_up hY nx Y) 1)), (qe 1, zA cI 8 ((va_up hL nx L) 1)), (qa 2, .inr (1, [.int (nI ((va_up hn9 nx n) 2)), .ref (qb 2), .ref (qc 2), .ref (qd 2), .ref (qe 2)])), (qb 2, zA cI 8 ((va_up hP nx P) 2)), (qc 2, zA cI 16 ((va_up hX nx X) 2)), (qd 2, zA cI 16 ((va_up hY nx Y) 2)), (qe 2, zA cI 8 ((va_up hL nx L) 2)), (qa 3, .inr (1, [.int (nI ((va_up hn9 nx n) 3)), .ref (qb 3), .ref (qc 3), .ref (qd 3), .ref (qe 3)])), (qb 3, zA cI 8 ((va_up hP nx P) 3)), (qc 3, zA cI 16 ((va_up hX nx X) 3)), (qd 3, zA cI 16 ((va_up hY nx Y) 3)), (qe 3, zA cI 8 ((va_up hL nx L) 3)), (b, .inr (0, [.ref b1, .ref b2, .ref b3, .int (nI cc), .int (nI tt), .int (nI 0)])), (b1, zA cI 272 sg), (b2, zA cI 4096 rs), (b3, zA cI 8 cd)]) S hV (c_X1_move l D cI cR d e1 e2 e3 e4 n P X Y L a y H.size hok.1 (by omega) (by omega)) (zuV wd_380 wd_377 wd_378 wd_379 wd_14) 2 rfl q_X1_move ⟨⟨rfl, rfl⟩, Nat.le_of_ble_eq_true rfl, Nat.le_of_ble_eq_true rfl⟩ [1, 2, 3, 4, 5] [0, 6, 7, 8, 9, 10, 11, 12, 13, 14, 15, 16, 17, 18, 19, 20, 21, 22, 23, 24, 25, 26, 27, 28, 29, 30, 31] rfl rfl (by decide) (by decide) (by decide) 1 rfl rfl rfl rfl rfl (Nat.le_of_ble_eq_true rfl) hl.1 ⟨Nat.zero_le _, Nat.zero_le _⟩ dX5_movePosition_34 (fun w1 H locs hp hV => ?_)
      obtain rfl := hp
      have hV : zV D cI cR A [(z, .inr (5, [.ref d, .ref h, .ref b, .ref g, .ref v, .int (nI C), .int (nI V), .int (nI Ac)])), (d, .inr (1, [.int (nI n), .ref e1, .ref e2, .ref e3, .ref e4])), (e1, zA cI 8 P), (e2, zA cI 16 X), (e3, zA cI 16 Y), (e4, zA cI 8 (mvp L a y)), (h, .inr (2, [.ref r, .int (nI ((nx + 1) % 4)), .int (nI (min (dp + 1) 4))])), (r, zAR cR 4 (rg qa)), (qa 0, .inr (1, [.int (nI ((va_up hn9 nx n) 0)), .ref (qb 0), .ref (qc 0), .ref (qd 0), .ref (qe 0)])), (qb 0, zA cI 8 ((va_up hP nx P) 0)), (qc 0, zA cI 16 ((va_up hX nx X) 0)), (qd 0, zA cI 16 ((va_up hY nx Y) 0)), (qe 0, zA cI 8 ((va_up hL nx L) 0)), (qa 1, .inr (1, [.int (nI ((va_up hn9 nx n) 1)), .ref (qb 1), .ref (qc 1), .ref (qd 1), .ref (qe 1)])), (qb 1, zA cI 8 ((va_up hP nx P) 1)), (qc 1, zA cI 16 ((va_up hX nx X) 1)), (qd 1, zA cI 16 ((va_up hY nx Y) 1)), (qe 1, zA cI 8 ((va_up hL nx L) 1)), (qa 2, .inr (1, [.int (nI ((va_up hn9 nx n) 2)), .ref (qb 2), .ref (qc 2), .ref (qd 2), .ref (qe 2)])), (qb 2, zA cI 8 ((va_up hP nx P) 2)), (qc 2, zA cI 16 ((va_up hX nx X) 2)), (qd 2, zA cI 16 ((va_up hY nx Y) 2)), (qe 2, zA cI 8 ((va_up hL nx L) 2)), (qa 3, .inr (1, [.int (nI ((va_up hn9 nx n) 3)), .ref (qb 3), .ref (qc 3), .ref (qd 3), .ref (qe 3)])), (qb 3, zA cI 8 ((va_up hP nx P) 3)), (qc 3, zA cI 16 ((va_up hX nx X) 3)), (qd 3, zA cI 16 ((va_up hY nx Y) 3)), (qe 3, zA cI 8 ((va_up hL nx L) 3)), (b, .inr (0, [.ref b1, .ref b2, .ref b3, .int (nI cc), .int (nI tt), .int (nI 0)])), (b1, zA cI 272 sg), (b2, zA cI 4096 rs), (b3, zA cI 8 cd)] s H locs := hV.perm [0, 27, 28, 29, 30, 31, 1, 2, 3, 4, 5, 6, 7, 8, 9, 10, 11, 12, 13, 14, 15, 16, 17, 18, 19, 20, 21, 22, 23, 24, 25, 26] (by decide) rfl
      have hLf := hok8.2.1
      refine lv_aload_n (pc := 37) S.1 S.2.1 dX5_movePosition_37 rfl (lv_at hl 0 rfl) ?_
      refine zz_get (pc := 38) S hV.1 iX5 0 rfl rfl 0 (by decide) wd_15 rfl rfl dX5_movePosition_38 ?_
      refine lv_iload_n (pc := 41) S.1 S.2.1 dX5_movePosition_41 rfl (lv_at hl 2 rfl) ?_
      refine zz_callV (pc := 42) (As := [.int (nI y)]) (rest := []) S (c_X1_codeAt l D cI cR d e1 e2 e3 e4 n P X Y (mvp L a y) y hok8 (by omega)) (zuV wd_351 wd_348 wd_349 wd_350 wd_14) 1 rfl q_X1_codeAt ⟨⟨rfl, rfl⟩, Nat.le_of_ble_eq_true rfl, Nat.le_of_ble_eq_true rfl⟩ hV.1 [1, 2, 3, 4, 5] rfl 1 rfl rfl rfl rfl rfl (Nat.le_of_ble_eq_true rfl) hl.1 ⟨Nat.zero_le _, Nat.zero_le _⟩ dX5_movePosition_42 ?_
      have g3 := hLf y (by omega)
      refine zz_iconst (pc := 45) (v := nI 2) S dX5_movePosition_45 rfl ?_
      refine zz_idiv (pc := 46) (v := nI (((mvp L a y) y) / 2)) S dX5_movePosition_46 (by decide) (n_div (by omega) (by decide) (by decide)) ?_
      exact zz_iretM (pc := 47) S hr hlocks hV (⟨rfl, congrArg nI (by rw [show mvp L a y y = L a from if_pos rfl])⟩) dX5_movePosition_47
    · exfalso; omega
abbrev wm_X5_turnPosition : List Cond := .code yX5_turnPosition cX5_turnPosition 2 (some .int) :: wU
theorem q_X5_turnPosition : yX5_turnPosition.cls = RX5 ∧ yX5_turnPosition.cls ≠ "java/lang/invoke/MethodHandle" ∧ yX5_turnPosition.cls ≠ "java/lang/invoke/VarHandle" ∧ (parseMethodDescriptor yX5_turnPosition.desc).map (fun d => d.parameters.length) = some 1 := by decide +kernel
set_option maxHeartbeats 4000000 in
set_option maxRecDepth 100000 in
theorem c_X5_turnPosition_e (l : Launch) (D : va_G) (cI cR : ClassId) (z h b g v C V Ac : Nat) (d e1 e2 e3 e4 n : Nat) (P X Y L : Nat → Nat) (a : Int) (hok : zOk n P X Y L) (hset : zSt C V Ac) (ha : zR a) (hbad : ¬ (0 ≤ a ∧ a < (n : Int))) : Met l yX5_turnPosition wm_X5_turnPosition ({ frames := 1, cells := 0, slots := 0, locals := 21 } : Room) (va_Pc [.ref z, .int (zI a)] (zW D cI cR [(z, .inr (5, [.ref d, .ref h, .ref b, .ref g, .ref v, .int (nI C), .int (nI V), .int (nI Ac)])), (d, .inr (1, [.int (nI n), .ref e1, .ref e2, .ref e3, .ref e4])), (e1, zA cI 8 P), (e2, zA cI 16 X), (e3, zA cI 16 Y), (e4, zA cI 8 L)])) (vp_Si (fun r => r = zI (-1))) 0 0 (fun _ => False) := by
  refine Met.ofW (cc := cX5_turnPosition) (maxL := 2) (ret := (some .int)) (by decide) rfl ?_
  intro p e s m args below meth c s₁ B hml hv
  obtain ⟨rfl, hG⟩ := hv
  have S : CallFix p m c cX5_turnPosition 2 s ([.ref z, .int (zI a)] : List Value).toArray wU RX5 := ⟨B.exec, B.bytes, hml, findClass_of_methodNamed B.named, fun w h => atoms_spec (ws := wm_X5_turnPosition) B.pre w (List.mem_cons_of_mem _ h)⟩
  have hr := B.returns
  have hlocks := B.notSynchronized
  have hG : zG D cI cR [(z, .inr (5, [.ref d, .ref h, .ref b, .ref g, .ref v, .int (nI C), .int (nI V), .int (nI Ac)])), (d, .inr (1, [.int (nI n), .ref e1, .ref e2, .ref e3, .ref e4])), (e1, zA cI 8 P), (e2, zA cI 16 X), (e3, zA cI 16 Y), (e4, zA cI 8 L)] s s.heap := hG
  have hl := lv_entry ([.ref z, .int (zI a)]) (n := 2) (Nat.le_of_ble_eq_true rfl)
  rw [lg_entry_eq]
  generalize (lg_sl ([.ref z, .int (zI a)]) ++ List.replicate (2 - (lg_sl ([.ref z, .int (zI a)])).length) Slot.unset).toArray = ls at hl ⊢
  have hl : lv_has ls 2 [(0, .ref z), (1, .int (zI a))] := hl
  have r_ha := id ha
  unfold zR at r_ha
  obtain ⟨⟨hn, hPf, hXY⟩, hLf, hinj⟩ := id hok
  obtain ⟨hC, hV9, hA9⟩ := id hset
  refine lv_aload_n (pc := 0) S.1 S.2.1 dX5_turnPosition_0 rfl (lv_at hl 0 rfl) ?_
  refine zz_get (pc := 1) S hG iX5 0 rfl rfl 0 (by decide) wd_15 rfl rfl dX5_turnPosition_1 ?_
  refine lv_iload_n (pc := 4) S.1 S.2.1 dX5_turnPosition_4 rfl (lv_at hl 1 rfl) ?_
  refine zz_callV (pc := 5) (As := [.int (zI a)]) (rest := []) S (c_X1_hasPosition l D cI cR d e1 e2 e3 e4 n P X Y L a hok.1 (by unfold zR; omega)) (zuV wd_347 wd_344 wd_345 wd_346 wd_14) 1 rfl q_X1_hasPosition ⟨⟨rfl, rfl⟩, Nat.le_of_ble_eq_true rfl, Nat.le_of_ble_eq_true rfl⟩ hG [1, 2, 3, 4, 5] rfl 1 rfl rfl rfl rfl rfl (Nat.le_of_ble_eq_true rfl) hl.1 ⟨Nat.zero_le _, Nat.zero_le _⟩ dX5_turnPosition_5 ?_
  refine zz_ifb_ne (pc := 8) (tgt := 13) S dX5_turnPosition_8 (by decide) (fun c8 => ?_) (fun c8 => ?_)
  · exfalso; omega
  · refine zz_iconst (pc := 11) (v := zI (-1)) S dX5_turnPosition_11 rfl ?_
    exact zz_iretS (pc := 12) S hr hlocks (rfl) dX5_turnPosition_12
set_option maxHeartbeats 4000000 in
set_option maxRecDepth 100000 in
theorem c_X5_turnPosition_k (l : Launch) (D : va_G) (cI cR : ClassId) (z h b g v C V Ac : Nat) (d e1 e2 e3 e4 n : Nat) (P X Y L : Nat → Nat) (r : Nat) (qa qb qc qd qe : Nat → Nat) (hn9 : Nat → Nat) (hP hX hY hL : Nat → Nat → Nat) (nx dp : Nat) (b1 b2 b3 cc tt kk : Nat) (sg rs cd : Nat → Nat) (a : Nat) (sz : Nat) (hok : zOk n P X Y L) (hset : zSt C V Ac) (hnx : nx < 4) (hdp : dp ≤ 4) (ha : a < n) : Met l yX5_turnPosition wm_X5_turnPosition ({ frames := 4, cells := 0, slots := 0, locals := 81 } : Room) (va_Pc [.ref z, .int (nI a)] (zX D cI cR [(z, .inr (5, [.ref d, .ref h, .ref b, .ref g, .ref v, .int (nI C), .int (nI V), .int (nI Ac)])), (d, .inr (1, [.int (nI n), .ref e1, .ref e2, .ref e3, .ref e4])), (e1, zA cI 8 P), (e2, zA cI 16 X), (e3, zA cI 16 Y), (e4, zA cI 8 L), (h, .inr (2, [.ref r, .int (nI nx), .int (nI dp)])), (r, zAR cR 4 (rg qa)), (qa 0, .inr (1, [.int (nI (hn9 0)), .ref (qb 0), .ref (qc 0), .ref (qd 0), .ref (qe 0)])), (qb 0, zA cI 8 (hP 0)), (qc 0, zA cI 16 (hX 0)), (qd 0, zA cI 16 (hY 0)), (qe 0, zA cI 8 (hL 0)), (qa 1, .inr (1, [.int (nI (hn9 1)), .ref (qb 1), .ref (qc 1), .ref (qd 1), .ref (qe 1)])), (qb 1, zA cI 8 (hP 1)), (qc 1, zA cI 16 (hX 1)), (qd 1, zA cI 16 (hY 1)), (qe 1, zA cI 8 (hL 1)), (qa 2, .inr (1, [.int (nI (hn9 2)), .ref (qb 2), .ref (qc 2), .ref (qd 2), .ref (qe 2)])), (qb 2, zA cI 8 (hP 2)), (qc 2, zA cI 16 (hX 2)), (qd 2, zA cI 16 (hY 2)), (qe 2, zA cI 8 (hL 2)), (qa 3, .inr (1, [.int (nI (hn9 3)), .ref (qb 3), .ref (qc 3), .ref (qd 3), .ref (qe 3)])), (qb 3, zA cI 8 (hP 3)), (qc 3, zA cI 16 (hX 3)), (qd 3, zA cI 16 (hY 3)), (qe 3, zA cI 8 (hL 3)), (b, .inr (0, [.ref b1, .ref b2, .ref b3, .int (nI cc), .int (nI tt), .int (nI kk)])), (b1, zA cI 272 sg), (b2, zA cI 4096 rs), (b3, zA cI 8 cd)] sz)) (zQi D cI cR (va_A [(z, .inr (5, [.ref d, .ref h, .ref b, .ref g, .ref v, .int (nI C), .int (nI V), .int (nI Ac)])), (d, .inr (1, [.int (nI n), .ref e1, .ref e2, .ref e3, .ref e4])), (e1, zA cI 8 P), (e2, zA cI 16 X), (e3, zA cI 16 Y), (e4, zA cI 8 L), (h, .inr (2, [.ref r, .int (nI nx), .int (nI dp)])), (r, zAR cR 4 (rg qa)), (qa 0, .inr (1, [.int (nI (hn9 0)), .ref (qb 0), .ref (qc 0), .ref (qd 0), .ref (qe 0)])), (qb 0, zA cI 8 (hP 0)), (qc 0, zA cI 16 (hX 0)), (qd 0, zA cI 16 (hY 0)), (qe 0, zA cI 8 (hL 0)), (qa 1, .inr (1, [.int (nI (hn9 1)), .ref (qb 1), .ref (qc 1), .ref (qd 1), .ref (qe 1)])), (qb 1, zA cI 8 (hP 1)), (qc 1, zA cI 16 (hX 1)), (qd 1, zA cI 16 (hY 1)), (qe 1, zA cI 8 (hL 1)), (qa 2, .inr (1, [.int (nI (hn9 2)), .ref (qb 2), .ref (qc 2), .ref (qd 2), .ref (qe 2)])), (qb 2, zA cI 8 (hP 2)), (qc 2, zA cI 16 (hX 2)), (qd 2, zA cI 16 (hY 2)), (qe 2, zA cI 8 (hL 2)), (qa 3, .inr (1, [.int (nI (hn9 3)), .ref (qb 3), .ref (qc 3), .ref (qd 3), .ref (qe 3)])), (qb 3, zA cI 8 (hP 3)), (qc 3, zA cI 16 (hX 3)), (qd 3, zA cI 16 (hY 3)), (qe 3, zA cI 8 (hL 3)), (b, .inr (0, [.ref b1, .ref b2, .ref b3, .int (nI cc), .int (nI tt), .int (nI kk)])), (b1, zA cI 272 sg), (b2, zA cI 4096 rs), (b3, zA cI 8 cd)] sz) (fun r0 w => (w = [(z, .inr (5, [.ref d, .ref h, .ref b, .ref g, .ref v, .int (nI C), .int (nI V), .int (nI Ac)])), (d, .inr (1, [.int (nI n), .ref e1, .ref e2, .ref e3, .ref e4])), (e1, zA cI 8 P), (e2, zA cI 16 X), (e3, zA cI 16 Y), (e4, zA cI 8 (va_up L a (sw (L a)))), (h, .inr (2, [.ref r, .int (nI ((nx + 1) % 4)), .int (nI (min (dp + 1) 4))])), (r, zAR cR 4 (rg qa)), (qa 0, .inr (1, [.int (nI ((va_up hn9 nx n) 0)), .ref (qb 0), .ref (qc 0), .ref (qd 0), .ref (qe 0)])), (qb 0, zA cI 8 ((va_up hP nx P) 0)), (qc 0, zA cI 16 ((va_up hX nx X) 0)), (qd 0, zA cI 16 ((va_up hY nx Y) 0)), (qe 0, zA cI 8 ((va_up hL nx L) 0)), (qa 1, .inr (1, [.int (nI ((va_up hn9 nx n) 1)), .ref (qb 1), .ref (qc 1), .ref (qd 1), .ref (qe 1)])), (qb 1, zA cI 8 ((va_up hP nx P) 1)), (qc 1, zA cI 16 ((va_up hX nx X) 1)), (qd 1, zA cI 16 ((va_up hY nx Y) 1)), (qe 1, zA cI 8 ((va_up hL nx L) 1)), (qa 2, .inr (1, [.int (nI ((va_up hn9 nx n) 2)), .ref (qb 2), .ref (qc 2), .ref (qd 2), .ref (qe 2)])), (qb 2, zA cI 8 ((va_up hP nx P) 2)), (qc 2, zA cI 16 ((va_up hX nx X) 2)), (qd 2, zA cI 16 ((va_up hY nx Y) 2)), (qe 2, zA cI 8 ((va_up hL nx L) 2)), (qa 3, .inr (1, [.int (nI ((va_up hn9 nx n) 3)), .ref (qb 3), .ref (qc 3), .ref (qd 3), .ref (qe 3)])), (qb 3, zA cI 8 ((va_up hP nx P) 3)), (qc 3, zA cI 16 ((va_up hX nx X) 3)), (qd 3, zA cI 16 ((va_up hY nx Y) 3)), (qe 3, zA cI 8 ((va_up hL nx L) 3)), (b, .inr (0, [.ref b1, .ref b2, .ref b3, .int (nI cc), .int (nI tt), .int (nI 0)])), (b1, zA cI 272 sg), (b2, zA cI 4096 rs), (b3, zA cI 8 cd)] ∧ r0 = nI (sw (L a) % 2)))) 0 0 (va_A [(z, .inr (5, [.ref d, .ref h, .ref b, .ref g, .ref v, .int (nI C), .int (nI V), .int (nI Ac)])), (d, .inr (1, [.int (nI n), .ref e1, .ref e2, .ref e3, .ref e4])), (e1, zA cI 8 P), (e2, zA cI 16 X), (e3, zA cI 16 Y), (e4, zA cI 8 L), (h, .inr (2, [.ref r, .int (nI nx), .int (nI dp)])), (r, zAR cR 4 (rg qa)), (qa 0, .inr (1, [.int (nI (hn9 0)), .ref (qb 0), .ref (qc 0), .ref (qd 0), .ref (qe 0)])), (qb 0, zA cI 8 (hP 0)), (qc 0, zA cI 16 (hX 0)), (qd 0, zA cI 16 (hY 0)), (qe 0, zA cI 8 (hL 0)), (qa 1, .inr (1, [.int (nI (hn9 1)), .ref (qb 1), .ref (qc 1), .ref (qd 1), .ref (qe 1)])), (qb 1, zA cI 8 (hP 1)), (qc 1, zA cI 16 (hX 1)), (qd 1, zA cI 16 (hY 1)), (qe 1, zA cI 8 (hL 1)), (qa 2, .inr (1, [.int (nI (hn9 2)), .ref (qb 2), .ref (qc 2), .ref (qd 2), .ref (qe 2)])), (qb 2, zA cI 8 (hP 2)), (qc 2, zA cI 16 (hX 2)), (qd 2, zA cI 16 (hY 2)), (qe 2, zA cI 8 (hL 2)), (qa 3, .inr (1, [.int (nI (hn9 3)), .ref (qb 3), .ref (qc 3), .ref (qd 3), .ref (qe 3)])), (qb 3, zA cI 8 (hP 3)), (qc 3, zA cI 16 (hX 3)), (qd 3, zA cI 16 (hY 3)), (qe 3, zA cI 8 (hL 3)), (b, .inr (0, [.ref b1, .ref b2, .ref b3, .int (nI cc), .int (nI tt), .int (nI kk)])), (b1, zA cI 272 sg), (b2, zA cI 4096 rs), (b3, zA cI 8 cd)] sz) := by
  refine Met.ofW (cc := cX5_turnPosition) (maxL := 2) (ret := (some .int)) (by decide) rfl ?_
  intro p e s m args below meth c s₁ B hml hv
  obtain ⟨rfl, hsz, hG, hD0⟩ := hv
  have S : CallFix p m c cX5_turnPosition 2 s ([.ref z, .int (nI a)] : List Value).toArray wU RX5 := ⟨B.exec, B.bytes, hml, findClass_of_methodNamed B.named, fun w h => atoms_spec (ws := wm_X5_turnPosition) B.pre w (List.mem_cons_of_mem _ h)⟩
  have hr := B.returns
  have hlocks := B.notSynchronized
  subst hsz
  have hD := hD0.self (sz := s.heap.size)
  generalize hAe : va_A [(z, .inr (5, [.ref d, .ref h, .ref b, .ref g, .ref v, .int (nI C), .int (nI V), .int (nI Ac)])), (d, .inr (1, [.int (nI n), .ref e1, .ref e2, .ref e3, .ref e4])), (e1, zA cI 8 P), (e2, zA cI 16 X), (e3, zA cI 16 Y), (e4, zA cI 8 L), (h, .inr (2, [.ref r, .int (nI nx), .int (nI dp)])), (r, zAR cR 4 (rg qa)), (qa 0, .inr (1, [.int (nI (hn9 0)), .ref (qb 0), .ref (qc 0), .ref (qd 0), .ref (qe 0)])), (qb 0, zA cI 8 (hP 0)), (qc 0, zA cI 16 (hX 0)), (qd 0, zA cI 16 (hY 0)), (qe 0, zA cI 8 (hL 0)), (qa 1, .inr (1, [.int (nI (hn9 1)), .ref (qb 1), .ref (qc 1), .ref (qd 1), .ref (qe 1)])), (qb 1, zA cI 8 (hP 1)), (qc 1, zA cI 16 (hX 1)), (qd 1, zA cI 16 (hY 1)), (qe 1, zA cI 8 (hL 1)), (qa 2, .inr (1, [.int (nI (hn9 2)), .ref (qb 2), .ref (qc 2), .ref (qd 2), .ref (qe 2)])), (qb 2, zA cI 8 (hP 2)), (qc 2, zA cI 16 (hX 2)), (qd 2, zA cI 16 (hY 2)), (qe 2, zA cI 8 (hL 2)), (qa 3, .inr (1, [.int (nI (hn9 3)), .ref (qb 3), .ref (qc 3), .ref (qd 3), .ref (qe 3)])), (qb 3, zA cI 8 (hP 3)), (qc 3, zA cI 16 (hX 3)), (qd 3, zA cI 16 (hY 3)), (qe 3, zA cI 8 (hL 3)), (b, .inr (0, [.ref b1, .ref b2, .ref b3, .int (nI cc), .int (nI tt), .int (nI kk)])), (b1, zA cI 272 sg), (b2, zA cI 4096 rs), (b3, zA cI 8 cd)] s.heap.size = A at hD ⊢
  have hV : zV D cI cR A [(z, .inr (5, [.ref d, .ref h, .ref b, .ref g, .ref v, .int (nI C), .int (nI V), .int (nI Ac)])), (d, .inr (1, [.int (nI n), .ref e1, .ref e2, .ref e3, .ref e4])), (e1, zA cI 8 P), (e2, zA cI 16 X), (e3, zA cI 16 Y), (e4, zA cI 8 L), (h, .inr (2, [.ref r, .int (nI nx), .int (nI dp)])), (r, zAR cR 4 (rg qa)), (qa 0, .inr (1, [.int (nI (hn9 0)), .ref (qb 0), .ref (qc 0), .ref (qd 0), .ref (qe 0)])), (qb 0, zA cI 8 (hP 0)), (qc 0, zA cI 16 (hX 0)), (qd 0, zA cI 16 (hY 0)), (qe 0, zA cI 8 (hL 0)), (qa 1, .inr (1, [.int (nI (hn9 1)), .ref (qb 1), .ref (qc 1), .ref (qd 1), .ref (qe 1)])), (qb 1, zA cI 8 (hP 1)), (qc 1, zA cI 16 (hX 1)), (qd 1, zA cI 16 (hY 1)), (qe 1, zA cI 8 (hL 1)), (qa 2, .inr (1, [.int (nI (hn9 2)), .ref (qb 2), .ref (qc 2), .ref (qd 2), .ref (qe 2)])), (qb 2, zA cI 8 (hP 2)), (qc 2, zA cI 16 (hX 2)), (qd 2, zA cI 16 (hY 2)), (qe 2, zA cI 8 (hL 2)), (qa 3, .inr (1, [.int (nI (hn9 3)), .ref (qb 3), .ref (qc 3), .ref (qd 3), .ref (qe 3)])), (qb 3, zA cI 8 (hP 3)), (qc 3, zA cI 16 (hX 3)), (qd 3, zA cI 16 (hY 3)), (qe 3, zA cI 8 (hL 3)), (b, .inr (0, [.ref b1, .ref b2, .ref b3, .int (nI cc), .int (nI tt), .int (nI kk)])), (b1, zA cI 272 sg), (b2, zA cI 4096 rs), (b3, zA cI 8 cd)] s s.heap [] := ⟨hG, hD, va_S.rf, fun q h => by rw [← hAe]; exact Or.inr h⟩
  have hl := lv_entry ([.ref z, .int (nI a)]) (n := 2) (Nat.le_of_ble_eq_true rfl)
  rw [lg_entry_eq]
  generalize (lg_sl ([.ref z, .int (nI a)]) ++ List.replicate (2 - (lg_sl ([.ref z, .int (nI a)])).length) Slot.unset).toArray = ls at hl ⊢
  have hl : lv_has ls 2 [(0, .ref z), (1, .int (nI a))] := hl
  obtain ⟨⟨hn, hPf, hXY⟩, hLf, hinj⟩ := id hok
  obtain ⟨hC, hV9, hA9⟩ := id hset
  have hsw := sw_lt (c := L a) (n := n) (hLf a ha)
  have hok8 := turn_ok (a := a) hok ha
  refine lv_aload_n (pc := 0) S.1 S.2.1 dX5_turnPosition_0 rfl (lv_at hl 0 rfl) ?_
  refine zz_get (pc := 1) S hV.1 iX5 0 rfl rfl 0 (by decide) wd_15 rfl rfl dX5_turnPosition_1 ?_
  refine lv_iload_n (pc := 4) S.1 S.2.1 dX5_turnPosition_4 rfl (lv_at hl 1 rfl) ?_
  refine zz_callV (pc := 5) (As := [.int (zI ((a : Nat) : Int))]) (rest := []) S (c_X1_hasPosition l D cI cR d e1 e2 e3 e4 n P X Y L ((a : Nat) : Int) hok.1 (by unfold zR; omega)) (zuV wd_347 wd_344 wd_345 wd_346 wd_14) 1 rfl q_X1_hasPosition ⟨⟨rfl, rfl⟩, Nat.le_of_ble_eq_true rfl, Nat.le_of_ble_eq_true rfl⟩ hV.1 [1, 2, 3, 4, 5] rfl 1 rfl rfl rfl rfl rfl (Nat.le_of_ble_eq_true rfl) hl.1 ⟨Nat.zero_le _, Nat.zero_le _⟩ dX5_turnPosition_5 ?_
  refine zz_ifb_ne (pc := 8) (tgt := 13) S dX5_turnPosition_8 (by decide) (fun c8 => ?_) (fun c8 => ?_)
  · refine lv_aload_n (pc := 13) S.1 S.2.1 dX5_turnPosition_13 rfl (lv_at hl 0 rfl) ?_
    refine zz_callMv (pc := 14) (As := []) (rest := []) (wr := []) S hV (c_X5_beginEdit l D cI cR z h b g v C V Ac d e1 e2 e3 e4 n P X Y L r qa qb qc qd qe hn9 hP hX hY hL nx dp b1 b2 b3 cc tt kk sg rs cd s.heap.size hok hset (by omega) (by omega)) (zuV wd_97 wd_94 wd_95 wd_96 wd_2) 0 rfl q_X5_beginEdit ⟨⟨rfl, rfl⟩, Nat.le_of_ble_eq_true rfl, Nat.le_of_ble_eq_true rfl⟩ [0, 1, 2, 3, 4, 5, 6, 7, 8, 9, 10, 11, 12, 13, 14, 15, 16, 17, 18, 19, 20, 21, 22, 23, 24, 25, 26, 27, 28, 29, 30, 31] [] rfl rfl (by decide) (by decide) (by decide) 0 rfl rfl rfl rfl rfl (Nat.le_of_ble_eq_true rfl) hl.1 ⟨Nat.zero_le _, Nat.zero_le _⟩ dX5_turnPosition_14 (fun w1 H locs hp hV => ?_)
    obtain rfl := hp
    have hV : zV D cI cR A [(z, .inr (5, [.ref d, .ref h, .ref b, .ref g, .ref v, .int (nI C), .int (nI V), .int (nI Ac)])), (d, .inr (1, [.int (nI n), .ref e1, .ref e2, .ref e3, .ref e4])), (e1, zA cI 8 P), (e2, zA cI 16 X), (e3, zA cI 16 Y), (e4, zA cI 8 L), (h, .inr (2, [.ref r, .int (nI ((nx + 1) % 4)), .int (nI (min (dp + 1) 4))])), (r, zAR cR 4 (rg qa)), (qa 0, .inr (1, [.int (nI ((va_up hn9 nx n) 0)), .ref (qb 0), .ref (qc 0), .ref (qd 0), .ref (qe 0)])), (qb 0, zA cI 8 ((va_up hP nx P) 0)), (qc 0, zA cI 16 ((va_up hX nx X) 0)), (qd 0, zA cI 16 ((va_up hY nx Y) 0)), (qe 0, zA cI 8 ((va_up hL nx L) 0)), (qa 1, .inr (1, [.int (nI ((va_up hn9 nx n) 1)), .ref (qb 1), .ref (qc 1), .ref (qd 1), .ref (qe 1)])), (qb 1, zA cI 8 ((va_up hP nx P) 1)), (qc 1, zA cI 16 ((va_up hX nx X) 1)), (qd 1, zA cI 16 ((va_up hY nx Y) 1)), (qe 1, zA cI 8 ((va_up hL nx L) 1)), (qa 2, .inr (1, [.int (nI ((va_up hn9 nx n) 2)), .ref (qb 2), .ref (qc 2), .ref (qd 2), .ref (qe 2)])), (qb 2, zA cI 8 ((va_up hP nx P) 2)), (qc 2, zA cI 16 ((va_up hX nx X) 2)), (qd 2, zA cI 16 ((va_up hY nx Y) 2)), (qe 2, zA cI 8 ((va_up hL nx L) 2)), (qa 3, .inr (1, [.int (nI ((va_up hn9 nx n) 3)), .ref (qb 3), .ref (qc 3), .ref (qd 3), .ref (qe 3)])), (qb 3, zA cI 8 ((va_up hP nx P) 3)), (qc 3, zA cI 16 ((va_up hX nx X) 3)), (qd 3, zA cI 16 ((va_up hY nx Y) 3)), (qe 3, zA cI 8 ((va_up hL nx L) 3)), (b, .inr (0, [.ref b1, .ref b2, .ref b3, .int (nI cc), .int (nI tt), .int (nI 0)])), (b1, zA cI 272 sg), (b2, zA cI 4096 rs), (b3, zA cI 8 cd)] s H locs := hV.perm [0, 1, 2, 3, 4, 5, 6, 7, 8, 9, 10, 11, 12, 13, 14, 15, 16, 17, 18, 19, 20, 21, 22, 23, 24, 25, 26, 27, 28, 29, 30, 31] (by decide) rfl
    refine lv_aload_n (pc := 17) S.1 S.2.1 dX5_turnPosition_17 rfl (lv_at hl 0 rfl) ?_
    refine zz_get (pc := 18) S hV.1 iX5 0 rfl rfl 0 (by decide) wd_15 rfl rfl dX5_turnPosition_18 ?_
    refine lv_iload_n (pc := 21) S.1 S.2.1 dX5_turnPosition_21 rfl (lv_at hl 1 rfl) ?_
    refine zz_callMv (pc := 22) (As := [.int (nI a)]) (rest := []) (wr := [(z, .inr (5, [.ref d, .ref h, .ref b, .ref g, .ref v, .int (nI C), .int (nI V), .int (nI Ac)])), (h, .inr (2, [.ref r, .int (nI ((nx + 1) % 4)), .int (nI (min (dp + 1) 4))])), (r, zAR cR 4 (rg qa)), (qa 0, .inr (1, [.int (nI ((va_up hn9 nx n) 0)), .ref (qb 0), .ref (qc 0), .ref (qd 0), .ref (qe 0)])), (qb 0, zA cI 8 ((va_up hP nx P) 0)), (qc 0, zA cI 16 ((va_up hX nx X) 0)), (qd 0, zA cI 16 ((va_up hY nx Y) 0)), (qe 0, zA cI 8 ((va_up hL nx L) 0)), (qa 1, .inr (1, [.int (nI ((va_up hn9 nx n) 1)), .ref (qb 1), .ref (qc 1), .ref (qd 1), .ref (qe 1)])), (qb 1, zA cI 8 ((va_up hP nx P) 1)), (qc 1, zA cI 16 ((va_up hX nx X) 1)), (qd 1, zA cI 16 ((va_up hY nx Y) 1)), (qe 1, zA cI 8 ((va_up hL nx L) 1)), (qa 2, .inr (1, [.int (nI ((va_up hn9 nx n) 2)), .ref (qb 2), .ref (qc 2), .ref (qd 2), .ref (qe 2)])), (qb 2, zA cI 8 ((va_up hP nx P) 2)), (qc 2, zA cI 16 ((va_up hX nx X) 2)), (qd 2, zA cI 16 ((va_up hY nx Y) 2)), (qe 2, zA cI 8 ((va_up hL nx L) 2)), (qa 3, .inr (1, [.int (nI ((va_up hn9 nx n) 3)), .ref (qb 3), .ref (qc 3), .ref (qd 3), .ref (qe 3)])), (qb 3, zA cI 8 ((va_up hP nx P) 3)), (qc 3, zA cI 16 ((va_up hX nx X) 3)), (qd 3, zA cI 16 ((va_up hY nx Y) 3)), (qe 3, zA cI 8 ((va_up hL nx L) 3)), (b, .inr (0, [.ref b1, .ref b2, .ref b3, .int (nI cc), .int (nI tt), .int (nI 0)])), (b1, zA cI 272 sg), (b2, zA cI 4096 rs), (b3, zA cI 8 cd)]) S hV (c_X1_turn l D cI cR d e1 e2 e3 e4 n P X Y L a H.size hok.1 (by omega)) (zuV wd_392 wd_389 wd_390 wd_391 wd_14) 1 rfl q_X1_turn ⟨⟨rfl, rfl⟩, Nat.le_of_ble_eq_true rfl, Nat.le_of_ble_eq_true rfl⟩ [1, 2, 3, 4, 5] [0, 6, 7, 8, 9, 10, 11, 12, 13, 14, 15, 16, 17, 18, 19, 20, 21, 22, 23, 24, 25, 26, 27, 28, 29, 30, 31] rfl rfl (by decide) (by decide) (by decide) 1 rfl rfl rfl rfl rfl (Nat.le_of_ble_eq_true rfl) hl.1 ⟨Nat.zero_le _, Nat.zero_le _⟩ dX5_turnPosition_22 (fun w1 H locs hp hV => ?_)
    obtain rfl := hp
    have hV : zV D cI cR A [(z, .inr (5, [.ref d, .ref h, .ref b, .ref g, .ref v, .int (nI C), .int (nI V), .int (nI Ac)])), (d, .inr (1, [.int (nI n), .ref e1, .ref e2, .ref e3, .ref e4])), (e1, zA cI 8 P), (e2, zA cI 16 X), (e3, zA cI 16 Y), (e4, zA cI 8 (va_up L a (sw (L a)))), (h, .inr (2, [.ref r, .int (nI ((nx + 1) % 4)), .int (nI (min (dp + 1) 4))])), (r, zAR cR 4 (rg qa)), (qa 0, .inr (1, [.int (nI ((va_up hn9 nx n) 0)), .ref (qb 0), .ref (qc 0), .ref (qd 0), .ref (qe 0)])), (qb 0, zA cI 8 ((va_up hP nx P) 0)), (qc 0, zA cI 16 ((va_up hX nx X) 0)), (qd 0, zA cI 16 ((va_up hY nx Y) 0)), (qe 0, zA cI 8 ((va_up hL nx L) 0)), (qa 1, .inr (1, [.int (nI ((va_up hn9 nx n) 1)), .ref (qb 1), .ref (qc 1), .ref (qd 1), .ref (qe 1)])), (qb 1, zA cI 8 ((va_up hP nx P) 1)), (qc 1, zA cI 16 ((va_up hX nx X) 1)), (qd 1, zA cI 16 ((va_up hY nx Y) 1)), (qe 1, zA cI 8 ((va_up hL nx L) 1)), (qa 2, .inr (1, [.int (nI ((va_up hn9 nx n) 2)), .ref (qb 2), .ref (qc 2), .ref (qd 2), .ref (qe 2)])), (qb 2, zA cI 8 ((va_up hP nx P) 2)), (qc 2, zA cI 16 ((va_up hX nx X) 2)), (qd 2, zA cI 16 ((va_up hY nx Y) 2)), (qe 2, zA cI 8 ((va_up hL nx L) 2)), (qa 3, .inr (1, [.int (nI ((va_up hn9 nx n) 3)), .ref (qb 3), .ref (qc 3), .ref (qd 3), .ref (qe 3)])), (qb 3, zA cI 8 ((va_up hP nx P) 3)), (qc 3, zA cI 16 ((va_up hX nx X) 3)), (qd 3, zA cI 16 ((va_up hY nx Y) 3)), (qe 3, zA cI 8 ((va_up hL nx L) 3)), (b, .inr (0, [.ref b1, .ref b2, .ref b3, .int (nI cc), .int (nI tt), .int (nI 0)])), (b1, zA cI 272 sg), (b2, zA cI 4096 rs), (b3, zA cI 8 cd)] s H locs := hV.perm [0, 27, 28, 29, 30, 31, 1, 2, 3, 4, 5, 6, 7, 8, 9, 10, 11, 12, 13, 14, 15, 16, 17, 18, 19, 20, 21, 22, 23, 24, 25, 26] (by decide) rfl
    have hLf := hok8.2.1
    refine lv_aload_n (pc := 25) S.1 S.2.1 dX5_turnPosition_25 rfl (lv_at hl 0 rfl) ?_
    refine zz_get (pc := 26) S hV.1 iX5 0 rfl rfl 0 (by decide) wd_15 rfl rfl dX5_turnPosition_26 ?_
    refine lv_iload_n (pc := 29) S.1 S.2.1 dX5_turnPosition_29 rfl (lv_at hl 1 rfl) ?_
    refine zz_callV (pc := 30) (As := [.int (nI a)]) (rest := []) S (c_X1_codeAt l D cI cR d e1 e2 e3 e4 n P X Y (va_up L a (sw (L a))) a hok8 (by omega)) (zuV wd_351 wd_348 wd_349 wd_350 wd_14) 1 rfl q_X1_codeAt ⟨⟨rfl, rfl⟩, Nat.le_of_ble_eq_true rfl, Nat.le_of_ble_eq_true rfl⟩ hV.1 [1, 2, 3, 4, 5] rfl 1 rfl rfl rfl rfl rfl (Nat.le_of_ble_eq_true rfl) hl.1 ⟨Nat.zero_le _, Nat.zero_le _⟩ dX5_turnPosition_30 ?_
    have g3 := hLf a (by omega)
    refine zz_iconst (pc := 33) (v := nI 2) S dX5_turnPosition_33 rfl ?_
    refine zz_irem (pc := 34) (v := nI (((va_up L a (sw (L a))) a) % 2)) S dX5_turnPosition_34 (by decide) (n_rem (by omega) (by decide) (by decide)) ?_
    exact zz_iretM (pc := 35) S hr hlocks hV (⟨rfl, congrArg nI (by rw [show va_up L a (sw (L a)) a = sw (L a) from if_pos rfl])⟩) dX5_turnPosition_35
  · exfalso; omega
abbrev wm_X5_setSquareLimit : List Cond := .code yX5_setSquareLimit cX5_setSquareLimit 3 (some .int) :: wU
theorem q_X5_setSquareLimit : yX5_setSquareLimit.cls = RX5 ∧ yX5_setSquareLimit.cls ≠ "java/lang/invoke/MethodHandle" ∧ yX5_setSquareLimit.cls ≠ "java/lang/invoke/VarHandle" ∧ (parseMethodDescriptor yX5_setSquareLimit.desc).map (fun d => d.parameters.length) = some 1 := by decide +kernel
set_option maxHeartbeats 4000000 in
set_option maxRecDepth 100000 in
theorem c_X5_setSquareLimit_e (l : Launch) (D : va_G) (cI cR : ClassId) (z h b g v C V Ac : Nat) (d e1 e2 e3 e4 n : Nat) (P X Y L : Nat → Nat) (a : Int) (hok : zOk n P X Y L) (hset : zSt C V Ac) (ha : zR a) (hbad : ¬ (1 ≤ a ∧ a ≤ 9999)) : Met l yX5_setSquareLimit wm_X5_setSquareLimit ({ frames := 1, cells := 0, slots := 0, locals := 22 } : Room) (va_Pc [.ref z, .int (zI a)] (zW D cI cR [(z, .inr (5, [.ref d, .ref h, .ref b, .ref g, .ref v, .int (nI C), .int (nI V), .int (nI Ac)])), (d, .inr (1, [.int (nI n), .ref e1, .ref e2, .ref e3, .ref e4])), (e1, zA cI 8 P), (e2, zA cI 16 X), (e3, zA cI 16 Y), (e4, zA cI 8 L)])) (vp_Si (fun r => r = zI (-1))) 0 0 (fun _ => False) := by
  refine Met.ofW (cc := cX5_setSquareLimit) (maxL := 3) (ret := (some .int)) (by decide) rfl ?_
  intro p e s m args below meth c s₁ B hml hv
  obtain ⟨rfl, hG⟩ := hv
  have S : CallFix p m c cX5_setSquareLimit 3 s ([.ref z, .int (zI a)] : List Value).toArray wU RX5 := ⟨B.exec, B.bytes, hml, findClass_of_methodNamed B.named, fun w h => atoms_spec (ws := wm_X5_setSquareLimit) B.pre w (List.mem_cons_of_mem _ h)⟩
  have hr := B.returns
  have hlocks := B.notSynchronized
  have hG : zG D cI cR [(z, .inr (5, [.ref d, .ref h, .ref b, .ref g, .ref v, .int (nI C), .int (nI V), .int (nI Ac)])), (d, .inr (1, [.int (nI n), .ref e1, .ref e2, .ref e3, .ref e4])), (e1, zA cI 8 P), (e2, zA cI 16 X), (e3, zA cI 16 Y), (e4, zA cI 8 L)] s s.heap := hG
  have hl := lv_entry ([.ref z, .int (zI a)]) (n := 3) (Nat.le_of_ble_eq_true rfl)
  rw [lg_entry_eq]
  generalize (lg_sl ([.ref z, .int (zI a)]) ++ List.replicate (3 - (lg_sl ([.ref z, .int (zI a)])).length) Slot.unset).toArray = ls at hl ⊢
  have hl : lv_has ls 3 [(0, .ref z), (1, .int (zI a))] := hl
  have r_ha := id ha
  unfold zR at r_ha
  obtain ⟨⟨hn, hPf, hXY⟩, hLf, hinj⟩ := id hok
  obtain ⟨hC, hV9, hA9⟩ := id hset
  refine lv_iload_n (pc := 0) S.1 S.2.1 dX5_setSquareLimit_0 rfl (lv_at hl 1 rfl) ?_
  refine zz_iconst (pc := 1) (v := nI 1) S dX5_setSquareLimit_1 rfl ?_
  refine zz_sipush (pc := 2) (v := nI 9999) S dX5_setSquareLimit_2 rfl ?_
  refine zz_callS (pc := 5) (As := [.int (zI a), .int (zI 1), .int (zI 9999)]) (rest := []) S (c_X5_isWithin l D cI cR a 1 9999 (by unfold zR; omega) (by unfold zR; omega) (by unfold zR; omega)) (zuS wd_85 wd_83 wd_84 wd_2) 3 rfl q_X5_isWithin.2 ⟨⟨rfl, rfl⟩, Nat.le_of_ble_eq_true rfl, Nat.le_of_ble_eq_true rfl⟩ rfl rfl (Nat.le_of_ble_eq_true rfl) hl.1 ⟨Nat.zero_le _, Nat.zero_le _⟩ dX5_setSquareLimit_5 ?_
  refine zz_ifb_ne (pc := 8) (tgt := 13) S dX5_setSquareLimit_8 (by decide) (fun c8 => ?_) (fun c8 => ?_)
  · exfalso; omega
  · refine zz_iconst (pc := 11) (v := zI (-1)) S dX5_setSquareLimit_11 rfl ?_
    exact zz_iretS (pc := 12) S hr hlocks (rfl) dX5_setSquareLimit_12
set_option maxHeartbeats 4000000 in
set_option maxRecDepth 100000 in
theorem c_X5_setSquareLimit_k (l : Launch) (D : va_G) (cI cR : ClassId) (z h b g v C V Ac : Nat) (d e1 e2 e3 e4 n : Nat) (P X Y L : Nat → Nat) (a : Nat) (sz : Nat) (hok : zOk n P X Y L) (hset : zSt C V Ac) (ha : 1 ≤ a ∧ a ≤ 9999) : Met l yX5_setSquareLimit wm_X5_setSquareLimit ({ frames := 1, cells := 0, slots := 0, locals := 22 } : Room) (va_Pc [.ref z, .int (nI a)] (zX D cI cR [(z, .inr (5, [.ref d, .ref h, .ref b, .ref g, .ref v, .int (nI C), .int (nI V), .int (nI Ac)])), (d, .inr (1, [.int (nI n), .ref e1, .ref e2, .ref e3, .ref e4])), (e1, zA cI 8 P), (e2, zA cI 16 X), (e3, zA cI 16 Y), (e4, zA cI 8 L)] sz)) (zQi D cI cR (va_A [(z, .inr (5, [.ref d, .ref h, .ref b, .ref g, .ref v, .int (nI C), .int (nI V), .int (nI Ac)])), (d, .inr (1, [.int (nI n), .ref e1, .ref e2, .ref e3, .ref e4])), (e1, zA cI 8 P), (e2, zA cI 16 X), (e3, zA cI 16 Y), (e4, zA cI 8 L)] sz) (fun r w => (w = [(z, .inr (5, [.ref d, .ref h, .ref b, .ref g, .ref v, .int (nI C), .int (nI a), .int (nI Ac)])), (d, .inr (1, [.int (nI n), .ref e1, .ref e2, .ref e3, .ref e4])), (e1, zA cI 8 P), (e2, zA cI 16 X), (e3, zA cI 16 Y), (e4, zA cI 8 L)] ∧ r = nI V))) 0 0 (va_A [(z, .inr (5, [.ref d, .ref h, .ref b, .ref g, .ref v, .int (nI C), .int (nI V), .int (nI Ac)])), (d, .inr (1, [.int (nI n), .ref e1, .ref e2, .ref e3, .ref e4])), (e1, zA cI 8 P), (e2, zA cI 16 X), (e3, zA cI 16 Y), (e4, zA cI 8 L)] sz) := by
  refine Met.ofW (cc := cX5_setSquareLimit) (maxL := 3) (ret := (some .int)) (by decide) rfl ?_
  intro p e s m args below meth c s₁ B hml hv
  obtain ⟨rfl, hsz, hG, hD0⟩ := hv
  have S : CallFix p m c cX5_setSquareLimit 3 s ([.ref z, .int (nI a)] : List Value).toArray wU RX5 := ⟨B.exec, B.bytes, hml, findClass_of_methodNamed B.named, fun w h => atoms_spec (ws := wm_X5_setSquareLimit) B.pre w (List.mem_cons_of_mem _ h)⟩
  have hr := B.returns
  have hlocks := B.notSynchronized
  subst hsz
  have hD := hD0.self (sz := s.heap.size)
  generalize hAe : va_A [(z, .inr (5, [.ref d, .ref h, .ref b, .ref g, .ref v, .int (nI C), .int (nI V), .int (nI Ac)])), (d, .inr (1, [.int (nI n), .ref e1, .ref e2, .ref e3, .ref e4])), (e1, zA cI 8 P), (e2, zA cI 16 X), (e3, zA cI 16 Y), (e4, zA cI 8 L)] s.heap.size = A at hD ⊢
  have hV : zV D cI cR A [(z, .inr (5, [.ref d, .ref h, .ref b, .ref g, .ref v, .int (nI C), .int (nI V), .int (nI Ac)])), (d, .inr (1, [.int (nI n), .ref e1, .ref e2, .ref e3, .ref e4])), (e1, zA cI 8 P), (e2, zA cI 16 X), (e3, zA cI 16 Y), (e4, zA cI 8 L)] s s.heap [] := ⟨hG, hD, va_S.rf, fun q h => by rw [← hAe]; exact Or.inr h⟩
  have hl := lv_entry ([.ref z, .int (nI a)]) (n := 3) (Nat.le_of_ble_eq_true rfl)
  rw [lg_entry_eq]
  generalize (lg_sl ([.ref z, .int (nI a)]) ++ List.replicate (3 - (lg_sl ([.ref z, .int (nI a)])).length) Slot.unset).toArray = ls at hl ⊢
  have hl : lv_has ls 3 [(0, .ref z), (1, .int (nI a))] := hl
  obtain ⟨⟨hn, hPf, hXY⟩, hLf, hinj⟩ := id hok
  obtain ⟨hC, hV9, hA9⟩ := id hset
  refine lv_iload_n (pc := 0) S.1 S.2.1 dX5_setSquareLimit_0 rfl (lv_at hl 1 rfl) ?_
  refine zz_iconst (pc := 1) (v := nI 1) S dX5_setSquareLimit_1 rfl ?_
  refine zz_sipush (pc := 2) (v := nI 9999) S dX5_setSquareLimit_2 rfl ?_
  refine zz_callS (pc := 5) (As := [.int (zI ((a : Nat) : Int)), .int (zI 1), .int (zI 9999)]) (rest := []) S (c_X5_isWithin l D cI cR ((a : Nat) : Int) 1 9999 (by unfold zR; omega) (by unfold zR; omega) (by unfold zR; omega)) (zuS wd_85 wd_83 wd_84 wd_2) 3 rfl q_X5_isWithin.2 ⟨⟨rfl, rfl⟩, Nat.le_of_ble_eq_true rfl, Nat.le_of_ble_eq_true rfl⟩ rfl rfl (Nat.le_of_ble_eq_true rfl) hl.1 ⟨Nat.zero_le _, Nat.zero_le _⟩ dX5_setSquareLimit_5 ?_
  refine zz_ifb_ne (pc := 8) (tgt := 13) S dX5_setSquareLimit_8 (by decide) (fun c8 => ?_) (fun c8 => ?_)
  · refine lv_aload_n (pc := 13) S.1 S.2.1 dX5_setSquareLimit_13 rfl (lv_at hl 0 rfl) ?_
    refine zz_get (pc := 14) S hV.1 iX5 0 rfl rfl 6 (by decide) wd_33 rfl rfl dX5_setSquareLimit_14 ?_
    refine lv_istore_n (pc := 17) (lv' := [(2, .int (nI V)), (0, .ref z), (1, .int (nI a))]) S.1 S.2.1 dX5_setSquareLimit_17 rfl hl (by decide) rfl (fun ls hl => ?_)
    refine lv_aload_n (pc := 18) S.1 S.2.1 dX5_setSquareLimit_18 rfl (lv_at hl 1 rfl) ?_
    refine lv_iload_n (pc := 19) S.1 S.2.1 dX5_setSquareLimit_19 rfl (lv_at hl 2 rfl) ?_
    refine zz_put (pc := 20) (v := .int (nI a)) (ty := .int) S hV iX5 tyX5 tyX5_ok nmX5 0 rfl rfl 6 (by decide) wd_33 rfl rfl (by decide +kernel) rfl rfl (Nat.le_of_ble_eq_true rfl) (ws' := [(z, .inr (5, [.ref d, .ref h, .ref b, .ref g, .ref v, .int (nI C), .int (nI a), .int (nI Ac)])), (d, .inr (1, [.int (nI n), .ref e1, .ref e2, .ref e3, .ref e4])), (e1, zA cI 8 P), (e2, zA cI 16 X), (e3, zA cI 16 Y), (e4, zA cI 8 L)]) rfl dX5_setSquareLimit_20 (fun H locs hV => ?_)
    refine lv_iload_n (pc := 23) S.1 S.2.1 dX5_setSquareLimit_23 rfl (lv_at hl 0 rfl) ?_
    exact zz_iretM (pc := 24) S hr hlocks hV (⟨rfl, rfl⟩) dX5_setSquareLimit_24
  · exfalso; omega
abbrev wm_X5_setAcceleration : List Cond := .code yX5_setAcceleration cX5_setAcceleration 3 (some .int) :: wU
theorem q_X5_setAcceleration : yX5_setAcceleration.cls = RX5 ∧ yX5_setAcceleration.cls ≠ "java/lang/invoke/MethodHandle" ∧ yX5_setAcceleration.cls ≠ "java/lang/invoke/VarHandle" ∧ (parseMethodDescriptor yX5_setAcceleration.desc).map (fun d => d.parameters.length) = some 1 := by decide +kernel
set_option maxHeartbeats 4000000 in
set_option maxRecDepth 100000 in
theorem c_X5_setAcceleration_e (l : Launch) (D : va_G) (cI cR : ClassId) (z h b g v C V Ac : Nat) (d e1 e2 e3 e4 n : Nat) (P X Y L : Nat → Nat) (a : Int) (hok : zOk n P X Y L) (hset : zSt C V Ac) (ha : zR a) (hbad : ¬ (1 ≤ a ∧ a ≤ 99)) : Met l yX5_setAcceleration wm_X5_setAcceleration ({ frames := 1, cells := 0, slots := 0, locals := 22 } : Room) (va_Pc [.ref z, .int (zI a)] (zW D cI cR [(z, .inr (5, [.ref d, .ref h, .ref b, .ref g, .ref v, .int (nI C), .int (nI V), .int (nI Ac)])), (d, .inr (1, [.int (nI n), .ref e1, .ref e2, .ref e3, .ref e4])), (e1, zA cI 8 P), (e2, zA cI 16 X), (e3, zA cI 16 Y), (e4, zA cI 8 L)])) (vp_Si (fun r => r = zI (-1))) 0 0 (fun _ => False) := by
  refine Met.ofW (cc := cX5_setAcceleration) (maxL := 3) (ret := (some .int)) (by decide) rfl ?_
  intro p e s m args below meth c s₁ B hml hv
  obtain ⟨rfl, hG⟩ := hv
  have S : CallFix p m c cX5_setAcceleration 3 s ([.ref z, .int (zI a)] : List Value).toArray wU RX5 := ⟨B.exec, B.bytes, hml, findClass_of_methodNamed B.named, fun w h => atoms_spec (ws := wm_X5_setAcceleration) B.pre w (List.mem_cons_of_mem _ h)⟩
  have hr := B.returns
  have hlocks := B.notSynchronized
  have hG : zG D cI cR [(z, .inr (5, [.ref d, .ref h, .ref b, .ref g, .ref v, .int (nI C), .int (nI V), .int (nI Ac)])), (d, .inr (1, [.int (nI n), .ref e1, .ref e2, .ref e3, .ref e4])), (e1, zA cI 8 P), (e2, zA cI 16 X), (e3, zA cI 16 Y), (e4, zA cI 8 L)] s s.heap := hG
  have hl := lv_entry ([.ref z, .int (zI a)]) (n := 3) (Nat.le_of_ble_eq_true rfl)
  rw [lg_entry_eq]
  generalize (lg_sl ([.ref z, .int (zI a)]) ++ List.replicate (3 - (lg_sl ([.ref z, .int (zI a)])).length) Slot.unset).toArray = ls at hl ⊢
  have hl : lv_has ls 3 [(0, .ref z), (1, .int (zI a))] := hl
  have r_ha := id ha
  unfold zR at r_ha
  obtain ⟨⟨hn, hPf, hXY⟩, hLf, hinj⟩ := id hok
  obtain ⟨hC, hV9, hA9⟩ := id hset
  refine lv_iload_n (pc := 0) S.1 S.2.1 dX5_setAcceleration_0 rfl (lv_at hl 1 rfl) ?_
  refine zz_iconst (pc := 1) (v := nI 1) S dX5_setAcceleration_1 rfl ?_
  refine zz_bipush (pc := 2) (v := nI 99) S dX5_setAcceleration_2 rfl ?_
  refine zz_callS (pc := 4) (As := [.int (zI a), .int (zI 1), .int (zI 99)]) (rest := []) S (c_X5_isWithin l D cI cR a 1 99 (by unfold zR; omega) (by unfold zR; omega) (by unfold zR; omega)) (zuS wd_85 wd_83 wd_84 wd_2) 3 rfl q_X5_isWithin.2 ⟨⟨rfl, rfl⟩, Nat.le_of_ble_eq_true rfl, Nat.le_of_ble_eq_true rfl⟩ rfl rfl (Nat.le_of_ble_eq_true rfl) hl.1 ⟨Nat.zero_le _, Nat.zero_le _⟩ dX5_setAcceleration_4 ?_
  refine zz_ifb_ne (pc := 7) (tgt := 12) S dX5_setAcceleration_7 (by decide) (fun c7 => ?_) (fun c7 => ?_)
  · exfalso; omega
  · refine zz_iconst (pc := 10) (v := zI (-1)) S dX5_setAcceleration_10 rfl ?_
    exact zz_iretS (pc := 11) S hr hlocks (rfl) dX5_setAcceleration_11
set_option maxHeartbeats 4000000 in
set_option maxRecDepth 100000 in
theorem c_X5_setAcceleration_k (l : Launch) (D : va_G) (cI cR : ClassId) (z h b g v C V Ac : Nat) (d e1 e2 e3 e4 n : Nat) (P X Y L : Nat → Nat) (a : Nat) (sz : Nat) (hok : zOk n P X Y L) (hset : zSt C V Ac) (ha : 1 ≤ a ∧ a ≤ 99) : Met l yX5_setAcceleration wm_X5_setAcceleration ({ frames := 1, cells := 0, slots := 0, locals := 22 } : Room) (va_Pc [.ref z, .int (nI a)] (zX D cI cR [(z, .inr (5, [.ref d, .ref h, .ref b, .ref g, .ref v, .int (nI C), .int (nI V), .int (nI Ac)])), (d, .inr (1, [.int (nI n), .ref e1, .ref e2, .ref e3, .ref e4])), (e1, zA cI 8 P), (e2, zA cI 16 X), (e3, zA cI 16 Y), (e4, zA cI 8 L)] sz)) (zQi D cI cR (va_A [(z, .inr (5, [.ref d, .ref h, .ref b, .ref g, .ref v, .int (nI C), .int (nI V), .int (nI Ac)])), (d, .inr (1, [.int (nI n), .ref e1, .ref e2, .ref e3, .ref e4])), (e1, zA cI 8 P), (e2, zA cI 16 X), (e3, zA cI 16 Y), (e4, zA cI 8 L)] sz) (fun r w => (w = [(z, .inr (5, [.ref d, .ref h, .ref b, .ref g, .ref v, .int (nI C), .int (nI V), .int (nI a)])), (d, .inr (1, [.int (nI n), .ref e1, .ref e2, .ref e3, .ref e4])), (e1, zA cI 8 P), (e2, zA cI 16 X), (e3, zA cI 16 Y), (e4, zA cI 8 L)] ∧ r = nI Ac))) 0 0 (va_A [(z, .inr (5, [.ref d, .ref h, .ref b, .ref g, .ref v, .int (nI C), .int (nI V), .int (nI Ac)])), (d, .inr (1, [.int (nI n), .ref e1, .ref e2, .ref e3, .ref e4])), (e1, zA cI 8 P), (e2, zA cI 16 X), (e3, zA cI 16 Y), (e4, zA cI 8 L)] sz) := by
  refine Met.ofW (cc := cX5_setAcceleration) (maxL := 3) (ret := (some .int)) (by decide) rfl ?_
  intro p e s m args below meth c s₁ B hml hv
  obtain ⟨rfl, hsz, hG, hD0⟩ := hv
  have S : CallFix p m c cX5_setAcceleration 3 s ([.ref z, .int (nI a)] : List Value).toArray wU RX5 := ⟨B.exec, B.bytes, hml, findClass_of_methodNamed B.named, fun w h => atoms_spec (ws := wm_X5_setAcceleration) B.pre w (List.mem_cons_of_mem _ h)⟩
  have hr := B.returns
  have hlocks := B.notSynchronized
  subst hsz
  have hD := hD0.self (sz := s.heap.size)
  generalize hAe : va_A [(z, .inr (5, [.ref d, .ref h, .ref b, .ref g, .ref v, .int (nI C), .int (nI V), .int (nI Ac)])), (d, .inr (1, [.int (nI n), .ref e1, .ref e2, .ref e3, .ref e4])), (e1, zA cI 8 P), (e2, zA cI 16 X), (e3, zA cI 16 Y), (e4, zA cI 8 L)] s.heap.size = A at hD ⊢
  have hV : zV D cI cR A [(z, .inr (5, [.ref d, .ref h, .ref b, .ref g, .ref v, .int (nI C), .int (nI V), .int (nI Ac)])), (d, .inr (1, [.int (nI n), .ref e1, .ref e2, .ref e3, .ref e4])), (e1, zA cI 8 P), (e2, zA cI 16 X), (e3, zA cI 16 Y), (e4, zA cI 8 L)] s s.heap [] := ⟨hG, hD, va_S.rf, fun q h => by rw [← hAe]; exact Or.inr h⟩
  have hl := lv_entry ([.ref z, .int (nI a)]) (n := 3) (Nat.le_of_ble_eq_true rfl)
  rw [lg_entry_eq]
  generalize (lg_sl ([.ref z, .int (nI a)]) ++ List.replicate (3 - (lg_sl ([.ref z, .int (nI a)])).length) Slot.unset).toArray = ls at hl ⊢
  have hl : lv_has ls 3 [(0, .ref z), (1, .int (nI a))] := hl
  obtain ⟨⟨hn, hPf, hXY⟩, hLf, hinj⟩ := id hok
  obtain ⟨hC, hV9, hA9⟩ := id hset
  refine lv_iload_n (pc := 0) S.1 S.2.1 dX5_setAcceleration_0 rfl (lv_at hl 1 rfl) ?_
  refine zz_iconst (pc := 1) (v := nI 1) S dX5_setAcceleration_1 rfl ?_
  refine zz_bipush (pc := 2) (v := nI 99) S dX5_setAcceleration_2 rfl ?_
  refine zz_callS (pc := 4) (As := [.int (zI ((a : Nat) : Int)), .int (zI 1), .int (zI 99)]) (rest := []) S (c_X5_isWithin l D cI cR ((a : Nat) : Int) 1 99 (by unfold zR; omega) (by unfold zR; omega) (by unfold zR; omega)) (zuS wd_85 wd_83 wd_84 wd_2) 3 rfl q_X5_isWithin.2 ⟨⟨rfl, rfl⟩, Nat.le_of_ble_eq_true rfl, Nat.le_of_ble_eq_true rfl⟩ rfl rfl (Nat.le_of_ble_eq_true rfl) hl.1 ⟨Nat.zero_le _, Nat.zero_le _⟩ dX5_setAcceleration_4 ?_
  refine zz_ifb_ne (pc := 7) (tgt := 12) S dX5_setAcceleration_7 (by decide) (fun c7 => ?_) (fun c7 => ?_)
  · refine lv_aload_n (pc := 12) S.1 S.2.1 dX5_setAcceleration_12 rfl (lv_at hl 0 rfl) ?_
    refine zz_get (pc := 13) S hV.1 iX5 0 rfl rfl 7 (by decide) wd_34 rfl rfl dX5_setAcceleration_13 ?_
    refine lv_istore_n (pc := 16) (lv' := [(2, .int (nI Ac)), (0, .ref z), (1, .int (nI a))]) S.1 S.2.1 dX5_setAcceleration_16 rfl hl (by decide) rfl (fun ls hl => ?_)
    refine lv_aload_n (pc := 17) S.1 S.2.1 dX5_setAcceleration_17 rfl (lv_at hl 1 rfl) ?_
    refine lv_iload_n (pc := 18) S.1 S.2.1 dX5_setAcceleration_18 rfl (lv_at hl 2 rfl) ?_
    refine zz_put (pc := 19) (v := .int (nI a)) (ty := .int) S hV iX5 tyX5 tyX5_ok nmX5 0 rfl rfl 7 (by decide) wd_34 rfl rfl (by decide +kernel) rfl rfl (Nat.le_of_ble_eq_true rfl) (ws' := [(z, .inr (5, [.ref d, .ref h, .ref b, .ref g, .ref v, .int (nI C), .int (nI V), .int (nI a)])), (d, .inr (1, [.int (nI n), .ref e1, .ref e2, .ref e3, .ref e4])), (e1, zA cI 8 P), (e2, zA cI 16 X), (e3, zA cI 16 Y), (e4, zA cI 8 L)]) rfl dX5_setAcceleration_19 (fun H locs hV => ?_)
    refine lv_iload_n (pc := 22) S.1 S.2.1 dX5_setAcceleration_22 rfl (lv_at hl 0 rfl) ?_
    exact zz_iretM (pc := 23) S hr hlocks hV (⟨rfl, rfl⟩) dX5_setAcceleration_23
  · exfalso; omega
abbrev wm_X5_setPenCost : List Cond := .code yX5_setPenCost cX5_setPenCost 3 (some .int) :: wU
theorem q_X5_setPenCost : yX5_setPenCost.cls = RX5 ∧ yX5_setPenCost.cls ≠ "java/lang/invoke/MethodHandle" ∧ yX5_setPenCost.cls ≠ "java/lang/invoke/VarHandle" ∧ (parseMethodDescriptor yX5_setPenCost.desc).map (fun d => d.parameters.length) = some 1 := by decide +kernel
set_option maxHeartbeats 4000000 in
set_option maxRecDepth 100000 in
theorem c_X5_setPenCost_e (l : Launch) (D : va_G) (cI cR : ClassId) (z h b g v C V Ac : Nat) (d e1 e2 e3 e4 n : Nat) (P X Y L : Nat → Nat) (a : Int) (hok : zOk n P X Y L) (hset : zSt C V Ac) (ha : zR a) (hbad : ¬ (0 ≤ a ∧ a ≤ 500)) : Met l yX5_setPenCost wm_X5_setPenCost ({ frames := 1, cells := 0, slots := 0, locals := 22 } : Room) (va_Pc [.ref z, .int (zI a)] (zW D cI cR [(z, .inr (5, [.ref d, .ref h, .ref b, .ref g, .ref v, .int (nI C), .int (nI V), .int (nI Ac)])), (d, .inr (1, [.int (nI n), .ref e1, .ref e2, .ref e3, .ref e4])), (e1, zA cI 8 P), (e2, zA cI 16 X), (e3, zA cI 16 Y), (e4, zA cI 8 L)])) (vp_Si (fun r => r = zI (-1))) 0 0 (fun _ => False) := by
  refine Met.ofW (cc := cX5_setPenCost) (maxL := 3) (ret := (some .int)) (by decide) rfl ?_
  intro p e s m args below meth c s₁ B hml hv
  obtain ⟨rfl, hG⟩ := hv
  have S : CallFix p m c cX5_setPenCost 3 s ([.ref z, .int (zI a)] : List Value).toArray wU RX5 := ⟨B.exec, B.bytes, hml, findClass_of_methodNamed B.named, fun w h => atoms_spec (ws := wm_X5_setPenCost) B.pre w (List.mem_cons_of_mem _ h)⟩
  have hr := B.returns
  have hlocks := B.notSynchronized
  have hG : zG D cI cR [(z, .inr (5, [.ref d, .ref h, .ref b, .ref g, .ref v, .int (nI C), .int (nI V), .int (nI Ac)])), (d, .inr (1, [.int (nI n), .ref e1, .ref e2, .ref e3, .ref e4])), (e1, zA cI 8 P), (e2, zA cI 16 X), (e3, zA cI 16 Y), (e4, zA cI 8 L)] s s.heap := hG
  have hl := lv_entry ([.ref z, .int (zI a)]) (n := 3) (Nat.le_of_ble_eq_true rfl)
  rw [lg_entry_eq]
  generalize (lg_sl ([.ref z, .int (zI a)]) ++ List.replicate (3 - (lg_sl ([.ref z, .int (zI a)])).length) Slot.unset).toArray = ls at hl ⊢
  have hl : lv_has ls 3 [(0, .ref z), (1, .int (zI a))] := hl
  have r_ha := id ha
  unfold zR at r_ha
  obtain ⟨⟨hn, hPf, hXY⟩, hLf, hinj⟩ := id hok
  obtain ⟨hC, hV9, hA9⟩ := id hset
  refine lv_iload_n (pc := 0) S.1 S.2.1 dX5_setPenCost_0 rfl (lv_at hl 1 rfl) ?_
  refine zz_iconst (pc := 1) (v := nI 0) S dX5_setPenCost_1 rfl ?_
  refine zz_sipush (pc := 2) (v := nI 500) S dX5_setPenCost_2 rfl ?_
  refine zz_callS (pc := 5) (As := [.int (zI a), .int (zI 0), .int (zI 500)]) (rest := []) S (c_X5_isWithin l D cI cR a 0 500 (by unfold zR; omega) (by unfold zR; omega) (by unfold zR; omega)) (zuS wd_85 wd_83 wd_84 wd_2) 3 rfl q_X5_isWithin.2 ⟨⟨rfl, rfl⟩, Nat.le_of_ble_eq_true rfl, Nat.le_of_ble_eq_true rfl⟩ rfl rfl (Nat.le_of_ble_eq_true rfl) hl.1 ⟨Nat.zero_le _, Nat.zero_le _⟩ dX5_setPenCost_5 ?_
  refine zz_ifb_ne (pc := 8) (tgt := 13) S dX5_setPenCost_8 (by decide) (fun c8 => ?_) (fun c8 => ?_)
  · exfalso; omega
  · refine zz_iconst (pc := 11) (v := zI (-1)) S dX5_setPenCost_11 rfl ?_
    exact zz_iretS (pc := 12) S hr hlocks (rfl) dX5_setPenCost_12
set_option maxHeartbeats 4000000 in
set_option maxRecDepth 100000 in
theorem c_X5_setPenCost_k (l : Launch) (D : va_G) (cI cR : ClassId) (z h b g v C V Ac : Nat) (d e1 e2 e3 e4 n : Nat) (P X Y L : Nat → Nat) (b1 b2 b3 cc tt kk : Nat) (sg rs cd : Nat → Nat) (a : Nat) (sz : Nat) (hok : zOk n P X Y L) (hset : zSt C V Ac) (ha : a ≤ 500) : Met l yX5_setPenCost wm_X5_setPenCost ({ frames := 1, cells := 0, slots := 0, locals := 22 } : Room) (va_Pc [.ref z, .int (nI a)] (zX D cI cR [(z, .inr (5, [.ref d, .ref h, .ref b, .ref g, .ref v, .int (nI C), .int (nI V), .int (nI Ac)])), (d, .inr (1, [.int (nI n), .ref e1, .ref e2, .ref e3, .ref e4])), (e1, zA cI 8 P), (e2, zA cI 16 X), (e3, zA cI 16 Y), (e4, zA cI 8 L), (b, .inr (0, [.ref b1, .ref b2, .ref b3, .int (nI cc), .int (nI tt), .int (nI kk)])), (b1, zA cI 272 sg), (b2, zA cI 4096 rs), (b3, zA cI 8 cd)] sz)) (zQi D cI cR (va_A [(z, .inr (5, [.ref d, .ref h, .ref b, .ref g, .ref v, .int (nI C), .int (nI V), .int (nI Ac)])), (d, .inr (1, [.int (nI n), .ref e1, .ref e2, .ref e3, .ref e4])), (e1, zA cI 8 P), (e2, zA cI 16 X), (e3, zA cI 16 Y), (e4, zA cI 8 L), (b, .inr (0, [.ref b1, .ref b2, .ref b3, .int (nI cc), .int (nI tt), .int (nI kk)])), (b1, zA cI 272 sg), (b2, zA cI 4096 rs), (b3, zA cI 8 cd)] sz) (fun r w => (w = [(z, .inr (5, [.ref d, .ref h, .ref b, .ref g, .ref v, .int (nI a), .int (nI V), .int (nI Ac)])), (d, .inr (1, [.int (nI n), .ref e1, .ref e2, .ref e3, .ref e4])), (e1, zA cI 8 P), (e2, zA cI 16 X), (e3, zA cI 16 Y), (e4, zA cI 8 L), (b, .inr (0, [.ref b1, .ref b2, .ref b3, .int (nI cc), .int (nI tt), .int (nI 0)])), (b1, zA cI 272 sg), (b2, zA cI 4096 rs), (b3, zA cI 8 cd)] ∧ r = nI C))) 0 0 (va_A [(z, .inr (5, [.ref d, .ref h, .ref b, .ref g, .ref v, .int (nI C), .int (nI V), .int (nI Ac)])), (d, .inr (1, [.int (nI n), .ref e1, .ref e2, .ref e3, .ref e4])), (e1, zA cI 8 P), (e2, zA cI 16 X), (e3, zA cI 16 Y), (e4, zA cI 8 L), (b, .inr (0, [.ref b1, .ref b2, .ref b3, .int (nI cc), .int (nI tt), .int (nI kk)])), (b1, zA cI 272 sg), (b2, zA cI 4096 rs), (b3, zA cI 8 cd)] sz) := by
  refine Met.ofW (cc := cX5_setPenCost) (maxL := 3) (ret := (some .int)) (by decide) rfl ?_
  intro p e s m args below meth c s₁ B hml hv
  obtain ⟨rfl, hsz, hG, hD0⟩ := hv
  have S : CallFix p m c cX5_setPenCost 3 s ([.ref z, .int (nI a)] : List Value).toArray wU RX5 := ⟨B.exec, B.bytes, hml, findClass_of_methodNamed B.named, fun w h => atoms_spec (ws := wm_X5_setPenCost) B.pre w (List.mem_cons_of_mem _ h)⟩
  have hr := B.returns
  have hlocks := B.notSynchronized
  subst hsz
  have hD := hD0.self (sz := s.heap.size)
  generalize hAe : va_A [(z, .inr (5, [.ref d, .ref h, .ref b, .ref g, .ref v, .int (nI C), .int (nI V), .int (nI Ac)])), (d, .inr (1, [.int (nI n), .ref e1, .ref e2, .ref e3, .ref e4])), (e1, zA cI 8 P), (e2, zA cI 16 X), (e3, zA cI 16 Y), (e4, zA cI 8 L), (b, .inr (0, [.ref b1, .ref b2, .ref b3, .int (nI cc), .int (nI tt), .int (nI kk)])), (b1, zA cI 272 sg), (b2, zA cI 4096 rs), (b3, zA cI 8 cd)] s.heap.size = A at hD ⊢
  have hV : zV D cI cR A [(z, .inr (5, [.ref d, .ref h, .ref b, .ref g, .ref v, .int (nI C), .int (nI V), .int (nI Ac)])), (d, .inr (1, [.int (nI n), .ref e1, .ref e2, .ref e3, .ref e4])), (e1, zA cI 8 P), (e2, zA cI 16 X), (e3, zA cI 16 Y), (e4, zA cI 8 L), (b, .inr (0, [.ref b1, .ref b2, .ref b3, .int (nI cc), .int (nI tt), .int (nI kk)])), (b1, zA cI 272 sg), (b2, zA cI 4096 rs), (b3, zA cI 8 cd)] s s.heap [] := ⟨hG, hD, va_S.rf, fun q h => by rw [← hAe]; exact Or.inr h⟩
  have hl := lv_entry ([.ref z, .int (nI a)]) (n := 3) (Nat.le_of_ble_eq_true rfl)
  rw [lg_entry_eq]
  generalize (lg_sl ([.ref z, .int (nI a)]) ++ List.replicate (3 - (lg_sl ([.ref z, .int (nI a)])).length) Slot.unset).toArray = ls at hl ⊢
  have hl : lv_has ls 3 [(0, .ref z), (1, .int (nI a))] := hl
  obtain ⟨⟨hn, hPf, hXY⟩, hLf, hinj⟩ := id hok
  obtain ⟨hC, hV9, hA9⟩ := id hset
  refine lv_iload_n (pc := 0) S.1 S.2.1 dX5_setPenCost_0 rfl (lv_at hl 1 rfl) ?_
  refine zz_iconst (pc := 1) (v := nI 0) S dX5_setPenCost_1 rfl ?_
  refine zz_sipush (pc := 2) (v := nI 500) S dX5_setPenCost_2 rfl ?_
  refine zz_callS (pc := 5) (As := [.int (zI ((a : Nat) : Int)), .int (zI 0), .int (zI 500)]) (rest := []) S (c_X5_isWithin l D cI cR ((a : Nat) : Int) 0 500 (by unfold zR; omega) (by unfold zR; omega) (by unfold zR; omega)) (zuS wd_85 wd_83 wd_84 wd_2) 3 rfl q_X5_isWithin.2 ⟨⟨rfl, rfl⟩, Nat.le_of_ble_eq_true rfl, Nat.le_of_ble_eq_true rfl⟩ rfl rfl (Nat.le_of_ble_eq_true rfl) hl.1 ⟨Nat.zero_le _, Nat.zero_le _⟩ dX5_setPenCost_5 ?_
  refine zz_ifb_ne (pc := 8) (tgt := 13) S dX5_setPenCost_8 (by decide) (fun c8 => ?_) (fun c8 => ?_)
  · refine lv_aload_n (pc := 13) S.1 S.2.1 dX5_setPenCost_13 rfl (lv_at hl 0 rfl) ?_
    refine zz_get (pc := 14) S hV.1 iX5 0 rfl rfl 5 (by decide) wd_32 rfl rfl dX5_setPenCost_14 ?_
    refine lv_istore_n (pc := 17) (lv' := [(2, .int (nI C)), (0, .ref z), (1, .int (nI a))]) S.1 S.2.1 dX5_setPenCost_17 rfl hl (by decide) rfl (fun ls hl => ?_)
    refine lv_aload_n (pc := 18) S.1 S.2.1 dX5_setPenCost_18 rfl (lv_at hl 1 rfl) ?_
    refine lv_iload_n (pc := 19) S.1 S.2.1 dX5_setPenCost_19 rfl (lv_at hl 2 rfl) ?_
    refine zz_put (pc := 20) (v := .int (nI a)) (ty := .int) S hV iX5 tyX5 tyX5_ok nmX5 0 rfl rfl 5 (by decide) wd_32 rfl rfl (by decide +kernel) rfl rfl (Nat.le_of_ble_eq_true rfl) (ws' := [(z, .inr (5, [.ref d, .ref h, .ref b, .ref g, .ref v, .int (nI a), .int (nI V), .int (nI Ac)])), (d, .inr (1, [.int (nI n), .ref e1, .ref e2, .ref e3, .ref e4])), (e1, zA cI 8 P), (e2, zA cI 16 X), (e3, zA cI 16 Y), (e4, zA cI 8 L), (b, .inr (0, [.ref b1, .ref b2, .ref b3, .int (nI cc), .int (nI tt), .int (nI kk)])), (b1, zA cI 272 sg), (b2, zA cI 4096 rs), (b3, zA cI 8 cd)]) rfl dX5_setPenCost_20 (fun H locs hV => ?_)
    refine lv_aload_n (pc := 23) S.1 S.2.1 dX5_setPenCost_23 rfl (lv_at hl 1 rfl) ?_
    refine zz_get (pc := 24) S hV.1 iX5 0 rfl rfl 2 (by decide) wd_23 rfl rfl dX5_setPenCost_24 ?_
    refine zz_callMv (pc := 27) (As := []) (rest := []) (wr := [(z, .inr (5, [.ref d, .ref h, .ref b, .ref g, .ref v, .int (nI a), .int (nI V), .int (nI Ac)])), (d, .inr (1, [.int (nI n), .ref e1, .ref e2, .ref e3, .ref e4])), (e1, zA cI 8 P), (e2, zA cI 16 X), (e3, zA cI 16 Y), (e4, zA cI 8 L)]) S hV (c_X0_forget l D cI cR b b1 b2 b3 cc tt kk sg rs cd H.size) (zuV wd_123 wd_120 wd_121 wd_122 wd_22) 0 rfl q_X0_forget ⟨⟨rfl, rfl⟩, Nat.le_of_ble_eq_true rfl, Nat.le_of_ble_eq_true rfl⟩ [6, 7, 8, 9] [0, 1, 2, 3, 4, 5] rfl rfl (by decide) (by decide) (by decide) 6 rfl rfl rfl rfl rfl (Nat.le_of_ble_eq_true rfl) hl.1 ⟨Nat.zero_le _, Nat.zero_le _⟩ dX5_setPenCost_27 (fun w1 H locs hp hV => ?_)
    obtain rfl := hp
    have hV : zV D cI cR A [(z, .inr (5, [.ref d, .ref h, .ref b, .ref g, .ref v, .int (nI a), .int (nI V), .int (nI Ac)])), (d, .inr (1, [.int (nI n), .ref e1, .ref e2, .ref e3, .ref e4])), (e1, zA cI 8 P), (e2, zA cI 16 X), (e3, zA cI 16 Y), (e4, zA cI 8 L), (b, .inr (0, [.ref b1, .ref b2, .ref b3, .int (nI cc), .int (nI tt), .int (nI 0)])), (b1, zA cI 272 sg), (b2, zA cI 4096 rs), (b3, zA cI 8 cd)] s H locs := hV.perm [0, 1, 2, 3, 4, 5, 6, 7, 8, 9] (by decide) rfl
    refine lv_iload_n (pc := 30) S.1 S.2.1 dX5_setPenCost_30 rfl (lv_at hl 0 rfl) ?_
    exact zz_iretM (pc := 31) S hr hlocks hV (⟨rfl, rfl⟩) dX5_setPenCost_31
  · exfalso; omega
abbrev wm_X5_bestCost : List Cond := .code yX5_bestCost cX5_bestCost 1 (some .int) :: wU
theorem q_X5_bestCost : yX5_bestCost.cls = RX5 ∧ yX5_bestCost.cls ≠ "java/lang/invoke/MethodHandle" ∧ yX5_bestCost.cls ≠ "java/lang/invoke/VarHandle" ∧ (parseMethodDescriptor yX5_bestCost.desc).map (fun d => d.parameters.length) = some 0 := by decide +kernel
set_option maxHeartbeats 4000000 in
set_option maxRecDepth 100000 in
theorem c_X5_bestCost (l : Launch) (D : va_G) (cI cR : ClassId) (z h b g v C V Ac : Nat) (d e1 e2 e3 e4 n : Nat) (P X Y L : Nat → Nat) (b1 b2 b3 cc tt kk : Nat) (sg rs cd : Nat → Nat) (sz : Nat) (hok : zOk n P X Y L) (hset : zSt C V Ac) (hbp : bpI P X Y C n sg rs cd tt kk) : Met l yX5_bestCost wm_X5_bestCost ({ frames := 6, cells := 0, slots := 0, locals := 135 } : Room) (va_Pc [.ref z] (zX D cI cR [(z, .inr (5, [.ref d, .ref h, .ref b, .ref g, .ref v, .int (nI C), .int (nI V), .int (nI Ac)])), (d, .inr (1, [.int (nI n), .ref e1, .ref e2, .ref e3, .ref e4])), (e1, zA cI 8 P), (e2, zA cI 16 X), (e3, zA cI 16 Y), (e4, zA cI 8 L), (b, .inr (0, [.ref b1, .ref b2, .ref b3, .int (nI cc), .int (nI tt), .int (nI kk)])), (b1, zA cI 272 sg), (b2, zA cI 4096 rs), (b3, zA cI 8 cd)] sz)) (zQi D cI cR (va_A [(z, .inr (5, [.ref d, .ref h, .ref b, .ref g, .ref v, .int (nI C), .int (nI V), .int (nI Ac)])), (d, .inr (1, [.int (nI n), .ref e1, .ref e2, .ref e3, .ref e4])), (e1, zA cI 8 P), (e2, zA cI 16 X), (e3, zA cI 16 Y), (e4, zA cI 8 L), (b, .inr (0, [.ref b1, .ref b2, .ref b3, .int (nI cc), .int (nI tt), .int (nI kk)])), (b1, zA cI 272 sg), (b2, zA cI 4096 rs), (b3, zA cI 8 cd)] sz) (fun r w => ∃ (sg5 : Nat → Nat) (rs5 : Nat → Nat) (cd5 : Nat → Nat) (cc5 : Nat) (tt5 : Nat), (w = [(z, .inr (5, [.ref d, .ref h, .ref b, .ref g, .ref v, .int (nI C), .int (nI V), .int (nI Ac)])), (d, .inr (1, [.int (nI n), .ref e1, .ref e2, .ref e3, .ref e4])), (e1, zA cI 8 P), (e2, zA cI 16 X), (e3, zA cI 16 Y), (e4, zA cI 8 L), (b, .inr (0, [.ref b1, .ref b2, .ref b3, .int (nI cc5), .int (nI tt5), .int (nI 1)])), (b1, zA cI 272 sg5), (b2, zA cI 4096 rs5), (b3, zA cI 8 cd5)] ∧ r = nI (btot P X Y C n n)) ∧ (bpI P X Y C n sg5 rs5 cd5 tt5 1))) 0 0 (va_A [(z, .inr (5, [.ref d, .ref h, .ref b, .ref g, .ref v, .int (nI C), .int (nI V), .int (nI Ac)])), (d, .inr (1, [.int (nI n), .ref e1, .ref e2, .ref e3, .ref e4])), (e1, zA cI 8 P), (e2, zA cI 16 X), (e3, zA cI 16 Y), (e4, zA cI 8 L), (b, .inr (0, [.ref b1, .ref b2, .ref b3, .int (nI cc), .int (nI tt), .int (nI kk)])), (b1, zA cI 272 sg), (b2, zA cI 4096 rs), (b3, zA cI 8 cd)] sz) := by
  refine Met.ofW (cc := cX5_bestCost) (maxL := 1) (ret := (some .int)) (by decide) rfl ?_
  intro p e s m args below meth c s₁ B hml hv
  obtain ⟨rfl, hsz, hG, hD0⟩ := hv
  have S : CallFix p m c cX5_bestCost 1 s ([.ref z] : List Value).toArray wU RX5 := ⟨B.exec, B.bytes, hml, findClass_of_methodNamed B.named, fun w h => atoms_spec (ws := wm_X5_bestCost) B.pre w (List.mem_cons_of_mem _ h)⟩
  have hr := B.returns
  have hlocks := B.notSynchronized
  subst hsz
  have hD := hD0.self (sz := s.heap.size)
  generalize hAe : va_A [(z, .inr (5, [.ref d, .ref h, .ref b, .ref g, .ref v, .int (nI C), .int (nI V), .int (nI Ac)])), (d, .inr (1, [.int (nI n), .ref e1, .ref e2, .ref e3, .ref e4])), (e1, zA cI 8 P), (e2, zA cI 16 X), (e3, zA cI 16 Y), (e4, zA cI 8 L), (b, .inr (0, [.ref b1, .ref b2, .ref b3, .int (nI cc), .int (nI tt), .int (nI kk)])), (b1, zA cI 272 sg), (b2, zA cI 4096 rs), (b3, zA cI 8 cd)] s.heap.size = A at hD ⊢
  have hV : zV D cI cR A [(z, .inr (5, [.ref d, .ref h, .ref b, .ref g, .ref v, .int (nI C), .int (nI V), .int (nI Ac)])), (d, .inr (1, [.int (nI n), .ref e1, .ref e2, .ref e3, .ref e4])), (e1, zA cI 8 P), (e2, zA cI 16 X), (e3, zA cI 16 Y), (e4, zA cI 8 L), (b, .inr (0, [.ref b1, .ref b2, .ref b3, .int (nI cc), .int (nI tt), .int (nI kk)])), (b1, zA cI 272 sg), (b2, zA cI 4096 rs), (b3, zA cI 8 cd)] s s.heap [] := ⟨hG, hD, va_S.rf, fun q h => by rw [← hAe]; exact Or.inr h⟩
  have hl := lv_entry ([.ref z]) (n := 1) (Nat.le_of_ble_eq_true rfl)
  rw [lg_entry_eq]
  generalize (lg_sl ([.ref z]) ++ List.replicate (1 - (lg_sl ([.ref z])).length) Slot.unset).toArray = ls at hl ⊢
  have hl : lv_has ls 1 [(0, .ref z)] := hl
  obtain ⟨⟨hn, hPf, hXY⟩, hLf, hinj⟩ := id hok
  obtain ⟨hC, hV9, hA9⟩ := id hset
  refine lv_aload_n (pc := 0) S.1 S.2.1 dX5_bestCost_0 rfl (lv_at hl 0 rfl) ?_
  refine zz_get (pc := 1) S hV.1 iX5 0 rfl rfl 2 (by decide) wd_23 rfl rfl dX5_bestCost_1 ?_
  refine lv_aload_n (pc := 4) S.1 S.2.1 dX5_bestCost_4 rfl (lv_at hl 0 rfl) ?_
  refine zz_get (pc := 5) S hV.1 iX5 0 rfl rfl 0 (by decide) wd_15 rfl rfl dX5_bestCost_5 ?_
  refine lv_aload_n (pc := 8) S.1 S.2.1 dX5_bestCost_8 rfl (lv_at hl 0 rfl) ?_
  refine zz_get (pc := 9) S hV.1 iX5 0 rfl rfl 5 (by decide) wd_32 rfl rfl dX5_bestCost_9 ?_
  refine zz_callMv (pc := 12) (As := [.ref d, .int (nI C)]) (rest := []) (wr := [(z, .inr (5, [.ref d, .ref h, .ref b, .ref g, .ref v, .int (nI C), .int (nI V), .int (nI Ac)]))]) S hV (c_X0_find l D cI cR b b1 b2 b3 cc tt kk sg rs cd d e1 e2 e3 e4 n P X Y L C s.heap.size hok.1 (by omega) hbp) (zuV wd_499 wd_496 wd_497 wd_498 wd_22) 2 rfl q_X0_find ⟨⟨rfl, rfl⟩, Nat.le_of_ble_eq_true rfl, Nat.le_of_ble_eq_true rfl⟩ [6, 7, 8, 9, 1, 2, 3, 4, 5] [0] rfl rfl (by decide) (by decide) (by decide) 6 rfl rfl rfl rfl rfl (Nat.le_of_ble_eq_true rfl) hl.1 ⟨Nat.zero_le _, Nat.zero_le _⟩ dX5_bestCost_12 (fun w1 H locs hp hV => ?_)
  obtain ⟨sg5x1, rs5x1, cd5x1, cc5x1, tt5x1, rfl, hbp5x1⟩ := hp
  have hV : zV D cI cR A [(z, .inr (5, [.ref d, .ref h, .ref b, .ref g, .ref v, .int (nI C), .int (nI V), .int (nI Ac)])), (d, .inr (1, [.int (nI n), .ref e1, .ref e2, .ref e3, .ref e4])), (e1, zA cI 8 P), (e2, zA cI 16 X), (e3, zA cI 16 Y), (e4, zA cI 8 L), (b, .inr (0, [.ref b1, .ref b2, .ref b3, .int (nI cc5x1), .int (nI tt5x1), .int (nI 1)])), (b1, zA cI 272 sg5x1), (b2, zA cI 4096 rs5x1), (b3, zA cI 8 cd5x1)] s H locs := hV.perm [0, 5, 6, 7, 8, 9, 1, 2, 3, 4] (by decide) rfl
  refine lv_aload_n (pc := 15) S.1 S.2.1 dX5_bestCost_15 rfl (lv_at hl 0 rfl) ?_
  refine zz_get (pc := 16) S hV.1 iX5 0 rfl rfl 2 (by decide) wd_23 rfl rfl dX5_bestCost_16 ?_
  refine zz_callV (pc := 19) (As := []) (rest := []) S (c_X0_total l D cI cR b b1 b2 b3 cc5x1 tt5x1 1 sg5x1 rs5x1 cd5x1) (zuV wd_542 wd_539 wd_540 wd_541 wd_22) 0 rfl q_X0_total ⟨⟨rfl, rfl⟩, Nat.le_of_ble_eq_true rfl, Nat.le_of_ble_eq_true rfl⟩ hV.1 [6, 7, 8, 9] rfl 6 rfl rfl rfl rfl rfl (Nat.le_of_ble_eq_true rfl) hl.1 ⟨Nat.zero_le _, Nat.zero_le _⟩ dX5_bestCost_19 ?_
  exact zz_iretM (pc := 22) S hr hlocks hV (⟨sg5x1, rs5x1, cd5x1, cc5x1, tt5x1, ⟨rfl, congrArg nI (by exact (hbp5x1.2.2.2 rfl).1)⟩, (by exact hbp5x1)⟩) dX5_bestCost_22
abbrev wm_X5_bestAt : List Cond := .code yX5_bestAt cX5_bestAt 2 (some .int) :: wU
theorem q_X5_bestAt : yX5_bestAt.cls = RX5 ∧ yX5_bestAt.cls ≠ "java/lang/invoke/MethodHandle" ∧ yX5_bestAt.cls ≠ "java/lang/invoke/VarHandle" ∧ (parseMethodDescriptor yX5_bestAt.desc).map (fun d => d.parameters.length) = some 1 := by decide +kernel
set_option maxHeartbeats 4000000 in
set_option maxRecDepth 100000 in
theorem c_X5_bestAt_e (l : Launch) (D : va_G) (cI cR : ClassId) (z h b g v C V Ac : Nat) (d e1 e2 e3 e4 n : Nat) (P X Y L : Nat → Nat) (a : Int) (hok : zOk n P X Y L) (hset : zSt C V Ac) (ha : zR a) (hbad : ¬ (0 ≤ a ∧ a < (n : Int))) : Met l yX5_bestAt wm_X5_bestAt ({ frames := 1, cells := 0, slots := 0, locals := 21 } : Room) (va_Pc [.ref z, .int (zI a)] (zW D cI cR [(z, .inr (5, [.ref d, .ref h, .ref b, .ref g, .ref v, .int (nI C), .int (nI V), .int (nI Ac)])), (d, .inr (1, [.int (nI n), .ref e1, .ref e2, .ref e3, .ref e4])), (e1, zA cI 8 P), (e2, zA cI 16 X), (e3, zA cI 16 Y), (e4, zA cI 8 L)])) (vp_Si (fun r => r = zI (an_bestAt n P X Y C a))) 0 0 (fun _ => False) := by
  refine Met.ofW (cc := cX5_bestAt) (maxL := 2) (ret := (some .int)) (by decide) rfl ?_
  intro p e s m args below meth c s₁ B hml hv
  obtain ⟨rfl, hG⟩ := hv
  have S : CallFix p m c cX5_bestAt 2 s ([.ref z, .int (zI a)] : List Value).toArray wU RX5 := ⟨B.exec, B.bytes, hml, findClass_of_methodNamed B.named, fun w h => atoms_spec (ws := wm_X5_bestAt) B.pre w (List.mem_cons_of_mem _ h)⟩
  have hr := B.returns
  have hlocks := B.notSynchronized
  have hG : zG D cI cR [(z, .inr (5, [.ref d, .ref h, .ref b, .ref g, .ref v, .int (nI C), .int (nI V), .int (nI Ac)])), (d, .inr (1, [.int (nI n), .ref e1, .ref e2, .ref e3, .ref e4])), (e1, zA cI 8 P), (e2, zA cI 16 X), (e3, zA cI 16 Y), (e4, zA cI 8 L)] s s.heap := hG
  have hl := lv_entry ([.ref z, .int (zI a)]) (n := 2) (Nat.le_of_ble_eq_true rfl)
  rw [lg_entry_eq]
  generalize (lg_sl ([.ref z, .int (zI a)]) ++ List.replicate (2 - (lg_sl ([.ref z, .int (zI a)])).length) Slot.unset).toArray = ls at hl ⊢
  have hl : lv_has ls 2 [(0, .ref z), (1, .int (zI a))] := hl
  have r_ha := id ha
  unfold zR at r_ha
  obtain ⟨⟨hn, hPf, hXY⟩, hLf, hinj⟩ := id hok
  obtain ⟨hC, hV9, hA9⟩ := id hset
  refine lv_iload_n (pc := 0) S.1 S.2.1 dX5_bestAt_0 rfl (lv_at hl 1 rfl) ?_
  refine zz_if_ge (pc := 1) (tgt := 6) S dX5_bestAt_1 (by decide) (z_ge0 (by unfold zR; omega)) (fun c1 => ?_) (fun c1 => ?_)
  · refine lv_aload_n (pc := 6) S.1 S.2.1 dX5_bestAt_6 rfl (lv_at hl 0 rfl) ?_
    refine zz_get (pc := 7) S hG iX5 0 rfl rfl 0 (by decide) wd_15 rfl rfl dX5_bestAt_7 ?_
    refine lv_iload_n (pc := 10) S.1 S.2.1 dX5_bestAt_10 rfl (lv_at hl 1 rfl) ?_
    refine zz_callV (pc := 11) (As := [.int (zI a)]) (rest := []) S (c_X1_hasPosition l D cI cR d e1 e2 e3 e4 n P X Y L a hok.1 (by unfold zR; omega)) (zuV wd_347 wd_344 wd_345 wd_346 wd_14) 1 rfl q_X1_hasPosition ⟨⟨rfl, rfl⟩, Nat.le_of_ble_eq_true rfl, Nat.le_of_ble_eq_true rfl⟩ hG [1, 2, 3, 4, 5] rfl 1 rfl rfl rfl rfl rfl (Nat.le_of_ble_eq_true rfl) hl.1 ⟨Nat.zero_le _, Nat.zero_le _⟩ dX5_bestAt_11 ?_
    refine zz_ifb_ne (pc := 14) (tgt := 20) S dX5_bestAt_14 (by decide) (fun c14 => ?_) (fun c14 => ?_)
    · exfalso; omega
    · refine zz_bipush (pc := 17) (v := zI (-3)) S dX5_bestAt_17 rfl ?_
      exact zz_iretS (pc := 19) S hr hlocks (congrArg zI (a₁ := (-3)) (by first | exact (if_pos (by omega)).symm | exact ((if_neg (by omega)).trans (if_neg (by omega))).symm)) dX5_bestAt_19
  · refine zz_iconst (pc := 4) (v := zI (-1)) S dX5_bestAt_4 rfl ?_
    exact zz_iretS (pc := 5) S hr hlocks (congrArg zI (a₁ := (-1)) (by first | exact (if_pos (by omega)).symm | exact ((if_neg (by omega)).trans (if_neg (by omega))).symm)) dX5_bestAt_5
set_option maxHeartbeats 4000000 in
set_option maxRecDepth 100000 in
theorem c_X5_bestAt_k (l : Launch) (D : va_G) (cI cR : ClassId) (z h b g v C V Ac : Nat) (d e1 e2 e3 e4 n : Nat) (P X Y L : Nat → Nat) (b1 b2 b3 cc tt kk : Nat) (sg rs cd : Nat → Nat) (a : Nat) (sz : Nat) (hok : zOk n P X Y L) (hset : zSt C V Ac) (hbp : bpI P X Y C n sg rs cd tt kk) (ha : a < n) : Met l yX5_bestAt wm_X5_bestAt ({ frames := 6, cells := 0, slots := 0, locals := 135 } : Room) (va_Pc [.ref z, .int (nI a)] (zX D cI cR [(z, .inr (5, [.ref d, .ref h, .ref b, .ref g, .ref v, .int (nI C), .int (nI V), .int (nI Ac)])), (d, .inr (1, [.int (nI n), .ref e1, .ref e2, .ref e3, .ref e4])), (e1, zA cI 8 P), (e2, zA cI 16 X), (e3, zA cI 16 Y), (e4, zA cI 8 L), (b, .inr (0, [.ref b1, .ref b2, .ref b3, .int (nI cc), .int (nI tt), .int (nI kk)])), (b1, zA cI 272 sg), (b2, zA cI 4096 rs), (b3, zA cI 8 cd)] sz)) (zQi D cI cR (va_A [(z, .inr (5, [.ref d, .ref h, .ref b, .ref g, .ref v, .int (nI C), .int (nI V), .int (nI Ac)])), (d, .inr (1, [.int (nI n), .ref e1, .ref e2, .ref e3, .ref e4])), (e1, zA cI 8 P), (e2, zA cI 16 X), (e3, zA cI 16 Y), (e4, zA cI 8 L), (b, .inr (0, [.ref b1, .ref b2, .ref b3, .int (nI cc), .int (nI tt), .int (nI kk)])), (b1, zA cI 272 sg), (b2, zA cI 4096 rs), (b3, zA cI 8 cd)] sz) (fun r w => ∃ (sg5 : Nat → Nat) (rs5 : Nat → Nat) (cd5 : Nat → Nat) (cc5 : Nat) (tt5 : Nat), (w = [(z, .inr (5, [.ref d, .ref h, .ref b, .ref g, .ref v, .int (nI C), .int (nI V), .int (nI Ac)])), (d, .inr (1, [.int (nI n), .ref e1, .ref e2, .ref e3, .ref e4])), (e1, zA cI 8 P), (e2, zA cI 16 X), (e3, zA cI 16 Y), (e4, zA cI 8 L), (b, .inr (0, [.ref b1, .ref b2, .ref b3, .int (nI cc5), .int (nI tt5), .int (nI 1)])), (b1, zA cI 272 sg5), (b2, zA cI 4096 rs5), (b3, zA cI 8 cd5)] ∧ r = nI (bcd P X Y C n a)) ∧ (bpI P X Y C n sg5 rs5 cd5 tt5 1))) 0 0 (va_A [(z, .inr (5, [.ref d, .ref h, .ref b, .ref g, .ref v, .int (nI C), .int (nI V), .int (nI Ac)])), (d, .inr (1, [.int (nI n), .ref e1, .ref e2, .ref e3, .ref e4])), (e1, zA cI 8 P), (e2, zA cI 16 X), (e3, zA cI 16 Y), (e4, zA cI 8 L), (b, .inr (0, [.ref b1, .ref b2, .ref b3, .int (nI cc), .int (nI tt), .int (nI kk)])), (b1, zA cI 272 sg), (b2, zA cI 4096 rs), (b3, zA cI 8 cd)] sz) := by
  refine Met.ofW (cc := cX5_bestAt) (maxL := 2) (ret := (some .int)) (by decide) rfl ?_
  intro p e s m args below meth c s₁ B hml hv
  obtain ⟨rfl, hsz, hG, hD0⟩ := hv
  have S : CallFix p m c cX5_bestAt 2 s ([.ref z, .int (nI a)] : List Value).toArray wU RX5 := ⟨B.exec, B.bytes, hml, findClass_of_methodNamed B.named, fun w h => atoms_spec (ws := wm_X5_bestAt) B.pre w (List.mem_cons_of_mem _ h)⟩
  have hr := B.returns
  have hlocks := B.notSynchronized
  subst hsz
  have hD := hD0.self (sz := s.heap.size)
  generalize hAe : va_A [(z, .inr (5, [.ref d, .ref h, .ref b, .ref g, .ref v, .int (nI C), .int (nI V), .int (nI Ac)])), (d, .inr (1, [.int (nI n), .ref e1, .ref e2, .ref e3, .ref e4])), (e1, zA cI 8 P), (e2, zA cI 16 X), (e3, zA cI 16 Y), (e4, zA cI 8 L), (b, .inr (0, [.ref b1, .ref b2, .ref b3, .int (nI cc), .int (nI tt), .int (nI kk)])), (b1, zA cI 272 sg), (b2, zA cI 4096 rs), (b3, zA cI 8 cd)] s.heap.size = A at hD ⊢
  have hV : zV D cI cR A [(z, .inr (5, [.ref d, .ref h, .ref b, .ref g, .ref v, .int (nI C), .int (nI V), .int (nI Ac)])), (d, .inr (1, [.int (nI n), .ref e1, .ref e2, .ref e3, .ref e4])), (e1, zA cI 8 P), (e2, zA cI 16 X), (e3, zA cI 16 Y), (e4, zA cI 8 L), (b, .inr (0, [.ref b1, .ref b2, .ref b3, .int (nI cc), .int (nI tt), .int (nI kk)])), (b1, zA cI 272 sg), (b2, zA cI 4096 rs), (b3, zA cI 8 cd)] s s.heap [] := ⟨hG, hD, va_S.rf, fun q h => by rw [← hAe]; exact Or.inr h⟩
  have hl := lv_entry ([.ref z, .int (nI a)]) (n := 2) (Nat.le_of_ble_eq_true rfl)
  rw [lg_entry_eq]
  generalize (lg_sl ([.ref z, .int (nI a)]) ++ List.replicate (2 - (lg_sl ([.ref z, .int (nI a)])).length) Slot.unset).toArray = ls at hl ⊢
  have hl : lv_has ls 2 [(0, .ref z), (1, .int (nI a))] := hl
  obtain ⟨⟨hn, hPf, hXY⟩, hLf, hinj⟩ := id hok
  obtain ⟨hC, hV9, hA9⟩ := id hset
  refine lv_iload_n (pc := 0) S.1 S.2.1 dX5_bestAt_0 rfl (lv_at hl 1 rfl) ?_
  refine zz_if_ge (pc := 1) (tgt := 6) S dX5_bestAt_1 (by decide) (n_ge0 (by omega)) (fun c1 => ?_) (fun c1 => ?_)
  · refine lv_aload_n (pc := 6) S.1 S.2.1 dX5_bestAt_6 rfl (lv_at hl 0 rfl) ?_
    refine zz_get (pc := 7) S hV.1 iX5 0 rfl rfl 0 (by decide) wd_15 rfl rfl dX5_bestAt_7 ?_
    refine lv_iload_n (pc := 10) S.1 S.2.1 dX5_bestAt_10 rfl (lv_at hl 1 rfl) ?_
    refine zz_callV (pc := 11) (As := [.int (zI ((a : Nat) : Int))]) (rest := []) S (c_X1_hasPosition l D cI cR d e1 e2 e3 e4 n P X Y L ((a : Nat) : Int) hok.1 (by unfold zR; omega)) (zuV wd_347 wd_344 wd_345 wd_346 wd_14) 1 rfl q_X1_hasPosition ⟨⟨rfl, rfl⟩, Nat.le_of_ble_eq_true rfl, Nat.le_of_ble_eq_true rfl⟩ hV.1 [1, 2, 3, 4, 5] rfl 1 rfl rfl rfl rfl rfl (Nat.le_of_ble_eq_true rfl) hl.1 ⟨Nat.zero_le _, Nat.zero_le _⟩ dX5_bestAt_11 ?_
    refine zz_ifb_ne (pc := 14) (tgt := 20) S dX5_bestAt_14 (by decide) (fun c14 => ?_) (fun c14 => ?_)
    · refine lv_aload_n (pc := 20) S.1 S.2.1 dX5_bestAt_20 rfl (lv_at hl 0 rfl) ?_
      refine zz_get (pc := 21) S hV.1 iX5 0 rfl rfl 2 (by decide) wd_23 rfl rfl dX5_bestAt_21 ?_
      refine lv_aload_n (pc := 24) S.1 S.2.1 dX5_bestAt_24 rfl (lv_at hl 0 rfl) ?_
      refine zz_get (pc := 25) S hV.1 iX5 0 rfl rfl 0 (by decide) wd_15 rfl rfl dX5_bestAt_25 ?_
      refine lv_aload_n (pc := 28) S.1 S.2.1 dX5_bestAt_28 rfl (lv_at hl 0 rfl) ?_
      refine zz_get (pc := 29) S hV.1 iX5 0 rfl rfl 5 (by decide) wd_32 rfl rfl dX5_bestAt_29 ?_
      refine zz_callMv (pc := 32) (As := [.ref d, .int (nI C)]) (rest := []) (wr := [(z, .inr (5, [.ref d, .ref h, .ref b, .ref g, .ref v, .int (nI C), .int (nI V), .int (nI Ac)]))]) S hV (c_X0_find l D cI cR b b1 b2 b3 cc tt kk sg rs cd d e1 e2 e3 e4 n P X Y L C s.heap.size hok.1 (by omega) hbp) (zuV wd_499 wd_496 wd_497 wd_498 wd_22) 2 rfl q_X0_find ⟨⟨rfl, rfl⟩, Nat.le_of_ble_eq_true rfl, Nat.le_of_ble_eq_true rfl⟩ [6, 7, 8, 9, 1, 2, 3, 4, 5] [0] rfl rfl (by decide) (by decide) (by decide) 6 rfl rfl rfl rfl rfl (Nat.le_of_ble_eq_true rfl) hl.1 ⟨Nat.zero_le _, Nat.zero_le _⟩ dX5_bestAt_32 (fun w1 H locs hp hV => ?_)
      obtain ⟨sg5x1, rs5x1, cd5x1, cc5x1, tt5x1, rfl, hbp5x1⟩ := hp
      have hV : zV D cI cR A [(z, .inr (5, [.ref d, .ref h, .ref b, .ref g, .ref v, .int (nI C), .int (nI V), .int (nI Ac)])), (d, .inr (1, [.int (nI n), .ref e1, .ref e2, .ref e3, .ref e4])), (e1, zA cI 8 P), (e2, zA cI 16 X), (e3, zA cI 16 Y), (e4, zA cI 8 L), (b, .inr (0, [.ref b1, .ref b2, .ref b3, .int (nI cc5x1), .int (nI tt5x1), .int (nI 1)])), (b1, zA cI 272 sg5x1), (b2, zA cI 4096 rs5x1), (b3, zA cI 8 cd5x1)] s H locs := hV.perm [0, 5, 6, 7, 8, 9, 1, 2, 3, 4] (by decide) rfl
      refine lv_aload_n (pc := 35) S.1 S.2.1 dX5_bestAt_35 rfl (lv_at hl 0 rfl) ?_
      refine zz_get (pc := 36) S hV.1 iX5 0 rfl rfl 2 (by decide) wd_23 rfl rfl dX5_bestAt_36 ?_
      refine lv_iload_n (pc := 39) S.1 S.2.1 dX5_bestAt_39 rfl (lv_at hl 1 rfl) ?_
      refine zz_callV (pc := 40) (As := [.int (nI a)]) (rest := []) S (c_X0_codeAt l D cI cR b b1 b2 b3 cc5x1 tt5x1 1 sg5x1 rs5x1 cd5x1 a (by omega)) (zuV wd_563 wd_560 wd_561 wd_562 wd_22) 1 rfl q_X0_codeAt ⟨⟨rfl, rfl⟩, Nat.le_of_ble_eq_true rfl, Nat.le_of_ble_eq_true rfl⟩ hV.1 [6, 7, 8, 9] rfl 6 rfl rfl rfl rfl rfl (Nat.le_of_ble_eq_true rfl) hl.1 ⟨Nat.zero_le _, Nat.zero_le _⟩ dX5_bestAt_40 ?_
      exact zz_iretM (pc := 43) S hr hlocks hV (⟨sg5x1, rs5x1, cd5x1, cc5x1, tt5x1, ⟨rfl, congrArg nI (by exact (hbp5x1.2.2.2 rfl).2 a ha)⟩, (by exact hbp5x1)⟩) dX5_bestAt_43
    · exfalso; omega
  · exfalso; omega
