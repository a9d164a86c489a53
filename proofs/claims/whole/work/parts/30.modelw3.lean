abbrev wm_X6_before : List Cond := .code yX6_before cX6_before 2 (some .int) :: wU
theorem q_X6_before : yX6_before.cls = RX6 ∧ yX6_before.cls ≠ "java/lang/invoke/MethodHandle" ∧ yX6_before.cls ≠ "java/lang/invoke/VarHandle" ∧ (parseMethodDescriptor yX6_before.desc).map (fun d => d.parameters.length) = some 1 := by decide +kernel
set_option maxHeartbeats 4000000 in
set_option maxRecDepth 100000 in
theorem c_X6_before (l : Launch) (D : va_G) (cI cR : ClassId) (o a1 a2 a3 a4 a5 a6 ed C V Ac : Nat) (w : Nat → Nat) (en : Nat → Nat) (n : Nat) (P X Y L : Nat → Nat) (a : Nat) (hok : zOk n P X Y L) (hR : zRl w n P X Y L) (hset : zSt C V Ac) (ha : a < n) : Met l yX6_before wm_X6_before ({ frames := 2, cells := 0, slots := 0, locals := 44 } : Room) (va_Pc [.ref o, .int (nI a)] (zW D cI cR [(o, .inr (6, [.ref a1, .ref a2, .int (nI ed), .int (nI C), .int (nI V), .int (nI Ac), .ref a3, .ref a4, .ref a5, .ref a6])), (a1, zA cI 49 w), (a6, zA cI 8 en)])) (vp_Si (fun r => r = nI (bfo n P X Y L en a))) 0 0 (fun _ => False) := by
  refine Met.ofW (cc := cX6_before) (maxL := 2) (ret := (some .int)) (by decide) rfl ?_
  intro p e s m args below meth c s₁ B hml hv
  obtain ⟨rfl, hG⟩ := hv
  have S : CallFix p m c cX6_before 2 s ([.ref o, .int (nI a)] : List Value).toArray wU RX6 := ⟨B.exec, B.bytes, hml, findClass_of_methodNamed B.named, fun w h => atoms_spec (ws := wm_X6_before) B.pre w (List.mem_cons_of_mem _ h)⟩
  have hr := B.returns
  have hlocks := B.notSynchronized
  have hG : zG D cI cR [(o, .inr (6, [.ref a1, .ref a2, .int (nI ed), .int (nI C), .int (nI V), .int (nI Ac), .ref a3, .ref a4, .ref a5, .ref a6])), (a1, zA cI 49 w), (a6, zA cI 8 en)] s s.heap := hG
  have hl := lv_entry ([.ref o, .int (nI a)]) (n := 2) (Nat.le_of_ble_eq_true rfl)
  rw [lg_entry_eq]
  generalize (lg_sl ([.ref o, .int (nI a)]) ++ List.replicate (2 - (lg_sl ([.ref o, .int (nI a)])).length) Slot.unset).toArray = ls at hl ⊢
  have hl : lv_has ls 2 [(0, .ref o), (1, .int (nI a))] := hl
  obtain ⟨⟨hn, hPf, hXY⟩, hLf, hinj⟩ := id hok
  obtain ⟨hC, hV9, hA9⟩ := id hset
  refine lv_aload_n (pc := 0) S.1 S.2.1 dX6_before_0 rfl (lv_at hl 0 rfl) ?_
  refine lv_iload_n (pc := 1) S.1 S.2.1 dX6_before_1 rfl (lv_at hl 1 rfl) ?_
  refine zz_iconst (pc := 2) (v := nI 1) S dX6_before_2 rfl ?_
  refine zz_isub (pc := 3) (v := zI (((a : Nat) : Int) - 1)) S dX6_before_3 (zI_sub ((a : Nat) : Int) 1) ?_
  refine zz_callV (pc := 4) (As := [.int (zI (((a : Nat) : Int) - 1))]) (rest := []) S (c_X6_isLinked l D cI cR o a1 a2 a3 a4 a5 a6 ed C V Ac w n P X Y L (((a : Nat) : Int) - 1) hok hR hset (by omega)) (zuV wd_471 wd_468 wd_469 wd_470 wd_5) 1 rfl q_X6_isLinked ⟨⟨rfl, rfl⟩, Nat.le_of_ble_eq_true rfl, Nat.le_of_ble_eq_true rfl⟩ hG [0, 1] rfl 0 rfl rfl rfl rfl rfl (Nat.le_of_ble_eq_true rfl) hl.1 ⟨Nat.zero_le _, Nat.zero_le _⟩ dX6_before_4 ?_
  refine zz_ifb_eq (pc := 7) (tgt := 21) S dX6_before_7 (by decide) (fun c7 => ?_) (fun c7 => ?_)
  · refine zz_iconst (pc := 21) (v := nI 0) S dX6_before_21 rfl ?_
    exact zz_iretS (pc := 22) S hr hlocks (congrArg nI (by first | exact bfo_i c7 | exact bfo_j c7)) dX6_before_22
  · refine lv_aload_n (pc := 10) S.1 S.2.1 dX6_before_10 rfl (lv_at hl 0 rfl) ?_
    refine zz_get (pc := 11) S hG iX6 0 rfl rfl 9 (by decide) wd_75 rfl rfl dX6_before_11 ?_
    refine lv_iload_n (pc := 14) S.1 S.2.1 dX6_before_14 rfl (lv_at hl 1 rfl) ?_
    refine zz_iconst (pc := 15) (v := nI 1) S dX6_before_15 rfl ?_
    refine zz_isub (pc := 16) (v := nI (a - 1)) S dX6_before_16 (n_sub (by omega)) ?_
    refine zz_iald (pc := 17) (k := a - 1) S hG 2 rfl (by omega) dX6_before_17 ?_
    refine lv_goto (pc := 18) (tgt := 22) S.1 S.2.1 dX6_before_18 (by decide) ?_
    exact zz_iretS (pc := 22) S hr hlocks (congrArg nI (by first | exact bfo_i c7 | exact bfo_j c7)) dX6_before_22
abbrev wm_X6_speeds : List Cond := .code yX6_speeds cX6_speeds 4 none :: wU
theorem q_X6_speeds : yX6_speeds.cls = RX6 ∧ yX6_speeds.cls ≠ "java/lang/invoke/MethodHandle" ∧ yX6_speeds.cls ≠ "java/lang/invoke/VarHandle" ∧ (parseMethodDescriptor yX6_speeds.desc).map (fun d => d.parameters.length) = some 0 := by decide +kernel
set_option maxHeartbeats 4000000 in
set_option maxRecDepth 100000 in
theorem c_X6_speeds (l : Launch) (D : va_G) (cI cR : ClassId) (o a1 a2 a3 a4 a5 a6 ed C V Ac : Nat) (w : Nat → Nat) (en : Nat → Nat) (n : Nat) (P X Y L : Nat → Nat) (sz : Nat) (hok : zOk n P X Y L) (hR : zRl w n P X Y L) (hset : zSt C V Ac) (hn1 : 1 ≤ n) : Met l yX6_speeds wm_X6_speeds ({ frames := 3, cells := 0, slots := 0, locals := 65 } : Room) (va_Pc [.ref o] (zX D cI cR [(o, .inr (6, [.ref a1, .ref a2, .int (nI ed), .int (nI C), .int (nI V), .int (nI Ac), .ref a3, .ref a4, .ref a5, .ref a6])), (a1, zA cI 49 w), (a6, zA cI 8 en)] sz)) (zQv D cI cR (va_A [(o, .inr (6, [.ref a1, .ref a2, .int (nI ed), .int (nI C), .int (nI V), .int (nI Ac), .ref a3, .ref a4, .ref a5, .ref a6])), (a1, zA cI 49 w), (a6, zA cI 8 en)] sz) (fun w0 => ∃ (en5 : Nat → Nat), w0 = [(o, .inr (6, [.ref a1, .ref a2, .int (nI ed), .int (nI C), .int (nI V), .int (nI Ac), .ref a3, .ref a4, .ref a5, .ref a6])), (a1, zA cI 49 w), (a6, zA cI 8 en5)] ∧ (∀ j, j < n → en5 j = eds n P X Y L V Ac j))) 0 0 (va_A [(o, .inr (6, [.ref a1, .ref a2, .int (nI ed), .int (nI C), .int (nI V), .int (nI Ac), .ref a3, .ref a4, .ref a5, .ref a6])), (a1, zA cI 49 w), (a6, zA cI 8 en)] sz) := by
  refine Met.ofW (cc := cX6_speeds) (maxL := 4) (ret := none) (by decide) rfl ?_
  intro p e s m args below meth c s₁ B hml hv
  obtain ⟨rfl, hsz, hG, hD0⟩ := hv
  have S : CallFix p m c cX6_speeds 4 s ([.ref o] : List Value).toArray wU RX6 := ⟨B.exec, B.bytes, hml, findClass_of_methodNamed B.named, fun w h => atoms_spec (ws := wm_X6_speeds) B.pre w (List.mem_cons_of_mem _ h)⟩
  have hr := B.returns
  have hlocks := B.notSynchronized
  subst hsz
  have hD := hD0.self (sz := s.heap.size)
  generalize hAe : va_A [(o, .inr (6, [.ref a1, .ref a2, .int (nI ed), .int (nI C), .int (nI V), .int (nI Ac), .ref a3, .ref a4, .ref a5, .ref a6])), (a1, zA cI 49 w), (a6, zA cI 8 en)] s.heap.size = A at hD ⊢
  have hV : zV D cI cR A [(o, .inr (6, [.ref a1, .ref a2, .int (nI ed), .int (nI C), .int (nI V), .int (nI Ac), .ref a3, .ref a4, .ref a5, .ref a6])), (a1, zA cI 49 w), (a6, zA cI 8 en)] s s.heap [] := ⟨hG, hD, va_S.rf, fun q h => by rw [← hAe]; exact Or.inr h⟩
  have hl := lv_entry ([.ref o]) (n := 4) (Nat.le_of_ble_eq_true rfl)
  rw [lg_entry_eq]
  generalize (lg_sl ([.ref o]) ++ List.replicate (4 - (lg_sl ([.ref o])).length) Slot.unset).toArray = ls at hl ⊢
  have hl : lv_has ls 4 [(0, .ref o)] := hl
  obtain ⟨⟨hn, hPf, hXY⟩, hLf, hinj⟩ := id hok
  obtain ⟨hC, hV9, hA9⟩ := id hset
  refine zz_iconst (pc := 0) (v := nI 0) S dX6_speeds_0 rfl ?_
  refine lv_istore_n (pc := 1) (lv' := [(1, .int (nI 0)), (0, .ref o)]) S.1 S.2.1 dX6_speeds_1 rfl hl (by decide) rfl (fun ls hl => ?_)
  have L1 : ∀ (f : Nat) (k : Nat) (en2 : Nat → Nat), (k ≤ n) → (∀ j, j < k → en2 j = fwd n P X Y L V Ac j) → n - k < f → ∀ (H : Heap) (locs : List Loc), zV D cI cR A [(o, .inr (6, [.ref a1, .ref a2, .int (nI ed), .int (nI C), .int (nI V), .int (nI Ac), .ref a3, .ref a4, .ref a5, .ref a6])), (a1, zA cI 49 w), (a6, zA cI 8 en2)] s H locs → ∀ ls : Array Slot, lv_has ls 4 [(0, .ref o), (1, .int (nI k))] → W p l e (headSpec wm_X6_speeds ({ frames := 3, cells := 0, slots := 0, locals := 65 } : Room)).room s m ([.ref o] : List Value).toArray below meth c H locs 0 0 (MQ below (zQv D cI cR A (fun w0 => ∃ (en5 : Nat → Nat), w0 = [(o, .inr (6, [.ref a1, .ref a2, .int (nI ed), .int (nI C), .int (nI V), .int (nI Ac), .ref a3, .ref a4, .ref a5, .ref a6])), (a1, zA cI 49 w), (a6, zA cI 8 en5)] ∧ (∀ j, j < n → en5 j = eds n P X Y L V Ac j))) ([.ref o] : List Value).toArray s 0 0 A) (F0 m 2 ls []) := by
    intro f
    induction f with
    | zero => intro k en2 hk hf2 hf; exact absurd hf (Nat.not_lt_zero _)
    | succ f ih2 =>
      intro k en2 hk hf2 hf H locs hV ls hl
      refine lv_iload_n (pc := 2) S.1 S.2.1 dX6_speeds_2 rfl (lv_at hl 1 rfl) ?_
      refine lv_aload_n (pc := 3) S.1 S.2.1 dX6_speeds_3 rfl (lv_at hl 0 rfl) ?_
      refine zz_get (pc := 4) S hV.1 iX6 0 rfl rfl 0 (by decide) wd_67 rfl rfl dX6_speeds_4 ?_
      refine zz_bipush (pc := 7) (v := nI 48) S dX6_speeds_7 rfl ?_
      refine zz_iald (pc := 9) (k := 48) S hV.1 1 rfl (by omega) dX6_speeds_9 ?_
      refine zz_cast (v := nI n) (congrArg nI hR.1) ?_
      refine zz_icmp_ge (pc := 10) (tgt := 65) S dX6_speeds_10 (by decide) (n_le (by omega) (by omega)) (fun c10 => ?_) (fun c10 => ?_)
      · refine lv_aload_n (pc := 65) S.1 S.2.1 dX6_speeds_65 rfl (lv_at hl 0 rfl) ?_
        refine zz_get (pc := 66) S hV.1 iX6 0 rfl rfl 0 (by decide) wd_67 rfl rfl dX6_speeds_66 ?_
        refine zz_bipush (pc := 69) (v := nI 48) S dX6_speeds_69 rfl ?_
        refine zz_iald (pc := 71) (k := 48) S hV.1 1 rfl (by omega) dX6_speeds_71 ?_
        refine zz_cast (v := nI n) (congrArg nI hR.1) ?_
        refine zz_iconst (pc := 72) (v := nI 1) S dX6_speeds_72 rfl ?_
        refine zz_isub (pc := 73) (v := nI (n - 1)) S dX6_speeds_73 (n_sub (by omega)) ?_
        refine lv_istore_n (pc := 74) (lv' := [(1, .int (nI (n - 1))), (0, .ref o)]) S.1 S.2.1 dX6_speeds_74 rfl hl (by decide) rfl (fun ls hl => ?_)
        have L3 : ∀ (f : Nat) (k : Nat) (en3 : Nat → Nat), (k < n) → (bwO n P X Y L V Ac en3 k) → k < f → ∀ (H : Heap) (locs : List Loc), zV D cI cR A [(o, .inr (6, [.ref a1, .ref a2, .int (nI ed), .int (nI C), .int (nI V), .int (nI Ac), .ref a3, .ref a4, .ref a5, .ref a6])), (a1, zA cI 49 w), (a6, zA cI 8 en3)] s H locs → ∀ ls : Array Slot, lv_has ls 4 [(0, .ref o), (1, .int (nI k))] → W p l e (headSpec wm_X6_speeds ({ frames := 3, cells := 0, slots := 0, locals := 65 } : Room)).room s m ([.ref o] : List Value).toArray below meth c H locs 0 0 (MQ below (zQv D cI cR A (fun w0 => ∃ (en5 : Nat → Nat), w0 = [(o, .inr (6, [.ref a1, .ref a2, .int (nI ed), .int (nI C), .int (nI V), .int (nI Ac), .ref a3, .ref a4, .ref a5, .ref a6])), (a1, zA cI 49 w), (a6, zA cI 8 en5)] ∧ (∀ j, j < n → en5 j = eds n P X Y L V Ac j))) ([.ref o] : List Value).toArray s 0 0 A) (F0 m 75 ls []) := by
          intro f
          induction f with
          | zero => intro k en3 hk3 hb3 hf; exact absurd hf (Nat.not_lt_zero _)
          | succ f ih4 =>
            intro k en3 hk3 hb3 hf H locs hV ls hl
            refine lv_iload_n (pc := 75) S.1 S.2.1 dX6_speeds_75 rfl (lv_at hl 1 rfl) ?_
            refine zz_if_le (pc := 76) (tgt := 129) S dX6_speeds_76 (by decide) (n_le0 (by omega)) (fun c76 => ?_) (fun c76 => ?_)
            · exact zz_vretM (pc := 129) S hr hlocks hV (⟨en3, rfl, (by intro j hj; exact hb3.2 j (by omega) hj)⟩) dX6_speeds_129
            · refine lv_aload_n (pc := 79) S.1 S.2.1 dX6_speeds_79 rfl (lv_at hl 0 rfl) ?_
              refine zz_get (pc := 80) S hV.1 iX6 0 rfl rfl 9 (by decide) wd_75 rfl rfl dX6_speeds_80 ?_
              refine lv_iload_n (pc := 83) S.1 S.2.1 dX6_speeds_83 rfl (lv_at hl 1 rfl) ?_
              refine zz_iald (pc := 84) (k := k) S hV.1 2 rfl (by omega) dX6_speeds_84 ?_
              refine zz_cast (v := nI (eds n P X Y L V Ac k)) (congrArg nI (hb3.2 k (by omega) (by omega))) ?_
              refine lv_aload_n (pc := 85) S.1 S.2.1 dX6_speeds_85 rfl (lv_at hl 0 rfl) ?_
              refine lv_iload_n (pc := 86) S.1 S.2.1 dX6_speeds_86 rfl (lv_at hl 1 rfl) ?_
              refine zz_callV (pc := 87) (As := [.int (nI k)]) (rest := [.int (nI (eds n P X Y L V Ac k))]) S (c_X6_gain l D cI cR o a1 a2 a3 a4 a5 a6 ed C V Ac w n P X Y L k hok hR hset (by omega)) (zuV wd_679 wd_676 wd_677 wd_678 wd_5) 1 rfl q_X6_gain ⟨⟨rfl, rfl⟩, Nat.le_of_ble_eq_true rfl, Nat.le_of_ble_eq_true rfl⟩ hV.1 [0, 1] rfl 0 rfl rfl rfl rfl rfl (Nat.le_of_ble_eq_true rfl) hl.1 ⟨Nat.zero_le _, Nat.zero_le _⟩ dX6_speeds_87 ?_
              have g5 := gn_le (Ac := Ac) (X := X) (Y := Y) (n := n) (c := L k) hXY (by omega) (hLf k (by omega))
              have hel := eds_le n P X Y L V Ac k
              refine zz_iadd (pc := 90) (v := nI (eds n P X Y L V Ac k + (2 * Ac * lng X Y (L k)))) S dX6_speeds_90 (n_add _ _) ?_
              refine lv_istore_n (pc := 91) (lv' := [(2, .int (nI (eds n P X Y L V Ac k + (2 * Ac * lng X Y (L k))))), (0, .ref o), (1, .int (nI k))]) S.1 S.2.1 dX6_speeds_91 rfl hl (by decide) rfl (fun ls hl => ?_)
              refine lv_aload_n (pc := 92) S.1 S.2.1 dX6_speeds_92 rfl (lv_at hl 1 rfl) ?_
              refine lv_iload_n (pc := 93) S.1 S.2.1 dX6_speeds_93 rfl (lv_at hl 2 rfl) ?_
              refine zz_iconst (pc := 94) (v := nI 1) S dX6_speeds_94 rfl ?_
              refine zz_isub (pc := 95) (v := nI (k - 1)) S dX6_speeds_95 (n_sub (by omega)) ?_
              refine zz_callV (pc := 96) (As := [.int (zI ((k - 1 : Nat) : Int))]) (rest := []) S (c_X6_isLinked l D cI cR o a1 a2 a3 a4 a5 a6 ed C V Ac w n P X Y L ((k - 1 : Nat) : Int) hok hR hset (by omega)) (zuV wd_471 wd_468 wd_469 wd_470 wd_5) 1 rfl q_X6_isLinked ⟨⟨rfl, rfl⟩, Nat.le_of_ble_eq_true rfl, Nat.le_of_ble_eq_true rfl⟩ hV.1 [0, 1] rfl 0 rfl rfl rfl rfl rfl (Nat.le_of_ble_eq_true rfl) hl.1 ⟨Nat.zero_le _, Nat.zero_le _⟩ dX6_speeds_96 ?_
              refine zz_ifb_eq (pc := 99) (tgt := 123) S dX6_speeds_99 (by decide) (fun c99 => ?_) (fun c99 => ?_)
              · refine lv_iinc (pc := 123) (v := nI (k - 1)) (lv' := [(1, .int (nI (k - 1))), (2, .int (nI (eds n P X Y L V Ac k + (2 * Ac * lng X Y (L k))))), (0, .ref o)]) S.1 S.2.1 dX6_speeds_123 hl (k := 2) rfl (n_dec (by omega)) (by decide) rfl (fun ls hl => ?_)
                refine lv_goto (pc := 126) (tgt := 75) S.1 S.2.1 dX6_speeds_126 (by decide) ?_
                exact ih4 (k - 1) en3 (by omega) (by exact bwO_k hb3 (by omega) (by omega) (by rw [hb3.1 (k - 1) (by omega), eds_s (by omega) (by omega)]; first | omega | (rw [fwd_f (k := k - 1) (fun h => c99 ⟨by omega, h⟩)]; omega))) (by omega) H locs hV ls (lv_sub hl [2, 0] rfl)
              · refine lv_aload_n (pc := 102) S.1 S.2.1 dX6_speeds_102 rfl (lv_at hl 1 rfl) ?_
                refine zz_get (pc := 103) S hV.1 iX6 0 rfl rfl 9 (by decide) wd_75 rfl rfl dX6_speeds_103 ?_
                refine lv_iload_n (pc := 106) S.1 S.2.1 dX6_speeds_106 rfl (lv_at hl 2 rfl) ?_
                refine zz_iconst (pc := 107) (v := nI 1) S dX6_speeds_107 rfl ?_
                refine zz_isub (pc := 108) (v := nI (k - 1)) S dX6_speeds_108 (n_sub (by omega)) ?_
                refine zz_iald (pc := 109) (k := k - 1) S hV.1 2 rfl (by omega) dX6_speeds_109 ?_
                have hfl := fwd_le n P X Y L V Ac (k - 1)
                refine zz_cast (v := nI (fwd n P X Y L V Ac (k - 1))) (congrArg nI (hb3.1 (k - 1) (by omega))) ?_
                refine lv_iload_n (pc := 110) S.1 S.2.1 dX6_speeds_110 rfl (lv_at hl 0 rfl) ?_
                refine zz_icmp_le (pc := 111) (tgt := 123) S dX6_speeds_111 (by decide) (n_le (by omega) (by omega)) (fun c111 => ?_) (fun c111 => ?_)
                · refine lv_iinc (pc := 123) (v := nI (k - 1)) (lv' := [(1, .int (nI (k - 1))), (2, .int (nI (eds n P X Y L V Ac k + (2 * Ac * lng X Y (L k))))), (0, .ref o)]) S.1 S.2.1 dX6_speeds_123 hl (k := 2) rfl (n_dec (by omega)) (by decide) rfl (fun ls hl => ?_)
                  refine lv_goto (pc := 126) (tgt := 75) S.1 S.2.1 dX6_speeds_126 (by decide) ?_
                  exact ih4 (k - 1) en3 (by omega) (by exact bwO_k hb3 (by omega) (by omega) (by rw [hb3.1 (k - 1) (by omega), eds_s (by omega) (by omega)]; first | omega | (rw [fwd_f (k := k - 1) (fun h => c99 ⟨by omega, h⟩)]; omega))) (by omega) H locs hV ls (lv_sub hl [2, 0] rfl)
                · refine lv_aload_n (pc := 114) S.1 S.2.1 dX6_speeds_114 rfl (lv_at hl 1 rfl) ?_
                  refine zz_get (pc := 115) S hV.1 iX6 0 rfl rfl 9 (by decide) wd_75 rfl rfl dX6_speeds_115 ?_
                  refine lv_iload_n (pc := 118) S.1 S.2.1 dX6_speeds_118 rfl (lv_at hl 2 rfl) ?_
                  refine zz_iconst (pc := 119) (v := nI 1) S dX6_speeds_119 rfl ?_
                  refine zz_isub (pc := 120) (v := nI (k - 1)) S dX6_speeds_120 (n_sub (by omega)) ?_
                  refine lv_iload_n (pc := 121) S.1 S.2.1 dX6_speeds_121 rfl (lv_at hl 0 rfl) ?_
                  refine zz_iast (pc := 122) (k := k - 1) (v := eds n P X Y L V Ac k + (2 * Ac * lng X Y (L k))) S hV 2 rfl (by omega) (ws' := [(o, .inr (6, [.ref a1, .ref a2, .int (nI ed), .int (nI C), .int (nI V), .int (nI Ac), .ref a3, .ref a4, .ref a5, .ref a6])), (a1, zA cI 49 w), (a6, zA cI 8 (va_up en3 (k - 1) (eds n P X Y L V Ac k + (2 * Ac * lng X Y (L k)))))]) rfl dX6_speeds_122 (fun H locs hV => ?_)
                  refine lv_iinc (pc := 123) (v := nI (k - 1)) (lv' := [(1, .int (nI (k - 1))), (2, .int (nI (eds n P X Y L V Ac k + (2 * Ac * lng X Y (L k))))), (0, .ref o)]) S.1 S.2.1 dX6_speeds_123 hl (k := 2) rfl (n_dec (by omega)) (by decide) rfl (fun ls hl => ?_)
                  refine lv_goto (pc := 126) (tgt := 75) S.1 S.2.1 dX6_speeds_126 (by decide) ?_
                  have hV : zV D cI cR A [(o, .inr (6, [.ref a1, .ref a2, .int (nI ed), .int (nI C), .int (nI V), .int (nI Ac), .ref a3, .ref a4, .ref a5, .ref a6])), (a1, zA cI 49 w), (a6, zA cI 8 (va_up en3 (k - 1) (eds n P X Y L V Ac k + (2 * Ac * lng X Y (L k)))))] s H locs := hV.arr 2 rfl (fun j hj => by rfl) rfl
                  exact ih4 (k - 1) (va_up en3 (k - 1) (eds n P X Y L V Ac k + (2 * Ac * lng X Y (L k)))) (by omega) (by exact bwO_s hb3 (by omega) (by rw [eds_s (by omega) (by omega)]; omega)) (by omega) H locs hV ls (lv_sub hl [2, 0] rfl)
        exact L3 ((n - 1) + 1) (n - 1) en2 (by omega) (by exact bwO_0 hn1 (fun j hj => hf2 j (by omega))) (Nat.lt_succ_self _) H locs hV ls (lv_sub hl [1, 0] rfl)
      · refine lv_aload_n (pc := 13) S.1 S.2.1 dX6_speeds_13 rfl (lv_at hl 0 rfl) ?_
        refine lv_iload_n (pc := 14) S.1 S.2.1 dX6_speeds_14 rfl (lv_at hl 1 rfl) ?_
        refine zz_callV (pc := 15) (As := [.int (nI k)]) (rest := []) S (c_X6_before l D cI cR o a1 a2 a3 a4 a5 a6 ed C V Ac w en2 n P X Y L k hok hR hset (by omega)) (zuV wd_675 wd_672 wd_673 wd_674 wd_5) 1 rfl q_X6_before ⟨⟨rfl, rfl⟩, Nat.le_of_ble_eq_true rfl, Nat.le_of_ble_eq_true rfl⟩ hV.1 [0, 1, 2] rfl 0 rfl rfl rfl rfl rfl (Nat.le_of_ble_eq_true rfl) hl.1 ⟨Nat.zero_le _, Nat.zero_le _⟩ dX6_speeds_15 ?_
        refine zz_cast (v := nI (fwp n P X Y L V Ac k)) (congrArg nI (bfo_f hf2)) ?_
        refine lv_aload_n (pc := 18) S.1 S.2.1 dX6_speeds_18 rfl (lv_at hl 0 rfl) ?_
        refine lv_iload_n (pc := 19) S.1 S.2.1 dX6_speeds_19 rfl (lv_at hl 1 rfl) ?_
        refine zz_callV (pc := 20) (As := [.int (nI k)]) (rest := [.int (nI (fwp n P X Y L V Ac k))]) S (c_X6_gain l D cI cR o a1 a2 a3 a4 a5 a6 ed C V Ac w n P X Y L k hok hR hset (by omega)) (zuV wd_679 wd_676 wd_677 wd_678 wd_5) 1 rfl q_X6_gain ⟨⟨rfl, rfl⟩, Nat.le_of_ble_eq_true rfl, Nat.le_of_ble_eq_true rfl⟩ hV.1 [0, 1] rfl 0 rfl rfl rfl rfl rfl (Nat.le_of_ble_eq_true rfl) hl.1 ⟨Nat.zero_le _, Nat.zero_le _⟩ dX6_speeds_20 ?_
        have g6 := gn_le (Ac := Ac) (X := X) (Y := Y) (n := n) (c := L k) hXY (by omega) (hLf k (by omega))
        have hfl := fwp_le n P X Y L V Ac k
        refine zz_iadd (pc := 23) (v := nI (fwp n P X Y L V Ac k + (2 * Ac * lng X Y (L k)))) S dX6_speeds_23 (n_add _ _) ?_
        refine lv_istore_n (pc := 24) (lv' := [(2, .int (nI (fwp n P X Y L V Ac k + (2 * Ac * lng X Y (L k))))), (0, .ref o), (1, .int (nI k))]) S.1 S.2.1 dX6_speeds_24 rfl hl (by decide) rfl (fun ls hl => ?_)
        refine lv_aload_n (pc := 25) S.1 S.2.1 dX6_speeds_25 rfl (lv_at hl 1 rfl) ?_
        refine lv_iload_n (pc := 26) S.1 S.2.1 dX6_speeds_26 rfl (lv_at hl 2 rfl) ?_
        refine zz_callV (pc := 27) (As := [.int (zI ((k : Nat) : Int))]) (rest := []) S (c_X6_isLinked l D cI cR o a1 a2 a3 a4 a5 a6 ed C V Ac w n P X Y L ((k : Nat) : Int) hok hR hset (by omega)) (zuV wd_471 wd_468 wd_469 wd_470 wd_5) 1 rfl q_X6_isLinked ⟨⟨rfl, rfl⟩, Nat.le_of_ble_eq_true rfl, Nat.le_of_ble_eq_true rfl⟩ hV.1 [0, 1] rfl 0 rfl rfl rfl rfl rfl (Nat.le_of_ble_eq_true rfl) hl.1 ⟨Nat.zero_le _, Nat.zero_le _⟩ dX6_speeds_27 ?_
        refine zz_ifb_eq (pc := 30) (tgt := 41) S dX6_speeds_30 (by decide) (fun c30 => ?_) (fun c30 => ?_)
        · refine zz_iconst (pc := 41) (v := nI 0) S dX6_speeds_41 rfl ?_
          refine lv_istore_n (pc := 42) (lv' := [(3, .int (nI 0)), (2, .int (nI (fwp n P X Y L V Ac k + (2 * Ac * lng X Y (L k))))), (0, .ref o), (1, .int (nI k))]) S.1 S.2.1 dX6_speeds_42 rfl hl (by decide) rfl (fun ls hl => ?_)
          refine lv_aload_n (pc := 43) S.1 S.2.1 dX6_speeds_43 rfl (lv_at hl 2 rfl) ?_
          refine zz_get (pc := 44) S hV.1 iX6 0 rfl rfl 9 (by decide) wd_75 rfl rfl dX6_speeds_44 ?_
          refine lv_iload_n (pc := 47) S.1 S.2.1 dX6_speeds_47 rfl (lv_at hl 3 rfl) ?_
          refine lv_iload_n (pc := 48) S.1 S.2.1 dX6_speeds_48 rfl (lv_at hl 1 rfl) ?_
          refine lv_iload_n (pc := 49) S.1 S.2.1 dX6_speeds_49 rfl (lv_at hl 0 rfl) ?_
          refine zz_icmp_ge (pc := 50) (tgt := 57) S dX6_speeds_50 (by decide) (n_le (by omega) (by omega)) (fun c50 => ?_) (fun c50 => ?_)
          · refine lv_iload_n (pc := 57) S.1 S.2.1 dX6_speeds_57 rfl (lv_at hl 0 rfl) ?_
            refine zz_iast (pc := 58) (k := k) (v := 0) S hV 2 rfl (by omega) (ws' := [(o, .inr (6, [.ref a1, .ref a2, .int (nI ed), .int (nI C), .int (nI V), .int (nI Ac), .ref a3, .ref a4, .ref a5, .ref a6])), (a1, zA cI 49 w), (a6, zA cI 8 (va_up en2 k 0))]) rfl dX6_speeds_58 (fun H locs hV => ?_)
            refine lv_iinc (pc := 59) (v := nI (k + 1)) (lv' := [(1, .int (nI (k + 1))), (3, .int (nI 0)), (2, .int (nI (fwp n P X Y L V Ac k + (2 * Ac * lng X Y (L k))))), (0, .ref o)]) S.1 S.2.1 dX6_speeds_59 hl (k := 3) rfl (n_add _ _) (by decide) rfl (fun ls hl => ?_)
            refine lv_goto (pc := 62) (tgt := 2) S.1 S.2.1 dX6_speeds_62 (by decide) ?_
            have hV : zV D cI cR A [(o, .inr (6, [.ref a1, .ref a2, .int (nI ed), .int (nI C), .int (nI V), .int (nI Ac), .ref a3, .ref a4, .ref a5, .ref a6])), (a1, zA cI 49 w), (a6, zA cI 8 (va_up en2 k 0))] s H locs := hV.arr 2 rfl (fun j hj => by rfl) rfl
            exact ih2 (k + 1) (va_up en2 k 0) (by omega) (by exact fw_s hf2 (by first | (rw [fwd_t (k := k) c30.2]; omega) | (rw [fwd_f (k := k) (fun h => c30 ⟨by omega, h⟩)]; omega) | (rw [fwd_f (k := k) (fun h => c30 ⟨by omega, h⟩)]))) (by omega) H locs hV ls (lv_sub hl [3, 0] rfl)
          · refine lv_iload_n (pc := 53) S.1 S.2.1 dX6_speeds_53 rfl (lv_at hl 1 rfl) ?_
            refine lv_goto (pc := 54) (tgt := 58) S.1 S.2.1 dX6_speeds_54 (by decide) ?_
            refine zz_iast (pc := 58) (k := k) (v := fwp n P X Y L V Ac k + (2 * Ac * lng X Y (L k))) S hV 2 rfl (by omega) (ws' := [(o, .inr (6, [.ref a1, .ref a2, .int (nI ed), .int (nI C), .int (nI V), .int (nI Ac), .ref a3, .ref a4, .ref a5, .ref a6])), (a1, zA cI 49 w), (a6, zA cI 8 (va_up en2 k (fwp n P X Y L V Ac k + (2 * Ac * lng X Y (L k)))))]) rfl dX6_speeds_58 (fun H locs hV => ?_)
            refine lv_iinc (pc := 59) (v := nI (k + 1)) (lv' := [(1, .int (nI (k + 1))), (3, .int (nI 0)), (2, .int (nI (fwp n P X Y L V Ac k + (2 * Ac * lng X Y (L k))))), (0, .ref o)]) S.1 S.2.1 dX6_speeds_59 hl (k := 3) rfl (n_add _ _) (by decide) rfl (fun ls hl => ?_)
            refine lv_goto (pc := 62) (tgt := 2) S.1 S.2.1 dX6_speeds_62 (by decide) ?_
            have hV : zV D cI cR A [(o, .inr (6, [.ref a1, .ref a2, .int (nI ed), .int (nI C), .int (nI V), .int (nI Ac), .ref a3, .ref a4, .ref a5, .ref a6])), (a1, zA cI 49 w), (a6, zA cI 8 (va_up en2 k (fwp n P X Y L V Ac k + (2 * Ac * lng X Y (L k)))))] s H locs := hV.arr 2 rfl (fun j hj => by rfl) rfl
            exact ih2 (k + 1) (va_up en2 k (fwp n P X Y L V Ac k + (2 * Ac * lng X Y (L k)))) (by omega) (by exact fw_s hf2 (by first | (rw [fwd_t (k := k) c30.2]; omega) | (rw [fwd_f (k := k) (fun h => c30 ⟨by omega, h⟩)]; omega) | (rw [fwd_f (k := k) (fun h => c30 ⟨by omega, h⟩)]))) (by omega) H locs hV ls (lv_sub hl [3, 0] rfl)
        · have hlk : lnk n P X Y L k := c30.2
          have hl1 := hlk.1
          refine lv_aload_n (pc := 33) S.1 S.2.1 dX6_speeds_33 rfl (lv_at hl 1 rfl) ?_
          refine lv_iload_n (pc := 34) S.1 S.2.1 dX6_speeds_34 rfl (lv_at hl 2 rfl) ?_
          refine zz_callV (pc := 35) (As := [.int (nI k)]) (rest := []) S (c_X6_corner l D cI cR o a1 a2 a3 a4 a5 a6 ed C V Ac w n P X Y L k hok hR hset (by omega)) (zuV wd_630 wd_627 wd_628 wd_629 wd_5) 1 rfl q_X6_corner ⟨⟨rfl, rfl⟩, Nat.le_of_ble_eq_true rfl, Nat.le_of_ble_eq_true rfl⟩ hV.1 [0, 1] rfl 0 rfl rfl rfl rfl rfl (Nat.le_of_ble_eq_true rfl) hl.1 ⟨Nat.zero_le _, Nat.zero_le _⟩ dX6_speeds_35 ?_
          have g7 := crn_le X Y V (L k) (L (k + 1))
          refine lv_goto (pc := 38) (tgt := 42) S.1 S.2.1 dX6_speeds_38 (by decide) ?_
          refine lv_istore_n (pc := 42) (lv' := [(3, .int (nI (crn X Y V (L k) (L (k + 1))))), (2, .int (nI (fwp n P X Y L V Ac k + (2 * Ac * lng X Y (L k))))), (0, .ref o), (1, .int (nI k))]) S.1 S.2.1 dX6_speeds_42 rfl hl (by decide) rfl (fun ls hl => ?_)
          refine lv_aload_n (pc := 43) S.1 S.2.1 dX6_speeds_43 rfl (lv_at hl 2 rfl) ?_
          refine zz_get (pc := 44) S hV.1 iX6 0 rfl rfl 9 (by decide) wd_75 rfl rfl dX6_speeds_44 ?_
          refine lv_iload_n (pc := 47) S.1 S.2.1 dX6_speeds_47 rfl (lv_at hl 3 rfl) ?_
          refine lv_iload_n (pc := 48) S.1 S.2.1 dX6_speeds_48 rfl (lv_at hl 1 rfl) ?_
          refine lv_iload_n (pc := 49) S.1 S.2.1 dX6_speeds_49 rfl (lv_at hl 0 rfl) ?_
          refine zz_icmp_ge (pc := 50) (tgt := 57) S dX6_speeds_50 (by decide) (n_le (by omega) (by omega)) (fun c50 => ?_) (fun c50 => ?_)
          · refine lv_iload_n (pc := 57) S.1 S.2.1 dX6_speeds_57 rfl (lv_at hl 0 rfl) ?_
            refine zz_iast (pc := 58) (k := k) (v := crn X Y V (L k) (L (k + 1))) S hV 2 rfl (by omega) (ws' := [(o, .inr (6, [.ref a1, .ref a2, .int (nI ed), .int (nI C), .int (nI V), .int (nI Ac), .ref a3, .ref a4, .ref a5, .ref a6])), (a1, zA cI 49 w), (a6, zA cI 8 (va_up en2 k (crn X Y V (L k) (L (k + 1)))))]) rfl dX6_speeds_58 (fun H locs hV => ?_)
            refine lv_iinc (pc := 59) (v := nI (k + 1)) (lv' := [(1, .int (nI (k + 1))), (3, .int (nI (crn X Y V (L k) (L (k + 1))))), (2, .int (nI (fwp n P X Y L V Ac k + (2 * Ac * lng X Y (L k))))), (0, .ref o)]) S.1 S.2.1 dX6_speeds_59 hl (k := 3) rfl (n_add _ _) (by decide) rfl (fun ls hl => ?_)
            refine lv_goto (pc := 62) (tgt := 2) S.1 S.2.1 dX6_speeds_62 (by decide) ?_
            have hV : zV D cI cR A [(o, .inr (6, [.ref a1, .ref a2, .int (nI ed), .int (nI C), .int (nI V), .int (nI Ac), .ref a3, .ref a4, .ref a5, .ref a6])), (a1, zA cI 49 w), (a6, zA cI 8 (va_up en2 k (crn X Y V (L k) (L (k + 1)))))] s H locs := hV.arr 2 rfl (fun j hj => by rfl) rfl
            exact ih2 (k + 1) (va_up en2 k (crn X Y V (L k) (L (k + 1)))) (by omega) (by exact fw_s hf2 (by first | (rw [fwd_t (k := k) c30.2]; omega) | (rw [fwd_f (k := k) (fun h => c30 ⟨by omega, h⟩)]; omega) | (rw [fwd_f (k := k) (fun h => c30 ⟨by omega, h⟩)]))) (by omega) H locs hV ls (lv_sub hl [3, 0] rfl)
          · refine lv_iload_n (pc := 53) S.1 S.2.1 dX6_speeds_53 rfl (lv_at hl 1 rfl) ?_
            refine lv_goto (pc := 54) (tgt := 58) S.1 S.2.1 dX6_speeds_54 (by decide) ?_
            refine zz_iast (pc := 58) (k := k) (v := fwp n P X Y L V Ac k + (2 * Ac * lng X Y (L k))) S hV 2 rfl (by omega) (ws' := [(o, .inr (6, [.ref a1, .ref a2, .int (nI ed), .int (nI C), .int (nI V), .int (nI Ac), .ref a3, .ref a4, .ref a5, .ref a6])), (a1, zA cI 49 w), (a6, zA cI 8 (va_up en2 k (fwp n P X Y L V Ac k + (2 * Ac * lng X Y (L k)))))]) rfl dX6_speeds_58 (fun H locs hV => ?_)
            refine lv_iinc (pc := 59) (v := nI (k + 1)) (lv' := [(1, .int (nI (k + 1))), (3, .int (nI (crn X Y V (L k) (L (k + 1))))), (2, .int (nI (fwp n P X Y L V Ac k + (2 * Ac * lng X Y (L k))))), (0, .ref o)]) S.1 S.2.1 dX6_speeds_59 hl (k := 3) rfl (n_add _ _) (by decide) rfl (fun ls hl => ?_)
            refine lv_goto (pc := 62) (tgt := 2) S.1 S.2.1 dX6_speeds_62 (by decide) ?_
            have hV : zV D cI cR A [(o, .inr (6, [.ref a1, .ref a2, .int (nI ed), .int (nI C), .int (nI V), .int (nI Ac), .ref a3, .ref a4, .ref a5, .ref a6])), (a1, zA cI 49 w), (a6, zA cI 8 (va_up en2 k (fwp n P X Y L V Ac k + (2 * Ac * lng X Y (L k)))))] s H locs := hV.arr 2 rfl (fun j hj => by rfl) rfl
            exact ih2 (k + 1) (va_up en2 k (fwp n P X Y L V Ac k + (2 * Ac * lng X Y (L k)))) (by omega) (by exact fw_s hf2 (by first | (rw [fwd_t (k := k) c30.2]; omega) | (rw [fwd_f (k := k) (fun h => c30 ⟨by omega, h⟩)]; omega) | (rw [fwd_f (k := k) (fun h => c30 ⟨by omega, h⟩)]))) (by omega) H locs hV ls (lv_sub hl [3, 0] rfl)
  exact L1 (n - 0 + 1) 0 en (by omega) (by intro j hj; omega) (Nat.lt_succ_self _) s.heap [] hV ls (lv_sub hl [1, 0] rfl)
abbrev wm_X6_endSquare : List Cond := .code yX6_endSquare cX6_endSquare 2 (some .int) :: wU
theorem q_X6_endSquare : yX6_endSquare.cls = RX6 ∧ yX6_endSquare.cls ≠ "java/lang/invoke/MethodHandle" ∧ yX6_endSquare.cls ≠ "java/lang/invoke/VarHandle" ∧ (parseMethodDescriptor yX6_endSquare.desc).map (fun d => d.parameters.length) = some 1 := by decide +kernel
set_option maxHeartbeats 4000000 in
set_option maxRecDepth 100000 in
theorem c_X6_endSquare_e (l : Launch) (D : va_G) (cI cR : ClassId) (o a1 a2 a3 a4 a5 a6 ed C V Ac : Nat) (w : Nat → Nat) (n : Nat) (P X Y L : Nat → Nat) (a : Int) (hok : zOk n P X Y L) (hR : zRl w n P X Y L) (hset : zSt C V Ac) (ha : zR a) (hbad : ¬ (0 ≤ a ∧ a < (n : Int))) : Met l yX6_endSquare wm_X6_endSquare ({ frames := 2, cells := 0, slots := 0, locals := 43 } : Room) (va_Pc [.ref o, .int (zI a)] (zW D cI cR [(o, .inr (6, [.ref a1, .ref a2, .int (nI ed), .int (nI C), .int (nI V), .int (nI Ac), .ref a3, .ref a4, .ref a5, .ref a6])), (a1, zA cI 49 w)])) (vp_Si (fun r => r = zI (-1))) 0 0 (fun _ => False) := by
  refine Met.ofW (cc := cX6_endSquare) (maxL := 2) (ret := (some .int)) (by decide) rfl ?_
  intro p e s m args below meth c s₁ B hml hv
  obtain ⟨rfl, hG⟩ := hv
  have S : CallFix p m c cX6_endSquare 2 s ([.ref o, .int (zI a)] : List Value).toArray wU RX6 := ⟨B.exec, B.bytes, hml, findClass_of_methodNamed B.named, fun w h => atoms_spec (ws := wm_X6_endSquare) B.pre w (List.mem_cons_of_mem _ h)⟩
  have hr := B.returns
  have hlocks := B.notSynchronized
  have hG : zG D cI cR [(o, .inr (6, [.ref a1, .ref a2, .int (nI ed), .int (nI C), .int (nI V), .int (nI Ac), .ref a3, .ref a4, .ref a5, .ref a6])), (a1, zA cI 49 w)] s s.heap := hG
  have hl := lv_entry ([.ref o, .int (zI a)]) (n := 2) (Nat.le_of_ble_eq_true rfl)
  rw [lg_entry_eq]
  generalize (lg_sl ([.ref o, .int (zI a)]) ++ List.replicate (2 - (lg_sl ([.ref o, .int (zI a)])).length) Slot.unset).toArray = ls at hl ⊢
  have hl : lv_has ls 2 [(0, .ref o), (1, .int (zI a))] := hl
  have r_ha := id ha
  unfold zR at r_ha
  obtain ⟨⟨hn, hPf, hXY⟩, hLf, hinj⟩ := id hok
  obtain ⟨hC, hV9, hA9⟩ := id hset
  refine lv_aload_n (pc := 0) S.1 S.2.1 dX6_endSquare_0 rfl (lv_at hl 0 rfl) ?_
  refine lv_iload_n (pc := 1) S.1 S.2.1 dX6_endSquare_1 rfl (lv_at hl 1 rfl) ?_
  refine zz_callV (pc := 2) (As := [.int (zI a)]) (rest := []) S (c_X6_isPosition l D cI cR o a1 a2 a3 a4 a5 a6 ed C V Ac w n P X Y L a hok.1 hR hset (by unfold zR; omega)) (zuV wd_360 wd_357 wd_358 wd_359 wd_5) 1 rfl q_X6_isPosition ⟨⟨rfl, rfl⟩, Nat.le_of_ble_eq_true rfl, Nat.le_of_ble_eq_true rfl⟩ hG [0, 1] rfl 0 rfl rfl rfl rfl rfl (Nat.le_of_ble_eq_true rfl) hl.1 ⟨Nat.zero_le _, Nat.zero_le _⟩ dX6_endSquare_2 ?_
  refine zz_ifb_ne (pc := 5) (tgt := 10) S dX6_endSquare_5 (by decide) (fun c5 => ?_) (fun c5 => ?_)
  · exfalso; omega
  · refine zz_iconst (pc := 8) (v := zI (-1)) S dX6_endSquare_8 rfl ?_
    exact zz_iretS (pc := 9) S hr hlocks (rfl) dX6_endSquare_9
set_option maxHeartbeats 4000000 in
set_option maxRecDepth 100000 in
theorem c_X6_endSquare_k (l : Launch) (D : va_G) (cI cR : ClassId) (o a1 a2 a3 a4 a5 a6 ed C V Ac : Nat) (w : Nat → Nat) (en : Nat → Nat) (n : Nat) (P X Y L : Nat → Nat) (a : Nat) (sz : Nat) (hok : zOk n P X Y L) (hR : zRl w n P X Y L) (hset : zSt C V Ac) (ha : a < n) : Met l yX6_endSquare wm_X6_endSquare ({ frames := 4, cells := 0, slots := 0, locals := 88 } : Room) (va_Pc [.ref o, .int (nI a)] (zX D cI cR [(o, .inr (6, [.ref a1, .ref a2, .int (nI ed), .int (nI C), .int (nI V), .int (nI Ac), .ref a3, .ref a4, .ref a5, .ref a6])), (a1, zA cI 49 w), (a6, zA cI 8 en)] sz)) (zQi D cI cR (va_A [(o, .inr (6, [.ref a1, .ref a2, .int (nI ed), .int (nI C), .int (nI V), .int (nI Ac), .ref a3, .ref a4, .ref a5, .ref a6])), (a1, zA cI 49 w), (a6, zA cI 8 en)] sz) (fun r w0 => ∃ (en5 : Nat → Nat), (w0 = [(o, .inr (6, [.ref a1, .ref a2, .int (nI ed), .int (nI C), .int (nI V), .int (nI Ac), .ref a3, .ref a4, .ref a5, .ref a6])), (a1, zA cI 49 w), (a6, zA cI 8 en5)] ∧ r = nI (eds n P X Y L V Ac a)))) 0 0 (va_A [(o, .inr (6, [.ref a1, .ref a2, .int (nI ed), .int (nI C), .int (nI V), .int (nI Ac), .ref a3, .ref a4, .ref a5, .ref a6])), (a1, zA cI 49 w), (a6, zA cI 8 en)] sz) := by
  refine Met.ofW (cc := cX6_endSquare) (maxL := 2) (ret := (some .int)) (by decide) rfl ?_
  intro p e s m args below meth c s₁ B hml hv
  obtain ⟨rfl, hsz, hG, hD0⟩ := hv
  have S : CallFix p m c cX6_endSquare 2 s ([.ref o, .int (nI a)] : List Value).toArray wU RX6 := ⟨B.exec, B.bytes, hml, findClass_of_methodNamed B.named, fun w h => atoms_spec (ws := wm_X6_endSquare) B.pre w (List.mem_cons_of_mem _ h)⟩
  have hr := B.returns
  have hlocks := B.notSynchronized
  subst hsz
  have hD := hD0.self (sz := s.heap.size)
  generalize hAe : va_A [(o, .inr (6, [.ref a1, .ref a2, .int (nI ed), .int (nI C), .int (nI V), .int (nI Ac), .ref a3, .ref a4, .ref a5, .ref a6])), (a1, zA cI 49 w), (a6, zA cI 8 en)] s.heap.size = A at hD ⊢
  have hV : zV D cI cR A [(o, .inr (6, [.ref a1, .ref a2, .int (nI ed), .int (nI C), .int (nI V), .int (nI Ac), .ref a3, .ref a4, .ref a5, .ref a6])), (a1, zA cI 49 w), (a6, zA cI 8 en)] s s.heap [] := ⟨hG, hD, va_S.rf, fun q h => by rw [← hAe]; exact Or.inr h⟩
  have hl := lv_entry ([.ref o, .int (nI a)]) (n := 2) (Nat.le_of_ble_eq_true rfl)
  rw [lg_entry_eq]
  generalize (lg_sl ([.ref o, .int (nI a)]) ++ List.replicate (2 - (lg_sl ([.ref o, .int (nI a)])).length) Slot.unset).toArray = ls at hl ⊢
  have hl : lv_has ls 2 [(0, .ref o), (1, .int (nI a))] := hl
  obtain ⟨⟨hn, hPf, hXY⟩, hLf, hinj⟩ := id hok
  obtain ⟨hC, hV9, hA9⟩ := id hset
  refine lv_aload_n (pc := 0) S.1 S.2.1 dX6_endSquare_0 rfl (lv_at hl 0 rfl) ?_
  refine lv_iload_n (pc := 1) S.1 S.2.1 dX6_endSquare_1 rfl (lv_at hl 1 rfl) ?_
  refine zz_callV (pc := 2) (As := [.int (zI ((a : Nat) : Int))]) (rest := []) S (c_X6_isPosition l D cI cR o a1 a2 a3 a4 a5 a6 ed C V Ac w n P X Y L ((a : Nat) : Int) hok.1 hR hset (by unfold zR; omega)) (zuV wd_360 wd_357 wd_358 wd_359 wd_5) 1 rfl q_X6_isPosition ⟨⟨rfl, rfl⟩, Nat.le_of_ble_eq_true rfl, Nat.le_of_ble_eq_true rfl⟩ hV.1 [0, 1] rfl 0 rfl rfl rfl rfl rfl (Nat.le_of_ble_eq_true rfl) hl.1 ⟨Nat.zero_le _, Nat.zero_le _⟩ dX6_endSquare_2 ?_
  refine zz_ifb_ne (pc := 5) (tgt := 10) S dX6_endSquare_5 (by decide) (fun c5 => ?_) (fun c5 => ?_)
  · refine lv_aload_n (pc := 10) S.1 S.2.1 dX6_endSquare_10 rfl (lv_at hl 0 rfl) ?_
    refine zz_callMv (pc := 11) (As := []) (rest := []) (wr := []) S hV (c_X6_speeds l D cI cR o a1 a2 a3 a4 a5 a6 ed C V Ac w en n P X Y L s.heap.size hok hR hset (by omega)) (zuV wd_671 wd_668 wd_669 wd_670 wd_5) 0 rfl q_X6_speeds ⟨⟨rfl, rfl⟩, Nat.le_of_ble_eq_true rfl, Nat.le_of_ble_eq_true rfl⟩ [0, 1, 2] [] rfl rfl (by decide) (by decide) (by decide) 0 rfl rfl rfl rfl rfl (Nat.le_of_ble_eq_true rfl) hl.1 ⟨Nat.zero_le _, Nat.zero_le _⟩ dX6_endSquare_11 (fun w1 H locs hp hV => ?_)
    obtain ⟨en5x1, rfl, hen5x1⟩ := hp
    have hV : zV D cI cR A [(o, .inr (6, [.ref a1, .ref a2, .int (nI ed), .int (nI C), .int (nI V), .int (nI Ac), .ref a3, .ref a4, .ref a5, .ref a6])), (a1, zA cI 49 w), (a6, zA cI 8 en5x1)] s H locs := hV.perm [0, 1, 2] (by decide) rfl
    refine lv_aload_n (pc := 14) S.1 S.2.1 dX6_endSquare_14 rfl (lv_at hl 0 rfl) ?_
    refine zz_get (pc := 15) S hV.1 iX6 0 rfl rfl 9 (by decide) wd_75 rfl rfl dX6_endSquare_15 ?_
    refine lv_iload_n (pc := 18) S.1 S.2.1 dX6_endSquare_18 rfl (lv_at hl 1 rfl) ?_
    refine zz_iald (pc := 19) (k := a) S hV.1 2 rfl (by omega) dX6_endSquare_19 ?_
    exact zz_iretM (pc := 20) S hr hlocks hV (⟨en5x1, ⟨rfl, congrArg nI (by exact hen5x1 a ha)⟩⟩) dX6_endSquare_20
  · exfalso; omega
abbrev wm_X6_peakSquare : List Cond := .code yX6_peakSquare cX6_peakSquare 3 (some .int) :: wU
theorem q_X6_peakSquare : yX6_peakSquare.cls = RX6 ∧ yX6_peakSquare.cls ≠ "java/lang/invoke/MethodHandle" ∧ yX6_peakSquare.cls ≠ "java/lang/invoke/VarHandle" ∧ (parseMethodDescriptor yX6_peakSquare.desc).map (fun d => d.parameters.length) = some 1 := by decide +kernel
set_option maxHeartbeats 4000000 in
set_option maxRecDepth 100000 in
theorem c_X6_peakSquare_e (l : Launch) (D : va_G) (cI cR : ClassId) (o a1 a2 a3 a4 a5 a6 ed C V Ac : Nat) (w : Nat → Nat) (n : Nat) (P X Y L : Nat → Nat) (a : Int) (hok : zOk n P X Y L) (hR : zRl w n P X Y L) (hset : zSt C V Ac) (ha : zR a) (hbad : ¬ (0 ≤ a ∧ a < (n : Int))) : Met l yX6_peakSquare wm_X6_peakSquare ({ frames := 2, cells := 0, slots := 0, locals := 43 } : Room) (va_Pc [.ref o, .int (zI a)] (zW D cI cR [(o, .inr (6, [.ref a1, .ref a2, .int (nI ed), .int (nI C), .int (nI V), .int (nI Ac), .ref a3, .ref a4, .ref a5, .ref a6])), (a1, zA cI 49 w)])) (vp_Si (fun r => r = zI (-1))) 0 0 (fun _ => False) := by
  refine Met.ofW (cc := cX6_peakSquare) (maxL := 3) (ret := (some .int)) (by decide) rfl ?_
  intro p e s m args below meth c s₁ B hml hv
  obtain ⟨rfl, hG⟩ := hv
  have S : CallFix p m c cX6_peakSquare 3 s ([.ref o, .int (zI a)] : List Value).toArray wU RX6 := ⟨B.exec, B.bytes, hml, findClass_of_methodNamed B.named, fun w h => atoms_spec (ws := wm_X6_peakSquare) B.pre w (List.mem_cons_of_mem _ h)⟩
  have hr := B.returns
  have hlocks := B.notSynchronized
  have hG : zG D cI cR [(o, .inr (6, [.ref a1, .ref a2, .int (nI ed), .int (nI C), .int (nI V), .int (nI Ac), .ref a3, .ref a4, .ref a5, .ref a6])), (a1, zA cI 49 w)] s s.heap := hG
  have hl := lv_entry ([.ref o, .int (zI a)]) (n := 3) (Nat.le_of_ble_eq_true rfl)
  rw [lg_entry_eq]
  generalize (lg_sl ([.ref o, .int (zI a)]) ++ List.replicate (3 - (lg_sl ([.ref o, .int (zI a)])).length) Slot.unset).toArray = ls at hl ⊢
  have hl : lv_has ls 3 [(0, .ref o), (1, .int (zI a))] := hl
  have r_ha := id ha
  unfold zR at r_ha
  obtain ⟨⟨hn, hPf, hXY⟩, hLf, hinj⟩ := id hok
  obtain ⟨hC, hV9, hA9⟩ := id hset
  refine lv_aload_n (pc := 0) S.1 S.2.1 dX6_peakSquare_0 rfl (lv_at hl 0 rfl) ?_
  refine lv_iload_n (pc := 1) S.1 S.2.1 dX6_peakSquare_1 rfl (lv_at hl 1 rfl) ?_
  refine zz_callV (pc := 2) (As := [.int (zI a)]) (rest := []) S (c_X6_isPosition l D cI cR o a1 a2 a3 a4 a5 a6 ed C V Ac w n P X Y L a hok.1 hR hset (by unfold zR; omega)) (zuV wd_360 wd_357 wd_358 wd_359 wd_5) 1 rfl q_X6_isPosition ⟨⟨rfl, rfl⟩, Nat.le_of_ble_eq_true rfl, Nat.le_of_ble_eq_true rfl⟩ hG [0, 1] rfl 0 rfl rfl rfl rfl rfl (Nat.le_of_ble_eq_true rfl) hl.1 ⟨Nat.zero_le _, Nat.zero_le _⟩ dX6_peakSquare_2 ?_
  refine zz_ifb_ne (pc := 5) (tgt := 10) S dX6_peakSquare_5 (by decide) (fun c5 => ?_) (fun c5 => ?_)
  · exfalso; omega
  · refine zz_iconst (pc := 8) (v := zI (-1)) S dX6_peakSquare_8 rfl ?_
    exact zz_iretS (pc := 9) S hr hlocks (rfl) dX6_peakSquare_9
set_option maxHeartbeats 4000000 in
set_option maxRecDepth 100000 in
theorem c_X6_peakSquare_k (l : Launch) (D : va_G) (cI cR : ClassId) (o a1 a2 a3 a4 a5 a6 ed C V Ac : Nat) (w : Nat → Nat) (en : Nat → Nat) (n : Nat) (P X Y L : Nat → Nat) (a : Nat) (sz : Nat) (hok : zOk n P X Y L) (hR : zRl w n P X Y L) (hset : zSt C V Ac) (ha : a < n) : Met l yX6_peakSquare wm_X6_peakSquare ({ frames := 4, cells := 0, slots := 0, locals := 88 } : Room) (va_Pc [.ref o, .int (nI a)] (zX D cI cR [(o, .inr (6, [.ref a1, .ref a2, .int (nI ed), .int (nI C), .int (nI V), .int (nI Ac), .ref a3, .ref a4, .ref a5, .ref a6])), (a1, zA cI 49 w), (a6, zA cI 8 en)] sz)) (zQi D cI cR (va_A [(o, .inr (6, [.ref a1, .ref a2, .int (nI ed), .int (nI C), .int (nI V), .int (nI Ac), .ref a3, .ref a4, .ref a5, .ref a6])), (a1, zA cI 49 w), (a6, zA cI 8 en)] sz) (fun r w0 => ∃ (en5 : Nat → Nat), (w0 = [(o, .inr (6, [.ref a1, .ref a2, .int (nI ed), .int (nI C), .int (nI V), .int (nI Ac), .ref a3, .ref a4, .ref a5, .ref a6])), (a1, zA cI 49 w), (a6, zA cI 8 en5)] ∧ r = nI (min V ((edp n P X Y L V Ac a + eds n P X Y L V Ac a + 2 * Ac * lng X Y (L a)) / 2))))) 0 0 (va_A [(o, .inr (6, [.ref a1, .ref a2, .int (nI ed), .int (nI C), .int (nI V), .int (nI Ac), .ref a3, .ref a4, .ref a5, .ref a6])), (a1, zA cI 49 w), (a6, zA cI 8 en)] sz) := by
  refine Met.ofW (cc := cX6_peakSquare) (maxL := 3) (ret := (some .int)) (by decide) rfl ?_
  intro p e s m args below meth c s₁ B hml hv
  obtain ⟨rfl, hsz, hG, hD0⟩ := hv
  have S : CallFix p m c cX6_peakSquare 3 s ([.ref o, .int (nI a)] : List Value).toArray wU RX6 := ⟨B.exec, B.bytes, hml, findClass_of_methodNamed B.named, fun w h => atoms_spec (ws := wm_X6_peakSquare) B.pre w (List.mem_cons_of_mem _ h)⟩
  have hr := B.returns
  have hlocks := B.notSynchronized
  subst hsz
  have hD := hD0.self (sz := s.heap.size)
  generalize hAe : va_A [(o, .inr (6, [.ref a1, .ref a2, .int (nI ed), .int (nI C), .int (nI V), .int (nI Ac), .ref a3, .ref a4, .ref a5, .ref a6])), (a1, zA cI 49 w), (a6, zA cI 8 en)] s.heap.size = A at hD ⊢
  have hV : zV D cI cR A [(o, .inr (6, [.ref a1, .ref a2, .int (nI ed), .int (nI C), .int (nI V), .int (nI Ac), .ref a3, .ref a4, .ref a5, .ref a6])), (a1, zA cI 49 w), (a6, zA cI 8 en)] s s.heap [] := ⟨hG, hD, va_S.rf, fun q h => by rw [← hAe]; exact Or.inr h⟩
  have hl := lv_entry ([.ref o, .int (nI a)]) (n := 3) (Nat.le_of_ble_eq_true rfl)
  rw [lg_entry_eq]
  generalize (lg_sl ([.ref o, .int (nI a)]) ++ List.replicate (3 - (lg_sl ([.ref o, .int (nI a)])).length) Slot.unset).toArray = ls at hl ⊢
  have hl : lv_has ls 3 [(0, .ref o), (1, .int (nI a))] := hl
  obtain ⟨⟨hn, hPf, hXY⟩, hLf, hinj⟩ := id hok
  obtain ⟨hC, hV9, hA9⟩ := id hset
  refine lv_aload_n (pc := 0) S.1 S.2.1 dX6_peakSquare_0 rfl (lv_at hl 0 rfl) ?_
  refine lv_iload_n (pc := 1) S.1 S.2.1 dX6_peakSquare_1 rfl (lv_at hl 1 rfl) ?_
  refine zz_callV (pc := 2) (As := [.int (zI ((a : Nat) : Int))]) (rest := []) S (c_X6_isPosition l D cI cR o a1 a2 a3 a4 a5 a6 ed C V Ac w n P X Y L ((a : Nat) : Int) hok.1 hR hset (by unfold zR; omega)) (zuV wd_360 wd_357 wd_358 wd_359 wd_5) 1 rfl q_X6_isPosition ⟨⟨rfl, rfl⟩, Nat.le_of_ble_eq_true rfl, Nat.le_of_ble_eq_true rfl⟩ hV.1 [0, 1] rfl 0 rfl rfl rfl rfl rfl (Nat.le_of_ble_eq_true rfl) hl.1 ⟨Nat.zero_le _, Nat.zero_le _⟩ dX6_peakSquare_2 ?_
  refine zz_ifb_ne (pc := 5) (tgt := 10) S dX6_peakSquare_5 (by decide) (fun c5 => ?_) (fun c5 => ?_)
  · refine lv_aload_n (pc := 10) S.1 S.2.1 dX6_peakSquare_10 rfl (lv_at hl 0 rfl) ?_
    refine zz_callMv (pc := 11) (As := []) (rest := []) (wr := []) S hV (c_X6_speeds l D cI cR o a1 a2 a3 a4 a5 a6 ed C V Ac w en n P X Y L s.heap.size hok hR hset (by omega)) (zuV wd_671 wd_668 wd_669 wd_670 wd_5) 0 rfl q_X6_speeds ⟨⟨rfl, rfl⟩, Nat.le_of_ble_eq_true rfl, Nat.le_of_ble_eq_true rfl⟩ [0, 1, 2] [] rfl rfl (by decide) (by decide) (by decide) 0 rfl rfl rfl rfl rfl (Nat.le_of_ble_eq_true rfl) hl.1 ⟨Nat.zero_le _, Nat.zero_le _⟩ dX6_peakSquare_11 (fun w1 H locs hp hV => ?_)
    obtain ⟨en5x1, rfl, hen5x1⟩ := hp
    have hV : zV D cI cR A [(o, .inr (6, [.ref a1, .ref a2, .int (nI ed), .int (nI C), .int (nI V), .int (nI Ac), .ref a3, .ref a4, .ref a5, .ref a6])), (a1, zA cI 49 w), (a6, zA cI 8 en5x1)] s H locs := hV.perm [0, 1, 2] (by decide) rfl
    refine lv_aload_n (pc := 14) S.1 S.2.1 dX6_peakSquare_14 rfl (lv_at hl 0 rfl) ?_
    refine lv_iload_n (pc := 15) S.1 S.2.1 dX6_peakSquare_15 rfl (lv_at hl 1 rfl) ?_
    refine zz_callV (pc := 16) (As := [.int (nI a)]) (rest := []) S (c_X6_before l D cI cR o a1 a2 a3 a4 a5 a6 ed C V Ac w en5x1 n P X Y L a hok hR hset (by omega)) (zuV wd_675 wd_672 wd_673 wd_674 wd_5) 1 rfl q_X6_before ⟨⟨rfl, rfl⟩, Nat.le_of_ble_eq_true rfl, Nat.le_of_ble_eq_true rfl⟩ hV.1 [0, 1, 2] rfl 0 rfl rfl rfl rfl rfl (Nat.le_of_ble_eq_true rfl) hl.1 ⟨Nat.zero_le _, Nat.zero_le _⟩ dX6_peakSquare_16 ?_
    refine zz_cast (v := nI (edp n P X Y L V Ac a)) (congrArg nI (bfo_d hen5x1 (by omega))) ?_
    refine lv_aload_n (pc := 19) S.1 S.2.1 dX6_peakSquare_19 rfl (lv_at hl 0 rfl) ?_
    refine zz_get (pc := 20) S hV.1 iX6 0 rfl rfl 9 (by decide) wd_75 rfl rfl dX6_peakSquare_20 ?_
    refine lv_iload_n (pc := 23) S.1 S.2.1 dX6_peakSquare_23 rfl (lv_at hl 1 rfl) ?_
    refine zz_iald (pc := 24) (k := a) S hV.1 2 rfl (by omega) dX6_peakSquare_24 ?_
    have q1 := edp_le n P X Y L V Ac a
    have q2 := eds_le n P X Y L V Ac a
    refine zz_cast (v := nI (eds n P X Y L V Ac a)) (congrArg nI (hen5x1 a ha)) ?_
    refine zz_iadd (pc := 25) (v := nI (edp n P X Y L V Ac a + (eds n P X Y L V Ac a))) S dX6_peakSquare_25 (n_add _ _) ?_
    refine lv_aload_n (pc := 26) S.1 S.2.1 dX6_peakSquare_26 rfl (lv_at hl 0 rfl) ?_
    refine lv_iload_n (pc := 27) S.1 S.2.1 dX6_peakSquare_27 rfl (lv_at hl 1 rfl) ?_
    refine zz_callV (pc := 28) (As := [.int (nI a)]) (rest := [.int (nI (edp n P X Y L V Ac a + (eds n P X Y L V Ac a)))]) S (c_X6_gain l D cI cR o a1 a2 a3 a4 a5 a6 ed C V Ac w n P X Y L a hok hR hset (by omega)) (zuV wd_679 wd_676 wd_677 wd_678 wd_5) 1 rfl q_X6_gain ⟨⟨rfl, rfl⟩, Nat.le_of_ble_eq_true rfl, Nat.le_of_ble_eq_true rfl⟩ hV.1 [0, 1] rfl 0 rfl rfl rfl rfl rfl (Nat.le_of_ble_eq_true rfl) hl.1 ⟨Nat.zero_le _, Nat.zero_le _⟩ dX6_peakSquare_28 ?_
    have g2 := gn_le (Ac := Ac) (X := X) (Y := Y) (n := n) (c := L a) hXY (by omega) (hLf a (by omega))
    refine zz_iadd (pc := 31) (v := nI (edp n P X Y L V Ac a + (eds n P X Y L V Ac a) + (2 * Ac * lng X Y (L a)))) S dX6_peakSquare_31 (n_add _ _) ?_
    refine zz_iconst (pc := 32) (v := nI 2) S dX6_peakSquare_32 rfl ?_
    refine zz_idiv (pc := 33) (v := nI ((edp n P X Y L V Ac a + (eds n P X Y L V Ac a) + (2 * Ac * lng X Y (L a))) / 2)) S dX6_peakSquare_33 (by decide) (n_div (by omega) (by decide) (by decide)) ?_
    refine lv_istore_n (pc := 34) (lv' := [(2, .int (nI ((edp n P X Y L V Ac a + (eds n P X Y L V Ac a) + (2 * Ac * lng X Y (L a))) / 2))), (0, .ref o), (1, .int (nI a))]) S.1 S.2.1 dX6_peakSquare_34 rfl hl (by decide) rfl (fun ls hl => ?_)
    refine lv_iload_n (pc := 35) S.1 S.2.1 dX6_peakSquare_35 rfl (lv_at hl 0 rfl) ?_
    refine lv_aload_n (pc := 36) S.1 S.2.1 dX6_peakSquare_36 rfl (lv_at hl 1 rfl) ?_
    refine zz_get (pc := 37) S hV.1 iX6 0 rfl rfl 4 (by decide) wd_70 rfl rfl dX6_peakSquare_37 ?_
    refine zz_icmp_ge (pc := 40) (tgt := 47) S dX6_peakSquare_40 (by decide) (n_le (by omega) (by omega)) (fun c40 => ?_) (fun c40 => ?_)
    · refine lv_aload_n (pc := 47) S.1 S.2.1 dX6_peakSquare_47 rfl (lv_at hl 1 rfl) ?_
      refine zz_get (pc := 48) S hV.1 iX6 0 rfl rfl 4 (by decide) wd_70 rfl rfl dX6_peakSquare_48 ?_
      exact zz_iretM (pc := 51) S hr hlocks hV (⟨en5x1, ⟨rfl, congrArg nI (by first | rfl | omega)⟩⟩) dX6_peakSquare_51
    · refine lv_iload_n (pc := 43) S.1 S.2.1 dX6_peakSquare_43 rfl (lv_at hl 0 rfl) ?_
      refine lv_goto (pc := 44) (tgt := 51) S.1 S.2.1 dX6_peakSquare_44 (by decide) ?_
      exact zz_iretM (pc := 51) S hr hlocks hV (⟨en5x1, ⟨rfl, congrArg nI (by first | rfl | omega)⟩⟩) dX6_peakSquare_51
  · exfalso; omega
