abbrev wm_X6_finds : List Cond := .code yX6_finds cX6_finds 7 (some .int) :: wU
theorem q_X6_finds : yX6_finds.cls = RX6 ∧ yX6_finds.cls ≠ "java/lang/invoke/MethodHandle" ∧ yX6_finds.cls ≠ "java/lang/invoke/VarHandle" ∧ (parseMethodDescriptor yX6_finds.desc).map (fun d => d.parameters.length) = some 0 := by decide +kernel
set_option maxHeartbeats 4000000 in
set_option maxRecDepth 100000 in
theorem c_X6_finds (l : Launch) (D : va_G) (cI cR : ClassId) (o a1 a2 a3 a4 a5 a6 ed C V Ac : Nat) (w : Nat → Nat) (rt : Nat → Nat) (bt : Nat → Nat) (n : Nat) (P X Y L : Nat → Nat) (sz : Nat) (hok : zOk n P X Y L) (hR : zRl w n P X Y L) (hset : zSt C V Ac) : Met l yX6_finds wm_X6_finds ({ frames := 3, cells := 0, slots := 0, locals := 72 } : Room) (va_Pc [.ref o] (zX D cI cR [(o, .inr (6, [.ref a1, .ref a2, .int (nI ed), .int (nI C), .int (nI V), .int (nI Ac), .ref a3, .ref a4, .ref a5, .ref a6])), (a1, zA cI 49 w), (a3, zA cI 4096 rt), (a4, zA cI 8 bt)] sz)) (zQi D cI cR (va_A [(o, .inr (6, [.ref a1, .ref a2, .int (nI ed), .int (nI C), .int (nI V), .int (nI Ac), .ref a3, .ref a4, .ref a5, .ref a6])), (a1, zA cI 49 w), (a3, zA cI 4096 rt), (a4, zA cI 8 bt)] sz) (fun r w0 => ∃ (rt5 : Nat → Nat) (bt5 : Nat → Nat), (w0 = [(o, .inr (6, [.ref a1, .ref a2, .int (nI ed), .int (nI C), .int (nI V), .int (nI Ac), .ref a3, .ref a4, .ref a5, .ref a6])), (a1, zA cI 49 w), (a3, zA cI 4096 rt5), (a4, zA cI 8 bt5)] ∧ r = nI (btot P X Y C n n)) ∧ (∀ j, j < n → bt5 j = bcd P X Y C n j))) 0 0 (va_A [(o, .inr (6, [.ref a1, .ref a2, .int (nI ed), .int (nI C), .int (nI V), .int (nI Ac), .ref a3, .ref a4, .ref a5, .ref a6])), (a1, zA cI 49 w), (a3, zA cI 4096 rt), (a4, zA cI 8 bt)] sz) := by
  refine Met.ofW (cc := cX6_finds) (maxL := 7) (ret := (some .int)) (by decide) rfl ?_
  intro p e s m args below meth c s₁ B hml hv
  obtain ⟨rfl, hsz, hG, hD0⟩ := hv
  have S : CallFix p m c cX6_finds 7 s ([.ref o] : List Value).toArray wU RX6 := ⟨B.exec, B.bytes, hml, findClass_of_methodNamed B.named, fun w h => atoms_spec (ws := wm_X6_finds) B.pre w (List.mem_cons_of_mem _ h)⟩
  have hr := B.returns
  have hlocks := B.notSynchronized
  subst hsz
  have hD := hD0.self (sz := s.heap.size)
  generalize hAe : va_A [(o, .inr (6, [.ref a1, .ref a2, .int (nI ed), .int (nI C), .int (nI V), .int (nI Ac), .ref a3, .ref a4, .ref a5, .ref a6])), (a1, zA cI 49 w), (a3, zA cI 4096 rt), (a4, zA cI 8 bt)] s.heap.size = A at hD ⊢
  have hV : zV D cI cR A [(o, .inr (6, [.ref a1, .ref a2, .int (nI ed), .int (nI C), .int (nI V), .int (nI Ac), .ref a3, .ref a4, .ref a5, .ref a6])), (a1, zA cI 49 w), (a3, zA cI 4096 rt), (a4, zA cI 8 bt)] s s.heap [] := ⟨hG, hD, va_S.rf, fun q h => by rw [← hAe]; exact Or.inr h⟩
  have hl := lv_entry ([.ref o]) (n := 7) (Nat.le_of_ble_eq_true rfl)
  rw [lg_entry_eq]
  generalize (lg_sl ([.ref o]) ++ List.replicate (7 - (lg_sl ([.ref o])).length) Slot.unset).toArray = ls at hl ⊢
  have hl : lv_has ls 7 [(0, .ref o)] := hl
  obtain ⟨⟨hn, hPf, hXY⟩, hLf, hinj⟩ := id hok
  obtain ⟨hC, hV9, hA9⟩ := id hset
  have hpw : 0 < 2 ^ n := Nat.pow_pos (by decide)
  have hp2 := (crd_full n hn).2
  refine zz_iconst (pc := 0) (v := nI 1) S dX6_finds_0 rfl ?_
  refine lv_aload_n (pc := 1) S.1 S.2.1 dX6_finds_1 rfl (lv_at hl 0 rfl) ?_
  refine zz_get (pc := 2) S hV.1 iX6 0 rfl rfl 0 (by decide) wd_67 rfl rfl dX6_finds_2 ?_
  refine zz_bipush (pc := 5) (v := nI 48) S dX6_finds_5 rfl ?_
  refine zz_iald (pc := 7) (k := 48) S hV.1 1 rfl (by omega) dX6_finds_7 ?_
  refine zz_cast (v := nI n) (congrArg nI hR.1) ?_
  refine zz_ishl (pc := 8) (v := nI (2 ^ n)) S dX6_finds_8 (n_shl1 (by omega)) ?_
  refine zz_iconst (pc := 9) (v := nI 1) S dX6_finds_9 rfl ?_
  refine zz_isub (pc := 10) (v := nI ((2 ^ n) - 1)) S dX6_finds_10 (n_sub (by omega)) ?_
  refine lv_istore_n (pc := 11) (lv' := [(1, .int (nI ((2 ^ n) - 1))), (0, .ref o)]) S.1 S.2.1 dX6_finds_11 rfl hl (by decide) rfl (fun ls hl => ?_)
  have L1 : ∀ (f : Nat) (T : Nat) (rt2 : Nat → Nat), (T < 2 ^ n) → (rsO P X Y C n rt2 T) → T < f → ∀ (H : Heap) (locs : List Loc), zV D cI cR A [(o, .inr (6, [.ref a1, .ref a2, .int (nI ed), .int (nI C), .int (nI V), .int (nI Ac), .ref a3, .ref a4, .ref a5, .ref a6])), (a1, zA cI 49 w), (a3, zA cI 4096 rt2), (a4, zA cI 8 bt)] s H locs → ∀ ls : Array Slot, lv_has ls 7 [(0, .ref o), (1, .int (nI T))] → W p l e (headSpec wm_X6_finds ({ frames := 3, cells := 0, slots := 0, locals := 72 } : Room)).room s m ([.ref o] : List Value).toArray below meth c H locs 0 0 (MQ below (zQi D cI cR A (fun r w0 => ∃ (rt5 : Nat → Nat) (bt5 : Nat → Nat), (w0 = [(o, .inr (6, [.ref a1, .ref a2, .int (nI ed), .int (nI C), .int (nI V), .int (nI Ac), .ref a3, .ref a4, .ref a5, .ref a6])), (a1, zA cI 49 w), (a3, zA cI 4096 rt5), (a4, zA cI 8 bt5)] ∧ r = nI (btot P X Y C n n)) ∧ (∀ j, j < n → bt5 j = bcd P X Y C n j))) ([.ref o] : List Value).toArray s 0 0 A) (F0 m 12 ls []) := by
    intro f
    induction f with
    | zero => intro T rt2 hT hr2 hf; exact absurd hf (Nat.not_lt_zero _)
    | succ f ih2 =>
      intro T rt2 hT hr2 hf H locs hV ls hl
      refine lv_iload_n (pc := 12) S.1 S.2.1 dX6_finds_12 rfl (lv_at hl 1 rfl) ?_
      refine zz_if_le (pc := 13) (tgt := 71) S dX6_finds_13 (by decide) (n_le0 (by omega)) (fun c13 => ?_) (fun c13 => ?_)
      · have hr0 : rsO P X Y C n rt2 0 := by rw [← show T = 0 by omega]; exact hr2
        refine lv_aload_n (pc := 71) S.1 S.2.1 dX6_finds_71 rfl (lv_at hl 0 rfl) ?_
        refine zz_iconst (pc := 72) (v := nI 0) S dX6_finds_72 rfl ?_
        refine zz_iconst (pc := 73) (v := zI (-1)) S dX6_finds_73 rfl ?_
        refine zz_callV (pc := 74) (As := [.int (nI 0), .int (zI (-1))]) (rest := []) S (c_X6_ahead l D cI cR o a1 a2 a3 a4 a5 a6 ed C V Ac w rt2 n P X Y L 0 (-1) hok hR hset (by omega) (by omega) (rsO_m hr0 (Nat.zero_le _))) (zuV wd_554 wd_551 wd_552 wd_553 wd_5) 2 rfl q_X6_ahead ⟨⟨rfl, rfl⟩, Nat.le_of_ble_eq_true rfl, Nat.le_of_ble_eq_true rfl⟩ hV.1 [0, 1, 2] rfl 0 rfl rfl rfl rfl rfl (Nat.le_of_ble_eq_true rfl) hl.1 ⟨Nat.zero_le _, Nat.zero_le _⟩ dX6_finds_74 ?_
        have g3 := vl_bd (P := P) (X := X) (Y := Y) (C := C) (n := n) (S := cpl n 0) (a := (-1)) hn hXY (by omega) (by have := cpl_le n 0; omega) (by omega)
        refine lv_istore_n (pc := 77) (lv' := [(1, .int (nI (vl P X Y C n (cpl n 0) (-1)))), (0, .ref o)]) S.1 S.2.1 dX6_finds_77 rfl hl (by decide) rfl (fun ls hl => ?_)
        refine zz_iconst (pc := 78) (v := nI 0) S dX6_finds_78 rfl ?_
        refine lv_istore_n (pc := 79) (lv' := [(2, .int (nI 0)), (1, .int (nI (vl P X Y C n (cpl n 0) (-1)))), (0, .ref o)]) S.1 S.2.1 dX6_finds_79 rfl hl (by decide) rfl (fun ls hl => ?_)
        refine zz_iconst (pc := 80) (v := zI (-1)) S dX6_finds_80 rfl ?_
        refine lv_istore_n (pc := 81) (lv' := [(3, .int (zI (-1))), (2, .int (nI 0)), (1, .int (nI (vl P X Y C n (cpl n 0) (-1)))), (0, .ref o)]) S.1 S.2.1 dX6_finds_81 rfl hl (by decide) rfl (fun ls hl => ?_)
        refine zz_iconst (pc := 82) (v := nI 0) S dX6_finds_82 rfl ?_
        refine lv_istore (pc := 83) (lv' := [(4, .int (nI 0)), (3, .int (zI (-1))), (2, .int (nI 0)), (1, .int (nI (vl P X Y C n (cpl n 0) (-1)))), (0, .ref o)]) S.1 S.2.1 dX6_finds_83 hl (by decide) rfl (fun ls hl => ?_)
        have L4 : ∀ (f : Nat) (k : Nat), (k ≤ n) → n - k < f → ∀ (H : Heap) (locs : List Loc), zV D cI cR A [(o, .inr (6, [.ref a1, .ref a2, .int (nI ed), .int (nI C), .int (nI V), .int (nI Ac), .ref a3, .ref a4, .ref a5, .ref a6])), (a1, zA cI 49 w), (a3, zA cI 4096 rt2), (a4, zA cI 8 (bcL P X Y C n bt k))] s H locs → ∀ ls : Array Slot, lv_has ls 7 [(0, .ref o), (1, .int (nI (vl P X Y C n (cpl n 0) (-1)))), (2, .int (nI (tsq P X Y C n k))), (3, .int (zI ((bsq P X Y C n k).2))), (4, .int (nI k))] → W p l e (headSpec wm_X6_finds ({ frames := 3, cells := 0, slots := 0, locals := 72 } : Room)).room s m ([.ref o] : List Value).toArray below meth c H locs 0 0 (MQ below (zQi D cI cR A (fun r w0 => ∃ (rt5 : Nat → Nat) (bt5 : Nat → Nat), (w0 = [(o, .inr (6, [.ref a1, .ref a2, .int (nI ed), .int (nI C), .int (nI V), .int (nI Ac), .ref a3, .ref a4, .ref a5, .ref a6])), (a1, zA cI 49 w), (a3, zA cI 4096 rt5), (a4, zA cI 8 bt5)] ∧ r = nI (btot P X Y C n n)) ∧ (∀ j, j < n → bt5 j = bcd P X Y C n j))) ([.ref o] : List Value).toArray s 0 0 A) (F0 m 85 ls []) := by
          intro f
          induction f with
          | zero => intro k hk hf; exact absurd hf (Nat.not_lt_zero _)
          | succ f ih5 =>
            intro k hk hf H locs hV ls hl
            have hq := bsq_ok P X Y C n hn k hk
            obtain ⟨h2, h3, h4, h5⟩ := hq
            have htl := tsq_lt P X Y C n k
            refine lv_iload (pc := 85) S.1 S.2.1 dX6_finds_85 (lv_at hl 4 rfl) ?_
            refine lv_aload_n (pc := 87) S.1 S.2.1 dX6_finds_87 rfl (lv_at hl 0 rfl) ?_
            refine zz_get (pc := 88) S hV.1 iX6 0 rfl rfl 0 (by decide) wd_67 rfl rfl dX6_finds_88 ?_
            refine zz_bipush (pc := 91) (v := nI 48) S dX6_finds_91 rfl ?_
            refine zz_iald (pc := 93) (k := 48) S hV.1 1 rfl (by omega) dX6_finds_93 ?_
            refine zz_cast (v := nI n) (congrArg nI hR.1) ?_
            refine zz_icmp_ge (pc := 94) (tgt := 185) S dX6_finds_94 (by decide) (n_le (by omega) (by omega)) (fun c94 => ?_) (fun c94 => ?_)
            · refine lv_iload_n (pc := 185) S.1 S.2.1 dX6_finds_185 rfl (lv_at hl 1 rfl) ?_
              refine zz_cast (v := nI (btot P X Y C n n)) (congrArg nI (vl_btot hn)) ?_
              have hV : zV D cI cR A [(o, .inr (6, [.ref a1, .ref a2, .int (nI ed), .int (nI C), .int (nI V), .int (nI Ac), .ref a3, .ref a4, .ref a5, .ref a6])), (a1, zA cI 49 w), (a3, zA cI 4096 rt2), (a4, zA cI 8 (bcL P X Y C n bt k))] s H locs := hV.arr 3 rfl (fun j hj => by rfl) rfl
              exact zz_iretM (pc := 186) S hr hlocks hV (⟨rt2, (bcL P X Y C n bt k), ⟨rfl, rfl⟩, (by intro j hj; exact if_pos (by omega))⟩) dX6_finds_186
            · refine lv_aload_n (pc := 97) S.1 S.2.1 dX6_finds_97 rfl (lv_at hl 0 rfl) ?_
              refine lv_iload_n (pc := 98) S.1 S.2.1 dX6_finds_98 rfl (lv_at hl 2 rfl) ?_
              refine lv_iload_n (pc := 99) S.1 S.2.1 dX6_finds_99 rfl (lv_at hl 3 rfl) ?_
              refine zz_callV (pc := 100) (As := [.int (nI (tsq P X Y C n k)), .int (zI ((bsq P X Y C n k).2))]) (rest := []) S (c_X6_ahead l D cI cR o a1 a2 a3 a4 a5 a6 ed C V Ac w rt2 n P X Y L (tsq P X Y C n k) ((bsq P X Y C n k).2) hok hR hset (by omega) (by omega) (rsO_m hr0 (Nat.zero_le _))) (zuV wd_554 wd_551 wd_552 wd_553 wd_5) 2 rfl q_X6_ahead ⟨⟨rfl, rfl⟩, Nat.le_of_ble_eq_true rfl, Nat.le_of_ble_eq_true rfl⟩ hV.1 [0, 1, 2] rfl 0 rfl rfl rfl rfl rfl (Nat.le_of_ble_eq_true rfl) hl.1 ⟨Nat.zero_le _, Nat.zero_le _⟩ dX6_finds_100 ?_
              have g6 := vl_bd (P := P) (X := X) (Y := Y) (C := C) (n := n) (S := cpl n (tsq P X Y C n k)) (a := ((bsq P X Y C n k).2)) hn hXY (by omega) (by have := cpl_le n (tsq P X Y C n k); omega) (by omega)
              refine zz_cast (v := nI (vl P X Y C n (bsq P X Y C n k).1 (bsq P X Y C n k).2)) (congrArg nI (by rw [tsq_c])) ?_
              refine lv_istore (pc := 103) (lv' := [(5, .int (nI (vl P X Y C n (bsq P X Y C n k).1 (bsq P X Y C n k).2))), (0, .ref o), (1, .int (nI (vl P X Y C n (cpl n 0) (-1)))), (2, .int (nI (tsq P X Y C n k))), (3, .int (zI ((bsq P X Y C n k).2))), (4, .int (nI k))]) S.1 S.2.1 dX6_finds_103 hl (by decide) rfl (fun ls hl => ?_)
              refine zz_iconst (pc := 105) (v := nI 0) S dX6_finds_105 rfl ?_
              refine lv_istore (pc := 106) (lv' := [(6, .int (nI 0)), (5, .int (nI (vl P X Y C n (bsq P X Y C n k).1 (bsq P X Y C n k).2))), (0, .ref o), (1, .int (nI (vl P X Y C n (cpl n 0) (-1)))), (2, .int (nI (tsq P X Y C n k))), (3, .int (zI ((bsq P X Y C n k).2))), (4, .int (nI k))]) S.1 S.2.1 dX6_finds_106 hl (by decide) rfl (fun ls hl => ?_)
              have L7 : ∀ (f : Nat) (i : Nat), (i ≤ bcd P X Y C n k) → 2 * n - i < f → ∀ (H : Heap) (locs : List Loc), zV D cI cR A [(o, .inr (6, [.ref a1, .ref a2, .int (nI ed), .int (nI C), .int (nI V), .int (nI Ac), .ref a3, .ref a4, .ref a5, .ref a6])), (a1, zA cI 49 w), (a3, zA cI 4096 rt2), (a4, zA cI 8 (bcL P X Y C n bt k))] s H locs → ∀ ls : Array Slot, lv_has ls 7 [(0, .ref o), (1, .int (nI (vl P X Y C n (cpl n 0) (-1)))), (2, .int (nI (tsq P X Y C n k))), (3, .int (zI ((bsq P X Y C n k).2))), (4, .int (nI k)), (5, .int (nI (vl P X Y C n (bsq P X Y C n k).1 (bsq P X Y C n k).2))), (6, .int (nI i))] → W p l e (headSpec wm_X6_finds ({ frames := 3, cells := 0, slots := 0, locals := 72 } : Room)).room s m ([.ref o] : List Value).toArray below meth c H locs 0 0 (MQ below (zQi D cI cR A (fun r w0 => ∃ (rt5 : Nat → Nat) (bt5 : Nat → Nat), (w0 = [(o, .inr (6, [.ref a1, .ref a2, .int (nI ed), .int (nI C), .int (nI V), .int (nI Ac), .ref a3, .ref a4, .ref a5, .ref a6])), (a1, zA cI 49 w), (a3, zA cI 4096 rt5), (a4, zA cI 8 bt5)] ∧ r = nI (btot P X Y C n n)) ∧ (∀ j, j < n → bt5 j = bcd P X Y C n j))) ([.ref o] : List Value).toArray s 0 0 A) (F0 m 108 ls []) := by
                intro f
                induction f with
                | zero => intro i hi hf; exact absurd hf (Nat.not_lt_zero _)
                | succ f ih8 =>
                  intro i hi hf H locs hV ls hl
                  have hz := bcd_z (P := P) (X := X) (Y := Y) (C := C) (n := n) (k := k) hn (by omega)
                  obtain ⟨z1, z2, z3⟩ := hz
                  have hvw := vl_bd (P := P) (X := X) (Y := Y) (C := C) (n := n) (S := (bsq P X Y C n k).1) (a := (bsq P X Y C n k).2) hn hXY (by omega) h2 h4
                  refine lv_iload_n (pc := 108) S.1 S.2.1 dX6_finds_108 rfl (lv_at hl 2 rfl) ?_
                  refine lv_iload (pc := 109) S.1 S.2.1 dX6_finds_109 (lv_at hl 6 rfl) ?_
                  refine zz_iconst (pc := 111) (v := nI 2) S dX6_finds_111 rfl ?_
                  refine zz_idiv (pc := 112) (v := nI (i / 2)) S dX6_finds_112 (by decide) (n_div (by omega) (by decide) (by decide)) ?_
                  refine zz_ishr (pc := 113) (v := nI ((tsq P X Y C n k) / 2 ^ (i / 2))) S dX6_finds_113 (n_shr (by omega) (by omega)) ?_
                  refine zz_iconst (pc := 114) (v := nI 1) S dX6_finds_114 rfl ?_
                  refine zz_iand (pc := 115) (v := nI (((tsq P X Y C n k) / 2 ^ (i / 2)) % 2)) S dX6_finds_115 (n_and1 _) ?_
                  refine zz_iconst (pc := 116) (v := nI 1) S dX6_finds_116 rfl ?_
                  refine zz_icmp_eq (pc := 117) (tgt := 152) S dX6_finds_117 (by decide) (n_eq (by omega) (by omega)) (fun c117 => ?_) (fun c117 => ?_)
                  · have hne := fnd_ne1 hn (show k < n by omega) c117
                    refine lv_iinc (pc := 152) (v := nI (i + 1)) (lv' := [(6, .int (nI (i + 1))), (0, .ref o), (1, .int (nI (vl P X Y C n (cpl n 0) (-1)))), (2, .int (nI (tsq P X Y C n k))), (3, .int (zI ((bsq P X Y C n k).2))), (4, .int (nI k)), (5, .int (nI (vl P X Y C n (bsq P X Y C n k).1 (bsq P X Y C n k).2)))]) S.1 S.2.1 dX6_finds_152 hl (k := 6) rfl (n_add _ _) (by decide) rfl (fun ls hl => ?_)
                    refine lv_goto (pc := 155) (tgt := 108) S.1 S.2.1 dX6_finds_155 (by decide) ?_
                    exact ih8 (i + 1) (by omega) (by omega) H locs hV ls (lv_sub hl [1, 2, 3, 4, 5, 6, 0] rfl)
                  · have hin := fnd_in (k := k) (i := i) hn (by omega) c117
                    have ho := cpl_or n (by omega) (tsq P X Y C n k) htl (i / 2) (by omega) c117
                    obtain ⟨ho1, ho2, ho3, ho4⟩ := ho
                    have hrk : rt2 (16 * (tsq P X Y C n k ||| 2 ^ (i / 2)) + i) = vl P X Y C n (clb (bsq P X Y C n k).1 (i / 2)) ((i : Nat) : Int) := by rw [← tsq_c P X Y C n k, ← ho1]; exact hr0 _ i ho2 (by omega) ho3 (by omega)
                    have hvb := vl_bd (P := P) (X := X) (Y := Y) (C := C) (n := n) (S := clb (bsq P X Y C n k).1 (i / 2)) (a := ((i : Nat) : Int)) hn hXY (by omega) (by have q9 := clb_le (bsq P X Y C n k).1 (i / 2); omega) (by omega)
                    refine lv_aload_n (pc := 120) S.1 S.2.1 dX6_finds_120 rfl (lv_at hl 0 rfl) ?_
                    refine lv_iload_n (pc := 121) S.1 S.2.1 dX6_finds_121 rfl (lv_at hl 3 rfl) ?_
                    refine lv_iload (pc := 122) S.1 S.2.1 dX6_finds_122 (lv_at hl 6 rfl) ?_
                    refine zz_callV (pc := 124) (As := [.int (zI ((bsq P X Y C n k).2)), .int (nI i)]) (rest := []) S (c_X6_step l D cI cR o a1 a2 a3 a4 a5 a6 ed C V Ac w n P X Y L ((bsq P X Y C n k).2) i hok.1 hR hset (by omega) (by omega)) (zuV wd_430 wd_427 wd_428 wd_429 wd_5) 2 rfl q_X6_step ⟨⟨rfl, rfl⟩, Nat.le_of_ble_eq_true rfl, Nat.le_of_ble_eq_true rfl⟩ hV.1 [0, 1] rfl 0 rfl rfl rfl rfl rfl (Nat.le_of_ble_eq_true rfl) hl.1 ⟨Nat.zero_le _, Nat.zero_le _⟩ dX6_finds_124 ?_
                    have g9 := stp_le (P := P) (X := X) (Y := Y) (C := C) (a := ((bsq P X Y C n k).2)) (b := i) (n := n) hXY (by omega) (by omega)
                    refine lv_aload_n (pc := 127) S.1 S.2.1 dX6_finds_127 rfl (lv_at hl 0 rfl) ?_
                    refine zz_get (pc := 128) S hV.1 iX6 0 rfl rfl 6 (by decide) wd_72 rfl rfl dX6_finds_128 ?_
                    refine zz_bipush (pc := 131) (v := nI 16) S dX6_finds_131 rfl ?_
                    refine lv_iload_n (pc := 133) S.1 S.2.1 dX6_finds_133 rfl (lv_at hl 2 rfl) ?_
                    refine zz_iconst (pc := 134) (v := nI 1) S dX6_finds_134 rfl ?_
                    refine lv_iload (pc := 135) S.1 S.2.1 dX6_finds_135 (lv_at hl 6 rfl) ?_
                    refine zz_iconst (pc := 137) (v := nI 2) S dX6_finds_137 rfl ?_
                    refine zz_idiv (pc := 138) (v := nI (i / 2)) S dX6_finds_138 (by decide) (n_div (by omega) (by decide) (by decide)) ?_
                    refine zz_ishl (pc := 139) (v := nI (2 ^ (i / 2))) S dX6_finds_139 (n_shl1 (by omega)) ?_
                    refine zz_ior (pc := 140) (v := nI ((tsq P X Y C n k) ||| (2 ^ (i / 2)))) S dX6_finds_140 (n_or _ _) ?_
                    refine zz_imul (pc := 141) (v := nI (16 * ((tsq P X Y C n k) ||| (2 ^ (i / 2))))) S dX6_finds_141 (n_mul _ _) ?_
                    refine lv_iload (pc := 142) S.1 S.2.1 dX6_finds_142 (lv_at hl 6 rfl) ?_
                    refine zz_iadd (pc := 144) (v := nI ((16 * ((tsq P X Y C n k) ||| (2 ^ (i / 2)))) + i)) S dX6_finds_144 (n_add _ _) ?_
                    refine zz_iald (pc := 145) (k := (16 * ((tsq P X Y C n k) ||| (2 ^ (i / 2)))) + i) S hV.1 2 rfl (by omega) dX6_finds_145 ?_
                    refine zz_cast (v := nI (vl P X Y C n (clb (bsq P X Y C n k).1 (i / 2)) ((i : Nat) : Int))) (congrArg nI hrk) ?_
                    refine zz_iadd (pc := 146) (v := nI (stp P X Y C ((bsq P X Y C n k).2) i + (vl P X Y C n (clb (bsq P X Y C n k).1 (i / 2)) ((i : Nat) : Int)))) S dX6_finds_146 (n_add _ _) ?_
                    refine lv_iload (pc := 147) S.1 S.2.1 dX6_finds_147 (lv_at hl 5 rfl) ?_
                    refine zz_icmp_eq (pc := 149) (tgt := 158) S dX6_finds_149 (by decide) (n_eq (by omega) (by omega)) (fun c149 => ?_) (fun c149 => ?_)
                    · have hi9 := fnd_eq hn (show k < n by omega) hi hin c149
                      refine lv_aload_n (pc := 158) S.1 S.2.1 dX6_finds_158 rfl (lv_at hl 0 rfl) ?_
                      refine zz_get (pc := 159) S hV.1 iX6 0 rfl rfl 7 (by decide) wd_73 rfl rfl dX6_finds_159 ?_
                      refine lv_iload (pc := 162) S.1 S.2.1 dX6_finds_162 (lv_at hl 4 rfl) ?_
                      refine lv_iload (pc := 164) S.1 S.2.1 dX6_finds_164 (lv_at hl 6 rfl) ?_
                      refine zz_cast (v := nI (bcd P X Y C n k)) (congrArg nI hi9) ?_
                      refine zz_iast (pc := 166) (k := k) (v := bcd P X Y C n k) S hV 3 rfl (by omega) (ws' := [(o, .inr (6, [.ref a1, .ref a2, .int (nI ed), .int (nI C), .int (nI V), .int (nI Ac), .ref a3, .ref a4, .ref a5, .ref a6])), (a1, zA cI 49 w), (a3, zA cI 4096 rt2), (a4, zA cI 8 (va_up (bcL P X Y C n bt k) k (bcd P X Y C n k)))]) rfl dX6_finds_166 (fun H locs hV => ?_)
                      refine lv_iload_n (pc := 167) S.1 S.2.1 dX6_finds_167 rfl (lv_at hl 2 rfl) ?_
                      refine zz_iconst (pc := 168) (v := nI 1) S dX6_finds_168 rfl ?_
                      refine lv_iload (pc := 169) S.1 S.2.1 dX6_finds_169 (lv_at hl 6 rfl) ?_
                      refine zz_cast (v := nI (bcd P X Y C n k)) (congrArg nI hi9) ?_
                      refine zz_iconst (pc := 171) (v := nI 2) S dX6_finds_171 rfl ?_
                      refine zz_idiv (pc := 172) (v := nI ((bcd P X Y C n k) / 2)) S dX6_finds_172 (by decide) (n_div (by omega) (by decide) (by decide)) ?_
                      refine zz_ishl (pc := 173) (v := nI (2 ^ ((bcd P X Y C n k) / 2))) S dX6_finds_173 (n_shl1 (by omega)) ?_
                      refine zz_ior (pc := 174) (v := nI ((tsq P X Y C n k) ||| (2 ^ ((bcd P X Y C n k) / 2)))) S dX6_finds_174 (n_or _ _) ?_
                      refine zz_cast (v := nI (tsq P X Y C n (k + 1))) (congrArg nI (tsq_s hn (by omega))) ?_
                      refine lv_istore_n (pc := 175) (lv' := [(2, .int (nI (tsq P X Y C n (k + 1)))), (0, .ref o), (1, .int (nI (vl P X Y C n (cpl n 0) (-1)))), (3, .int (zI ((bsq P X Y C n k).2))), (4, .int (nI k)), (5, .int (nI (vl P X Y C n (bsq P X Y C n k).1 (bsq P X Y C n k).2))), (6, .int (nI i))]) S.1 S.2.1 dX6_finds_175 rfl hl (by decide) rfl (fun ls hl => ?_)
                      refine lv_iload (pc := 176) S.1 S.2.1 dX6_finds_176 (lv_at hl 6 rfl) ?_
                      refine zz_cast (v := zI ((bsq P X Y C n (k + 1)).2)) ((congrArg nI hi9).trans ((zI_nI _).symm.trans (congrArg zI z1.symm))) ?_
                      refine lv_istore_n (pc := 178) (lv' := [(3, .int (zI ((bsq P X Y C n (k + 1)).2))), (2, .int (nI (tsq P X Y C n (k + 1)))), (0, .ref o), (1, .int (nI (vl P X Y C n (cpl n 0) (-1)))), (4, .int (nI k)), (5, .int (nI (vl P X Y C n (bsq P X Y C n k).1 (bsq P X Y C n k).2))), (6, .int (nI i))]) S.1 S.2.1 dX6_finds_178 rfl hl (by decide) rfl (fun ls hl => ?_)
                      refine lv_iinc (pc := 179) (v := nI (k + 1)) (lv' := [(4, .int (nI (k + 1))), (3, .int (zI ((bsq P X Y C n (k + 1)).2))), (2, .int (nI (tsq P X Y C n (k + 1)))), (0, .ref o), (1, .int (nI (vl P X Y C n (cpl n 0) (-1)))), (5, .int (nI (vl P X Y C n (bsq P X Y C n k).1 (bsq P X Y C n k).2))), (6, .int (nI i))]) S.1 S.2.1 dX6_finds_179 hl (k := 4) rfl (n_add _ _) (by decide) rfl (fun ls hl => ?_)
                      refine lv_goto (pc := 182) (tgt := 85) S.1 S.2.1 dX6_finds_182 (by decide) ?_
                      have hV : zV D cI cR A [(o, .inr (6, [.ref a1, .ref a2, .int (nI ed), .int (nI C), .int (nI V), .int (nI Ac), .ref a3, .ref a4, .ref a5, .ref a6])), (a1, zA cI 49 w), (a3, zA cI 4096 rt2), (a4, zA cI 8 (bcL P X Y C n bt (k + 1)))] s H locs := hV.arr 3 rfl (fun j hj => by exact bcL_s P X Y C n bt k j) rfl
                      exact ih5 (k + 1) (by omega) (by omega) H locs hV ls (lv_sub hl [3, 4, 2, 1, 0] rfl)
                    · have hne := fnd_ne2 hn (show k < n by omega) c149
                      refine lv_iinc (pc := 152) (v := nI (i + 1)) (lv' := [(6, .int (nI (i + 1))), (0, .ref o), (1, .int (nI (vl P X Y C n (cpl n 0) (-1)))), (2, .int (nI (tsq P X Y C n k))), (3, .int (zI ((bsq P X Y C n k).2))), (4, .int (nI k)), (5, .int (nI (vl P X Y C n (bsq P X Y C n k).1 (bsq P X Y C n k).2)))]) S.1 S.2.1 dX6_finds_152 hl (k := 6) rfl (n_add _ _) (by decide) rfl (fun ls hl => ?_)
                      refine lv_goto (pc := 155) (tgt := 108) S.1 S.2.1 dX6_finds_155 (by decide) ?_
                      exact ih8 (i + 1) (by omega) (by omega) H locs hV ls (lv_sub hl [1, 2, 3, 4, 5, 6, 0] rfl)
              exact L7 (2 * n - 0 + 1) 0 (by omega) (Nat.lt_succ_self _) H locs hV ls (lv_sub hl [2, 3, 4, 5, 6, 1, 0] rfl)
        have hV : zV D cI cR A [(o, .inr (6, [.ref a1, .ref a2, .int (nI ed), .int (nI C), .int (nI V), .int (nI Ac), .ref a3, .ref a4, .ref a5, .ref a6])), (a1, zA cI 49 w), (a3, zA cI 4096 rt2), (a4, zA cI 8 (bcL P X Y C n bt 0))] s H locs := hV.arr 3 rfl (fun j hj => by rfl) rfl
        exact L4 (n - 0 + 1) 0 (by omega) (Nat.lt_succ_self _) H locs hV ls (by rw [tsq_0]; exact lv_sub hl [4, 3, 2, 1, 0] rfl)
      · refine zz_iconst (pc := 16) (v := nI 0) S dX6_finds_16 rfl ?_
        refine lv_istore_n (pc := 17) (lv' := [(2, .int (nI 0)), (0, .ref o), (1, .int (nI T))]) S.1 S.2.1 dX6_finds_17 rfl hl (by decide) rfl (fun ls hl => ?_)
        have L10 : ∀ (f : Nat) (k : Nat) (rt3 : Nat → Nat), (k ≤ 2 * n) → (rsP P X Y C n rt3 T k) → 2 * n - k < f → ∀ (H : Heap) (locs : List Loc), zV D cI cR A [(o, .inr (6, [.ref a1, .ref a2, .int (nI ed), .int (nI C), .int (nI V), .int (nI Ac), .ref a3, .ref a4, .ref a5, .ref a6])), (a1, zA cI 49 w), (a3, zA cI 4096 rt3), (a4, zA cI 8 bt)] s H locs → ∀ ls : Array Slot, lv_has ls 7 [(0, .ref o), (1, .int (nI T)), (2, .int (nI k))] → W p l e (headSpec wm_X6_finds ({ frames := 3, cells := 0, slots := 0, locals := 72 } : Room)).room s m ([.ref o] : List Value).toArray below meth c H locs 0 0 (MQ below (zQi D cI cR A (fun r w0 => ∃ (rt5 : Nat → Nat) (bt5 : Nat → Nat), (w0 = [(o, .inr (6, [.ref a1, .ref a2, .int (nI ed), .int (nI C), .int (nI V), .int (nI Ac), .ref a3, .ref a4, .ref a5, .ref a6])), (a1, zA cI 49 w), (a3, zA cI 4096 rt5), (a4, zA cI 8 bt5)] ∧ r = nI (btot P X Y C n n)) ∧ (∀ j, j < n → bt5 j = bcd P X Y C n j))) ([.ref o] : List Value).toArray s 0 0 A) (F0 m 18 ls []) := by
          intro f
          induction f with
          | zero => intro k rt3 hk hr3 hf; exact absurd hf (Nat.not_lt_zero _)
          | succ f ih11 =>
            intro k rt3 hk hr3 hf H locs hV ls hl
            refine lv_iload_n (pc := 18) S.1 S.2.1 dX6_finds_18 rfl (lv_at hl 2 rfl) ?_
            refine zz_iconst (pc := 19) (v := nI 2) S dX6_finds_19 rfl ?_
            refine lv_aload_n (pc := 20) S.1 S.2.1 dX6_finds_20 rfl (lv_at hl 0 rfl) ?_
            refine zz_get (pc := 21) S hV.1 iX6 0 rfl rfl 0 (by decide) wd_67 rfl rfl dX6_finds_21 ?_
            refine zz_bipush (pc := 24) (v := nI 48) S dX6_finds_24 rfl ?_
            refine zz_iald (pc := 26) (k := 48) S hV.1 1 rfl (by omega) dX6_finds_26 ?_
            refine zz_cast (v := nI n) (congrArg nI hR.1) ?_
            refine zz_imul (pc := 27) (v := nI (2 * n)) S dX6_finds_27 (n_mul _ _) ?_
            refine zz_icmp_ge (pc := 28) (tgt := 65) S dX6_finds_28 (by decide) (n_le (by omega) (by omega)) (fun c28 => ?_) (fun c28 => ?_)
            · refine lv_iinc (pc := 65) (v := nI (T - 1)) (lv' := [(1, .int (nI (T - 1))), (0, .ref o), (2, .int (nI k))]) S.1 S.2.1 dX6_finds_65 hl (k := 1) rfl (n_dec (by omega)) (by decide) rfl (fun ls hl => ?_)
              refine lv_goto (pc := 68) (tgt := 12) S.1 S.2.1 dX6_finds_68 (by decide) ?_
              exact ih2 (T - 1) rt3 (by omega) (by exact rsP_n hr3 (by omega)) (by omega) H locs hV ls (lv_sub hl [1, 0] rfl)
            · refine lv_iload_n (pc := 31) S.1 S.2.1 dX6_finds_31 rfl (lv_at hl 1 rfl) ?_
              refine lv_iload_n (pc := 32) S.1 S.2.1 dX6_finds_32 rfl (lv_at hl 2 rfl) ?_
              refine zz_iconst (pc := 33) (v := nI 2) S dX6_finds_33 rfl ?_
              refine zz_idiv (pc := 34) (v := nI (k / 2)) S dX6_finds_34 (by decide) (n_div (by omega) (by decide) (by decide)) ?_
              refine zz_ishr (pc := 35) (v := nI (T / 2 ^ (k / 2))) S dX6_finds_35 (n_shr (by omega) (by omega)) ?_
              refine zz_iconst (pc := 36) (v := nI 1) S dX6_finds_36 rfl ?_
              refine zz_iand (pc := 37) (v := nI ((T / 2 ^ (k / 2)) % 2)) S dX6_finds_37 (n_and1 _) ?_
              refine zz_iconst (pc := 38) (v := nI 1) S dX6_finds_38 rfl ?_
              refine zz_icmp_ne (pc := 39) (tgt := 59) S dX6_finds_39 (by decide) (n_eq (by omega) (by omega)) (fun c39 => ?_) (fun c39 => ?_)
              · refine lv_iinc (pc := 59) (v := nI (k + 1)) (lv' := [(2, .int (nI (k + 1))), (0, .ref o), (1, .int (nI T))]) S.1 S.2.1 dX6_finds_59 hl (k := 2) rfl (n_add _ _) (by decide) rfl (fun ls hl => ?_)
                refine lv_goto (pc := 62) (tgt := 18) S.1 S.2.1 dX6_finds_62 (by decide) ?_
                exact ih11 (k + 1) rt3 (by omega) (by exact rsP_k hr3 c39) (by omega) H locs hV ls (lv_sub hl [1, 2, 0] rfl)
              · refine lv_aload_n (pc := 42) S.1 S.2.1 dX6_finds_42 rfl (lv_at hl 0 rfl) ?_
                refine zz_get (pc := 43) S hV.1 iX6 0 rfl rfl 6 (by decide) wd_72 rfl rfl dX6_finds_43 ?_
                refine zz_bipush (pc := 46) (v := nI 16) S dX6_finds_46 rfl ?_
                refine lv_iload_n (pc := 48) S.1 S.2.1 dX6_finds_48 rfl (lv_at hl 1 rfl) ?_
                refine zz_imul (pc := 49) (v := nI (16 * T)) S dX6_finds_49 (n_mul _ _) ?_
                refine lv_iload_n (pc := 50) S.1 S.2.1 dX6_finds_50 rfl (lv_at hl 2 rfl) ?_
                refine zz_iadd (pc := 51) (v := nI (16 * T + k)) S dX6_finds_51 (n_add _ _) ?_
                refine lv_aload_n (pc := 52) S.1 S.2.1 dX6_finds_52 rfl (lv_at hl 0 rfl) ?_
                refine lv_iload_n (pc := 53) S.1 S.2.1 dX6_finds_53 rfl (lv_at hl 1 rfl) ?_
                refine lv_iload_n (pc := 54) S.1 S.2.1 dX6_finds_54 rfl (lv_at hl 2 rfl) ?_
                refine zz_callV (pc := 55) (As := [.int (nI T), .int (zI ((k : Nat) : Int))]) (rest := [.int (nI (16 * T + k)), .ref a3]) S (c_X6_ahead l D cI cR o a1 a2 a3 a4 a5 a6 ed C V Ac w rt3 n P X Y L T ((k : Nat) : Int) hok hR hset (by omega) (by omega) (rsP_o hr3)) (zuV wd_554 wd_551 wd_552 wd_553 wd_5) 2 rfl q_X6_ahead ⟨⟨rfl, rfl⟩, Nat.le_of_ble_eq_true rfl, Nat.le_of_ble_eq_true rfl⟩ hV.1 [0, 1, 2] rfl 0 rfl rfl rfl rfl rfl (Nat.le_of_ble_eq_true rfl) hl.1 ⟨Nat.zero_le _, Nat.zero_le _⟩ dX6_finds_55 ?_
                have g12 := vl_bd (P := P) (X := X) (Y := Y) (C := C) (n := n) (S := cpl n T) (a := ((k : Nat) : Int)) hn hXY (by omega) (by have := cpl_le n T; omega) (by omega)
                refine zz_iast (pc := 58) (k := 16 * T + k) (v := vl P X Y C n (cpl n T) ((k : Nat) : Int)) S hV 2 rfl (by omega) (ws' := [(o, .inr (6, [.ref a1, .ref a2, .int (nI ed), .int (nI C), .int (nI V), .int (nI Ac), .ref a3, .ref a4, .ref a5, .ref a6])), (a1, zA cI 49 w), (a3, zA cI 4096 (va_up rt3 (16 * T + k) (vl P X Y C n (cpl n T) ((k : Nat) : Int)))), (a4, zA cI 8 bt)]) rfl dX6_finds_58 (fun H locs hV => ?_)
                refine lv_iinc (pc := 59) (v := nI (k + 1)) (lv' := [(2, .int (nI (k + 1))), (0, .ref o), (1, .int (nI T))]) S.1 S.2.1 dX6_finds_59 hl (k := 2) rfl (n_add _ _) (by decide) rfl (fun ls hl => ?_)
                refine lv_goto (pc := 62) (tgt := 18) S.1 S.2.1 dX6_finds_62 (by decide) ?_
                have hV : zV D cI cR A [(o, .inr (6, [.ref a1, .ref a2, .int (nI ed), .int (nI C), .int (nI V), .int (nI Ac), .ref a3, .ref a4, .ref a5, .ref a6])), (a1, zA cI 49 w), (a3, zA cI 4096 (va_up rt3 (16 * T + k) (vl P X Y C n (cpl n T) ((k : Nat) : Int)))), (a4, zA cI 8 bt)] s H locs := hV.arr 2 rfl (fun j hj => by rfl) rfl
                exact ih11 (k + 1) (va_up rt3 (16 * T + k) (vl P X Y C n (cpl n T) ((k : Nat) : Int))) (by omega) (by exact rsP_s hn (by omega) hr3 rfl) (by omega) H locs hV ls (lv_sub hl [1, 2, 0] rfl)
        exact L10 (2 * n - 0 + 1) 0 rt2 (by omega) (by exact rsP_0 hr2) (Nat.lt_succ_self _) H locs hV ls (lv_sub hl [1, 2, 0] rfl)
  exact L1 ((2 ^ n - 1) + 1) (2 ^ n - 1) rt (by omega) (by exact rsO_f P X Y C n rt) (Nat.lt_succ_self _) s.heap [] hV ls (lv_sub hl [1, 0] rfl)
