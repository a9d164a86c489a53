abbrev wm_X6_adoptNearest : List Cond := .code yX6_adoptNearest cX6_adoptNearest 8 (some .int) :: wU
theorem q_X6_adoptNearest : yX6_adoptNearest.cls = RX6 ∧ yX6_adoptNearest.cls ≠ "java/lang/invoke/MethodHandle" ∧ yX6_adoptNearest.cls ≠ "java/lang/invoke/VarHandle" ∧ (parseMethodDescriptor yX6_adoptNearest.desc).map (fun d => d.parameters.length) = some 0 := by decide +kernel
set_option maxHeartbeats 4000000 in
set_option maxRecDepth 100000 in
theorem c_X6_adoptNearest (l : Launch) (D : va_G) (cI cR : ClassId) (o a1 a2 a3 a4 a5 a6 ed C V Ac : Nat) (w : Nat → Nat) (hs : Nat → Nat) (n : Nat) (P X Y L : Nat → Nat) (sz : Nat) (hok : zOk n P X Y L) (hR : zRl w n P X Y L) (hset : zSt C V Ac) (hed : ed ≤ 4) : Met l yX6_adoptNearest wm_X6_adoptNearest ({ frames := 2, cells := 0, slots := 0, locals := 47 } : Room) (va_Pc [.ref o] (zX D cI cR [(o, .inr (6, [.ref a1, .ref a2, .int (nI ed), .int (nI C), .int (nI V), .int (nI Ac), .ref a3, .ref a4, .ref a5, .ref a6])), (a1, zA cI 49 w), (a2, zA cI 196 hs)] sz)) (zQi D cI cR (va_A [(o, .inr (6, [.ref a1, .ref a2, .int (nI ed), .int (nI C), .int (nI V), .int (nI Ac), .ref a3, .ref a4, .ref a5, .ref a6])), (a1, zA cI 49 w), (a2, zA cI 196 hs)] sz) (fun r w0 => (w0 = [(o, .inr (6, [.ref a1, .ref a2, .int (nI (min (ed + 1) 4)), .int (nI C), .int (nI V), .int (nI Ac), .ref a3, .ref a4, .ref a5, .ref a6])), (a1, zA cI 49 (plw w (fun j => (nst P X Y C n (j + 1)).2.toNat) n)), (a2, zA cI 196 (hst hs w ed))] ∧ r = nI (ntot P X Y C n n)))) 0 0 (va_A [(o, .inr (6, [.ref a1, .ref a2, .int (nI ed), .int (nI C), .int (nI V), .int (nI Ac), .ref a3, .ref a4, .ref a5, .ref a6])), (a1, zA cI 49 w), (a2, zA cI 196 hs)] sz) := by
  refine Met.ofW (cc := cX6_adoptNearest) (maxL := 8) (ret := (some .int)) (by decide) rfl ?_
  intro p e s m args below meth c s₁ B hml hv
  obtain ⟨rfl, hsz, hG, hD0⟩ := hv
  have S : CallFix p m c cX6_adoptNearest 8 s ([.ref o] : List Value).toArray wU RX6 := ⟨B.exec, B.bytes, hml, findClass_of_methodNamed B.named, fun w h => atoms_spec (ws := wm_X6_adoptNearest) B.pre w (List.mem_cons_of_mem _ h)⟩
  have hr := B.returns
  have hlocks := B.notSynchronized
  subst hsz
  have hD := hD0.self (sz := s.heap.size)
  generalize hAe : va_A [(o, .inr (6, [.ref a1, .ref a2, .int (nI ed), .int (nI C), .int (nI V), .int (nI Ac), .ref a3, .ref a4, .ref a5, .ref a6])), (a1, zA cI 49 w), (a2, zA cI 196 hs)] s.heap.size = A at hD ⊢
  have hV : zV D cI cR A [(o, .inr (6, [.ref a1, .ref a2, .int (nI ed), .int (nI C), .int (nI V), .int (nI Ac), .ref a3, .ref a4, .ref a5, .ref a6])), (a1, zA cI 49 w), (a2, zA cI 196 hs)] s s.heap [] := ⟨hG, hD, va_S.rf, fun q h => by rw [← hAe]; exact Or.inr h⟩
  have hl := lv_entry ([.ref o]) (n := 8) (Nat.le_of_ble_eq_true rfl)
  rw [lg_entry_eq]
  generalize (lg_sl ([.ref o]) ++ List.replicate (8 - (lg_sl ([.ref o])).length) Slot.unset).toArray = ls at hl ⊢
  have hl : lv_has ls 8 [(0, .ref o)] := hl
  obtain ⟨⟨hn, hPf, hXY⟩, hLf, hinj⟩ := id hok
  obtain ⟨hC, hV9, hA9⟩ := id hset
  refine lv_aload_n (pc := 0) S.1 S.2.1 dX6_adoptNearest_0 rfl (lv_at hl 0 rfl) ?_
  refine zz_callMv (pc := 1) (As := []) (rest := []) (wr := []) S hV (c_X6_edit l D cI cR o a1 a2 a3 a4 a5 a6 ed C V Ac w hs n P X Y L s.heap.size hok.1 hR hset (by omega)) (zuV wd_139 wd_136 wd_137 wd_138 wd_5) 0 rfl q_X6_edit ⟨⟨rfl, rfl⟩, Nat.le_of_ble_eq_true rfl, Nat.le_of_ble_eq_true rfl⟩ [0, 1, 2] [] rfl rfl (by decide) (by decide) (by decide) 0 rfl rfl rfl rfl rfl (Nat.le_of_ble_eq_true rfl) hl.1 ⟨Nat.zero_le _, Nat.zero_le _⟩ dX6_adoptNearest_1 (fun w1 H locs hp hV => ?_)
  obtain rfl := hp
  have hV : zV D cI cR A [(o, .inr (6, [.ref a1, .ref a2, .int (nI (min (ed + 1) 4)), .int (nI C), .int (nI V), .int (nI Ac), .ref a3, .ref a4, .ref a5, .ref a6])), (a1, zA cI 49 w), (a2, zA cI 196 (hst hs w ed))] s H locs := hV.perm [0, 1, 2] (by decide) rfl
  refine zz_iconst (pc := 4) (v := nI 0) S dX6_adoptNearest_4 rfl ?_
  refine lv_istore_n (pc := 5) (lv' := [(1, .int (nI 0)), (0, .ref o)]) S.1 S.2.1 dX6_adoptNearest_5 rfl hl (by decide) rfl (fun ls hl => ?_)
  refine zz_iconst (pc := 6) (v := zI (-1)) S dX6_adoptNearest_6 rfl ?_
  refine lv_istore_n (pc := 7) (lv' := [(2, .int (zI (-1))), (1, .int (nI 0)), (0, .ref o)]) S.1 S.2.1 dX6_adoptNearest_7 rfl hl (by decide) rfl (fun ls hl => ?_)
  refine zz_iconst (pc := 8) (v := nI 0) S dX6_adoptNearest_8 rfl ?_
  refine lv_istore_n (pc := 9) (lv' := [(3, .int (nI 0)), (2, .int (zI (-1))), (1, .int (nI 0)), (0, .ref o)]) S.1 S.2.1 dX6_adoptNearest_9 rfl hl (by decide) rfl (fun ls hl => ?_)
  refine zz_iconst (pc := 10) (v := nI 0) S dX6_adoptNearest_10 rfl ?_
  refine lv_istore (pc := 11) (lv' := [(4, .int (nI 0)), (3, .int (nI 0)), (2, .int (zI (-1))), (1, .int (nI 0)), (0, .ref o)]) S.1 S.2.1 dX6_adoptNearest_11 hl (by decide) rfl (fun ls hl => ?_)
  have L2 : ∀ (f : Nat) (k : Nat), (k ≤ n) → n - k < f → ∀ (H : Heap) (locs : List Loc), zV D cI cR A [(o, .inr (6, [.ref a1, .ref a2, .int (nI (min (ed + 1) 4)), .int (nI C), .int (nI V), .int (nI Ac), .ref a3, .ref a4, .ref a5, .ref a6])), (a1, zA cI 49 (plw w (fun j => (nst P X Y C n (j + 1)).2.toNat) k)), (a2, zA cI 196 (hst hs w ed))] s H locs → ∀ ls : Array Slot, lv_has ls 8 [(0, .ref o), (1, .int (nI (tnq P X Y C n k))), (2, .int (zI ((nst P X Y C n k).2))), (3, .int (nI (ntot P X Y C n k))), (4, .int (nI k))] → W p l e (headSpec wm_X6_adoptNearest ({ frames := 2, cells := 0, slots := 0, locals := 47 } : Room)).room s m ([.ref o] : List Value).toArray below meth c H locs 0 0 (MQ below (zQi D cI cR A (fun r w0 => (w0 = [(o, .inr (6, [.ref a1, .ref a2, .int (nI (min (ed + 1) 4)), .int (nI C), .int (nI V), .int (nI Ac), .ref a3, .ref a4, .ref a5, .ref a6])), (a1, zA cI 49 (plw w (fun j => (nst P X Y C n (j + 1)).2.toNat) n)), (a2, zA cI 196 (hst hs w ed))] ∧ r = nI (ntot P X Y C n n)))) ([.ref o] : List Value).toArray s 0 0 A) (F0 m 13 ls []) := by
    intro f
    induction f with
    | zero => intro k hk hf; exact absurd hf (Nat.not_lt_zero _)
    | succ f ih3 =>
      intro k hk hf H locs hV ls hl
      have hq := nst_ok P X Y C n hn k hk
      obtain ⟨h1, h2, h3, h4⟩ := hq
      have htl := tnq_lt P X Y C n k
      have htn := ntot_le (P := P) (X := X) (Y := Y) (C := C) (n := n) (k := k) hn hC hXY hk
      have hpw : 2 ^ n ≤ 256 := Nat.pow_le_pow_right (by decide) hn
      refine lv_iload (pc := 13) S.1 S.2.1 dX6_adoptNearest_13 (lv_at hl 4 rfl) ?_
      refine lv_aload_n (pc := 15) S.1 S.2.1 dX6_adoptNearest_15 rfl (lv_at hl 0 rfl) ?_
      refine zz_get (pc := 16) S hV.1 iX6 0 rfl rfl 0 (by decide) wd_67 rfl rfl dX6_adoptNearest_16 ?_
      refine zz_bipush (pc := 19) (v := nI 48) S dX6_adoptNearest_19 rfl ?_
      refine zz_iald (pc := 21) (k := 48) S hV.1 1 rfl (by omega) dX6_adoptNearest_21 ?_
      refine zz_cast (v := nI n) (congrArg nI (plw_48 w _ (by omega) hR.1)) ?_
      refine zz_icmp_ge (pc := 22) (tgt := 126) S dX6_adoptNearest_22 (by decide) (n_le (by omega) (by omega)) (fun c22 => ?_) (fun c22 => ?_)
      · refine lv_iload_n (pc := 126) S.1 S.2.1 dX6_adoptNearest_126 rfl (lv_at hl 3 rfl) ?_
        have hV : zV D cI cR A [(o, .inr (6, [.ref a1, .ref a2, .int (nI (min (ed + 1) 4)), .int (nI C), .int (nI V), .int (nI Ac), .ref a3, .ref a4, .ref a5, .ref a6])), (a1, zA cI 49 (plw w (fun j => (nst P X Y C n (j + 1)).2.toNat) n)), (a2, zA cI 196 (hst hs w ed))] s H locs := hV.arr 1 rfl (fun j hj => by rw [show k = n by omega]) rfl
        exact zz_iretM (pc := 127) S hr hlocks hV (⟨rfl, congrArg nI (by rw [show k = n by omega])⟩) dX6_adoptNearest_127
      · refine zz_iconst (pc := 25) (v := zI (-1)) S dX6_adoptNearest_25 rfl ?_
        refine lv_istore (pc := 26) (lv' := [(5, .int (zI (-1))), (0, .ref o), (1, .int (nI (tnq P X Y C n k))), (2, .int (zI ((nst P X Y C n k).2))), (3, .int (nI (ntot P X Y C n k))), (4, .int (nI k))]) S.1 S.2.1 dX6_adoptNearest_26 hl (by decide) rfl (fun ls hl => ?_)
        refine lv_ldc (pc := 28) S.1 S.2.1 S.2.2.2.1 (S.2.2.2.2 _ wd_555) dX6_adoptNearest_28 ?_
        refine zz_cast (v := nI 1000000) rfl ?_
        refine lv_istore (pc := 30) (lv' := [(6, .int (nI 1000000)), (5, .int (zI (-1))), (0, .ref o), (1, .int (nI (tnq P X Y C n k))), (2, .int (zI ((nst P X Y C n k).2))), (3, .int (nI (ntot P X Y C n k))), (4, .int (nI k))]) S.1 S.2.1 dX6_adoptNearest_30 hl (by decide) rfl (fun ls hl => ?_)
        refine zz_iconst (pc := 32) (v := nI 0) S dX6_adoptNearest_32 rfl ?_
        refine lv_istore (pc := 33) (lv' := [(7, .int (nI 0)), (6, .int (nI 1000000)), (5, .int (zI (-1))), (0, .ref o), (1, .int (nI (tnq P X Y C n k))), (2, .int (zI ((nst P X Y C n k).2))), (3, .int (nI (ntot P X Y C n k))), (4, .int (nI k))]) S.1 S.2.1 dX6_adoptNearest_33 hl (by decide) rfl (fun ls hl => ?_)
        have L4 : ∀ (f : Nat) (i : Nat), (i ≤ 2 * n) → 2 * n - i < f → ∀ (H : Heap) (locs : List Loc), zV D cI cR A [(o, .inr (6, [.ref a1, .ref a2, .int (nI (min (ed + 1) 4)), .int (nI C), .int (nI V), .int (nI Ac), .ref a3, .ref a4, .ref a5, .ref a6])), (a1, zA cI 49 (plw w (fun j => (nst P X Y C n (j + 1)).2.toNat) k)), (a2, zA cI 196 (hst hs w ed))] s H locs → ∀ ls : Array Slot, lv_has ls 8 [(0, .ref o), (1, .int (nI (tnq P X Y C n k))), (2, .int (zI ((nst P X Y C n k).2))), (3, .int (nI (ntot P X Y C n k))), (4, .int (nI k)), (5, .int (zI (amf (fun j => inS (nst P X Y C n k).1 j) (fun j => stp P X Y C (nst P X Y C n k).2 j) i))), (6, .int (nI (led (fun j => inS (nst P X Y C n k).1 j) (fun j => stp P X Y C (nst P X Y C n k).2 j) 1000000 i))), (7, .int (nI i))] → W p l e (headSpec wm_X6_adoptNearest ({ frames := 2, cells := 0, slots := 0, locals := 47 } : Room)).room s m ([.ref o] : List Value).toArray below meth c H locs 0 0 (MQ below (zQi D cI cR A (fun r w0 => (w0 = [(o, .inr (6, [.ref a1, .ref a2, .int (nI (min (ed + 1) 4)), .int (nI C), .int (nI V), .int (nI Ac), .ref a3, .ref a4, .ref a5, .ref a6])), (a1, zA cI 49 (plw w (fun j => (nst P X Y C n (j + 1)).2.toNat) n)), (a2, zA cI 196 (hst hs w ed))] ∧ r = nI (ntot P X Y C n n)))) ([.ref o] : List Value).toArray s 0 0 A) (F0 m 35 ls []) := by
          intro f
          induction f with
          | zero => intro i hi hf; exact absurd hf (Nat.not_lt_zero _)
          | succ f ih5 =>
            intro i hi hf H locs hV ls hl
            have hle : led (fun j => inS (nst P X Y C n k).1 j) (fun j => stp P X Y C (nst P X Y C n k).2 j) 1000000 i ≤ 1000000 := led_le (fun j hj => by have q1 := stp_le (P := P) (X := X) (Y := Y) (C := C) (a := (nst P X Y C n k).2) (b := j) hXY (by omega) (by omega); show stp P X Y C (nst P X Y C n k).2 j ≤ _; omega) (Nat.le_refl _)
            have har := amf_rng (fun j => inS (nst P X Y C n k).1 j) (fun j => stp P X Y C (nst P X Y C n k).2 j) i
            refine lv_iload (pc := 35) S.1 S.2.1 dX6_adoptNearest_35 (lv_at hl 7 rfl) ?_
            refine zz_iconst (pc := 37) (v := nI 2) S dX6_adoptNearest_37 rfl ?_
            refine lv_aload_n (pc := 38) S.1 S.2.1 dX6_adoptNearest_38 rfl (lv_at hl 0 rfl) ?_
            refine zz_get (pc := 39) S hV.1 iX6 0 rfl rfl 0 (by decide) wd_67 rfl rfl dX6_adoptNearest_39 ?_
            refine zz_bipush (pc := 42) (v := nI 48) S dX6_adoptNearest_42 rfl ?_
            refine zz_iald (pc := 44) (k := 48) S hV.1 1 rfl (by omega) dX6_adoptNearest_44 ?_
            refine zz_cast (v := nI n) (congrArg nI (plw_48 w _ (by omega) hR.1)) ?_
            refine zz_imul (pc := 45) (v := nI (2 * n)) S dX6_adoptNearest_45 (n_mul _ _) ?_
            refine zz_icmp_ge (pc := 46) (tgt := 91) S dX6_adoptNearest_46 (by decide) (n_le (by omega) (by omega)) (fun c46 => ?_) (fun c46 => ?_)
            · have hz := nst_z (P := P) (X := X) (Y := Y) (C := C) (n := n) (k := k) hn (by omega)
              obtain ⟨z1, z2, z3⟩ := hz
              have hi2 : i = 2 * n := (by omega)
              have hzn : amf (fun j => inS (nst P X Y C n k).1 j) (fun j => stp P X Y C (nst P X Y C n k).2 j) i = (((nst P X Y C n (k + 1)).2.toNat : Nat) : Int) := by rw [hi2]; show (nst P X Y C n (k + 1)).2 = _; omega
              refine lv_aload_n (pc := 91) S.1 S.2.1 dX6_adoptNearest_91 rfl (lv_at hl 0 rfl) ?_
              refine zz_get (pc := 92) S hV.1 iX6 0 rfl rfl 0 (by decide) wd_67 rfl rfl dX6_adoptNearest_92 ?_
              refine zz_bipush (pc := 95) (v := nI 40) S dX6_adoptNearest_95 rfl ?_
              refine lv_iload (pc := 97) S.1 S.2.1 dX6_adoptNearest_97 (lv_at hl 4 rfl) ?_
              refine zz_iadd (pc := 99) (v := nI (40 + k)) S dX6_adoptNearest_99 (n_add _ _) ?_
              refine lv_iload (pc := 100) S.1 S.2.1 dX6_adoptNearest_100 (lv_at hl 5 rfl) ?_
              refine zz_cast (v := nI ((nst P X Y C n (k + 1)).2.toNat)) (zn_of hzn) ?_
              refine zz_iast (pc := 102) (k := 40 + k) (v := (nst P X Y C n (k + 1)).2.toNat) S hV 1 rfl (by omega) (ws' := [(o, .inr (6, [.ref a1, .ref a2, .int (nI (min (ed + 1) 4)), .int (nI C), .int (nI V), .int (nI Ac), .ref a3, .ref a4, .ref a5, .ref a6])), (a1, zA cI 49 (va_up (plw w (fun j => (nst P X Y C n (j + 1)).2.toNat) k) (40 + k) ((nst P X Y C n (k + 1)).2.toNat))), (a2, zA cI 196 (hst hs w ed))]) rfl dX6_adoptNearest_102 (fun H locs hV => ?_)
              refine lv_iload_n (pc := 103) S.1 S.2.1 dX6_adoptNearest_103 rfl (lv_at hl 1 rfl) ?_
              refine zz_iconst (pc := 104) (v := nI 1) S dX6_adoptNearest_104 rfl ?_
              refine lv_iload (pc := 105) S.1 S.2.1 dX6_adoptNearest_105 (lv_at hl 5 rfl) ?_
              refine zz_cast (v := nI ((nst P X Y C n (k + 1)).2.toNat)) (zn_of hzn) ?_
              refine zz_iconst (pc := 107) (v := nI 2) S dX6_adoptNearest_107 rfl ?_
              refine zz_idiv (pc := 108) (v := nI (((nst P X Y C n (k + 1)).2.toNat) / 2)) S dX6_adoptNearest_108 (by decide) (n_div (by omega) (by decide) (by decide)) ?_
              refine zz_ishl (pc := 109) (v := nI (2 ^ (((nst P X Y C n (k + 1)).2.toNat) / 2))) S dX6_adoptNearest_109 (n_shl1 (by omega)) ?_
              refine zz_ior (pc := 110) (v := nI ((tnq P X Y C n k) ||| (2 ^ (((nst P X Y C n (k + 1)).2.toNat) / 2)))) S dX6_adoptNearest_110 (n_or _ _) ?_
              refine zz_cast (v := nI (tnq P X Y C n (k + 1))) (congrArg nI (tnq_s hn (by omega))) ?_
              refine lv_istore_n (pc := 111) (lv' := [(1, .int (nI (tnq P X Y C n (k + 1)))), (0, .ref o), (2, .int (zI ((nst P X Y C n k).2))), (3, .int (nI (ntot P X Y C n k))), (4, .int (nI k)), (5, .int (zI (amf (fun j => inS (nst P X Y C n k).1 j) (fun j => stp P X Y C (nst P X Y C n k).2 j) i))), (6, .int (nI (led (fun j => inS (nst P X Y C n k).1 j) (fun j => stp P X Y C (nst P X Y C n k).2 j) 1000000 i))), (7, .int (nI i))]) S.1 S.2.1 dX6_adoptNearest_111 rfl hl (by decide) rfl (fun ls hl => ?_)
              refine lv_iload (pc := 112) S.1 S.2.1 dX6_adoptNearest_112 (lv_at hl 5 rfl) ?_
              refine zz_cast (v := zI ((nst P X Y C n (k + 1)).2)) (congrArg zI (by rw [hi2]; rfl)) ?_
              refine lv_istore_n (pc := 114) (lv' := [(2, .int (zI ((nst P X Y C n (k + 1)).2))), (1, .int (nI (tnq P X Y C n (k + 1)))), (0, .ref o), (3, .int (nI (ntot P X Y C n k))), (4, .int (nI k)), (5, .int (zI (amf (fun j => inS (nst P X Y C n k).1 j) (fun j => stp P X Y C (nst P X Y C n k).2 j) i))), (6, .int (nI (led (fun j => inS (nst P X Y C n k).1 j) (fun j => stp P X Y C (nst P X Y C n k).2 j) 1000000 i))), (7, .int (nI i))]) S.1 S.2.1 dX6_adoptNearest_114 rfl hl (by decide) rfl (fun ls hl => ?_)
              refine lv_iload_n (pc := 115) S.1 S.2.1 dX6_adoptNearest_115 rfl (lv_at hl 3 rfl) ?_
              refine lv_iload (pc := 116) S.1 S.2.1 dX6_adoptNearest_116 (lv_at hl 6 rfl) ?_
              refine zz_iadd (pc := 118) (v := nI (ntot P X Y C n k + (led (fun j => inS (nst P X Y C n k).1 j) (fun j => stp P X Y C (nst P X Y C n k).2 j) 1000000 i))) S dX6_adoptNearest_118 (n_add _ _) ?_
              refine zz_cast (v := nI (ntot P X Y C n (k + 1))) (congrArg nI (ntot_s hn (by omega) hi2)) ?_
              refine lv_istore_n (pc := 119) (lv' := [(3, .int (nI (ntot P X Y C n (k + 1)))), (2, .int (zI ((nst P X Y C n (k + 1)).2))), (1, .int (nI (tnq P X Y C n (k + 1)))), (0, .ref o), (4, .int (nI k)), (5, .int (zI (amf (fun j => inS (nst P X Y C n k).1 j) (fun j => stp P X Y C (nst P X Y C n k).2 j) i))), (6, .int (nI (led (fun j => inS (nst P X Y C n k).1 j) (fun j => stp P X Y C (nst P X Y C n k).2 j) 1000000 i))), (7, .int (nI i))]) S.1 S.2.1 dX6_adoptNearest_119 rfl hl (by decide) rfl (fun ls hl => ?_)
              refine lv_iinc (pc := 120) (v := nI (k + 1)) (lv' := [(4, .int (nI (k + 1))), (3, .int (nI (ntot P X Y C n (k + 1)))), (2, .int (zI ((nst P X Y C n (k + 1)).2))), (1, .int (nI (tnq P X Y C n (k + 1)))), (0, .ref o), (5, .int (zI (amf (fun j => inS (nst P X Y C n k).1 j) (fun j => stp P X Y C (nst P X Y C n k).2 j) i))), (6, .int (nI (led (fun j => inS (nst P X Y C n k).1 j) (fun j => stp P X Y C (nst P X Y C n k).2 j) 1000000 i))), (7, .int (nI i))]) S.1 S.2.1 dX6_adoptNearest_120 hl (k := 4) rfl (n_add _ _) (by decide) rfl (fun ls hl => ?_)
              refine lv_goto (pc := 123) (tgt := 13) S.1 S.2.1 dX6_adoptNearest_123 (by decide) ?_
              have hV : zV D cI cR A [(o, .inr (6, [.ref a1, .ref a2, .int (nI (min (ed + 1) 4)), .int (nI C), .int (nI V), .int (nI Ac), .ref a3, .ref a4, .ref a5, .ref a6])), (a1, zA cI 49 (plw w (fun j => (nst P X Y C n (j + 1)).2.toNat) (k + 1))), (a2, zA cI 196 (hst hs w ed))] s H locs := hV.arr 1 rfl (fun j hj => by exact hcp_s _ _ _ k j _ rfl) rfl
              exact ih3 (k + 1) (by omega) (by omega) H locs hV ls (lv_sub hl [4, 3, 2, 1, 0] rfl)
            · refine lv_iload_n (pc := 49) S.1 S.2.1 dX6_adoptNearest_49 rfl (lv_at hl 1 rfl) ?_
              refine lv_iload (pc := 50) S.1 S.2.1 dX6_adoptNearest_50 (lv_at hl 7 rfl) ?_
              refine zz_iconst (pc := 52) (v := nI 2) S dX6_adoptNearest_52 rfl ?_
              refine zz_idiv (pc := 53) (v := nI (i / 2)) S dX6_adoptNearest_53 (by decide) (n_div (by omega) (by decide) (by decide)) ?_
              refine zz_ishr (pc := 54) (v := nI ((tnq P X Y C n k) / 2 ^ (i / 2))) S dX6_adoptNearest_54 (n_shr (by omega) (by omega)) ?_
              refine zz_iconst (pc := 55) (v := nI 1) S dX6_adoptNearest_55 rfl ?_
              refine zz_iand (pc := 56) (v := nI (((tnq P X Y C n k) / 2 ^ (i / 2)) % 2)) S dX6_adoptNearest_56 (n_and1 _) ?_
              refine zz_if_ne (pc := 57) (tgt := 85) S dX6_adoptNearest_57 (by decide) (n_eq0 (by omega)) (fun c57 => ?_) (fun c57 => ?_)
              · have hQ : ¬ inS (nst P X Y C n k).1 i := fun z => by rw [← tnq_c] at z; exact (cpl_bit n (by omega) _ htl (i / 2) (by omega)).mp z (by omega)
                have wA : amf (fun j => inS (nst P X Y C n k).1 j) (fun j => stp P X Y C (nst P X Y C n k).2 j) (i + 1) = amf (fun j => inS (nst P X Y C n k).1 j) (fun j => stp P X Y C (nst P X Y C n k).2 j) i := (amf_skip hQ).1
                have wL : led (fun j => inS (nst P X Y C n k).1 j) (fun j => stp P X Y C (nst P X Y C n k).2 j) 1000000 (i + 1) = led (fun j => inS (nst P X Y C n k).1 j) (fun j => stp P X Y C (nst P X Y C n k).2 j) 1000000 i := led_skip hQ
                refine lv_iinc (pc := 85) (v := nI (i + 1)) (lv' := [(7, .int (nI (i + 1))), (0, .ref o), (1, .int (nI (tnq P X Y C n k))), (2, .int (zI ((nst P X Y C n k).2))), (3, .int (nI (ntot P X Y C n k))), (4, .int (nI k)), (5, .int (zI (amf (fun j => inS (nst P X Y C n k).1 j) (fun j => stp P X Y C (nst P X Y C n k).2 j) i))), (6, .int (nI (led (fun j => inS (nst P X Y C n k).1 j) (fun j => stp P X Y C (nst P X Y C n k).2 j) 1000000 i)))]) S.1 S.2.1 dX6_adoptNearest_85 hl (k := 7) rfl (n_add _ _) (by decide) rfl (fun ls hl => ?_)
                refine lv_goto (pc := 88) (tgt := 35) S.1 S.2.1 dX6_adoptNearest_88 (by decide) ?_
                exact ih5 (i + 1) (by omega) (by omega) H locs hV ls (by rw [wA, wL]; exact lv_sub hl [1, 2, 3, 4, 5, 6, 7, 0] rfl)
              · have hQ : inS (nst P X Y C n k).1 i := by rw [← tnq_c]; exact (cpl_bit n (by omega) _ htl (i / 2) (by omega)).mpr (by omega)
                have hsl := stp_le (P := P) (X := X) (Y := Y) (C := C) (a := (nst P X Y C n k).2) (b := i) hXY (by omega) (by omega)
                refine lv_aload_n (pc := 60) S.1 S.2.1 dX6_adoptNearest_60 rfl (lv_at hl 0 rfl) ?_
                refine lv_iload_n (pc := 61) S.1 S.2.1 dX6_adoptNearest_61 rfl (lv_at hl 2 rfl) ?_
                refine lv_iload (pc := 62) S.1 S.2.1 dX6_adoptNearest_62 (lv_at hl 7 rfl) ?_
                refine zz_callV (pc := 64) (As := [.int (zI ((nst P X Y C n k).2)), .int (nI i)]) (rest := []) S (c_X6_step l D cI cR o a1 a2 a3 a4 a5 a6 (min (ed + 1) 4) C V Ac (plw w (fun j => (nst P X Y C n (j + 1)).2.toNat) k) n P X Y (nearL P X Y C n L k) ((nst P X Y C n k).2) i hok.1 (plw_rlk (k := k) (L2 := (fun j => (nst P X Y C n (j + 1)).2.toNat)) hR (by omega) hn) hset (by omega) (by omega)) (zuV wd_430 wd_427 wd_428 wd_429 wd_5) 2 rfl q_X6_step ⟨⟨rfl, rfl⟩, Nat.le_of_ble_eq_true rfl, Nat.le_of_ble_eq_true rfl⟩ hV.1 [0, 1] rfl 0 rfl rfl rfl rfl rfl (Nat.le_of_ble_eq_true rfl) hl.1 ⟨Nat.zero_le _, Nat.zero_le _⟩ dX6_adoptNearest_64 ?_
                have g6 := stp_le (P := P) (X := X) (Y := Y) (C := C) (a := ((nst P X Y C n k).2)) (b := i) (n := n) hXY (by omega) (by omega)
                refine lv_iload (pc := 67) S.1 S.2.1 dX6_adoptNearest_67 (lv_at hl 6 rfl) ?_
                refine zz_icmp_ge (pc := 69) (tgt := 85) S dX6_adoptNearest_69 (by decide) (n_le (by omega) (by omega)) (fun c69 => ?_) (fun c69 => ?_)
                · have wA : amf (fun j => inS (nst P X Y C n k).1 j) (fun j => stp P X Y C (nst P X Y C n k).2 j) (i + 1) = amf (fun j => inS (nst P X Y C n k).1 j) (fun j => stp P X Y C (nst P X Y C n k).2 j) i := led_kp (st := 1000000) hQ (by show ¬ stp P X Y C (nst P X Y C n k).2 i < _; omega) (by show stp P X Y C (nst P X Y C n k).2 i < _; omega)
                  have wL : led (fun j => inS (nst P X Y C n k).1 j) (fun j => stp P X Y C (nst P X Y C n k).2 j) 1000000 (i + 1) = led (fun j => inS (nst P X Y C n k).1 j) (fun j => stp P X Y C (nst P X Y C n k).2 j) 1000000 i := led_keep (by show ¬ stp P X Y C (nst P X Y C n k).2 i < _; omega) (by show stp P X Y C (nst P X Y C n k).2 i < _; omega)
                  refine lv_iinc (pc := 85) (v := nI (i + 1)) (lv' := [(7, .int (nI (i + 1))), (0, .ref o), (1, .int (nI (tnq P X Y C n k))), (2, .int (zI ((nst P X Y C n k).2))), (3, .int (nI (ntot P X Y C n k))), (4, .int (nI k)), (5, .int (zI (amf (fun j => inS (nst P X Y C n k).1 j) (fun j => stp P X Y C (nst P X Y C n k).2 j) i))), (6, .int (nI (led (fun j => inS (nst P X Y C n k).1 j) (fun j => stp P X Y C (nst P X Y C n k).2 j) 1000000 i)))]) S.1 S.2.1 dX6_adoptNearest_85 hl (k := 7) rfl (n_add _ _) (by decide) rfl (fun ls hl => ?_)
                  refine lv_goto (pc := 88) (tgt := 35) S.1 S.2.1 dX6_adoptNearest_88 (by decide) ?_
                  exact ih5 (i + 1) (by omega) (by omega) H locs hV ls (by rw [wA, wL]; exact lv_sub hl [1, 2, 3, 4, 5, 6, 7, 0] rfl)
                · have wA : amf (fun j => inS (nst P X Y C n k).1 j) (fun j => stp P X Y C (nst P X Y C n k).2 j) (i + 1) = ((i : Nat) : Int) := led_tk (st := 1000000) hQ (by show stp P X Y C (nst P X Y C n k).2 i < _; omega)
                  have wL : led (fun j => inS (nst P X Y C n k).1 j) (fun j => stp P X Y C (nst P X Y C n k).2 j) 1000000 (i + 1) = stp P X Y C (nst P X Y C n k).2 i := led_take hQ (by show stp P X Y C (nst P X Y C n k).2 i < _; omega)
                  refine lv_iload (pc := 72) S.1 S.2.1 dX6_adoptNearest_72 (lv_at hl 7 rfl) ?_
                  refine zz_cast (v := zI ((i : Nat) : Int)) ((zI_nI _).symm) ?_
                  refine lv_istore (pc := 74) (lv' := [(5, .int (zI ((i : Nat) : Int))), (0, .ref o), (1, .int (nI (tnq P X Y C n k))), (2, .int (zI ((nst P X Y C n k).2))), (3, .int (nI (ntot P X Y C n k))), (4, .int (nI k)), (6, .int (nI (led (fun j => inS (nst P X Y C n k).1 j) (fun j => stp P X Y C (nst P X Y C n k).2 j) 1000000 i))), (7, .int (nI i))]) S.1 S.2.1 dX6_adoptNearest_74 hl (by decide) rfl (fun ls hl => ?_)
                  refine lv_aload_n (pc := 76) S.1 S.2.1 dX6_adoptNearest_76 rfl (lv_at hl 1 rfl) ?_
                  refine lv_iload_n (pc := 77) S.1 S.2.1 dX6_adoptNearest_77 rfl (lv_at hl 3 rfl) ?_
                  refine lv_iload (pc := 78) S.1 S.2.1 dX6_adoptNearest_78 (lv_at hl 7 rfl) ?_
                  refine zz_callV (pc := 80) (As := [.int (zI ((nst P X Y C n k).2)), .int (nI i)]) (rest := []) S (c_X6_step l D cI cR o a1 a2 a3 a4 a5 a6 (min (ed + 1) 4) C V Ac (plw w (fun j => (nst P X Y C n (j + 1)).2.toNat) k) n P X Y (nearL P X Y C n L k) ((nst P X Y C n k).2) i hok.1 (plw_rlk (k := k) (L2 := (fun j => (nst P X Y C n (j + 1)).2.toNat)) hR (by omega) hn) hset (by omega) (by omega)) (zuV wd_430 wd_427 wd_428 wd_429 wd_5) 2 rfl q_X6_step ⟨⟨rfl, rfl⟩, Nat.le_of_ble_eq_true rfl, Nat.le_of_ble_eq_true rfl⟩ hV.1 [0, 1] rfl 0 rfl rfl rfl rfl rfl (Nat.le_of_ble_eq_true rfl) hl.1 ⟨Nat.zero_le _, Nat.zero_le _⟩ dX6_adoptNearest_80 ?_
                  have g7 := stp_le (P := P) (X := X) (Y := Y) (C := C) (a := ((nst P X Y C n k).2)) (b := i) (n := n) hXY (by omega) (by omega)
                  refine lv_istore (pc := 83) (lv' := [(6, .int (nI (stp P X Y C ((nst P X Y C n k).2) i))), (5, .int (zI ((i : Nat) : Int))), (0, .ref o), (1, .int (nI (tnq P X Y C n k))), (2, .int (zI ((nst P X Y C n k).2))), (3, .int (nI (ntot P X Y C n k))), (4, .int (nI k)), (7, .int (nI i))]) S.1 S.2.1 dX6_adoptNearest_83 hl (by decide) rfl (fun ls hl => ?_)
                  refine lv_iinc (pc := 85) (v := nI (i + 1)) (lv' := [(7, .int (nI (i + 1))), (6, .int (nI (stp P X Y C ((nst P X Y C n k).2) i))), (5, .int (zI ((i : Nat) : Int))), (0, .ref o), (1, .int (nI (tnq P X Y C n k))), (2, .int (zI ((nst P X Y C n k).2))), (3, .int (nI (ntot P X Y C n k))), (4, .int (nI k))]) S.1 S.2.1 dX6_adoptNearest_85 hl (k := 7) rfl (n_add _ _) (by decide) rfl (fun ls hl => ?_)
                  refine lv_goto (pc := 88) (tgt := 35) S.1 S.2.1 dX6_adoptNearest_88 (by decide) ?_
                  exact ih5 (i + 1) (by omega) (by omega) H locs hV ls (by rw [wA, wL]; exact lv_sub hl [3, 4, 5, 6, 7, 2, 1, 0] rfl)
        exact L4 (2 * n - 0 + 1) 0 (by omega) (Nat.lt_succ_self _) H locs hV ls (lv_sub hl [3, 4, 5, 6, 7, 2, 1, 0] rfl)
  have hV : zV D cI cR A [(o, .inr (6, [.ref a1, .ref a2, .int (nI (min (ed + 1) 4)), .int (nI C), .int (nI V), .int (nI Ac), .ref a3, .ref a4, .ref a5, .ref a6])), (a1, zA cI 49 (plw w (fun j => (nst P X Y C n (j + 1)).2.toNat) 0)), (a2, zA cI 196 (hst hs w ed))] s H locs := hV.arr 1 rfl (fun j hj => by exact hcp_0 _ _ _ j) rfl
  exact L2 (n - 0 + 1) 0 (by omega) (Nat.lt_succ_self _) H locs hV ls (by rw [tnq_0]; exact lv_sub hl [4, 3, 2, 1, 0] rfl)
