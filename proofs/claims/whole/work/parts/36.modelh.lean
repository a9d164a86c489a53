abbrev wm_X6_adoptBest : List Cond := .code yX6_adoptBest cX6_adoptBest 3 (some .int) :: wU
theorem q_X6_adoptBest : yX6_adoptBest.cls = RX6 ∧ yX6_adoptBest.cls ≠ "java/lang/invoke/MethodHandle" ∧ yX6_adoptBest.cls ≠ "java/lang/invoke/VarHandle" ∧ (parseMethodDescriptor yX6_adoptBest.desc).map (fun d => d.parameters.length) = some 0 := by decide +kernel
set_option maxHeartbeats 4000000 in
set_option maxRecDepth 100000 in
theorem c_X6_adoptBest (l : Launch) (D : va_G) (cI cR : ClassId) (o a1 a2 a3 a4 a5 a6 ed C V Ac : Nat) (w : Nat → Nat) (hs : Nat → Nat) (rt : Nat → Nat) (bt : Nat → Nat) (n : Nat) (P X Y L : Nat → Nat) (sz : Nat) (hok : zOk n P X Y L) (hR : zRl w n P X Y L) (hset : zSt C V Ac) (hed : ed ≤ 4) : Met l yX6_adoptBest wm_X6_adoptBest ({ frames := 4, cells := 0, slots := 0, locals := 98 } : Room) (va_Pc [.ref o] (zX D cI cR [(o, .inr (6, [.ref a1, .ref a2, .int (nI ed), .int (nI C), .int (nI V), .int (nI Ac), .ref a3, .ref a4, .ref a5, .ref a6])), (a1, zA cI 49 w), (a2, zA cI 196 hs), (a3, zA cI 4096 rt), (a4, zA cI 8 bt)] sz)) (zQi D cI cR (va_A [(o, .inr (6, [.ref a1, .ref a2, .int (nI ed), .int (nI C), .int (nI V), .int (nI Ac), .ref a3, .ref a4, .ref a5, .ref a6])), (a1, zA cI 49 w), (a2, zA cI 196 hs), (a3, zA cI 4096 rt), (a4, zA cI 8 bt)] sz) (fun r w0 => ∃ (rt5 : Nat → Nat) (bt5 : Nat → Nat), (w0 = [(o, .inr (6, [.ref a1, .ref a2, .int (nI (min (ed + 1) 4)), .int (nI C), .int (nI V), .int (nI Ac), .ref a3, .ref a4, .ref a5, .ref a6])), (a1, zA cI 49 (plw w (bcd P X Y C n) n)), (a2, zA cI 196 (hst hs w ed)), (a3, zA cI 4096 rt5), (a4, zA cI 8 bt5)] ∧ r = nI (btot P X Y C n n)))) 0 0 (va_A [(o, .inr (6, [.ref a1, .ref a2, .int (nI ed), .int (nI C), .int (nI V), .int (nI Ac), .ref a3, .ref a4, .ref a5, .ref a6])), (a1, zA cI 49 w), (a2, zA cI 196 hs), (a3, zA cI 4096 rt), (a4, zA cI 8 bt)] sz) := by
  refine Met.ofW (cc := cX6_adoptBest) (maxL := 3) (ret := (some .int)) (by decide) rfl ?_
  intro p e s m args below meth c s₁ B hml hv
  obtain ⟨rfl, hsz, hG, hD0⟩ := hv
  have S : CallFix p m c cX6_adoptBest 3 s ([.ref o] : List Value).toArray wU RX6 := ⟨B.exec, B.bytes, hml, findClass_of_methodNamed B.named, fun w h => atoms_spec (ws := wm_X6_adoptBest) B.pre w (List.mem_cons_of_mem _ h)⟩
  have hr := B.returns
  have hlocks := B.notSynchronized
  subst hsz
  have hD := hD0.self (sz := s.heap.size)
  generalize hAe : va_A [(o, .inr (6, [.ref a1, .ref a2, .int (nI ed), .int (nI C), .int (nI V), .int (nI Ac), .ref a3, .ref a4, .ref a5, .ref a6])), (a1, zA cI 49 w), (a2, zA cI 196 hs), (a3, zA cI 4096 rt), (a4, zA cI 8 bt)] s.heap.size = A at hD ⊢
  have hV : zV D cI cR A [(o, .inr (6, [.ref a1, .ref a2, .int (nI ed), .int (nI C), .int (nI V), .int (nI Ac), .ref a3, .ref a4, .ref a5, .ref a6])), (a1, zA cI 49 w), (a2, zA cI 196 hs), (a3, zA cI 4096 rt), (a4, zA cI 8 bt)] s s.heap [] := ⟨hG, hD, va_S.rf, fun q h => by rw [← hAe]; exact Or.inr h⟩
  have hl := lv_entry ([.ref o]) (n := 3) (Nat.le_of_ble_eq_true rfl)
  rw [lg_entry_eq]
  generalize (lg_sl ([.ref o]) ++ List.replicate (3 - (lg_sl ([.ref o])).length) Slot.unset).toArray = ls at hl ⊢
  have hl : lv_has ls 3 [(0, .ref o)] := hl
  obtain ⟨⟨hn, hPf, hXY⟩, hLf, hinj⟩ := id hok
  obtain ⟨hC, hV9, hA9⟩ := id hset
  refine lv_aload_n (pc := 0) S.1 S.2.1 dX6_adoptBest_0 rfl (lv_at hl 0 rfl) ?_
  refine zz_callMv (pc := 1) (As := []) (rest := []) (wr := [(a3, zA cI 4096 rt), (a4, zA cI 8 bt)]) S hV (c_X6_edit l D cI cR o a1 a2 a3 a4 a5 a6 ed C V Ac w hs n P X Y L s.heap.size hok.1 hR hset (by omega)) (zuV wd_139 wd_136 wd_137 wd_138 wd_5) 0 rfl q_X6_edit ⟨⟨rfl, rfl⟩, Nat.le_of_ble_eq_true rfl, Nat.le_of_ble_eq_true rfl⟩ [0, 1, 2] [3, 4] rfl rfl (by decide) (by decide) (by decide) 0 rfl rfl rfl rfl rfl (Nat.le_of_ble_eq_true rfl) hl.1 ⟨Nat.zero_le _, Nat.zero_le _⟩ dX6_adoptBest_1 (fun w1 H locs hp hV => ?_)
  obtain rfl := hp
  have hV : zV D cI cR A [(o, .inr (6, [.ref a1, .ref a2, .int (nI (min (ed + 1) 4)), .int (nI C), .int (nI V), .int (nI Ac), .ref a3, .ref a4, .ref a5, .ref a6])), (a1, zA cI 49 w), (a2, zA cI 196 (hst hs w ed)), (a3, zA cI 4096 rt), (a4, zA cI 8 bt)] s H locs := hV.perm [2, 3, 4, 0, 1] (by decide) rfl
  refine lv_aload_n (pc := 4) S.1 S.2.1 dX6_adoptBest_4 rfl (lv_at hl 0 rfl) ?_
  refine zz_callM (pc := 5) (As := []) (rest := []) (wr := [(a2, zA cI 196 (hst hs w ed))]) S hV (c_X6_finds l D cI cR o a1 a2 a3 a4 a5 a6 (min (ed + 1) 4) C V Ac w rt bt n P X Y L H.size hok hR hset) (zuV wd_550 wd_547 wd_548 wd_549 wd_5) 0 rfl q_X6_finds ⟨⟨rfl, rfl⟩, Nat.le_of_ble_eq_true rfl, Nat.le_of_ble_eq_true rfl⟩ [0, 1, 3, 4] [2] rfl rfl (by decide) (by decide) (by decide) 0 rfl rfl rfl rfl rfl (Nat.le_of_ble_eq_true rfl) hl.1 ⟨Nat.zero_le _, Nat.zero_le _⟩ dX6_adoptBest_5 (fun r1 w1 H locs hp hV => ?_)
  obtain ⟨rt5x2, bt5x2, ⟨rfl, rfl⟩, hbt5x2⟩ := hp
  have hV : zV D cI cR A [(o, .inr (6, [.ref a1, .ref a2, .int (nI (min (ed + 1) 4)), .int (nI C), .int (nI V), .int (nI Ac), .ref a3, .ref a4, .ref a5, .ref a6])), (a1, zA cI 49 w), (a2, zA cI 196 (hst hs w ed)), (a3, zA cI 4096 rt5x2), (a4, zA cI 8 bt5x2)] s H locs := hV.perm [1, 2, 0, 3, 4] (by decide) rfl
  refine lv_istore_n (pc := 8) (lv' := [(1, .int (nI (btot P X Y C n n))), (0, .ref o)]) S.1 S.2.1 dX6_adoptBest_8 rfl hl (by decide) rfl (fun ls hl => ?_)
  refine zz_iconst (pc := 9) (v := nI 0) S dX6_adoptBest_9 rfl ?_
  refine lv_istore_n (pc := 10) (lv' := [(2, .int (nI 0)), (1, .int (nI (btot P X Y C n n))), (0, .ref o)]) S.1 S.2.1 dX6_adoptBest_10 rfl hl (by decide) rfl (fun ls hl => ?_)
  have L3 : ∀ (f : Nat) (k : Nat), (k ≤ n) → n - k < f → ∀ (H : Heap) (locs : List Loc), zV D cI cR A [(o, .inr (6, [.ref a1, .ref a2, .int (nI (min (ed + 1) 4)), .int (nI C), .int (nI V), .int (nI Ac), .ref a3, .ref a4, .ref a5, .ref a6])), (a1, zA cI 49 (plw w (bcd P X Y C n) k)), (a2, zA cI 196 (hst hs w ed)), (a3, zA cI 4096 rt5x2), (a4, zA cI 8 bt5x2)] s H locs → ∀ ls : Array Slot, lv_has ls 3 [(0, .ref o), (1, .int (nI (btot P X Y C n n))), (2, .int (nI k))] → W p l e (headSpec wm_X6_adoptBest ({ frames := 4, cells := 0, slots := 0, locals := 98 } : Room)).room s m ([.ref o] : List Value).toArray below meth c H locs 0 0 (MQ below (zQi D cI cR A (fun r w0 => ∃ (rt5 : Nat → Nat) (bt5 : Nat → Nat), (w0 = [(o, .inr (6, [.ref a1, .ref a2, .int (nI (min (ed + 1) 4)), .int (nI C), .int (nI V), .int (nI Ac), .ref a3, .ref a4, .ref a5, .ref a6])), (a1, zA cI 49 (plw w (bcd P X Y C n) n)), (a2, zA cI 196 (hst hs w ed)), (a3, zA cI 4096 rt5), (a4, zA cI 8 bt5)] ∧ r = nI (btot P X Y C n n)))) ([.ref o] : List Value).toArray s 0 0 A) (F0 m 11 ls []) := by
    intro f
    induction f with
    | zero => intro k hk hf; exact absurd hf (Nat.not_lt_zero _)
    | succ f ih4 =>
      intro k hk hf H locs hV ls hl
      refine lv_iload_n (pc := 11) S.1 S.2.1 dX6_adoptBest_11 rfl (lv_at hl 2 rfl) ?_
      refine lv_aload_n (pc := 12) S.1 S.2.1 dX6_adoptBest_12 rfl (lv_at hl 0 rfl) ?_
      refine zz_get (pc := 13) S hV.1 iX6 0 rfl rfl 0 (by decide) wd_67 rfl rfl dX6_adoptBest_13 ?_
      refine zz_bipush (pc := 16) (v := nI 48) S dX6_adoptBest_16 rfl ?_
      refine zz_iald (pc := 18) (k := 48) S hV.1 1 rfl (by omega) dX6_adoptBest_18 ?_
      refine zz_cast (v := nI n) (congrArg nI (plw_48 w _ (by omega) hR.1)) ?_
      refine zz_icmp_ge (pc := 19) (tgt := 43) S dX6_adoptBest_19 (by decide) (n_le (by omega) (by omega)) (fun c19 => ?_) (fun c19 => ?_)
      · refine lv_iload_n (pc := 43) S.1 S.2.1 dX6_adoptBest_43 rfl (lv_at hl 1 rfl) ?_
        have hV : zV D cI cR A [(o, .inr (6, [.ref a1, .ref a2, .int (nI (min (ed + 1) 4)), .int (nI C), .int (nI V), .int (nI Ac), .ref a3, .ref a4, .ref a5, .ref a6])), (a1, zA cI 49 (plw w (bcd P X Y C n) n)), (a2, zA cI 196 (hst hs w ed)), (a3, zA cI 4096 rt5x2), (a4, zA cI 8 bt5x2)] s H locs := hV.arr 1 rfl (fun j hj => by rw [show k = n by omega]) rfl
        exact zz_iretM (pc := 44) S hr hlocks hV (⟨rt5x2, bt5x2, ⟨rfl, rfl⟩⟩) dX6_adoptBest_44
      · refine lv_aload_n (pc := 22) S.1 S.2.1 dX6_adoptBest_22 rfl (lv_at hl 0 rfl) ?_
        refine zz_get (pc := 23) S hV.1 iX6 0 rfl rfl 0 (by decide) wd_67 rfl rfl dX6_adoptBest_23 ?_
        refine zz_bipush (pc := 26) (v := nI 40) S dX6_adoptBest_26 rfl ?_
        refine lv_iload_n (pc := 28) S.1 S.2.1 dX6_adoptBest_28 rfl (lv_at hl 2 rfl) ?_
        refine zz_iadd (pc := 29) (v := nI (40 + k)) S dX6_adoptBest_29 (n_add _ _) ?_
        refine lv_aload_n (pc := 30) S.1 S.2.1 dX6_adoptBest_30 rfl (lv_at hl 0 rfl) ?_
        refine zz_get (pc := 31) S hV.1 iX6 0 rfl rfl 7 (by decide) wd_73 rfl rfl dX6_adoptBest_31 ?_
        refine lv_iload_n (pc := 34) S.1 S.2.1 dX6_adoptBest_34 rfl (lv_at hl 2 rfl) ?_
        refine zz_iald (pc := 35) (k := k) S hV.1 4 rfl (by omega) dX6_adoptBest_35 ?_
        refine zz_cast (v := nI (bcd P X Y C n k)) (congrArg nI (hbt5x2 k (by omega))) ?_
        refine zz_iast (pc := 36) (k := 40 + k) (v := bcd P X Y C n k) S hV 1 rfl (by omega) (ws' := [(o, .inr (6, [.ref a1, .ref a2, .int (nI (min (ed + 1) 4)), .int (nI C), .int (nI V), .int (nI Ac), .ref a3, .ref a4, .ref a5, .ref a6])), (a1, zA cI 49 (va_up (plw w (bcd P X Y C n) k) (40 + k) (bcd P X Y C n k))), (a2, zA cI 196 (hst hs w ed)), (a3, zA cI 4096 rt5x2), (a4, zA cI 8 bt5x2)]) rfl dX6_adoptBest_36 (fun H locs hV => ?_)
        refine lv_iinc (pc := 37) (v := nI (k + 1)) (lv' := [(2, .int (nI (k + 1))), (0, .ref o), (1, .int (nI (btot P X Y C n n)))]) S.1 S.2.1 dX6_adoptBest_37 hl (k := 2) rfl (n_add _ _) (by decide) rfl (fun ls hl => ?_)
        refine lv_goto (pc := 40) (tgt := 11) S.1 S.2.1 dX6_adoptBest_40 (by decide) ?_
        have hV : zV D cI cR A [(o, .inr (6, [.ref a1, .ref a2, .int (nI (min (ed + 1) 4)), .int (nI C), .int (nI V), .int (nI Ac), .ref a3, .ref a4, .ref a5, .ref a6])), (a1, zA cI 49 (plw w (bcd P X Y C n) (k + 1))), (a2, zA cI 196 (hst hs w ed)), (a3, zA cI 4096 rt5x2), (a4, zA cI 8 bt5x2)] s H locs := hV.arr 1 rfl (fun j hj => by exact hcp_s _ _ _ k j _ rfl) rfl
        exact ih4 (k + 1) (by omega) (by omega) H locs hV ls (lv_sub hl [1, 2, 0] rfl)
  have hV : zV D cI cR A [(o, .inr (6, [.ref a1, .ref a2, .int (nI (min (ed + 1) 4)), .int (nI C), .int (nI V), .int (nI Ac), .ref a3, .ref a4, .ref a5, .ref a6])), (a1, zA cI 49 (plw w (bcd P X Y C n) 0)), (a2, zA cI 196 (hst hs w ed)), (a3, zA cI 4096 rt5x2), (a4, zA cI 8 bt5x2)] s H locs := hV.arr 1 rfl (fun j hj => by exact hcp_0 _ _ _ j) rfl
  exact L3 (n - 0 + 1) 0 (by omega) (Nat.lt_succ_self _) H locs hV ls (lv_sub hl [2, 1, 0] rfl)
