abbrev wm_X6_degree : List Cond := .code yX6_degree cX6_degree 6 (some .int) :: wU
theorem q_X6_degree : yX6_degree.cls = RX6 ∧ yX6_degree.cls ≠ "java/lang/invoke/MethodHandle" ∧ yX6_degree.cls ≠ "java/lang/invoke/VarHandle" ∧ (parseMethodDescriptor yX6_degree.desc).map (fun d => d.parameters.length) = some 2 := by decide +kernel
set_option maxHeartbeats 4000000 in
set_option maxRecDepth 100000 in
theorem c_X6_degree (l : Launch) (D : va_G) (cI cR : ClassId) (o a1 a2 a3 a4 a5 a6 ed C V Ac : Nat) (w : Nat → Nat) (n : Nat) (P X Y L : Nat → Nat) (a : Nat) (q : Nat) (hge : zGe n P X Y) (hR : zRl w n P X Y L) (hset : zSt C V Ac) (ha : a < 2 * n) (hq : q ≤ 3) : Met l yX6_degree wm_X6_degree ({ frames := 2, cells := 0, slots := 0, locals := 43 } : Room) (va_Pc [.ref o, .int (nI a), .int (nI q)] (zW D cI cR [(o, .inr (6, [.ref a1, .ref a2, .int (nI ed), .int (nI C), .int (nI V), .int (nI Ac), .ref a3, .ref a4, .ref a5, .ref a6])), (a1, zA cI 49 w)])) (vp_Si (fun r => r = nI (dgr n P X Y q a))) 0 0 (fun _ => False) := by
  refine Met.ofW (cc := cX6_degree) (maxL := 6) (ret := (some .int)) (by decide) rfl ?_
  intro p e s m args below meth c s₁ B hml hv
  obtain ⟨rfl, hG⟩ := hv
  have S : CallFix p m c cX6_degree 6 s ([.ref o, .int (nI a), .int (nI q)] : List Value).toArray wU RX6 := ⟨B.exec, B.bytes, hml, findClass_of_methodNamed B.named, fun w h => atoms_spec (ws := wm_X6_degree) B.pre w (List.mem_cons_of_mem _ h)⟩
  have hr := B.returns
  have hlocks := B.notSynchronized
  have hG : zG D cI cR [(o, .inr (6, [.ref a1, .ref a2, .int (nI ed), .int (nI C), .int (nI V), .int (nI Ac), .ref a3, .ref a4, .ref a5, .ref a6])), (a1, zA cI 49 w)] s s.heap := hG
  have hl := lv_entry ([.ref o, .int (nI a), .int (nI q)]) (n := 6) (Nat.le_of_ble_eq_true rfl)
  rw [lg_entry_eq]
  generalize (lg_sl ([.ref o, .int (nI a), .int (nI q)]) ++ List.replicate (6 - (lg_sl ([.ref o, .int (nI a), .int (nI q)])).length) Slot.unset).toArray = ls at hl ⊢
  have hl : lv_has ls 6 [(0, .ref o), (1, .int (nI a)), (2, .int (nI q))] := hl
  obtain ⟨hn, hPf, hXY⟩ := id hge
  obtain ⟨hC, hV9, hA9⟩ := id hset
  refine zz_iconst (pc := 0) (v := nI 0) S dX6_degree_0 rfl ?_
  refine lv_istore_n (pc := 1) (lv' := [(3, .int (nI 0)), (0, .ref o), (1, .int (nI a)), (2, .int (nI q))]) S.1 S.2.1 dX6_degree_1 rfl hl (by decide) rfl (fun ls hl => ?_)
  refine zz_iconst (pc := 2) (v := nI 0) S dX6_degree_2 rfl ?_
  refine lv_istore (pc := 3) (lv' := [(4, .int (nI 0)), (3, .int (nI 0)), (0, .ref o), (1, .int (nI a)), (2, .int (nI q))]) S.1 S.2.1 dX6_degree_3 hl (by decide) rfl (fun ls hl => ?_)
  have L1 : ∀ (f : Nat) (k : Nat), (k ≤ 2 * n) → (∀ j, j < k → j < a → ¬ (P (j / 2) = q ∧ (X a = X j ∧ Y a = Y j))) → 2 * n - k < f → ∀ ls : Array Slot, lv_has ls 6 [(0, .ref o), (1, .int (nI a)), (2, .int (nI q)), (3, .int (nI (cdg P X Y q a k))), (4, .int (nI k))] → W p l e (headSpec wm_X6_degree ({ frames := 2, cells := 0, slots := 0, locals := 43 } : Room)).room s m ([.ref o, .int (nI a), .int (nI q)] : List Value).toArray below meth c s.heap [] 0 0 (MQ below (vp_Si (fun r => r = nI (dgr n P X Y q a))) ([.ref o, .int (nI a), .int (nI q)] : List Value).toArray s 0 0 (fun _ => False)) (F0 m 5 ls []) := by
    intro f
    induction f with
    | zero => intro k hk hlo hf; exact absurd hf (Nat.not_lt_zero _)
    | succ f ih2 =>
      intro k hk hlo hf ls hl
      have hcd := cdg_le P X Y q a k
      refine lv_iload (pc := 5) S.1 S.2.1 dX6_degree_5 (lv_at hl 4 rfl) ?_
      refine zz_iconst (pc := 7) (v := nI 2) S dX6_degree_7 rfl ?_
      refine lv_aload_n (pc := 8) S.1 S.2.1 dX6_degree_8 rfl (lv_at hl 0 rfl) ?_
      refine zz_get (pc := 9) S hG iX6 0 rfl rfl 0 (by decide) wd_67 rfl rfl dX6_degree_9 ?_
      refine zz_bipush (pc := 12) (v := nI 48) S dX6_degree_12 rfl ?_
      refine zz_iald (pc := 14) (k := 48) S hG 1 rfl (by omega) dX6_degree_14 ?_
      refine zz_cast (v := nI n) (congrArg nI hR.1) ?_
      refine zz_imul (pc := 15) (v := nI (2 * n)) S dX6_degree_15 (n_mul _ _) ?_
      refine zz_icmp_ge (pc := 16) (tgt := 78) S dX6_degree_16 (by decide) (n_le (by omega) (by omega)) (fun c16 => ?_) (fun c16 => ?_)
      · refine lv_iload_n (pc := 78) S.1 S.2.1 dX6_degree_78 rfl (lv_at hl 3 rfl) ?_
        exact zz_iretS (pc := 79) S hr hlocks (congrArg nI (by rw [dgr_hi (fun j h => hlo j (by omega) h), show k = 2 * n by omega])) dX6_degree_79
      · have J3 : ∀ ls : Array Slot, lv_has ls 6 [(0, .ref o), (1, .int (nI a)), (2, .int (nI q)), (3, .int (nI (cdg P X Y q a k))), (4, .int (nI k))] → W p l e (headSpec wm_X6_degree ({ frames := 2, cells := 0, slots := 0, locals := 43 } : Room)).room s m ([.ref o, .int (nI a), .int (nI q)] : List Value).toArray below meth c s.heap [] 0 0 (MQ below (vp_Si (fun r => r = nI (dgr n P X Y q a))) ([.ref o, .int (nI a), .int (nI q)] : List Value).toArray s 0 0 (fun _ => False)) (F0 m 44 ls [.int (nI (zB (P (k / 2) = q ∧ (X a = X k ∧ Y a = Y k))))]) := by
          intro ls hl
          refine lv_istore (pc := 44) (lv' := [(5, .int (nI (zB (P (k / 2) = q ∧ (X a = X k ∧ Y a = Y k))))), (0, .ref o), (1, .int (nI a)), (2, .int (nI q)), (3, .int (nI (cdg P X Y q a k))), (4, .int (nI k))]) S.1 S.2.1 dX6_degree_44 hl (by decide) rfl (fun ls hl => ?_)
          refine lv_iload (pc := 46) S.1 S.2.1 dX6_degree_46 (lv_at hl 0 rfl) ?_
          refine zz_ifb_eq (pc := 48) (tgt := 59) S dX6_degree_48 (by decide) (fun c48 => ?_) (fun c48 => ?_)
          · refine lv_iload_n (pc := 59) S.1 S.2.1 dX6_degree_59 rfl (lv_at hl 4 rfl) ?_
            have J4 : ∀ ls : Array Slot, lv_has ls 6 [(0, .ref o), (1, .int (nI a)), (2, .int (nI q)), (3, .int (nI (cdg P X Y q a k))), (4, .int (nI k)), (5, .int (nI (zB (P (k / 2) = q ∧ (X a = X k ∧ Y a = Y k)))))] → W p l e (headSpec wm_X6_degree ({ frames := 2, cells := 0, slots := 0, locals := 43 } : Room)).room s m ([.ref o, .int (nI a), .int (nI q)] : List Value).toArray below meth c s.heap [] 0 0 (MQ below (vp_Si (fun r => r = nI (dgr n P X Y q a))) ([.ref o, .int (nI a), .int (nI q)] : List Value).toArray s 0 0 (fun _ => False)) (F0 m 70 ls [.int (nI (if P (k / 2) = q ∧ (X a = X k ∧ Y a = Y k) then 1 else 0)), .int (nI (cdg P X Y q a k))]) := by
              intro ls hl
              have hif : (if P (k / 2) = q ∧ (X a = X k ∧ Y a = Y k) then 1 else 0) ≤ 1 := by split <;> omega
              refine zz_iadd (pc := 70) (v := nI (cdg P X Y q a k + (if P (k / 2) = q ∧ (X a = X k ∧ Y a = Y k) then 1 else 0))) S dX6_degree_70 (n_add _ _) ?_
              refine lv_istore_n (pc := 71) (lv' := [(3, .int (nI (cdg P X Y q a k + (if P (k / 2) = q ∧ (X a = X k ∧ Y a = Y k) then 1 else 0)))), (0, .ref o), (1, .int (nI a)), (2, .int (nI q)), (4, .int (nI k)), (5, .int (nI (zB (P (k / 2) = q ∧ (X a = X k ∧ Y a = Y k)))))]) S.1 S.2.1 dX6_degree_71 rfl hl (by decide) rfl (fun ls hl => ?_)
              refine lv_iinc (pc := 72) (v := nI (k + 1)) (lv' := [(4, .int (nI (k + 1))), (3, .int (nI (cdg P X Y q a k + (if P (k / 2) = q ∧ (X a = X k ∧ Y a = Y k) then 1 else 0)))), (0, .ref o), (1, .int (nI a)), (2, .int (nI q)), (5, .int (nI (zB (P (k / 2) = q ∧ (X a = X k ∧ Y a = Y k)))))]) S.1 S.2.1 dX6_degree_72 hl (k := 4) rfl (n_add _ _) (by decide) rfl (fun ls hl => ?_)
              refine lv_goto (pc := 75) (tgt := 5) S.1 S.2.1 dX6_degree_75 (by decide) ?_
              exact ih2 (k + 1) (by omega) (by (intro j h1 h2; by_cases e : j = k; (first | (rw [e]; exact c48) | (exfalso; omega)); exact hlo j (by omega) h2)) (by omega) ls (by rw [cdg_s]; exact lv_sub hl [2, 3, 4, 1, 0] rfl)
            refine lv_iload (pc := 60) S.1 S.2.1 dX6_degree_60 (lv_at hl 0 rfl) ?_
            refine zz_ifb_eq (pc := 62) (tgt := 69) S dX6_degree_62 (by decide) (fun c62 => ?_) (fun c62 => ?_)
            · refine zz_iconst (pc := 69) (v := nI 0) S dX6_degree_69 rfl ?_
              refine zz_cast (v := nI (if P (k / 2) = q ∧ (X a = X k ∧ Y a = Y k) then 1 else 0)) (congrArg nI (by first | rw [if_pos c62] | rw [if_neg c62])) ?_
              exact J4 ls (lv_sub hl [1, 2, 3, 4, 5, 0] rfl)
            · refine zz_iconst (pc := 65) (v := nI 1) S dX6_degree_65 rfl ?_
              refine lv_goto (pc := 66) (tgt := 70) S.1 S.2.1 dX6_degree_66 (by decide) ?_
              refine zz_cast (v := nI (if P (k / 2) = q ∧ (X a = X k ∧ Y a = Y k) then 1 else 0)) (congrArg nI (by first | rw [if_pos c62] | rw [if_neg c62])) ?_
              exact J4 ls (lv_sub hl [1, 2, 3, 4, 5, 0] rfl)
          · refine lv_iload (pc := 51) S.1 S.2.1 dX6_degree_51 (lv_at hl 5 rfl) ?_
            refine lv_iload_n (pc := 53) S.1 S.2.1 dX6_degree_53 rfl (lv_at hl 2 rfl) ?_
            refine zz_icmp_ge (pc := 54) (tgt := 59) S dX6_degree_54 (by decide) (n_le (by omega) (by omega)) (fun c54 => ?_) (fun c54 => ?_)
            · refine lv_iload_n (pc := 59) S.1 S.2.1 dX6_degree_59 rfl (lv_at hl 4 rfl) ?_
              have J5 : ∀ ls : Array Slot, lv_has ls 6 [(0, .ref o), (1, .int (nI a)), (2, .int (nI q)), (3, .int (nI (cdg P X Y q a k))), (4, .int (nI k)), (5, .int (nI (zB (P (k / 2) = q ∧ (X a = X k ∧ Y a = Y k)))))] → W p l e (headSpec wm_X6_degree ({ frames := 2, cells := 0, slots := 0, locals := 43 } : Room)).room s m ([.ref o, .int (nI a), .int (nI q)] : List Value).toArray below meth c s.heap [] 0 0 (MQ below (vp_Si (fun r => r = nI (dgr n P X Y q a))) ([.ref o, .int (nI a), .int (nI q)] : List Value).toArray s 0 0 (fun _ => False)) (F0 m 70 ls [.int (nI (if P (k / 2) = q ∧ (X a = X k ∧ Y a = Y k) then 1 else 0)), .int (nI (cdg P X Y q a k))]) := by
                intro ls hl
                have hif : (if P (k / 2) = q ∧ (X a = X k ∧ Y a = Y k) then 1 else 0) ≤ 1 := by split <;> omega
                refine zz_iadd (pc := 70) (v := nI (cdg P X Y q a k + (if P (k / 2) = q ∧ (X a = X k ∧ Y a = Y k) then 1 else 0))) S dX6_degree_70 (n_add _ _) ?_
                refine lv_istore_n (pc := 71) (lv' := [(3, .int (nI (cdg P X Y q a k + (if P (k / 2) = q ∧ (X a = X k ∧ Y a = Y k) then 1 else 0)))), (0, .ref o), (1, .int (nI a)), (2, .int (nI q)), (4, .int (nI k)), (5, .int (nI (zB (P (k / 2) = q ∧ (X a = X k ∧ Y a = Y k)))))]) S.1 S.2.1 dX6_degree_71 rfl hl (by decide) rfl (fun ls hl => ?_)
                refine lv_iinc (pc := 72) (v := nI (k + 1)) (lv' := [(4, .int (nI (k + 1))), (3, .int (nI (cdg P X Y q a k + (if P (k / 2) = q ∧ (X a = X k ∧ Y a = Y k) then 1 else 0)))), (0, .ref o), (1, .int (nI a)), (2, .int (nI q)), (5, .int (nI (zB (P (k / 2) = q ∧ (X a = X k ∧ Y a = Y k)))))]) S.1 S.2.1 dX6_degree_72 hl (k := 4) rfl (n_add _ _) (by decide) rfl (fun ls hl => ?_)
                refine lv_goto (pc := 75) (tgt := 5) S.1 S.2.1 dX6_degree_75 (by decide) ?_
                exact ih2 (k + 1) (by omega) (by (intro j h1 h2; by_cases e : j = k; (first | (rw [e]; exact c48) | (exfalso; omega)); exact hlo j (by omega) h2)) (by omega) ls (by rw [cdg_s]; exact lv_sub hl [2, 3, 4, 1, 0] rfl)
              refine lv_iload (pc := 60) S.1 S.2.1 dX6_degree_60 (lv_at hl 0 rfl) ?_
              refine zz_ifb_eq (pc := 62) (tgt := 69) S dX6_degree_62 (by decide) (fun c62 => ?_) (fun c62 => ?_)
              · refine zz_iconst (pc := 69) (v := nI 0) S dX6_degree_69 rfl ?_
                refine zz_cast (v := nI (if P (k / 2) = q ∧ (X a = X k ∧ Y a = Y k) then 1 else 0)) (congrArg nI (by first | rw [if_pos c62] | rw [if_neg c62])) ?_
                exact J5 ls (lv_sub hl [1, 2, 3, 4, 5, 0] rfl)
              · refine zz_iconst (pc := 65) (v := nI 1) S dX6_degree_65 rfl ?_
                refine lv_goto (pc := 66) (tgt := 70) S.1 S.2.1 dX6_degree_66 (by decide) ?_
                refine zz_cast (v := nI (if P (k / 2) = q ∧ (X a = X k ∧ Y a = Y k) then 1 else 0)) (congrArg nI (by first | rw [if_pos c62] | rw [if_neg c62])) ?_
                exact J5 ls (lv_sub hl [1, 2, 3, 4, 5, 0] rfl)
            · refine zz_iconst (pc := 57) (v := nI 0) S dX6_degree_57 rfl ?_
              exact zz_iretS (pc := 58) S hr hlocks (congrArg nI (by exact (dgr_lo (show k < a by omega) c48).symm)) dX6_degree_58
        refine lv_aload_n (pc := 19) S.1 S.2.1 dX6_degree_19 rfl (lv_at hl 0 rfl) ?_
        refine lv_iload (pc := 20) S.1 S.2.1 dX6_degree_20 (lv_at hl 4 rfl) ?_
        refine lv_iload_n (pc := 22) S.1 S.2.1 dX6_degree_22 rfl (lv_at hl 2 rfl) ?_
        refine zz_callV (pc := 23) (As := [.int (nI k), .int (nI q)]) (rest := []) S (c_X6_isOfPen l D cI cR o a1 a2 a3 a4 a5 a6 ed C V Ac w n P X Y L k q hge hR hset (by omega) (by omega)) (zuV wd_327 wd_324 wd_325 wd_326 wd_5) 2 rfl q_X6_isOfPen ⟨⟨rfl, rfl⟩, Nat.le_of_ble_eq_true rfl, Nat.le_of_ble_eq_true rfl⟩ hG [0, 1] rfl 0 rfl rfl rfl rfl rfl (Nat.le_of_ble_eq_true rfl) hl.1 ⟨Nat.zero_le _, Nat.zero_le _⟩ dX6_degree_23 ?_
        refine zz_ifb_eq (pc := 26) (tgt := 43) S dX6_degree_26 (by decide) (fun c26 => ?_) (fun c26 => ?_)
        · refine zz_iconst (pc := 43) (v := nI 0) S dX6_degree_43 rfl ?_
          refine zz_cast (v := nI (zB (P (k / 2) = q ∧ (X a = X k ∧ Y a = Y k)))) (congrArg nI (zB_f (by first | exact ⟨c26, c36⟩ | exact (fun z => c26 z.1) | exact (fun z => c36 z.2))).symm) ?_
          exact J3 ls (lv_sub hl [0, 1, 2, 3, 4] rfl)
        · refine lv_aload_n (pc := 29) S.1 S.2.1 dX6_degree_29 rfl (lv_at hl 0 rfl) ?_
          refine lv_iload_n (pc := 30) S.1 S.2.1 dX6_degree_30 rfl (lv_at hl 1 rfl) ?_
          refine lv_iload (pc := 31) S.1 S.2.1 dX6_degree_31 (lv_at hl 4 rfl) ?_
          refine zz_callV (pc := 33) (As := [.int (nI a), .int (nI k)]) (rest := []) S (c_X6_isSamePoint l D cI cR o a1 a2 a3 a4 a5 a6 ed C V Ac w n P X Y L a k hge hR hset (by omega) (by omega)) (zuV wd_331 wd_328 wd_329 wd_330 wd_5) 2 rfl q_X6_isSamePoint ⟨⟨rfl, rfl⟩, Nat.le_of_ble_eq_true rfl, Nat.le_of_ble_eq_true rfl⟩ hG [0, 1] rfl 0 rfl rfl rfl rfl rfl (Nat.le_of_ble_eq_true rfl) hl.1 ⟨Nat.zero_le _, Nat.zero_le _⟩ dX6_degree_33 ?_
          refine zz_ifb_eq (pc := 36) (tgt := 43) S dX6_degree_36 (by decide) (fun c36 => ?_) (fun c36 => ?_)
          · refine zz_iconst (pc := 43) (v := nI 0) S dX6_degree_43 rfl ?_
            refine zz_cast (v := nI (zB (P (k / 2) = q ∧ (X a = X k ∧ Y a = Y k)))) (congrArg nI (zB_f (by first | exact ⟨c26, c36⟩ | exact (fun z => c26 z.1) | exact (fun z => c36 z.2))).symm) ?_
            exact J3 ls (lv_sub hl [0, 1, 2, 3, 4] rfl)
          · refine zz_iconst (pc := 39) (v := nI 1) S dX6_degree_39 rfl ?_
            refine lv_goto (pc := 40) (tgt := 44) S.1 S.2.1 dX6_degree_40 (by decide) ?_
            refine zz_cast (v := nI (zB (P (k / 2) = q ∧ (X a = X k ∧ Y a = Y k)))) (congrArg nI (zB_t (by first | exact ⟨c26, c36⟩ | exact (fun z => c26 z.1) | exact (fun z => c36 z.2))).symm) ?_
            exact J3 ls (lv_sub hl [0, 1, 2, 3, 4] rfl)
  exact L1 (2 * n - 0 + 1) 0 (by omega) (by intro j h1 h2; omega) (Nat.lt_succ_self _) ls (lv_sub hl [2, 3, 4, 1, 0] rfl)
abbrev wm_X6_joins : List Cond := .code yX6_joins cX6_joins 7 none :: wU
theorem q_X6_joins : yX6_joins.cls = RX6 ∧ yX6_joins.cls ≠ "java/lang/invoke/MethodHandle" ∧ yX6_joins.cls ≠ "java/lang/invoke/VarHandle" ∧ (parseMethodDescriptor yX6_joins.desc).map (fun d => d.parameters.length) = some 1 := by decide +kernel
set_option maxHeartbeats 4000000 in
set_option maxRecDepth 100000 in
theorem c_X6_joins (l : Launch) (D : va_G) (cI cR : ClassId) (o a1 a2 a3 a4 a5 a6 ed C V Ac : Nat) (w : Nat → Nat) (nt : Nat → Nat) (n : Nat) (P X Y L : Nat → Nat) (q : Nat) (sz : Nat) (hge : zGe n P X Y) (hR : zRl w n P X Y L) (hset : zSt C V Ac) (hq : q ≤ 3) : Met l yX6_joins wm_X6_joins ({ frames := 2, cells := 0, slots := 0, locals := 43 } : Room) (va_Pc [.ref o, .int (nI q)] (zX D cI cR [(o, .inr (6, [.ref a1, .ref a2, .int (nI ed), .int (nI C), .int (nI V), .int (nI Ac), .ref a3, .ref a4, .ref a5, .ref a6])), (a1, zA cI 49 w), (a5, zA cI 16 nt)] sz)) (zQv D cI cR (va_A [(o, .inr (6, [.ref a1, .ref a2, .int (nI ed), .int (nI C), .int (nI V), .int (nI Ac), .ref a3, .ref a4, .ref a5, .ref a6])), (a1, zA cI 49 w), (a5, zA cI 16 nt)] sz) (fun w0 => ∃ (nt5 : Nat → Nat), w0 = [(o, .inr (6, [.ref a1, .ref a2, .int (nI ed), .int (nI C), .int (nI V), .int (nI Ac), .ref a3, .ref a4, .ref a5, .ref a6])), (a1, zA cI 49 w), (a5, zA cI 16 nt5)] ∧ (∀ j, j < 2 * n → nt5 j = mun P X Y q n j))) 0 0 (va_A [(o, .inr (6, [.ref a1, .ref a2, .int (nI ed), .int (nI C), .int (nI V), .int (nI Ac), .ref a3, .ref a4, .ref a5, .ref a6])), (a1, zA cI 49 w), (a5, zA cI 16 nt)] sz) := by
  refine Met.ofW (cc := cX6_joins) (maxL := 7) (ret := none) (by decide) rfl ?_
  intro p e s m args below meth c s₁ B hml hv
  obtain ⟨rfl, hsz, hG, hD0⟩ := hv
  have S : CallFix p m c cX6_joins 7 s ([.ref o, .int (nI q)] : List Value).toArray wU RX6 := ⟨B.exec, B.bytes, hml, findClass_of_methodNamed B.named, fun w h => atoms_spec (ws := wm_X6_joins) B.pre w (List.mem_cons_of_mem _ h)⟩
  have hr := B.returns
  have hlocks := B.notSynchronized
  subst hsz
  have hD := hD0.self (sz := s.heap.size)
  generalize hAe : va_A [(o, .inr (6, [.ref a1, .ref a2, .int (nI ed), .int (nI C), .int (nI V), .int (nI Ac), .ref a3, .ref a4, .ref a5, .ref a6])), (a1, zA cI 49 w), (a5, zA cI 16 nt)] s.heap.size = A at hD ⊢
  have hV : zV D cI cR A [(o, .inr (6, [.ref a1, .ref a2, .int (nI ed), .int (nI C), .int (nI V), .int (nI Ac), .ref a3, .ref a4, .ref a5, .ref a6])), (a1, zA cI 49 w), (a5, zA cI 16 nt)] s s.heap [] := ⟨hG, hD, va_S.rf, fun q h => by rw [← hAe]; exact Or.inr h⟩
  have hl := lv_entry ([.ref o, .int (nI q)]) (n := 7) (Nat.le_of_ble_eq_true rfl)
  rw [lg_entry_eq]
  generalize (lg_sl ([.ref o, .int (nI q)]) ++ List.replicate (7 - (lg_sl ([.ref o, .int (nI q)])).length) Slot.unset).toArray = ls at hl ⊢
  have hl : lv_has ls 7 [(0, .ref o), (1, .int (nI q))] := hl
  obtain ⟨hn, hPf, hXY⟩ := id hge
  obtain ⟨hC, hV9, hA9⟩ := id hset
  refine zz_iconst (pc := 0) (v := nI 2) S dX6_joins_0 rfl ?_
  refine lv_aload_n (pc := 1) S.1 S.2.1 dX6_joins_1 rfl (lv_at hl 0 rfl) ?_
  refine zz_get (pc := 2) S hV.1 iX6 0 rfl rfl 0 (by decide) wd_67 rfl rfl dX6_joins_2 ?_
  refine zz_bipush (pc := 5) (v := nI 48) S dX6_joins_5 rfl ?_
  refine zz_iald (pc := 7) (k := 48) S hV.1 1 rfl (by omega) dX6_joins_7 ?_
  refine zz_cast (v := nI n) (congrArg nI hR.1) ?_
  refine zz_imul (pc := 8) (v := nI (2 * n)) S dX6_joins_8 (n_mul _ _) ?_
  refine lv_istore_n (pc := 9) (lv' := [(2, .int (nI (2 * n))), (0, .ref o), (1, .int (nI q))]) S.1 S.2.1 dX6_joins_9 rfl hl (by decide) rfl (fun ls hl => ?_)
  refine zz_iconst (pc := 10) (v := nI 0) S dX6_joins_10 rfl ?_
  refine lv_istore_n (pc := 11) (lv' := [(3, .int (nI 0)), (2, .int (nI (2 * n))), (0, .ref o), (1, .int (nI q))]) S.1 S.2.1 dX6_joins_11 rfl hl (by decide) rfl (fun ls hl => ?_)
  have L1 : ∀ (f : Nat) (k : Nat), (k ≤ 2 * n) → 2 * n - k < f → ∀ (H : Heap) (locs : List Loc), zV D cI cR A [(o, .inr (6, [.ref a1, .ref a2, .int (nI ed), .int (nI C), .int (nI V), .int (nI Ac), .ref a3, .ref a4, .ref a5, .ref a6])), (a1, zA cI 49 w), (a5, zA cI 16 (idr nt k))] s H locs → ∀ ls : Array Slot, lv_has ls 7 [(0, .ref o), (1, .int (nI q)), (2, .int (nI (2 * n))), (3, .int (nI k))] → W p l e (headSpec wm_X6_joins ({ frames := 2, cells := 0, slots := 0, locals := 43 } : Room)).room s m ([.ref o, .int (nI q)] : List Value).toArray below meth c H locs 0 0 (MQ below (zQv D cI cR A (fun w0 => ∃ (nt5 : Nat → Nat), w0 = [(o, .inr (6, [.ref a1, .ref a2, .int (nI ed), .int (nI C), .int (nI V), .int (nI Ac), .ref a3, .ref a4, .ref a5, .ref a6])), (a1, zA cI 49 w), (a5, zA cI 16 nt5)] ∧ (∀ j, j < 2 * n → nt5 j = mun P X Y q n j))) ([.ref o, .int (nI q)] : List Value).toArray s 0 0 A) (F0 m 12 ls []) := by
    intro f
    induction f with
    | zero => intro k hk hf; exact absurd hf (Nat.not_lt_zero _)
    | succ f ih2 =>
      intro k hk hf H locs hV ls hl
      refine lv_iload_n (pc := 12) S.1 S.2.1 dX6_joins_12 rfl (lv_at hl 3 rfl) ?_
      refine lv_iload_n (pc := 13) S.1 S.2.1 dX6_joins_13 rfl (lv_at hl 2 rfl) ?_
      refine zz_icmp_ge (pc := 14) (tgt := 30) S dX6_joins_14 (by decide) (n_le (by omega) (by omega)) (fun c14 => ?_) (fun c14 => ?_)
      · refine zz_iconst (pc := 30) (v := nI 0) S dX6_joins_30 rfl ?_
        refine lv_istore_n (pc := 31) (lv' := [(3, .int (nI 0)), (0, .ref o), (1, .int (nI q)), (2, .int (nI (2 * n)))]) S.1 S.2.1 dX6_joins_31 rfl hl (by decide) rfl (fun ls hl => ?_)
        have L3 : ∀ (f : Nat) (T : Nat) (r : Nat → Nat), (T ≤ 2 * n) → (ntI P X Y q n r) → ((∀ i, i < 2 * n → r i = mun P X Y q n i) ∨ T ≤ gdc P X Y q n r) → 2 * n - T < f → ∀ (H : Heap) (locs : List Loc), zV D cI cR A [(o, .inr (6, [.ref a1, .ref a2, .int (nI ed), .int (nI C), .int (nI V), .int (nI Ac), .ref a3, .ref a4, .ref a5, .ref a6])), (a1, zA cI 49 w), (a5, zA cI 16 r)] s H locs → ∀ ls : Array Slot, lv_has ls 7 [(0, .ref o), (1, .int (nI q)), (2, .int (nI (2 * n))), (3, .int (nI T))] → W p l e (headSpec wm_X6_joins ({ frames := 2, cells := 0, slots := 0, locals := 43 } : Room)).room s m ([.ref o, .int (nI q)] : List Value).toArray below meth c H locs 0 0 (MQ below (zQv D cI cR A (fun w0 => ∃ (nt5 : Nat → Nat), w0 = [(o, .inr (6, [.ref a1, .ref a2, .int (nI ed), .int (nI C), .int (nI V), .int (nI Ac), .ref a3, .ref a4, .ref a5, .ref a6])), (a1, zA cI 49 w), (a5, zA cI 16 nt5)] ∧ (∀ j, j < 2 * n → nt5 j = mun P X Y q n j))) ([.ref o, .int (nI q)] : List Value).toArray s 0 0 A) (F0 m 32 ls []) := by
          intro f
          induction f with
          | zero => intro T r hT hI hG2 hf; exact absurd hf (Nat.not_lt_zero _)
          | succ f ih4 =>
            intro T r hT hI hG2 hf H locs hV ls hl
            refine lv_iload_n (pc := 32) S.1 S.2.1 dX6_joins_32 rfl (lv_at hl 3 rfl) ?_
            refine lv_iload_n (pc := 33) S.1 S.2.1 dX6_joins_33 rfl (lv_at hl 2 rfl) ?_
            refine zz_icmp_ge (pc := 34) (tgt := 168) S dX6_joins_34 (by decide) (n_le (by omega) (by omega)) (fun c34 => ?_) (fun c34 => ?_)
            · exact zz_vretM (pc := 168) S hr hlocks hV (⟨r, rfl, (by exact gdc_all (hG2.elim Or.inl (fun z => Or.inr (by omega))))⟩) dX6_joins_168
            · refine zz_iconst (pc := 37) (v := nI 0) S dX6_joins_37 rfl ?_
              refine lv_istore (pc := 38) (lv' := [(4, .int (nI 0)), (0, .ref o), (1, .int (nI q)), (2, .int (nI (2 * n))), (3, .int (nI T))]) S.1 S.2.1 dX6_joins_38 hl (by decide) rfl (fun ls hl => ?_)
              have L5 : ∀ (f : Nat) (i : Nat) (r2 : Nat → Nat), (i ≤ 2 * n) → (jnn P X Y q n r r2 i 0) → 2 * n - i < f → ∀ (H : Heap) (locs : List Loc), zV D cI cR A [(o, .inr (6, [.ref a1, .ref a2, .int (nI ed), .int (nI C), .int (nI V), .int (nI Ac), .ref a3, .ref a4, .ref a5, .ref a6])), (a1, zA cI 49 w), (a5, zA cI 16 r2)] s H locs → ∀ ls : Array Slot, lv_has ls 7 [(0, .ref o), (1, .int (nI q)), (2, .int (nI (2 * n))), (3, .int (nI T)), (4, .int (nI i))] → W p l e (headSpec wm_X6_joins ({ frames := 2, cells := 0, slots := 0, locals := 43 } : Room)).room s m ([.ref o, .int (nI q)] : List Value).toArray below meth c H locs 0 0 (MQ below (zQv D cI cR A (fun w0 => ∃ (nt5 : Nat → Nat), w0 = [(o, .inr (6, [.ref a1, .ref a2, .int (nI ed), .int (nI C), .int (nI V), .int (nI Ac), .ref a3, .ref a4, .ref a5, .ref a6])), (a1, zA cI 49 w), (a5, zA cI 16 nt5)] ∧ (∀ j, j < 2 * n → nt5 j = mun P X Y q n j))) ([.ref o, .int (nI q)] : List Value).toArray s 0 0 A) (F0 m 40 ls []) := by
                intro f
                induction f with
                | zero => intro i r2 hi hJ hf; exact absurd hf (Nat.not_lt_zero _)
                | succ f ih6 =>
                  intro i r2 hi hJ hf H locs hV ls hl
                  refine lv_iload (pc := 40) S.1 S.2.1 dX6_joins_40 (lv_at hl 4 rfl) ?_
                  refine lv_iload_n (pc := 42) S.1 S.2.1 dX6_joins_42 rfl (lv_at hl 2 rfl) ?_
                  refine zz_icmp_ge (pc := 43) (tgt := 162) S dX6_joins_43 (by decide) (n_le (by omega) (by omega)) (fun c43 => ?_) (fun c43 => ?_)
                  · refine lv_iinc (pc := 162) (v := nI (T + 1)) (lv' := [(3, .int (nI (T + 1))), (0, .ref o), (1, .int (nI q)), (2, .int (nI (2 * n))), (4, .int (nI i))]) S.1 S.2.1 dX6_joins_162 hl (k := 3) rfl (n_add _ _) (by decide) rfl (fun ls hl => ?_)
                    refine lv_goto (pc := 165) (tgt := 32) S.1 S.2.1 dX6_joins_165 (by decide) ?_
                    exact ih4 (T + 1) r2 (by omega) (by exact hJ.1) (by exact jnn_end hI (by rw [show 2 * n = i by omega]; exact hJ) hG2) (by omega) H locs hV ls (lv_sub hl [1, 2, 3, 0] rfl)
                  · refine zz_iconst (pc := 46) (v := nI 0) S dX6_joins_46 rfl ?_
                    refine lv_istore (pc := 47) (lv' := [(5, .int (nI 0)), (0, .ref o), (1, .int (nI q)), (2, .int (nI (2 * n))), (3, .int (nI T)), (4, .int (nI i))]) S.1 S.2.1 dX6_joins_47 hl (by decide) rfl (fun ls hl => ?_)
                    have L7 : ∀ (f : Nat) (j : Nat) (r3 : Nat → Nat), (j ≤ 2 * n) → (jnn P X Y q n r r3 i j) → 2 * n - j < f → ∀ (H : Heap) (locs : List Loc), zV D cI cR A [(o, .inr (6, [.ref a1, .ref a2, .int (nI ed), .int (nI C), .int (nI V), .int (nI Ac), .ref a3, .ref a4, .ref a5, .ref a6])), (a1, zA cI 49 w), (a5, zA cI 16 r3)] s H locs → ∀ ls : Array Slot, lv_has ls 7 [(0, .ref o), (1, .int (nI q)), (2, .int (nI (2 * n))), (3, .int (nI T)), (4, .int (nI i)), (5, .int (nI j))] → W p l e (headSpec wm_X6_joins ({ frames := 2, cells := 0, slots := 0, locals := 43 } : Room)).room s m ([.ref o, .int (nI q)] : List Value).toArray below meth c H locs 0 0 (MQ below (zQv D cI cR A (fun w0 => ∃ (nt5 : Nat → Nat), w0 = [(o, .inr (6, [.ref a1, .ref a2, .int (nI ed), .int (nI C), .int (nI V), .int (nI Ac), .ref a3, .ref a4, .ref a5, .ref a6])), (a1, zA cI 49 w), (a5, zA cI 16 nt5)] ∧ (∀ j, j < 2 * n → nt5 j = mun P X Y q n j))) ([.ref o, .int (nI q)] : List Value).toArray s 0 0 A) (F0 m 49 ls []) := by
                      intro f
                      induction f with
                      | zero => intro j r3 hj hK hf; exact absurd hf (Nat.not_lt_zero _)
                      | succ f ih8 =>
                        intro j r3 hj hK hf H locs hV ls hl
                        refine lv_iload (pc := 49) S.1 S.2.1 dX6_joins_49 (lv_at hl 5 rfl) ?_
                        refine lv_iload_n (pc := 51) S.1 S.2.1 dX6_joins_51 rfl (lv_at hl 2 rfl) ?_
                        refine zz_icmp_ge (pc := 52) (tgt := 156) S dX6_joins_52 (by decide) (n_le (by omega) (by omega)) (fun c52 => ?_) (fun c52 => ?_)
                        · refine lv_iinc (pc := 156) (v := nI (i + 1)) (lv' := [(4, .int (nI (i + 1))), (0, .ref o), (1, .int (nI q)), (2, .int (nI (2 * n))), (3, .int (nI T)), (5, .int (nI j))]) S.1 S.2.1 dX6_joins_156 hl (k := 4) rfl (n_add _ _) (by decide) rfl (fun ls hl => ?_)
                          refine lv_goto (pc := 159) (tgt := 40) S.1 S.2.1 dX6_joins_159 (by decide) ?_
                          exact ih6 (i + 1) r3 (by omega) (by exact jnn_n hK (by omega)) (by omega) H locs hV ls (lv_sub hl [1, 2, 3, 4, 0] rfl)
                        · have hb1 := (hK.1 i (by omega)).1
                          have hb2 := (hK.1 j (by omega)).1
                          have J9 : ∀ ls : Array Slot, lv_has ls 7 [(0, .ref o), (1, .int (nI q)), (2, .int (nI (2 * n))), (3, .int (nI T)), (4, .int (nI i)), (5, .int (nI j))] → W p l e (headSpec wm_X6_joins ({ frames := 2, cells := 0, slots := 0, locals := 43 } : Room)).room s m ([.ref o, .int (nI q)] : List Value).toArray below meth c H locs 0 0 (MQ below (zQv D cI cR A (fun w0 => ∃ (nt5 : Nat → Nat), w0 = [(o, .inr (6, [.ref a1, .ref a2, .int (nI ed), .int (nI C), .int (nI V), .int (nI Ac), .ref a3, .ref a4, .ref a5, .ref a6])), (a1, zA cI 49 w), (a5, zA cI 16 nt5)] ∧ (∀ j, j < 2 * n → nt5 j = mun P X Y q n j))) ([.ref o, .int (nI q)] : List Value).toArray s 0 0 A) (F0 m 102 ls [.int (nI (zB (rlc P X Y q i j)))]) := by
                            intro ls hl
                            refine lv_istore (pc := 102) (lv' := [(6, .int (nI (zB (rlc P X Y q i j)))), (0, .ref o), (1, .int (nI q)), (2, .int (nI (2 * n))), (3, .int (nI T)), (4, .int (nI i)), (5, .int (nI j))]) S.1 S.2.1 dX6_joins_102 hl (by decide) rfl (fun ls hl => ?_)
                            refine lv_aload_n (pc := 104) S.1 S.2.1 dX6_joins_104 rfl (lv_at hl 1 rfl) ?_
                            refine zz_get (pc := 105) S hV.1 iX6 0 rfl rfl 8 (by decide) wd_74 rfl rfl dX6_joins_105 ?_
                            refine lv_iload (pc := 108) S.1 S.2.1 dX6_joins_108 (lv_at hl 5 rfl) ?_
                            have J10 : ∀ ls : Array Slot, lv_has ls 7 [(0, .ref o), (1, .int (nI q)), (2, .int (nI (2 * n))), (3, .int (nI T)), (4, .int (nI i)), (5, .int (nI j)), (6, .int (nI (zB (rlc P X Y q i j))))] → W p l e (headSpec wm_X6_joins ({ frames := 2, cells := 0, slots := 0, locals := 43 } : Room)).room s m ([.ref o, .int (nI q)] : List Value).toArray below meth c H locs 0 0 (MQ below (zQv D cI cR A (fun w0 => ∃ (nt5 : Nat → Nat), w0 = [(o, .inr (6, [.ref a1, .ref a2, .int (nI ed), .int (nI C), .int (nI V), .int (nI Ac), .ref a3, .ref a4, .ref a5, .ref a6])), (a1, zA cI 49 w), (a5, zA cI 16 nt5)] ∧ (∀ j, j < 2 * n → nt5 j = mun P X Y q n j))) ([.ref o, .int (nI q)] : List Value).toArray s 0 0 A) (F0 m 149 ls [.int (nI (if rlc P X Y q i j ∧ r3 j < r3 i then r3 j else r3 i)), .int (nI i), .ref a5]) := by
                              intro ls hl
                              refine zz_iast (pc := 149) (k := i) (v := if rlc P X Y q i j ∧ r3 j < r3 i then r3 j else r3 i) S hV 2 rfl (by omega) (ws' := [(o, .inr (6, [.ref a1, .ref a2, .int (nI ed), .int (nI C), .int (nI V), .int (nI Ac), .ref a3, .ref a4, .ref a5, .ref a6])), (a1, zA cI 49 w), (a5, zA cI 16 (va_up r3 i (if rlc P X Y q i j ∧ r3 j < r3 i then r3 j else r3 i)))]) rfl dX6_joins_149 (fun H locs hV => ?_)
                              refine lv_iinc (pc := 150) (v := nI (j + 1)) (lv' := [(5, .int (nI (j + 1))), (0, .ref o), (1, .int (nI q)), (2, .int (nI (2 * n))), (3, .int (nI T)), (4, .int (nI i)), (6, .int (nI (zB (rlc P X Y q i j))))]) S.1 S.2.1 dX6_joins_150 hl (k := 5) rfl (n_add _ _) (by decide) rfl (fun ls hl => ?_)
                              refine lv_goto (pc := 153) (tgt := 49) S.1 S.2.1 dX6_joins_153 (by decide) ?_
                              have hV : zV D cI cR A [(o, .inr (6, [.ref a1, .ref a2, .int (nI ed), .int (nI C), .int (nI V), .int (nI Ac), .ref a3, .ref a4, .ref a5, .ref a6])), (a1, zA cI 49 w), (a5, zA cI 16 (va_up r3 i (if rlc P X Y q i j ∧ r3 j < r3 i then r3 j else r3 i)))] s H locs := hV.arr 2 rfl (fun j hj => by rfl) rfl
                              exact ih8 (j + 1) (va_up r3 i (if rlc P X Y q i j ∧ r3 j < r3 i then r3 j else r3 i)) (by omega) (by exact jnn_s hK (by omega) (by omega) rfl) (by omega) H locs hV ls (lv_sub hl [1, 2, 3, 4, 5, 0] rfl)
                            refine lv_iload (pc := 110) S.1 S.2.1 dX6_joins_110 (lv_at hl 0 rfl) ?_
                            refine zz_ifb_eq (pc := 112) (tgt := 142) S dX6_joins_112 (by decide) (fun c112 => ?_) (fun c112 => ?_)
                            · refine lv_aload_n (pc := 142) S.1 S.2.1 dX6_joins_142 rfl (lv_at hl 1 rfl) ?_
                              refine zz_get (pc := 143) S hV.1 iX6 0 rfl rfl 8 (by decide) wd_74 rfl rfl dX6_joins_143 ?_
                              refine lv_iload (pc := 146) S.1 S.2.1 dX6_joins_146 (lv_at hl 5 rfl) ?_
                              refine zz_iald (pc := 148) (k := i) S hV.1 2 rfl (by omega) dX6_joins_148 ?_
                              refine zz_cast (v := nI (if rlc P X Y q i j ∧ r3 j < r3 i then r3 j else r3 i)) (congrArg nI (by first | rw [if_neg (fun z => c112 z.1)] | rw [if_pos ⟨c112, by omega⟩] | rw [if_neg (fun z => absurd z.2 (by omega))])) ?_
                              exact J10 ls (lv_sub hl [1, 2, 3, 4, 5, 6, 0] rfl)
                            · refine lv_aload_n (pc := 115) S.1 S.2.1 dX6_joins_115 rfl (lv_at hl 1 rfl) ?_
                              refine zz_get (pc := 116) S hV.1 iX6 0 rfl rfl 8 (by decide) wd_74 rfl rfl dX6_joins_116 ?_
                              refine lv_iload (pc := 119) S.1 S.2.1 dX6_joins_119 (lv_at hl 6 rfl) ?_
                              refine zz_iald (pc := 121) (k := j) S hV.1 2 rfl (by omega) dX6_joins_121 ?_
                              refine lv_aload_n (pc := 122) S.1 S.2.1 dX6_joins_122 rfl (lv_at hl 1 rfl) ?_
                              refine zz_get (pc := 123) S hV.1 iX6 0 rfl rfl 8 (by decide) wd_74 rfl rfl dX6_joins_123 ?_
                              refine lv_iload (pc := 126) S.1 S.2.1 dX6_joins_126 (lv_at hl 5 rfl) ?_
                              refine zz_iald (pc := 128) (k := i) S hV.1 2 rfl (by omega) dX6_joins_128 ?_
                              refine zz_icmp_ge (pc := 129) (tgt := 142) S dX6_joins_129 (by decide) (n_le (by omega) (by omega)) (fun c129 => ?_) (fun c129 => ?_)
                              · refine lv_aload_n (pc := 142) S.1 S.2.1 dX6_joins_142 rfl (lv_at hl 1 rfl) ?_
                                refine zz_get (pc := 143) S hV.1 iX6 0 rfl rfl 8 (by decide) wd_74 rfl rfl dX6_joins_143 ?_
                                refine lv_iload (pc := 146) S.1 S.2.1 dX6_joins_146 (lv_at hl 5 rfl) ?_
                                refine zz_iald (pc := 148) (k := i) S hV.1 2 rfl (by omega) dX6_joins_148 ?_
                                refine zz_cast (v := nI (if rlc P X Y q i j ∧ r3 j < r3 i then r3 j else r3 i)) (congrArg nI (by first | rw [if_neg (fun z => c112 z.1)] | rw [if_pos ⟨c112, by omega⟩] | rw [if_neg (fun z => absurd z.2 (by omega))])) ?_
                                exact J10 ls (lv_sub hl [1, 2, 3, 4, 5, 6, 0] rfl)
                              · refine lv_aload_n (pc := 132) S.1 S.2.1 dX6_joins_132 rfl (lv_at hl 1 rfl) ?_
                                refine zz_get (pc := 133) S hV.1 iX6 0 rfl rfl 8 (by decide) wd_74 rfl rfl dX6_joins_133 ?_
                                refine lv_iload (pc := 136) S.1 S.2.1 dX6_joins_136 (lv_at hl 6 rfl) ?_
                                refine zz_iald (pc := 138) (k := j) S hV.1 2 rfl (by omega) dX6_joins_138 ?_
                                refine lv_goto (pc := 139) (tgt := 149) S.1 S.2.1 dX6_joins_139 (by decide) ?_
                                refine zz_cast (v := nI (if rlc P X Y q i j ∧ r3 j < r3 i then r3 j else r3 i)) (congrArg nI (by first | rw [if_neg (fun z => c112 z.1)] | rw [if_pos ⟨c112, by omega⟩] | rw [if_neg (fun z => absurd z.2 (by omega))])) ?_
                                exact J10 ls (lv_sub hl [1, 2, 3, 4, 5, 6, 0] rfl)
                          refine lv_aload_n (pc := 55) S.1 S.2.1 dX6_joins_55 rfl (lv_at hl 0 rfl) ?_
                          refine lv_iload (pc := 56) S.1 S.2.1 dX6_joins_56 (lv_at hl 4 rfl) ?_
                          refine lv_iload_n (pc := 58) S.1 S.2.1 dX6_joins_58 rfl (lv_at hl 1 rfl) ?_
                          refine zz_callV (pc := 59) (As := [.int (nI i), .int (nI q)]) (rest := []) S (c_X6_isOfPen l D cI cR o a1 a2 a3 a4 a5 a6 ed C V Ac w n P X Y L i q hge hR hset (by omega) (by omega)) (zuV wd_327 wd_324 wd_325 wd_326 wd_5) 2 rfl q_X6_isOfPen ⟨⟨rfl, rfl⟩, Nat.le_of_ble_eq_true rfl, Nat.le_of_ble_eq_true rfl⟩ hV.1 [0, 1] rfl 0 rfl rfl rfl rfl rfl (Nat.le_of_ble_eq_true rfl) hl.1 ⟨Nat.zero_le _, Nat.zero_le _⟩ dX6_joins_59 ?_
                          refine zz_ifb_eq (pc := 62) (tgt := 101) S dX6_joins_62 (by decide) (fun c62 => ?_) (fun c62 => ?_)
                          · refine zz_iconst (pc := 101) (v := nI 0) S dX6_joins_101 rfl ?_
                            refine zz_cast (v := nI (zB (rlc P X Y q i j))) (congrArg nI (zB_f (by first | exact ⟨c62, c72, Or.inl c83⟩ | exact ⟨c62, c72, Or.inr c94⟩ | exact (fun z => c62 z.1) | exact (fun z => c72 z.2.1) | exact (fun z => z.2.2.elim c83 c94))).symm) ?_
                            exact J9 ls (lv_sub hl [0, 1, 2, 3, 4, 5] rfl)
                          · refine lv_aload_n (pc := 65) S.1 S.2.1 dX6_joins_65 rfl (lv_at hl 0 rfl) ?_
                            refine lv_iload (pc := 66) S.1 S.2.1 dX6_joins_66 (lv_at hl 5 rfl) ?_
                            refine lv_iload_n (pc := 68) S.1 S.2.1 dX6_joins_68 rfl (lv_at hl 1 rfl) ?_
                            refine zz_callV (pc := 69) (As := [.int (nI j), .int (nI q)]) (rest := []) S (c_X6_isOfPen l D cI cR o a1 a2 a3 a4 a5 a6 ed C V Ac w n P X Y L j q hge hR hset (by omega) (by omega)) (zuV wd_327 wd_324 wd_325 wd_326 wd_5) 2 rfl q_X6_isOfPen ⟨⟨rfl, rfl⟩, Nat.le_of_ble_eq_true rfl, Nat.le_of_ble_eq_true rfl⟩ hV.1 [0, 1] rfl 0 rfl rfl rfl rfl rfl (Nat.le_of_ble_eq_true rfl) hl.1 ⟨Nat.zero_le _, Nat.zero_le _⟩ dX6_joins_69 ?_
                            refine zz_ifb_eq (pc := 72) (tgt := 101) S dX6_joins_72 (by decide) (fun c72 => ?_) (fun c72 => ?_)
                            · refine zz_iconst (pc := 101) (v := nI 0) S dX6_joins_101 rfl ?_
                              refine zz_cast (v := nI (zB (rlc P X Y q i j))) (congrArg nI (zB_f (by first | exact ⟨c62, c72, Or.inl c83⟩ | exact ⟨c62, c72, Or.inr c94⟩ | exact (fun z => c62 z.1) | exact (fun z => c72 z.2.1) | exact (fun z => z.2.2.elim c83 c94))).symm) ?_
                              exact J9 ls (lv_sub hl [0, 1, 2, 3, 4, 5] rfl)
                            · refine lv_iload (pc := 75) S.1 S.2.1 dX6_joins_75 (lv_at hl 4 rfl) ?_
                              refine zz_iconst (pc := 77) (v := nI 2) S dX6_joins_77 rfl ?_
                              refine zz_idiv (pc := 78) (v := nI (i / 2)) S dX6_joins_78 (by decide) (n_div (by omega) (by decide) (by decide)) ?_
                              refine lv_iload (pc := 79) S.1 S.2.1 dX6_joins_79 (lv_at hl 5 rfl) ?_
                              refine zz_iconst (pc := 81) (v := nI 2) S dX6_joins_81 rfl ?_
                              refine zz_idiv (pc := 82) (v := nI (j / 2)) S dX6_joins_82 (by decide) (n_div (by omega) (by decide) (by decide)) ?_
                              refine zz_icmp_eq (pc := 83) (tgt := 97) S dX6_joins_83 (by decide) (n_eq (by omega) (by omega)) (fun c83 => ?_) (fun c83 => ?_)
                              · refine zz_iconst (pc := 97) (v := nI 1) S dX6_joins_97 rfl ?_
                                refine lv_goto (pc := 98) (tgt := 102) S.1 S.2.1 dX6_joins_98 (by decide) ?_
                                refine zz_cast (v := nI (zB (rlc P X Y q i j))) (congrArg nI (zB_t (by first | exact ⟨c62, c72, Or.inl c83⟩ | exact ⟨c62, c72, Or.inr c94⟩ | exact (fun z => c62 z.1) | exact (fun z => c72 z.2.1) | exact (fun z => z.2.2.elim c83 c94))).symm) ?_
                                exact J9 ls (lv_sub hl [0, 1, 2, 3, 4, 5] rfl)
                              · refine lv_aload_n (pc := 86) S.1 S.2.1 dX6_joins_86 rfl (lv_at hl 0 rfl) ?_
                                refine lv_iload (pc := 87) S.1 S.2.1 dX6_joins_87 (lv_at hl 4 rfl) ?_
                                refine lv_iload (pc := 89) S.1 S.2.1 dX6_joins_89 (lv_at hl 5 rfl) ?_
                                refine zz_callV (pc := 91) (As := [.int (nI i), .int (nI j)]) (rest := []) S (c_X6_isSamePoint l D cI cR o a1 a2 a3 a4 a5 a6 ed C V Ac w n P X Y L i j hge hR hset (by omega) (by omega)) (zuV wd_331 wd_328 wd_329 wd_330 wd_5) 2 rfl q_X6_isSamePoint ⟨⟨rfl, rfl⟩, Nat.le_of_ble_eq_true rfl, Nat.le_of_ble_eq_true rfl⟩ hV.1 [0, 1] rfl 0 rfl rfl rfl rfl rfl (Nat.le_of_ble_eq_true rfl) hl.1 ⟨Nat.zero_le _, Nat.zero_le _⟩ dX6_joins_91 ?_
                                refine zz_ifb_eq (pc := 94) (tgt := 101) S dX6_joins_94 (by decide) (fun c94 => ?_) (fun c94 => ?_)
                                · refine zz_iconst (pc := 101) (v := nI 0) S dX6_joins_101 rfl ?_
                                  refine zz_cast (v := nI (zB (rlc P X Y q i j))) (congrArg nI (zB_f (by first | exact ⟨c62, c72, Or.inl c83⟩ | exact ⟨c62, c72, Or.inr c94⟩ | exact (fun z => c62 z.1) | exact (fun z => c72 z.2.1) | exact (fun z => z.2.2.elim c83 c94))).symm) ?_
                                  exact J9 ls (lv_sub hl [0, 1, 2, 3, 4, 5] rfl)
                                · refine zz_iconst (pc := 97) (v := nI 1) S dX6_joins_97 rfl ?_
                                  refine lv_goto (pc := 98) (tgt := 102) S.1 S.2.1 dX6_joins_98 (by decide) ?_
                                  refine zz_cast (v := nI (zB (rlc P X Y q i j))) (congrArg nI (zB_t (by first | exact ⟨c62, c72, Or.inl c83⟩ | exact ⟨c62, c72, Or.inr c94⟩ | exact (fun z => c62 z.1) | exact (fun z => c72 z.2.1) | exact (fun z => z.2.2.elim c83 c94))).symm) ?_
                                  exact J9 ls (lv_sub hl [0, 1, 2, 3, 4, 5] rfl)
                    exact L7 (2 * n - 0 + 1) 0 r2 (by omega) (by exact hJ) (Nat.lt_succ_self _) H locs hV ls (lv_sub hl [1, 2, 3, 4, 5, 0] rfl)
              exact L5 (2 * n - 0 + 1) 0 r (by omega) (by exact jnn_0 hI) (Nat.lt_succ_self _) H locs hV ls (lv_sub hl [1, 2, 3, 4, 0] rfl)
        have hV : zV D cI cR A [(o, .inr (6, [.ref a1, .ref a2, .int (nI ed), .int (nI C), .int (nI V), .int (nI Ac), .ref a3, .ref a4, .ref a5, .ref a6])), (a1, zA cI 49 w), (a5, zA cI 16 (idr nt k))] s H locs := hV.arr 2 rfl (fun j hj => by rfl) rfl
        exact L3 (2 * n - 0 + 1) 0 (idr nt k) (by omega) (by exact ntI_0 (fun i hi => if_pos (by omega))) (by exact Or.inr (Nat.zero_le _)) (Nat.lt_succ_self _) H locs hV ls (lv_sub hl [1, 2, 3, 0] rfl)
      · refine lv_aload_n (pc := 17) S.1 S.2.1 dX6_joins_17 rfl (lv_at hl 0 rfl) ?_
        refine zz_get (pc := 18) S hV.1 iX6 0 rfl rfl 8 (by decide) wd_74 rfl rfl dX6_joins_18 ?_
        refine lv_iload_n (pc := 21) S.1 S.2.1 dX6_joins_21 rfl (lv_at hl 3 rfl) ?_
        refine lv_iload_n (pc := 22) S.1 S.2.1 dX6_joins_22 rfl (lv_at hl 3 rfl) ?_
        refine zz_iast (pc := 23) (k := k) (v := k) S hV 2 rfl (by omega) (ws' := [(o, .inr (6, [.ref a1, .ref a2, .int (nI ed), .int (nI C), .int (nI V), .int (nI Ac), .ref a3, .ref a4, .ref a5, .ref a6])), (a1, zA cI 49 w), (a5, zA cI 16 (va_up (idr nt k) k k))]) rfl dX6_joins_23 (fun H locs hV => ?_)
        refine lv_iinc (pc := 24) (v := nI (k + 1)) (lv' := [(3, .int (nI (k + 1))), (0, .ref o), (1, .int (nI q)), (2, .int (nI (2 * n)))]) S.1 S.2.1 dX6_joins_24 hl (k := 3) rfl (n_add _ _) (by decide) rfl (fun ls hl => ?_)
        refine lv_goto (pc := 27) (tgt := 12) S.1 S.2.1 dX6_joins_27 (by decide) ?_
        have hV : zV D cI cR A [(o, .inr (6, [.ref a1, .ref a2, .int (nI ed), .int (nI C), .int (nI V), .int (nI Ac), .ref a3, .ref a4, .ref a5, .ref a6])), (a1, zA cI 49 w), (a5, zA cI 16 (idr nt (k + 1)))] s H locs := hV.arr 2 rfl (fun j hj => by exact idr_s nt k j) rfl
        exact ih2 (k + 1) (by omega) (by omega) H locs hV ls (lv_sub hl [1, 2, 3, 0] rfl)
  have hV : zV D cI cR A [(o, .inr (6, [.ref a1, .ref a2, .int (nI ed), .int (nI C), .int (nI V), .int (nI Ac), .ref a3, .ref a4, .ref a5, .ref a6])), (a1, zA cI 49 w), (a5, zA cI 16 (idr nt 0))] s s.heap [] := hV.arr 2 rfl (fun j hj => by exact idr_0 nt j) rfl
  exact L1 (2 * n - 0 + 1) 0 (by omega) (Nat.lt_succ_self _) s.heap [] hV ls (lv_sub hl [2, 3, 1, 0] rfl)
abbrev wm_X6_leastRuns : List Cond := .code yX6_leastRuns cX6_leastRuns 6 (some .int) :: wU
theorem q_X6_leastRuns : yX6_leastRuns.cls = RX6 ∧ yX6_leastRuns.cls ≠ "java/lang/invoke/MethodHandle" ∧ yX6_leastRuns.cls ≠ "java/lang/invoke/VarHandle" ∧ (parseMethodDescriptor yX6_leastRuns.desc).map (fun d => d.parameters.length) = some 1 := by decide +kernel
set_option maxHeartbeats 4000000 in
set_option maxRecDepth 100000 in
theorem c_X6_leastRuns_e (l : Launch) (D : va_G) (cI cR : ClassId) (o a1 a2 a3 a4 a5 a6 ed C V Ac : Nat) (w : Nat → Nat) (n : Nat) (P X Y L : Nat → Nat) (a : Int) (hge : zGe n P X Y) (hR : zRl w n P X Y L) (hset : zSt C V Ac) (ha : zR a) (hbad : ¬ (0 ≤ a ∧ a ≤ 3)) : Met l yX6_leastRuns wm_X6_leastRuns ({ frames := 1, cells := 0, slots := 0, locals := 22 } : Room) (va_Pc [.ref o, .int (zI a)] (zW D cI cR [(o, .inr (6, [.ref a1, .ref a2, .int (nI ed), .int (nI C), .int (nI V), .int (nI Ac), .ref a3, .ref a4, .ref a5, .ref a6])), (a1, zA cI 49 w)])) (vp_Si (fun r => r = zI (-1))) 0 0 (fun _ => False) := by
  refine Met.ofW (cc := cX6_leastRuns) (maxL := 6) (ret := (some .int)) (by decide) rfl ?_
  intro p e s m args below meth c s₁ B hml hv
  obtain ⟨rfl, hG⟩ := hv
  have S : CallFix p m c cX6_leastRuns 6 s ([.ref o, .int (zI a)] : List Value).toArray wU RX6 := ⟨B.exec, B.bytes, hml, findClass_of_methodNamed B.named, fun w h => atoms_spec (ws := wm_X6_leastRuns) B.pre w (List.mem_cons_of_mem _ h)⟩
  have hr := B.returns
  have hlocks := B.notSynchronized
  have hG : zG D cI cR [(o, .inr (6, [.ref a1, .ref a2, .int (nI ed), .int (nI C), .int (nI V), .int (nI Ac), .ref a3, .ref a4, .ref a5, .ref a6])), (a1, zA cI 49 w)] s s.heap := hG
  have hl := lv_entry ([.ref o, .int (zI a)]) (n := 6) (Nat.le_of_ble_eq_true rfl)
  rw [lg_entry_eq]
  generalize (lg_sl ([.ref o, .int (zI a)]) ++ List.replicate (6 - (lg_sl ([.ref o, .int (zI a)])).length) Slot.unset).toArray = ls at hl ⊢
  have hl : lv_has ls 6 [(0, .ref o), (1, .int (zI a))] := hl
  have r_ha := id ha
  unfold zR at r_ha
  obtain ⟨hn, hPf, hXY⟩ := id hge
  obtain ⟨hC, hV9, hA9⟩ := id hset
  refine lv_iload_n (pc := 0) S.1 S.2.1 dX6_leastRuns_0 rfl (lv_at hl 1 rfl) ?_
  refine zz_iconst (pc := 1) (v := nI 0) S dX6_leastRuns_1 rfl ?_
  refine zz_iconst (pc := 2) (v := nI 3) S dX6_leastRuns_2 rfl ?_
  refine zz_callS (pc := 3) (As := [.int (zI a), .int (zI 0), .int (zI 3)]) (rest := []) S (c_X6_in l D cI cR a 0 3 (by unfold zR; omega) (by unfold zR; omega) (by unfold zR; omega)) (zuS wd_135 wd_133 wd_134 wd_5) 3 rfl q_X6_in.2 ⟨⟨rfl, rfl⟩, Nat.le_of_ble_eq_true rfl, Nat.le_of_ble_eq_true rfl⟩ rfl rfl (Nat.le_of_ble_eq_true rfl) hl.1 ⟨Nat.zero_le _, Nat.zero_le _⟩ dX6_leastRuns_3 ?_
  refine zz_ifb_ne (pc := 6) (tgt := 11) S dX6_leastRuns_6 (by decide) (fun c6 => ?_) (fun c6 => ?_)
  · exfalso; omega
  · refine zz_iconst (pc := 9) (v := zI (-1)) S dX6_leastRuns_9 rfl ?_
    exact zz_iretS (pc := 10) S hr hlocks (rfl) dX6_leastRuns_10
set_option maxHeartbeats 4000000 in
set_option maxRecDepth 100000 in
theorem c_X6_leastRuns_k (l : Launch) (D : va_G) (cI cR : ClassId) (o a1 a2 a3 a4 a5 a6 ed C V Ac : Nat) (w : Nat → Nat) (nt : Nat → Nat) (n : Nat) (P X Y L : Nat → Nat) (a : Nat) (sz : Nat) (hge : zGe n P X Y) (hR : zRl w n P X Y L) (hset : zSt C V Ac) (ha : a ≤ 3) : Met l yX6_leastRuns wm_X6_leastRuns ({ frames := 3, cells := 0, slots := 0, locals := 69 } : Room) (va_Pc [.ref o, .int (nI a)] (zX D cI cR [(o, .inr (6, [.ref a1, .ref a2, .int (nI ed), .int (nI C), .int (nI V), .int (nI Ac), .ref a3, .ref a4, .ref a5, .ref a6])), (a1, zA cI 49 w), (a5, zA cI 16 nt)] sz)) (zQi D cI cR (va_A [(o, .inr (6, [.ref a1, .ref a2, .int (nI ed), .int (nI C), .int (nI V), .int (nI Ac), .ref a3, .ref a4, .ref a5, .ref a6])), (a1, zA cI 49 w), (a5, zA cI 16 nt)] sz) (fun r w0 => ∃ (nt5 : Nat → Nat), (w0 = [(o, .inr (6, [.ref a1, .ref a2, .int (nI ed), .int (nI C), .int (nI V), .int (nI Ac), .ref a3, .ref a4, .ref a5, .ref a6])), (a1, zA cI 49 w), (a5, zA cI 16 nt5)] ∧ r = nI (lrn P X Y a n (2 * n))))) 0 0 (va_A [(o, .inr (6, [.ref a1, .ref a2, .int (nI ed), .int (nI C), .int (nI V), .int (nI Ac), .ref a3, .ref a4, .ref a5, .ref a6])), (a1, zA cI 49 w), (a5, zA cI 16 nt)] sz) := by
  refine Met.ofW (cc := cX6_leastRuns) (maxL := 6) (ret := (some .int)) (by decide) rfl ?_
  intro p e s m args below meth c s₁ B hml hv
  obtain ⟨rfl, hsz, hG, hD0⟩ := hv
  have S : CallFix p m c cX6_leastRuns 6 s ([.ref o, .int (nI a)] : List Value).toArray wU RX6 := ⟨B.exec, B.bytes, hml, findClass_of_methodNamed B.named, fun w h => atoms_spec (ws := wm_X6_leastRuns) B.pre w (List.mem_cons_of_mem _ h)⟩
  have hr := B.returns
  have hlocks := B.notSynchronized
  subst hsz
  have hD := hD0.self (sz := s.heap.size)
  generalize hAe : va_A [(o, .inr (6, [.ref a1, .ref a2, .int (nI ed), .int (nI C), .int (nI V), .int (nI Ac), .ref a3, .ref a4, .ref a5, .ref a6])), (a1, zA cI 49 w), (a5, zA cI 16 nt)] s.heap.size = A at hD ⊢
  have hV : zV D cI cR A [(o, .inr (6, [.ref a1, .ref a2, .int (nI ed), .int (nI C), .int (nI V), .int (nI Ac), .ref a3, .ref a4, .ref a5, .ref a6])), (a1, zA cI 49 w), (a5, zA cI 16 nt)] s s.heap [] := ⟨hG, hD, va_S.rf, fun q h => by rw [← hAe]; exact Or.inr h⟩
  have hl := lv_entry ([.ref o, .int (nI a)]) (n := 6) (Nat.le_of_ble_eq_true rfl)
  rw [lg_entry_eq]
  generalize (lg_sl ([.ref o, .int (nI a)]) ++ List.replicate (6 - (lg_sl ([.ref o, .int (nI a)])).length) Slot.unset).toArray = ls at hl ⊢
  have hl : lv_has ls 6 [(0, .ref o), (1, .int (nI a))] := hl
  obtain ⟨hn, hPf, hXY⟩ := id hge
  obtain ⟨hC, hV9, hA9⟩ := id hset
  refine lv_iload_n (pc := 0) S.1 S.2.1 dX6_leastRuns_0 rfl (lv_at hl 1 rfl) ?_
  refine zz_iconst (pc := 1) (v := nI 0) S dX6_leastRuns_1 rfl ?_
  refine zz_iconst (pc := 2) (v := nI 3) S dX6_leastRuns_2 rfl ?_
  refine zz_callS (pc := 3) (As := [.int (zI ((a : Nat) : Int)), .int (zI 0), .int (zI 3)]) (rest := []) S (c_X6_in l D cI cR ((a : Nat) : Int) 0 3 (by unfold zR; omega) (by unfold zR; omega) (by unfold zR; omega)) (zuS wd_135 wd_133 wd_134 wd_5) 3 rfl q_X6_in.2 ⟨⟨rfl, rfl⟩, Nat.le_of_ble_eq_true rfl, Nat.le_of_ble_eq_true rfl⟩ rfl rfl (Nat.le_of_ble_eq_true rfl) hl.1 ⟨Nat.zero_le _, Nat.zero_le _⟩ dX6_leastRuns_3 ?_
  refine zz_ifb_ne (pc := 6) (tgt := 11) S dX6_leastRuns_6 (by decide) (fun c6 => ?_) (fun c6 => ?_)
  · refine lv_aload_n (pc := 11) S.1 S.2.1 dX6_leastRuns_11 rfl (lv_at hl 0 rfl) ?_
    refine lv_iload_n (pc := 12) S.1 S.2.1 dX6_leastRuns_12 rfl (lv_at hl 1 rfl) ?_
    refine zz_callMv (pc := 13) (As := [.int (nI a)]) (rest := []) (wr := []) S hV (c_X6_joins l D cI cR o a1 a2 a3 a4 a5 a6 ed C V Ac w nt n P X Y L a s.heap.size hge hR hset (by omega)) (zuV wd_323 wd_320 wd_321 wd_322 wd_5) 1 rfl q_X6_joins ⟨⟨rfl, rfl⟩, Nat.le_of_ble_eq_true rfl, Nat.le_of_ble_eq_true rfl⟩ [0, 1, 2] [] rfl rfl (by decide) (by decide) (by decide) 0 rfl rfl rfl rfl rfl (Nat.le_of_ble_eq_true rfl) hl.1 ⟨Nat.zero_le _, Nat.zero_le _⟩ dX6_leastRuns_13 (fun w1 H locs hp hV => ?_)
    obtain ⟨nt5x1, rfl, hnt5x1⟩ := hp
    have hV : zV D cI cR A [(o, .inr (6, [.ref a1, .ref a2, .int (nI ed), .int (nI C), .int (nI V), .int (nI Ac), .ref a3, .ref a4, .ref a5, .ref a6])), (a1, zA cI 49 w), (a5, zA cI 16 nt5x1)] s H locs := hV.perm [0, 1, 2] (by decide) rfl
    refine zz_iconst (pc := 16) (v := nI 0) S dX6_leastRuns_16 rfl ?_
    refine lv_istore_n (pc := 17) (lv' := [(2, .int (nI 0)), (0, .ref o), (1, .int (nI a))]) S.1 S.2.1 dX6_leastRuns_17 rfl hl (by decide) rfl (fun ls hl => ?_)
    refine zz_iconst (pc := 18) (v := nI 0) S dX6_leastRuns_18 rfl ?_
    refine lv_istore_n (pc := 19) (lv' := [(3, .int (nI 0)), (2, .int (nI 0)), (0, .ref o), (1, .int (nI a))]) S.1 S.2.1 dX6_leastRuns_19 rfl hl (by decide) rfl (fun ls hl => ?_)
    have L2 : ∀ (f : Nat) (i : Nat), (i ≤ 2 * n) → 2 * n - i < f → ∀ (H : Heap) (locs : List Loc), zV D cI cR A [(o, .inr (6, [.ref a1, .ref a2, .int (nI ed), .int (nI C), .int (nI V), .int (nI Ac), .ref a3, .ref a4, .ref a5, .ref a6])), (a1, zA cI 49 w), (a5, zA cI 16 nt5x1)] s H locs → ∀ ls : Array Slot, lv_has ls 6 [(0, .ref o), (1, .int (nI a)), (2, .int (nI (lrn P X Y a n i))), (3, .int (nI i))] → W p l e (headSpec wm_X6_leastRuns ({ frames := 3, cells := 0, slots := 0, locals := 69 } : Room)).room s m ([.ref o, .int (nI a)] : List Value).toArray below meth c H locs 0 0 (MQ below (zQi D cI cR A (fun r w0 => ∃ (nt5 : Nat → Nat), (w0 = [(o, .inr (6, [.ref a1, .ref a2, .int (nI ed), .int (nI C), .int (nI V), .int (nI Ac), .ref a3, .ref a4, .ref a5, .ref a6])), (a1, zA cI 49 w), (a5, zA cI 16 nt5)] ∧ r = nI (lrn P X Y a n (2 * n))))) ([.ref o, .int (nI a)] : List Value).toArray s 0 0 A) (F0 m 20 ls []) := by
      intro f
      induction f with
      | zero => intro i hi hf; exact absurd hf (Nat.not_lt_zero _)
      | succ f ih3 =>
        intro i hi hf H locs hV ls hl
        have hll := lrn_le P X Y a n i hn
        have hm1 := mun_le P X Y a n i
        refine lv_iload_n (pc := 20) S.1 S.2.1 dX6_leastRuns_20 rfl (lv_at hl 3 rfl) ?_
        refine zz_iconst (pc := 21) (v := nI 2) S dX6_leastRuns_21 rfl ?_
        refine lv_aload_n (pc := 22) S.1 S.2.1 dX6_leastRuns_22 rfl (lv_at hl 0 rfl) ?_
        refine zz_get (pc := 23) S hV.1 iX6 0 rfl rfl 0 (by decide) wd_67 rfl rfl dX6_leastRuns_23 ?_
        refine zz_bipush (pc := 26) (v := nI 48) S dX6_leastRuns_26 rfl ?_
        refine zz_iald (pc := 28) (k := 48) S hV.1 1 rfl (by omega) dX6_leastRuns_28 ?_
        refine zz_cast (v := nI n) (congrArg nI hR.1) ?_
        refine zz_imul (pc := 29) (v := nI (2 * n)) S dX6_leastRuns_29 (n_mul _ _) ?_
        refine zz_icmp_ge (pc := 30) (tgt := 139) S dX6_leastRuns_30 (by decide) (n_le (by omega) (by omega)) (fun c30 => ?_) (fun c30 => ?_)
        · refine lv_iload_n (pc := 139) S.1 S.2.1 dX6_leastRuns_139 rfl (lv_at hl 2 rfl) ?_
          exact zz_iretM (pc := 140) S hr hlocks hV (⟨nt5x1, ⟨rfl, congrArg nI (by rw [show i = 2 * n by omega])⟩⟩) dX6_leastRuns_140
        · refine lv_aload_n (pc := 33) S.1 S.2.1 dX6_leastRuns_33 rfl (lv_at hl 0 rfl) ?_
          refine lv_iload_n (pc := 34) S.1 S.2.1 dX6_leastRuns_34 rfl (lv_at hl 3 rfl) ?_
          refine lv_iload_n (pc := 35) S.1 S.2.1 dX6_leastRuns_35 rfl (lv_at hl 1 rfl) ?_
          refine zz_callV (pc := 36) (As := [.int (nI i), .int (nI a)]) (rest := []) S (c_X6_isOfPen l D cI cR o a1 a2 a3 a4 a5 a6 ed C V Ac w n P X Y L i a hge hR hset (by omega) (by omega)) (zuV wd_327 wd_324 wd_325 wd_326 wd_5) 2 rfl q_X6_isOfPen ⟨⟨rfl, rfl⟩, Nat.le_of_ble_eq_true rfl, Nat.le_of_ble_eq_true rfl⟩ hV.1 [0, 1] rfl 0 rfl rfl rfl rfl rfl (Nat.le_of_ble_eq_true rfl) hl.1 ⟨Nat.zero_le _, Nat.zero_le _⟩ dX6_leastRuns_36 ?_
          refine zz_ifb_eq (pc := 39) (tgt := 133) S dX6_leastRuns_39 (by decide) (fun c39 => ?_) (fun c39 => ?_)
          · have wD : lrn P X Y a n (i + 1) = lrn P X Y a n i := lrn_f (fun z => c39 z.1)
            refine lv_iinc (pc := 133) (v := nI (i + 1)) (lv' := [(3, .int (nI (i + 1))), (0, .ref o), (1, .int (nI a)), (2, .int (nI (lrn P X Y a n i)))]) S.1 S.2.1 dX6_leastRuns_133 hl (k := 3) rfl (n_add _ _) (by decide) rfl (fun ls hl => ?_)
            refine lv_goto (pc := 136) (tgt := 20) S.1 S.2.1 dX6_leastRuns_136 (by decide) ?_
            exact ih3 (i + 1) (by omega) (by omega) H locs hV ls (by rw [wD]; exact lv_sub hl [1, 2, 3, 0] rfl)
          · refine lv_aload_n (pc := 42) S.1 S.2.1 dX6_leastRuns_42 rfl (lv_at hl 0 rfl) ?_
            refine zz_get (pc := 43) S hV.1 iX6 0 rfl rfl 8 (by decide) wd_74 rfl rfl dX6_leastRuns_43 ?_
            refine lv_iload_n (pc := 46) S.1 S.2.1 dX6_leastRuns_46 rfl (lv_at hl 3 rfl) ?_
            refine zz_iald (pc := 47) (k := i) S hV.1 2 rfl (by omega) dX6_leastRuns_47 ?_
            refine zz_cast (v := nI (mun P X Y a n i)) (congrArg nI (hnt5x1 i (by omega))) ?_
            refine lv_iload_n (pc := 48) S.1 S.2.1 dX6_leastRuns_48 rfl (lv_at hl 3 rfl) ?_
            refine zz_icmp_ne (pc := 49) (tgt := 133) S dX6_leastRuns_49 (by decide) (n_eq (by omega) (by omega)) (fun c49 => ?_) (fun c49 => ?_)
            · have wD : lrn P X Y a n (i + 1) = lrn P X Y a n i := lrn_f (fun z => c49 z.2)
              refine lv_iinc (pc := 133) (v := nI (i + 1)) (lv' := [(3, .int (nI (i + 1))), (0, .ref o), (1, .int (nI a)), (2, .int (nI (lrn P X Y a n i)))]) S.1 S.2.1 dX6_leastRuns_133 hl (k := 3) rfl (n_add _ _) (by decide) rfl (fun ls hl => ?_)
              refine lv_goto (pc := 136) (tgt := 20) S.1 S.2.1 dX6_leastRuns_136 (by decide) ?_
              exact ih3 (i + 1) (by omega) (by omega) H locs hV ls (by rw [wD]; exact lv_sub hl [1, 2, 3, 0] rfl)
            · have wD := lrn_t (P := P) (X := X) (Y := Y) (c := a) (n := n) (i := i) ⟨c39, c49⟩
              refine zz_iconst (pc := 52) (v := nI 0) S dX6_leastRuns_52 rfl ?_
              refine lv_istore (pc := 53) (lv' := [(4, .int (nI 0)), (0, .ref o), (1, .int (nI a)), (2, .int (nI (lrn P X Y a n i))), (3, .int (nI i))]) S.1 S.2.1 dX6_leastRuns_53 hl (by decide) rfl (fun ls hl => ?_)
              refine zz_iconst (pc := 55) (v := nI 0) S dX6_leastRuns_55 rfl ?_
              refine lv_istore (pc := 56) (lv' := [(5, .int (nI 0)), (4, .int (nI 0)), (0, .ref o), (1, .int (nI a)), (2, .int (nI (lrn P X Y a n i))), (3, .int (nI i))]) S.1 S.2.1 dX6_leastRuns_56 hl (by decide) rfl (fun ls hl => ?_)
              have L4 : ∀ (f : Nat) (j : Nat), (j ≤ 2 * n) → 2 * n - j < f → ∀ (H : Heap) (locs : List Loc), zV D cI cR A [(o, .inr (6, [.ref a1, .ref a2, .int (nI ed), .int (nI C), .int (nI V), .int (nI Ac), .ref a3, .ref a4, .ref a5, .ref a6])), (a1, zA cI 49 w), (a5, zA cI 16 nt5x1)] s H locs → ∀ ls : Array Slot, lv_has ls 6 [(0, .ref o), (1, .int (nI a)), (2, .int (nI (lrn P X Y a n i))), (3, .int (nI i)), (4, .int (nI (odn P X Y a n i j))), (5, .int (nI j))] → W p l e (headSpec wm_X6_leastRuns ({ frames := 3, cells := 0, slots := 0, locals := 69 } : Room)).room s m ([.ref o, .int (nI a)] : List Value).toArray below meth c H locs 0 0 (MQ below (zQi D cI cR A (fun r w0 => ∃ (nt5 : Nat → Nat), (w0 = [(o, .inr (6, [.ref a1, .ref a2, .int (nI ed), .int (nI C), .int (nI V), .int (nI Ac), .ref a3, .ref a4, .ref a5, .ref a6])), (a1, zA cI 49 w), (a5, zA cI 16 nt5)] ∧ r = nI (lrn P X Y a n (2 * n))))) ([.ref o, .int (nI a)] : List Value).toArray s 0 0 A) (F0 m 58 ls []) := by
                intro f
                induction f with
                | zero => intro j hj hf; exact absurd hf (Nat.not_lt_zero _)
                | succ f ih5 =>
                  intro j hj hf H locs hV ls hl
                  have hod := odn_le P X Y a n i j
                  have hm2 := mun_le P X Y a n j
                  refine lv_iload (pc := 58) S.1 S.2.1 dX6_leastRuns_58 (lv_at hl 5 rfl) ?_
                  refine zz_iconst (pc := 60) (v := nI 2) S dX6_leastRuns_60 rfl ?_
                  refine lv_aload_n (pc := 61) S.1 S.2.1 dX6_leastRuns_61 rfl (lv_at hl 0 rfl) ?_
                  refine zz_get (pc := 62) S hV.1 iX6 0 rfl rfl 0 (by decide) wd_67 rfl rfl dX6_leastRuns_62 ?_
                  refine zz_bipush (pc := 65) (v := nI 48) S dX6_leastRuns_65 rfl ?_
                  refine zz_iald (pc := 67) (k := 48) S hV.1 1 rfl (by omega) dX6_leastRuns_67 ?_
                  refine zz_cast (v := nI n) (congrArg nI hR.1) ?_
                  refine zz_imul (pc := 68) (v := nI (2 * n)) S dX6_leastRuns_68 (n_mul _ _) ?_
                  refine zz_icmp_ge (pc := 69) (tgt := 117) S dX6_leastRuns_69 (by decide) (n_le (by omega) (by omega)) (fun c69 => ?_) (fun c69 => ?_)
                  · refine lv_iload_n (pc := 117) S.1 S.2.1 dX6_leastRuns_117 rfl (lv_at hl 2 rfl) ?_
                    have J6 : ∀ ls : Array Slot, lv_has ls 6 [(0, .ref o), (1, .int (nI a)), (2, .int (nI (lrn P X Y a n i))), (3, .int (nI i)), (4, .int (nI (odn P X Y a n i j))), (5, .int (nI j))] → W p l e (headSpec wm_X6_leastRuns ({ frames := 3, cells := 0, slots := 0, locals := 69 } : Room)).room s m ([.ref o, .int (nI a)] : List Value).toArray below meth c H locs 0 0 (MQ below (zQi D cI cR A (fun r w0 => ∃ (nt5 : Nat → Nat), (w0 = [(o, .inr (6, [.ref a1, .ref a2, .int (nI ed), .int (nI C), .int (nI V), .int (nI Ac), .ref a3, .ref a4, .ref a5, .ref a6])), (a1, zA cI 49 w), (a5, zA cI 16 nt5)] ∧ r = nI (lrn P X Y a n (2 * n))))) ([.ref o, .int (nI a)] : List Value).toArray s 0 0 A) (F0 m 131 ls [.int (nI (if odn P X Y a n i (2 * n) = 0 then 1 else odn P X Y a n i (2 * n) / 2)), .int (nI (lrn P X Y a n i))]) := by
                      intro ls hl
                      have hih : (if odn P X Y a n i (2 * n) = 0 then 1 else odn P X Y a n i (2 * n) / 2) ≤ 16 := by have q9 := odn_le P X Y a n i (2 * n); split <;> omega
                      refine zz_iadd (pc := 131) (v := nI (lrn P X Y a n i + (if odn P X Y a n i (2 * n) = 0 then 1 else odn P X Y a n i (2 * n) / 2))) S dX6_leastRuns_131 (n_add _ _) ?_
                      refine lv_istore_n (pc := 132) (lv' := [(2, .int (nI (lrn P X Y a n i + (if odn P X Y a n i (2 * n) = 0 then 1 else odn P X Y a n i (2 * n) / 2)))), (0, .ref o), (1, .int (nI a)), (3, .int (nI i)), (4, .int (nI (odn P X Y a n i j))), (5, .int (nI j))]) S.1 S.2.1 dX6_leastRuns_132 rfl hl (by decide) rfl (fun ls hl => ?_)
                      refine lv_iinc (pc := 133) (v := nI (i + 1)) (lv' := [(3, .int (nI (i + 1))), (2, .int (nI (lrn P X Y a n i + (if odn P X Y a n i (2 * n) = 0 then 1 else odn P X Y a n i (2 * n) / 2)))), (0, .ref o), (1, .int (nI a)), (4, .int (nI (odn P X Y a n i j))), (5, .int (nI j))]) S.1 S.2.1 dX6_leastRuns_133 hl (k := 3) rfl (n_add _ _) (by decide) rfl (fun ls hl => ?_)
                      refine lv_goto (pc := 136) (tgt := 20) S.1 S.2.1 dX6_leastRuns_136 (by decide) ?_
                      exact ih3 (i + 1) (by omega) (by omega) H locs hV ls (by rw [wD]; exact lv_sub hl [2, 3, 1, 0] rfl)
                    refine lv_iload (pc := 118) S.1 S.2.1 dX6_leastRuns_118 (lv_at hl 4 rfl) ?_
                    refine zz_if_ne (pc := 120) (tgt := 127) S dX6_leastRuns_120 (by decide) (n_eq0 (by omega)) (fun c120 => ?_) (fun c120 => ?_)
                    · refine lv_iload (pc := 127) S.1 S.2.1 dX6_leastRuns_127 (lv_at hl 4 rfl) ?_
                      refine zz_iconst (pc := 129) (v := nI 2) S dX6_leastRuns_129 rfl ?_
                      refine zz_idiv (pc := 130) (v := nI ((odn P X Y a n i j) / 2)) S dX6_leastRuns_130 (by decide) (n_div (by omega) (by decide) (by decide)) ?_
                      refine zz_cast (v := nI (if odn P X Y a n i (2 * n) = 0 then 1 else odn P X Y a n i (2 * n) / 2)) (congrArg nI (by rw [show 2 * n = j by omega]; first | rw [if_neg c120] | rw [if_pos c120])) ?_
                      exact J6 ls (lv_sub hl [0, 1, 2, 3, 4, 5] rfl)
                    · refine zz_iconst (pc := 123) (v := nI 1) S dX6_leastRuns_123 rfl ?_
                      refine lv_goto (pc := 124) (tgt := 131) S.1 S.2.1 dX6_leastRuns_124 (by decide) ?_
                      refine zz_cast (v := nI (if odn P X Y a n i (2 * n) = 0 then 1 else odn P X Y a n i (2 * n) / 2)) (congrArg nI (by rw [show 2 * n = j by omega]; first | rw [if_neg c120] | rw [if_pos c120])) ?_
                      exact J6 ls (lv_sub hl [0, 1, 2, 3, 4, 5] rfl)
                  · refine lv_iload (pc := 72) S.1 S.2.1 dX6_leastRuns_72 (lv_at hl 4 rfl) ?_
                    have J7 : ∀ ls : Array Slot, lv_has ls 6 [(0, .ref o), (1, .int (nI a)), (2, .int (nI (lrn P X Y a n i))), (3, .int (nI i)), (4, .int (nI (odn P X Y a n i j))), (5, .int (nI j))] → W p l e (headSpec wm_X6_leastRuns ({ frames := 3, cells := 0, slots := 0, locals := 69 } : Room)).room s m ([.ref o, .int (nI a)] : List Value).toArray below meth c H locs 0 0 (MQ below (zQi D cI cR A (fun r w0 => ∃ (nt5 : Nat → Nat), (w0 = [(o, .inr (6, [.ref a1, .ref a2, .int (nI ed), .int (nI C), .int (nI V), .int (nI Ac), .ref a3, .ref a4, .ref a5, .ref a6])), (a1, zA cI 49 w), (a5, zA cI 16 nt5)] ∧ r = nI (lrn P X Y a n (2 * n))))) ([.ref o, .int (nI a)] : List Value).toArray s 0 0 A) (F0 m 108 ls [.int (nI (if P (j / 2) = a ∧ mun P X Y a n j = i then dgr n P X Y a j % 2 else 0)), .int (nI (odn P X Y a n i j))]) := by
                      intro ls hl
                      have hif : (if P (j / 2) = a ∧ mun P X Y a n j = i then dgr n P X Y a j % 2 else 0) ≤ 1 := by split <;> omega
                      refine zz_iadd (pc := 108) (v := nI (odn P X Y a n i j + (if P (j / 2) = a ∧ mun P X Y a n j = i then dgr n P X Y a j % 2 else 0))) S dX6_leastRuns_108 (n_add _ _) ?_
                      refine lv_istore (pc := 109) (lv' := [(4, .int (nI (odn P X Y a n i j + (if P (j / 2) = a ∧ mun P X Y a n j = i then dgr n P X Y a j % 2 else 0)))), (0, .ref o), (1, .int (nI a)), (2, .int (nI (lrn P X Y a n i))), (3, .int (nI i)), (5, .int (nI j))]) S.1 S.2.1 dX6_leastRuns_109 hl (by decide) rfl (fun ls hl => ?_)
                      refine lv_iinc (pc := 111) (v := nI (j + 1)) (lv' := [(5, .int (nI (j + 1))), (4, .int (nI (odn P X Y a n i j + (if P (j / 2) = a ∧ mun P X Y a n j = i then dgr n P X Y a j % 2 else 0)))), (0, .ref o), (1, .int (nI a)), (2, .int (nI (lrn P X Y a n i))), (3, .int (nI i))]) S.1 S.2.1 dX6_leastRuns_111 hl (k := 5) rfl (n_add _ _) (by decide) rfl (fun ls hl => ?_)
                      refine lv_goto (pc := 114) (tgt := 58) S.1 S.2.1 dX6_leastRuns_114 (by decide) ?_
                      exact ih5 (j + 1) (by omega) (by omega) H locs hV ls (by rw [odn_s]; exact lv_sub hl [2, 3, 4, 5, 1, 0] rfl)
                    refine lv_aload_n (pc := 74) S.1 S.2.1 dX6_leastRuns_74 rfl (lv_at hl 0 rfl) ?_
                    refine lv_iload (pc := 75) S.1 S.2.1 dX6_leastRuns_75 (lv_at hl 5 rfl) ?_
                    refine lv_iload_n (pc := 77) S.1 S.2.1 dX6_leastRuns_77 rfl (lv_at hl 1 rfl) ?_
                    refine zz_callV (pc := 78) (As := [.int (nI j), .int (nI a)]) (rest := [.int (nI (odn P X Y a n i j))]) S (c_X6_isOfPen l D cI cR o a1 a2 a3 a4 a5 a6 ed C V Ac w n P X Y L j a hge hR hset (by omega) (by omega)) (zuV wd_327 wd_324 wd_325 wd_326 wd_5) 2 rfl q_X6_isOfPen ⟨⟨rfl, rfl⟩, Nat.le_of_ble_eq_true rfl, Nat.le_of_ble_eq_true rfl⟩ hV.1 [0, 1] rfl 0 rfl rfl rfl rfl rfl (Nat.le_of_ble_eq_true rfl) hl.1 ⟨Nat.zero_le _, Nat.zero_le _⟩ dX6_leastRuns_78 ?_
                    refine zz_ifb_eq (pc := 81) (tgt := 107) S dX6_leastRuns_81 (by decide) (fun c81 => ?_) (fun c81 => ?_)
                    · refine zz_iconst (pc := 107) (v := nI 0) S dX6_leastRuns_107 rfl ?_
                      refine zz_cast (v := nI (if P (j / 2) = a ∧ mun P X Y a n j = i then dgr n P X Y a j % 2 else 0)) (congrArg nI (by first | rw [if_neg (fun z => c81 z.1)] | rw [if_neg (fun z => c92 z.2)] | rw [if_pos ⟨c81, c92⟩])) ?_
                      exact J7 ls (lv_sub hl [0, 1, 2, 3, 4, 5] rfl)
                    · refine lv_aload_n (pc := 84) S.1 S.2.1 dX6_leastRuns_84 rfl (lv_at hl 0 rfl) ?_
                      refine zz_get (pc := 85) S hV.1 iX6 0 rfl rfl 8 (by decide) wd_74 rfl rfl dX6_leastRuns_85 ?_
                      refine lv_iload (pc := 88) S.1 S.2.1 dX6_leastRuns_88 (lv_at hl 5 rfl) ?_
                      refine zz_iald (pc := 90) (k := j) S hV.1 2 rfl (by omega) dX6_leastRuns_90 ?_
                      refine zz_cast (v := nI (mun P X Y a n j)) (congrArg nI (hnt5x1 j (by omega))) ?_
                      refine lv_iload_n (pc := 91) S.1 S.2.1 dX6_leastRuns_91 rfl (lv_at hl 3 rfl) ?_
                      refine zz_icmp_ne (pc := 92) (tgt := 107) S dX6_leastRuns_92 (by decide) (n_eq (by omega) (by omega)) (fun c92 => ?_) (fun c92 => ?_)
                      · refine zz_iconst (pc := 107) (v := nI 0) S dX6_leastRuns_107 rfl ?_
                        refine zz_cast (v := nI (if P (j / 2) = a ∧ mun P X Y a n j = i then dgr n P X Y a j % 2 else 0)) (congrArg nI (by first | rw [if_neg (fun z => c81 z.1)] | rw [if_neg (fun z => c92 z.2)] | rw [if_pos ⟨c81, c92⟩])) ?_
                        exact J7 ls (lv_sub hl [0, 1, 2, 3, 4, 5] rfl)
                      · refine lv_aload_n (pc := 95) S.1 S.2.1 dX6_leastRuns_95 rfl (lv_at hl 0 rfl) ?_
                        refine lv_iload (pc := 96) S.1 S.2.1 dX6_leastRuns_96 (lv_at hl 5 rfl) ?_
                        refine lv_iload_n (pc := 98) S.1 S.2.1 dX6_leastRuns_98 rfl (lv_at hl 1 rfl) ?_
                        refine zz_callV (pc := 99) (As := [.int (nI j), .int (nI a)]) (rest := [.int (nI (odn P X Y a n i j))]) S (c_X6_degree l D cI cR o a1 a2 a3 a4 a5 a6 ed C V Ac w n P X Y L j a hge hR hset (by omega) (by omega)) (zuV wd_335 wd_332 wd_333 wd_334 wd_5) 2 rfl q_X6_degree ⟨⟨rfl, rfl⟩, Nat.le_of_ble_eq_true rfl, Nat.le_of_ble_eq_true rfl⟩ hV.1 [0, 1] rfl 0 rfl rfl rfl rfl rfl (Nat.le_of_ble_eq_true rfl) hl.1 ⟨Nat.zero_le _, Nat.zero_le _⟩ dX6_leastRuns_99 ?_
                        have g8 := dgr_le n P X Y a j
                        refine zz_iconst (pc := 102) (v := nI 2) S dX6_leastRuns_102 rfl ?_
                        refine zz_irem (pc := 103) (v := nI ((dgr n P X Y a j) % 2)) S dX6_leastRuns_103 (by decide) (n_rem (by omega) (by decide) (by decide)) ?_
                        refine lv_goto (pc := 104) (tgt := 108) S.1 S.2.1 dX6_leastRuns_104 (by decide) ?_
                        refine zz_cast (v := nI (if P (j / 2) = a ∧ mun P X Y a n j = i then dgr n P X Y a j % 2 else 0)) (congrArg nI (by first | rw [if_neg (fun z => c81 z.1)] | rw [if_neg (fun z => c92 z.2)] | rw [if_pos ⟨c81, c92⟩])) ?_
                        exact J7 ls (lv_sub hl [0, 1, 2, 3, 4, 5] rfl)
              exact L4 (2 * n - 0 + 1) 0 (by omega) (Nat.lt_succ_self _) H locs hV ls (lv_sub hl [2, 3, 4, 5, 1, 0] rfl)
    exact L2 (2 * n - 0 + 1) 0 (by omega) (Nat.lt_succ_self _) H locs hV ls (lv_sub hl [2, 3, 1, 0] rfl)
  · exfalso; omega
