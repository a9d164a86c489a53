abbrev wm_X6_edit : List Cond := .code yX6_edit cX6_edit 2 none :: wU
theorem q_X6_edit : yX6_edit.cls = RX6 ∧ yX6_edit.cls ≠ "java/lang/invoke/MethodHandle" ∧ yX6_edit.cls ≠ "java/lang/invoke/VarHandle" ∧ (parseMethodDescriptor yX6_edit.desc).map (fun d => d.parameters.length) = some 0 := by decide +kernel
set_option maxHeartbeats 4000000 in
set_option maxRecDepth 100000 in
theorem c_X6_edit (l : Launch) (D : va_G) (cI cR : ClassId) (o a1 a2 a3 a4 a5 a6 ed C V Ac : Nat) (w : Nat → Nat) (hs : Nat → Nat) (n : Nat) (P X Y L : Nat → Nat) (sz : Nat) (hge : zGe n P X Y) (hR : zRl w n P X Y L) (hset : zSt C V Ac) (hed : ed ≤ 4) : Met l yX6_edit wm_X6_edit ({ frames := 0, cells := 0, slots := 0, locals := 0 } : Room) (va_Pc [.ref o] (zX D cI cR [(o, .inr (6, [.ref a1, .ref a2, .int (nI ed), .int (nI C), .int (nI V), .int (nI Ac), .ref a3, .ref a4, .ref a5, .ref a6])), (a1, zA cI 49 w), (a2, zA cI 196 hs)] sz)) (zQv D cI cR (va_A [(o, .inr (6, [.ref a1, .ref a2, .int (nI ed), .int (nI C), .int (nI V), .int (nI Ac), .ref a3, .ref a4, .ref a5, .ref a6])), (a1, zA cI 49 w), (a2, zA cI 196 hs)] sz) (fun w0 => w0 = [(o, .inr (6, [.ref a1, .ref a2, .int (nI (min (ed + 1) 4)), .int (nI C), .int (nI V), .int (nI Ac), .ref a3, .ref a4, .ref a5, .ref a6])), (a1, zA cI 49 w), (a2, zA cI 196 (hst hs w ed))])) 0 0 (va_A [(o, .inr (6, [.ref a1, .ref a2, .int (nI ed), .int (nI C), .int (nI V), .int (nI Ac), .ref a3, .ref a4, .ref a5, .ref a6])), (a1, zA cI 49 w), (a2, zA cI 196 hs)] sz) := by
  refine Met.ofW (cc := cX6_edit) (maxL := 2) (ret := none) (by decide) rfl ?_
  intro p e s m args below meth c s₁ B hml hv
  obtain ⟨rfl, hsz, hG, hD0⟩ := hv
  have S : CallFix p m c cX6_edit 2 s ([.ref o] : List Value).toArray wU RX6 := ⟨B.exec, B.bytes, hml, findClass_of_methodNamed B.named, fun w h => atoms_spec (ws := wm_X6_edit) B.pre w (List.mem_cons_of_mem _ h)⟩
  have hr := B.returns
  have hlocks := B.notSynchronized
  subst hsz
  have hD := hD0.self (sz := s.heap.size)
  generalize hAe : va_A [(o, .inr (6, [.ref a1, .ref a2, .int (nI ed), .int (nI C), .int (nI V), .int (nI Ac), .ref a3, .ref a4, .ref a5, .ref a6])), (a1, zA cI 49 w), (a2, zA cI 196 hs)] s.heap.size = A at hD ⊢
  have hV : zV D cI cR A [(o, .inr (6, [.ref a1, .ref a2, .int (nI ed), .int (nI C), .int (nI V), .int (nI Ac), .ref a3, .ref a4, .ref a5, .ref a6])), (a1, zA cI 49 w), (a2, zA cI 196 hs)] s s.heap [] := ⟨hG, hD, va_S.rf, fun q h => by rw [← hAe]; exact Or.inr h⟩
  have hl := lv_entry ([.ref o]) (n := 2) (Nat.le_of_ble_eq_true rfl)
  rw [lg_entry_eq]
  generalize (lg_sl ([.ref o]) ++ List.replicate (2 - (lg_sl ([.ref o])).length) Slot.unset).toArray = ls at hl ⊢
  have hl : lv_has ls 2 [(0, .ref o)] := hl
  obtain ⟨hn, hPf, hXY⟩ := id hge
  obtain ⟨hC, hV9, hA9⟩ := id hset
  rcases (show ed = 0 ∨ ed = 1 ∨ ed = 2 ∨ ed = 3 ∨ ed = 4 by omega) with rfl | rfl | rfl | rfl | rfl
  · refine lv_aload_n (pc := 0) S.1 S.2.1 dX6_edit_0 rfl (lv_at hl 0 rfl) ?_
    refine zz_get (pc := 1) S hV.1 iX6 0 rfl rfl 2 (by decide) wd_140 rfl rfl dX6_edit_1 ?_
    refine zz_iconst (pc := 4) (v := nI 4) S dX6_edit_4 rfl ?_
    refine zz_icmp_ne (pc := 5) (tgt := 48) S dX6_edit_5 (by decide) (n_eq (by omega) (by omega)) (fun c5 => ?_) (fun c5 => ?_)
    · refine zz_iconst (pc := 48) (v := nI 0) S dX6_edit_48 rfl ?_
      refine lv_istore_n (pc := 49) (lv' := [(1, .int (nI 0)), (0, .ref o)]) S.1 S.2.1 dX6_edit_49 rfl hl (by decide) rfl (fun ls hl => ?_)
      have L1 : ∀ (f : Nat) (k : Nat), (k ≤ 49) → 49 - k < f → ∀ (H : Heap) (locs : List Loc), zV D cI cR A [(o, .inr (6, [.ref a1, .ref a2, .int (nI 0), .int (nI C), .int (nI V), .int (nI Ac), .ref a3, .ref a4, .ref a5, .ref a6])), (a1, zA cI 49 w), (a2, zA cI 196 (hcp hs w 0 k))] s H locs → ∀ ls : Array Slot, lv_has ls 2 [(0, .ref o), (1, .int (nI k))] → W p l e (headSpec wm_X6_edit ({ frames := 0, cells := 0, slots := 0, locals := 0 } : Room)).room s m ([.ref o] : List Value).toArray below meth c H locs 0 0 (MQ below (zQv D cI cR A (fun w0 => w0 = [(o, .inr (6, [.ref a1, .ref a2, .int (nI (min (0 + 1) 4)), .int (nI C), .int (nI V), .int (nI Ac), .ref a3, .ref a4, .ref a5, .ref a6])), (a1, zA cI 49 w), (a2, zA cI 196 (hst hs w 0))])) ([.ref o] : List Value).toArray s 0 0 A) (F0 m 50 ls []) := by
        intro f
        induction f with
        | zero => intro k hk2 hf; exact absurd hf (Nat.not_lt_zero _)
        | succ f ih2 =>
          intro k hk2 hf H locs hV ls hl
          refine lv_iload_n (pc := 50) S.1 S.2.1 dX6_edit_50 rfl (lv_at hl 1 rfl) ?_
          refine zz_bipush (pc := 51) (v := nI 49) S dX6_edit_51 rfl ?_
          refine zz_icmp_ge (pc := 53) (tgt := 82) S dX6_edit_53 (by decide) (n_le (by omega) (by omega)) (fun c53 => ?_) (fun c53 => ?_)
          · refine lv_aload_n (pc := 82) S.1 S.2.1 dX6_edit_82 rfl (lv_at hl 0 rfl) ?_
            refine lv_dup (pc := 83) S.1 S.2.1 dX6_edit_83 rfl ?_
            refine zz_get (pc := 84) S hV.1 iX6 0 rfl rfl 2 (by decide) wd_140 rfl rfl dX6_edit_84 ?_
            refine zz_iconst (pc := 87) (v := nI 1) S dX6_edit_87 rfl ?_
            refine zz_iadd (pc := 88) (v := nI 1) S dX6_edit_88 (n_add _ _) ?_
            refine zz_put (pc := 89) (v := .int (nI 1)) (ty := .int) S hV iX6 tyX6 tyX6_ok nmX6 0 rfl rfl 2 (by decide) wd_140 rfl rfl (by decide +kernel) rfl rfl (Nat.le_of_ble_eq_true rfl) (ws' := [(o, .inr (6, [.ref a1, .ref a2, .int (nI 1), .int (nI C), .int (nI V), .int (nI Ac), .ref a3, .ref a4, .ref a5, .ref a6])), (a1, zA cI 49 w), (a2, zA cI 196 (hcp hs w 0 k))]) rfl dX6_edit_89 (fun H locs hV => ?_)
            have hV : zV D cI cR A [(o, .inr (6, [.ref a1, .ref a2, .int (nI 1), .int (nI C), .int (nI V), .int (nI Ac), .ref a3, .ref a4, .ref a5, .ref a6])), (a1, zA cI 49 w), (a2, zA cI 196 (hst hs w 0))] s H locs := hV.arr 2 rfl (fun j hj => by rw [show k = 49 by omega]; rfl) rfl
            exact zz_vretM (pc := 92) S hr hlocks hV (rfl) dX6_edit_92
          · refine lv_aload_n (pc := 56) S.1 S.2.1 dX6_edit_56 rfl (lv_at hl 0 rfl) ?_
            refine zz_get (pc := 57) S hV.1 iX6 0 rfl rfl 1 (by decide) wd_68 rfl rfl dX6_edit_57 ?_
            refine zz_bipush (pc := 60) (v := nI 49) S dX6_edit_60 rfl ?_
            refine lv_aload_n (pc := 62) S.1 S.2.1 dX6_edit_62 rfl (lv_at hl 0 rfl) ?_
            refine zz_get (pc := 63) S hV.1 iX6 0 rfl rfl 2 (by decide) wd_140 rfl rfl dX6_edit_63 ?_
            refine zz_imul (pc := 66) (v := nI (49 * 0)) S dX6_edit_66 (n_mul _ _) ?_
            refine lv_iload_n (pc := 67) S.1 S.2.1 dX6_edit_67 rfl (lv_at hl 1 rfl) ?_
            refine zz_iadd (pc := 68) (v := nI (49 * 0 + k)) S dX6_edit_68 (n_add _ _) ?_
            refine lv_aload_n (pc := 69) S.1 S.2.1 dX6_edit_69 rfl (lv_at hl 0 rfl) ?_
            refine zz_get (pc := 70) S hV.1 iX6 0 rfl rfl 0 (by decide) wd_67 rfl rfl dX6_edit_70 ?_
            refine lv_iload_n (pc := 73) S.1 S.2.1 dX6_edit_73 rfl (lv_at hl 1 rfl) ?_
            refine zz_iald (pc := 74) (k := k) S hV.1 1 rfl (by omega) dX6_edit_74 ?_
            refine zz_iast (pc := 75) (k := 49 * 0 + k) (v := w k) S hV 2 rfl (by omega) (ws' := [(o, .inr (6, [.ref a1, .ref a2, .int (nI 0), .int (nI C), .int (nI V), .int (nI Ac), .ref a3, .ref a4, .ref a5, .ref a6])), (a1, zA cI 49 w), (a2, zA cI 196 (va_up (hcp hs w 0 k) (49 * 0 + k) (w k)))]) rfl dX6_edit_75 (fun H locs hV => ?_)
            refine lv_iinc (pc := 76) (v := nI (k + 1)) (lv' := [(1, .int (nI (k + 1))), (0, .ref o)]) S.1 S.2.1 dX6_edit_76 hl (k := 1) rfl (n_add _ _) (by decide) rfl (fun ls hl => ?_)
            refine lv_goto (pc := 79) (tgt := 50) S.1 S.2.1 dX6_edit_79 (by decide) ?_
            have hV : zV D cI cR A [(o, .inr (6, [.ref a1, .ref a2, .int (nI 0), .int (nI C), .int (nI V), .int (nI Ac), .ref a3, .ref a4, .ref a5, .ref a6])), (a1, zA cI 49 w), (a2, zA cI 196 (hcp hs w 0 (k + 1)))] s H locs := hV.arr 2 rfl (fun j hj => by exact hcp_s _ _ _ k j _ rfl) rfl
            exact ih2 (k + 1) (by omega) (by omega) H locs hV ls (lv_sub hl [1, 0] rfl)
      have hV : zV D cI cR A [(o, .inr (6, [.ref a1, .ref a2, .int (nI 0), .int (nI C), .int (nI V), .int (nI Ac), .ref a3, .ref a4, .ref a5, .ref a6])), (a1, zA cI 49 w), (a2, zA cI 196 (hcp hs w 0 0))] s s.heap [] := hV.arr 2 rfl (fun j hj => by first | exact hcp_0 _ _ _ j | (rw [show k = 147 by omega]; exact hcp_0 _ _ _ j)) rfl
      exact L1 (49 - 0 + 1) 0 (by omega) (Nat.lt_succ_self _) s.heap [] hV ls (lv_sub hl [1, 0] rfl)
    · exfalso; omega
  · refine lv_aload_n (pc := 0) S.1 S.2.1 dX6_edit_0 rfl (lv_at hl 0 rfl) ?_
    refine zz_get (pc := 1) S hV.1 iX6 0 rfl rfl 2 (by decide) wd_140 rfl rfl dX6_edit_1 ?_
    refine zz_iconst (pc := 4) (v := nI 4) S dX6_edit_4 rfl ?_
    refine zz_icmp_ne (pc := 5) (tgt := 48) S dX6_edit_5 (by decide) (n_eq (by omega) (by omega)) (fun c5 => ?_) (fun c5 => ?_)
    · refine zz_iconst (pc := 48) (v := nI 0) S dX6_edit_48 rfl ?_
      refine lv_istore_n (pc := 49) (lv' := [(1, .int (nI 0)), (0, .ref o)]) S.1 S.2.1 dX6_edit_49 rfl hl (by decide) rfl (fun ls hl => ?_)
      have L3 : ∀ (f : Nat) (k : Nat), (k ≤ 49) → 49 - k < f → ∀ (H : Heap) (locs : List Loc), zV D cI cR A [(o, .inr (6, [.ref a1, .ref a2, .int (nI 1), .int (nI C), .int (nI V), .int (nI Ac), .ref a3, .ref a4, .ref a5, .ref a6])), (a1, zA cI 49 w), (a2, zA cI 196 (hcp hs w 49 k))] s H locs → ∀ ls : Array Slot, lv_has ls 2 [(0, .ref o), (1, .int (nI k))] → W p l e (headSpec wm_X6_edit ({ frames := 0, cells := 0, slots := 0, locals := 0 } : Room)).room s m ([.ref o] : List Value).toArray below meth c H locs 0 0 (MQ below (zQv D cI cR A (fun w0 => w0 = [(o, .inr (6, [.ref a1, .ref a2, .int (nI (min (1 + 1) 4)), .int (nI C), .int (nI V), .int (nI Ac), .ref a3, .ref a4, .ref a5, .ref a6])), (a1, zA cI 49 w), (a2, zA cI 196 (hst hs w 1))])) ([.ref o] : List Value).toArray s 0 0 A) (F0 m 50 ls []) := by
        intro f
        induction f with
        | zero => intro k hk2 hf; exact absurd hf (Nat.not_lt_zero _)
        | succ f ih4 =>
          intro k hk2 hf H locs hV ls hl
          refine lv_iload_n (pc := 50) S.1 S.2.1 dX6_edit_50 rfl (lv_at hl 1 rfl) ?_
          refine zz_bipush (pc := 51) (v := nI 49) S dX6_edit_51 rfl ?_
          refine zz_icmp_ge (pc := 53) (tgt := 82) S dX6_edit_53 (by decide) (n_le (by omega) (by omega)) (fun c53 => ?_) (fun c53 => ?_)
          · refine lv_aload_n (pc := 82) S.1 S.2.1 dX6_edit_82 rfl (lv_at hl 0 rfl) ?_
            refine lv_dup (pc := 83) S.1 S.2.1 dX6_edit_83 rfl ?_
            refine zz_get (pc := 84) S hV.1 iX6 0 rfl rfl 2 (by decide) wd_140 rfl rfl dX6_edit_84 ?_
            refine zz_iconst (pc := 87) (v := nI 1) S dX6_edit_87 rfl ?_
            refine zz_iadd (pc := 88) (v := nI 2) S dX6_edit_88 (n_add _ _) ?_
            refine zz_put (pc := 89) (v := .int (nI 2)) (ty := .int) S hV iX6 tyX6 tyX6_ok nmX6 0 rfl rfl 2 (by decide) wd_140 rfl rfl (by decide +kernel) rfl rfl (Nat.le_of_ble_eq_true rfl) (ws' := [(o, .inr (6, [.ref a1, .ref a2, .int (nI 2), .int (nI C), .int (nI V), .int (nI Ac), .ref a3, .ref a4, .ref a5, .ref a6])), (a1, zA cI 49 w), (a2, zA cI 196 (hcp hs w 49 k))]) rfl dX6_edit_89 (fun H locs hV => ?_)
            have hV : zV D cI cR A [(o, .inr (6, [.ref a1, .ref a2, .int (nI 2), .int (nI C), .int (nI V), .int (nI Ac), .ref a3, .ref a4, .ref a5, .ref a6])), (a1, zA cI 49 w), (a2, zA cI 196 (hst hs w 1))] s H locs := hV.arr 2 rfl (fun j hj => by rw [show k = 49 by omega]; rfl) rfl
            exact zz_vretM (pc := 92) S hr hlocks hV (rfl) dX6_edit_92
          · refine lv_aload_n (pc := 56) S.1 S.2.1 dX6_edit_56 rfl (lv_at hl 0 rfl) ?_
            refine zz_get (pc := 57) S hV.1 iX6 0 rfl rfl 1 (by decide) wd_68 rfl rfl dX6_edit_57 ?_
            refine zz_bipush (pc := 60) (v := nI 49) S dX6_edit_60 rfl ?_
            refine lv_aload_n (pc := 62) S.1 S.2.1 dX6_edit_62 rfl (lv_at hl 0 rfl) ?_
            refine zz_get (pc := 63) S hV.1 iX6 0 rfl rfl 2 (by decide) wd_140 rfl rfl dX6_edit_63 ?_
            refine zz_imul (pc := 66) (v := nI (49 * 1)) S dX6_edit_66 (n_mul _ _) ?_
            refine lv_iload_n (pc := 67) S.1 S.2.1 dX6_edit_67 rfl (lv_at hl 1 rfl) ?_
            refine zz_iadd (pc := 68) (v := nI (49 * 1 + k)) S dX6_edit_68 (n_add _ _) ?_
            refine lv_aload_n (pc := 69) S.1 S.2.1 dX6_edit_69 rfl (lv_at hl 0 rfl) ?_
            refine zz_get (pc := 70) S hV.1 iX6 0 rfl rfl 0 (by decide) wd_67 rfl rfl dX6_edit_70 ?_
            refine lv_iload_n (pc := 73) S.1 S.2.1 dX6_edit_73 rfl (lv_at hl 1 rfl) ?_
            refine zz_iald (pc := 74) (k := k) S hV.1 1 rfl (by omega) dX6_edit_74 ?_
            refine zz_iast (pc := 75) (k := 49 * 1 + k) (v := w k) S hV 2 rfl (by omega) (ws' := [(o, .inr (6, [.ref a1, .ref a2, .int (nI 1), .int (nI C), .int (nI V), .int (nI Ac), .ref a3, .ref a4, .ref a5, .ref a6])), (a1, zA cI 49 w), (a2, zA cI 196 (va_up (hcp hs w 49 k) (49 * 1 + k) (w k)))]) rfl dX6_edit_75 (fun H locs hV => ?_)
            refine lv_iinc (pc := 76) (v := nI (k + 1)) (lv' := [(1, .int (nI (k + 1))), (0, .ref o)]) S.1 S.2.1 dX6_edit_76 hl (k := 1) rfl (n_add _ _) (by decide) rfl (fun ls hl => ?_)
            refine lv_goto (pc := 79) (tgt := 50) S.1 S.2.1 dX6_edit_79 (by decide) ?_
            have hV : zV D cI cR A [(o, .inr (6, [.ref a1, .ref a2, .int (nI 1), .int (nI C), .int (nI V), .int (nI Ac), .ref a3, .ref a4, .ref a5, .ref a6])), (a1, zA cI 49 w), (a2, zA cI 196 (hcp hs w 49 (k + 1)))] s H locs := hV.arr 2 rfl (fun j hj => by exact hcp_s _ _ _ k j _ rfl) rfl
            exact ih4 (k + 1) (by omega) (by omega) H locs hV ls (lv_sub hl [1, 0] rfl)
      have hV : zV D cI cR A [(o, .inr (6, [.ref a1, .ref a2, .int (nI 1), .int (nI C), .int (nI V), .int (nI Ac), .ref a3, .ref a4, .ref a5, .ref a6])), (a1, zA cI 49 w), (a2, zA cI 196 (hcp hs w 49 0))] s s.heap [] := hV.arr 2 rfl (fun j hj => by first | exact hcp_0 _ _ _ j | (rw [show k = 147 by omega]; exact hcp_0 _ _ _ j)) rfl
      exact L3 (49 - 0 + 1) 0 (by omega) (Nat.lt_succ_self _) s.heap [] hV ls (lv_sub hl [1, 0] rfl)
    · exfalso; omega
  · refine lv_aload_n (pc := 0) S.1 S.2.1 dX6_edit_0 rfl (lv_at hl 0 rfl) ?_
    refine zz_get (pc := 1) S hV.1 iX6 0 rfl rfl 2 (by decide) wd_140 rfl rfl dX6_edit_1 ?_
    refine zz_iconst (pc := 4) (v := nI 4) S dX6_edit_4 rfl ?_
    refine zz_icmp_ne (pc := 5) (tgt := 48) S dX6_edit_5 (by decide) (n_eq (by omega) (by omega)) (fun c5 => ?_) (fun c5 => ?_)
    · refine zz_iconst (pc := 48) (v := nI 0) S dX6_edit_48 rfl ?_
      refine lv_istore_n (pc := 49) (lv' := [(1, .int (nI 0)), (0, .ref o)]) S.1 S.2.1 dX6_edit_49 rfl hl (by decide) rfl (fun ls hl => ?_)
      have L5 : ∀ (f : Nat) (k : Nat), (k ≤ 49) → 49 - k < f → ∀ (H : Heap) (locs : List Loc), zV D cI cR A [(o, .inr (6, [.ref a1, .ref a2, .int (nI 2), .int (nI C), .int (nI V), .int (nI Ac), .ref a3, .ref a4, .ref a5, .ref a6])), (a1, zA cI 49 w), (a2, zA cI 196 (hcp hs w 98 k))] s H locs → ∀ ls : Array Slot, lv_has ls 2 [(0, .ref o), (1, .int (nI k))] → W p l e (headSpec wm_X6_edit ({ frames := 0, cells := 0, slots := 0, locals := 0 } : Room)).room s m ([.ref o] : List Value).toArray below meth c H locs 0 0 (MQ below (zQv D cI cR A (fun w0 => w0 = [(o, .inr (6, [.ref a1, .ref a2, .int (nI (min (2 + 1) 4)), .int (nI C), .int (nI V), .int (nI Ac), .ref a3, .ref a4, .ref a5, .ref a6])), (a1, zA cI 49 w), (a2, zA cI 196 (hst hs w 2))])) ([.ref o] : List Value).toArray s 0 0 A) (F0 m 50 ls []) := by
        intro f
        induction f with
        | zero => intro k hk2 hf; exact absurd hf (Nat.not_lt_zero _)
        | succ f ih6 =>
          intro k hk2 hf H locs hV ls hl
          refine lv_iload_n (pc := 50) S.1 S.2.1 dX6_edit_50 rfl (lv_at hl 1 rfl) ?_
          refine zz_bipush (pc := 51) (v := nI 49) S dX6_edit_51 rfl ?_
          refine zz_icmp_ge (pc := 53) (tgt := 82) S dX6_edit_53 (by decide) (n_le (by omega) (by omega)) (fun c53 => ?_) (fun c53 => ?_)
          · refine lv_aload_n (pc := 82) S.1 S.2.1 dX6_edit_82 rfl (lv_at hl 0 rfl) ?_
            refine lv_dup (pc := 83) S.1 S.2.1 dX6_edit_83 rfl ?_
            refine zz_get (pc := 84) S hV.1 iX6 0 rfl rfl 2 (by decide) wd_140 rfl rfl dX6_edit_84 ?_
            refine zz_iconst (pc := 87) (v := nI 1) S dX6_edit_87 rfl ?_
            refine zz_iadd (pc := 88) (v := nI 3) S dX6_edit_88 (n_add _ _) ?_
            refine zz_put (pc := 89) (v := .int (nI 3)) (ty := .int) S hV iX6 tyX6 tyX6_ok nmX6 0 rfl rfl 2 (by decide) wd_140 rfl rfl (by decide +kernel) rfl rfl (Nat.le_of_ble_eq_true rfl) (ws' := [(o, .inr (6, [.ref a1, .ref a2, .int (nI 3), .int (nI C), .int (nI V), .int (nI Ac), .ref a3, .ref a4, .ref a5, .ref a6])), (a1, zA cI 49 w), (a2, zA cI 196 (hcp hs w 98 k))]) rfl dX6_edit_89 (fun H locs hV => ?_)
            have hV : zV D cI cR A [(o, .inr (6, [.ref a1, .ref a2, .int (nI 3), .int (nI C), .int (nI V), .int (nI Ac), .ref a3, .ref a4, .ref a5, .ref a6])), (a1, zA cI 49 w), (a2, zA cI 196 (hst hs w 2))] s H locs := hV.arr 2 rfl (fun j hj => by rw [show k = 49 by omega]; rfl) rfl
            exact zz_vretM (pc := 92) S hr hlocks hV (rfl) dX6_edit_92
          · refine lv_aload_n (pc := 56) S.1 S.2.1 dX6_edit_56 rfl (lv_at hl 0 rfl) ?_
            refine zz_get (pc := 57) S hV.1 iX6 0 rfl rfl 1 (by decide) wd_68 rfl rfl dX6_edit_57 ?_
            refine zz_bipush (pc := 60) (v := nI 49) S dX6_edit_60 rfl ?_
            refine lv_aload_n (pc := 62) S.1 S.2.1 dX6_edit_62 rfl (lv_at hl 0 rfl) ?_
            refine zz_get (pc := 63) S hV.1 iX6 0 rfl rfl 2 (by decide) wd_140 rfl rfl dX6_edit_63 ?_
            refine zz_imul (pc := 66) (v := nI (49 * 2)) S dX6_edit_66 (n_mul _ _) ?_
            refine lv_iload_n (pc := 67) S.1 S.2.1 dX6_edit_67 rfl (lv_at hl 1 rfl) ?_
            refine zz_iadd (pc := 68) (v := nI (49 * 2 + k)) S dX6_edit_68 (n_add _ _) ?_
            refine lv_aload_n (pc := 69) S.1 S.2.1 dX6_edit_69 rfl (lv_at hl 0 rfl) ?_
            refine zz_get (pc := 70) S hV.1 iX6 0 rfl rfl 0 (by decide) wd_67 rfl rfl dX6_edit_70 ?_
            refine lv_iload_n (pc := 73) S.1 S.2.1 dX6_edit_73 rfl (lv_at hl 1 rfl) ?_
            refine zz_iald (pc := 74) (k := k) S hV.1 1 rfl (by omega) dX6_edit_74 ?_
            refine zz_iast (pc := 75) (k := 49 * 2 + k) (v := w k) S hV 2 rfl (by omega) (ws' := [(o, .inr (6, [.ref a1, .ref a2, .int (nI 2), .int (nI C), .int (nI V), .int (nI Ac), .ref a3, .ref a4, .ref a5, .ref a6])), (a1, zA cI 49 w), (a2, zA cI 196 (va_up (hcp hs w 98 k) (49 * 2 + k) (w k)))]) rfl dX6_edit_75 (fun H locs hV => ?_)
            refine lv_iinc (pc := 76) (v := nI (k + 1)) (lv' := [(1, .int (nI (k + 1))), (0, .ref o)]) S.1 S.2.1 dX6_edit_76 hl (k := 1) rfl (n_add _ _) (by decide) rfl (fun ls hl => ?_)
            refine lv_goto (pc := 79) (tgt := 50) S.1 S.2.1 dX6_edit_79 (by decide) ?_
            have hV : zV D cI cR A [(o, .inr (6, [.ref a1, .ref a2, .int (nI 2), .int (nI C), .int (nI V), .int (nI Ac), .ref a3, .ref a4, .ref a5, .ref a6])), (a1, zA cI 49 w), (a2, zA cI 196 (hcp hs w 98 (k + 1)))] s H locs := hV.arr 2 rfl (fun j hj => by exact hcp_s _ _ _ k j _ rfl) rfl
            exact ih6 (k + 1) (by omega) (by omega) H locs hV ls (lv_sub hl [1, 0] rfl)
      have hV : zV D cI cR A [(o, .inr (6, [.ref a1, .ref a2, .int (nI 2), .int (nI C), .int (nI V), .int (nI Ac), .ref a3, .ref a4, .ref a5, .ref a6])), (a1, zA cI 49 w), (a2, zA cI 196 (hcp hs w 98 0))] s s.heap [] := hV.arr 2 rfl (fun j hj => by first | exact hcp_0 _ _ _ j | (rw [show k = 147 by omega]; exact hcp_0 _ _ _ j)) rfl
      exact L5 (49 - 0 + 1) 0 (by omega) (Nat.lt_succ_self _) s.heap [] hV ls (lv_sub hl [1, 0] rfl)
    · exfalso; omega
  · refine lv_aload_n (pc := 0) S.1 S.2.1 dX6_edit_0 rfl (lv_at hl 0 rfl) ?_
    refine zz_get (pc := 1) S hV.1 iX6 0 rfl rfl 2 (by decide) wd_140 rfl rfl dX6_edit_1 ?_
    refine zz_iconst (pc := 4) (v := nI 4) S dX6_edit_4 rfl ?_
    refine zz_icmp_ne (pc := 5) (tgt := 48) S dX6_edit_5 (by decide) (n_eq (by omega) (by omega)) (fun c5 => ?_) (fun c5 => ?_)
    · refine zz_iconst (pc := 48) (v := nI 0) S dX6_edit_48 rfl ?_
      refine lv_istore_n (pc := 49) (lv' := [(1, .int (nI 0)), (0, .ref o)]) S.1 S.2.1 dX6_edit_49 rfl hl (by decide) rfl (fun ls hl => ?_)
      have L7 : ∀ (f : Nat) (k : Nat), (k ≤ 49) → 49 - k < f → ∀ (H : Heap) (locs : List Loc), zV D cI cR A [(o, .inr (6, [.ref a1, .ref a2, .int (nI 3), .int (nI C), .int (nI V), .int (nI Ac), .ref a3, .ref a4, .ref a5, .ref a6])), (a1, zA cI 49 w), (a2, zA cI 196 (hcp hs w 147 k))] s H locs → ∀ ls : Array Slot, lv_has ls 2 [(0, .ref o), (1, .int (nI k))] → W p l e (headSpec wm_X6_edit ({ frames := 0, cells := 0, slots := 0, locals := 0 } : Room)).room s m ([.ref o] : List Value).toArray below meth c H locs 0 0 (MQ below (zQv D cI cR A (fun w0 => w0 = [(o, .inr (6, [.ref a1, .ref a2, .int (nI (min (3 + 1) 4)), .int (nI C), .int (nI V), .int (nI Ac), .ref a3, .ref a4, .ref a5, .ref a6])), (a1, zA cI 49 w), (a2, zA cI 196 (hst hs w 3))])) ([.ref o] : List Value).toArray s 0 0 A) (F0 m 50 ls []) := by
        intro f
        induction f with
        | zero => intro k hk2 hf; exact absurd hf (Nat.not_lt_zero _)
        | succ f ih8 =>
          intro k hk2 hf H locs hV ls hl
          refine lv_iload_n (pc := 50) S.1 S.2.1 dX6_edit_50 rfl (lv_at hl 1 rfl) ?_
          refine zz_bipush (pc := 51) (v := nI 49) S dX6_edit_51 rfl ?_
          refine zz_icmp_ge (pc := 53) (tgt := 82) S dX6_edit_53 (by decide) (n_le (by omega) (by omega)) (fun c53 => ?_) (fun c53 => ?_)
          · refine lv_aload_n (pc := 82) S.1 S.2.1 dX6_edit_82 rfl (lv_at hl 0 rfl) ?_
            refine lv_dup (pc := 83) S.1 S.2.1 dX6_edit_83 rfl ?_
            refine zz_get (pc := 84) S hV.1 iX6 0 rfl rfl 2 (by decide) wd_140 rfl rfl dX6_edit_84 ?_
            refine zz_iconst (pc := 87) (v := nI 1) S dX6_edit_87 rfl ?_
            refine zz_iadd (pc := 88) (v := nI 4) S dX6_edit_88 (n_add _ _) ?_
            refine zz_put (pc := 89) (v := .int (nI 4)) (ty := .int) S hV iX6 tyX6 tyX6_ok nmX6 0 rfl rfl 2 (by decide) wd_140 rfl rfl (by decide +kernel) rfl rfl (Nat.le_of_ble_eq_true rfl) (ws' := [(o, .inr (6, [.ref a1, .ref a2, .int (nI 4), .int (nI C), .int (nI V), .int (nI Ac), .ref a3, .ref a4, .ref a5, .ref a6])), (a1, zA cI 49 w), (a2, zA cI 196 (hcp hs w 147 k))]) rfl dX6_edit_89 (fun H locs hV => ?_)
            have hV : zV D cI cR A [(o, .inr (6, [.ref a1, .ref a2, .int (nI 4), .int (nI C), .int (nI V), .int (nI Ac), .ref a3, .ref a4, .ref a5, .ref a6])), (a1, zA cI 49 w), (a2, zA cI 196 (hst hs w 3))] s H locs := hV.arr 2 rfl (fun j hj => by rw [show k = 49 by omega]; rfl) rfl
            exact zz_vretM (pc := 92) S hr hlocks hV (rfl) dX6_edit_92
          · refine lv_aload_n (pc := 56) S.1 S.2.1 dX6_edit_56 rfl (lv_at hl 0 rfl) ?_
            refine zz_get (pc := 57) S hV.1 iX6 0 rfl rfl 1 (by decide) wd_68 rfl rfl dX6_edit_57 ?_
            refine zz_bipush (pc := 60) (v := nI 49) S dX6_edit_60 rfl ?_
            refine lv_aload_n (pc := 62) S.1 S.2.1 dX6_edit_62 rfl (lv_at hl 0 rfl) ?_
            refine zz_get (pc := 63) S hV.1 iX6 0 rfl rfl 2 (by decide) wd_140 rfl rfl dX6_edit_63 ?_
            refine zz_imul (pc := 66) (v := nI (49 * 3)) S dX6_edit_66 (n_mul _ _) ?_
            refine lv_iload_n (pc := 67) S.1 S.2.1 dX6_edit_67 rfl (lv_at hl 1 rfl) ?_
            refine zz_iadd (pc := 68) (v := nI (49 * 3 + k)) S dX6_edit_68 (n_add _ _) ?_
            refine lv_aload_n (pc := 69) S.1 S.2.1 dX6_edit_69 rfl (lv_at hl 0 rfl) ?_
            refine zz_get (pc := 70) S hV.1 iX6 0 rfl rfl 0 (by decide) wd_67 rfl rfl dX6_edit_70 ?_
            refine lv_iload_n (pc := 73) S.1 S.2.1 dX6_edit_73 rfl (lv_at hl 1 rfl) ?_
            refine zz_iald (pc := 74) (k := k) S hV.1 1 rfl (by omega) dX6_edit_74 ?_
            refine zz_iast (pc := 75) (k := 49 * 3 + k) (v := w k) S hV 2 rfl (by omega) (ws' := [(o, .inr (6, [.ref a1, .ref a2, .int (nI 3), .int (nI C), .int (nI V), .int (nI Ac), .ref a3, .ref a4, .ref a5, .ref a6])), (a1, zA cI 49 w), (a2, zA cI 196 (va_up (hcp hs w 147 k) (49 * 3 + k) (w k)))]) rfl dX6_edit_75 (fun H locs hV => ?_)
            refine lv_iinc (pc := 76) (v := nI (k + 1)) (lv' := [(1, .int (nI (k + 1))), (0, .ref o)]) S.1 S.2.1 dX6_edit_76 hl (k := 1) rfl (n_add _ _) (by decide) rfl (fun ls hl => ?_)
            refine lv_goto (pc := 79) (tgt := 50) S.1 S.2.1 dX6_edit_79 (by decide) ?_
            have hV : zV D cI cR A [(o, .inr (6, [.ref a1, .ref a2, .int (nI 3), .int (nI C), .int (nI V), .int (nI Ac), .ref a3, .ref a4, .ref a5, .ref a6])), (a1, zA cI 49 w), (a2, zA cI 196 (hcp hs w 147 (k + 1)))] s H locs := hV.arr 2 rfl (fun j hj => by exact hcp_s _ _ _ k j _ rfl) rfl
            exact ih8 (k + 1) (by omega) (by omega) H locs hV ls (lv_sub hl [1, 0] rfl)
      have hV : zV D cI cR A [(o, .inr (6, [.ref a1, .ref a2, .int (nI 3), .int (nI C), .int (nI V), .int (nI Ac), .ref a3, .ref a4, .ref a5, .ref a6])), (a1, zA cI 49 w), (a2, zA cI 196 (hcp hs w 147 0))] s s.heap [] := hV.arr 2 rfl (fun j hj => by first | exact hcp_0 _ _ _ j | (rw [show k = 147 by omega]; exact hcp_0 _ _ _ j)) rfl
      exact L7 (49 - 0 + 1) 0 (by omega) (Nat.lt_succ_self _) s.heap [] hV ls (lv_sub hl [1, 0] rfl)
    · exfalso; omega
  · refine lv_aload_n (pc := 0) S.1 S.2.1 dX6_edit_0 rfl (lv_at hl 0 rfl) ?_
    refine zz_get (pc := 1) S hV.1 iX6 0 rfl rfl 2 (by decide) wd_140 rfl rfl dX6_edit_1 ?_
    refine zz_iconst (pc := 4) (v := nI 4) S dX6_edit_4 rfl ?_
    refine zz_icmp_ne (pc := 5) (tgt := 48) S dX6_edit_5 (by decide) (n_eq (by omega) (by omega)) (fun c5 => ?_) (fun c5 => ?_)
    · exfalso; omega
    · refine zz_iconst (pc := 8) (v := nI 0) S dX6_edit_8 rfl ?_
      refine lv_istore_n (pc := 9) (lv' := [(1, .int (nI 0)), (0, .ref o)]) S.1 S.2.1 dX6_edit_9 rfl hl (by decide) rfl (fun ls hl => ?_)
      have L9 : ∀ (f : Nat) (k : Nat), (k ≤ 147) → 147 - k < f → ∀ (H : Heap) (locs : List Loc), zV D cI cR A [(o, .inr (6, [.ref a1, .ref a2, .int (nI 4), .int (nI C), .int (nI V), .int (nI Ac), .ref a3, .ref a4, .ref a5, .ref a6])), (a1, zA cI 49 w), (a2, zA cI 196 (shl hs 49 0 k))] s H locs → ∀ ls : Array Slot, lv_has ls 2 [(0, .ref o), (1, .int (nI k))] → W p l e (headSpec wm_X6_edit ({ frames := 0, cells := 0, slots := 0, locals := 0 } : Room)).room s m ([.ref o] : List Value).toArray below meth c H locs 0 0 (MQ below (zQv D cI cR A (fun w0 => w0 = [(o, .inr (6, [.ref a1, .ref a2, .int (nI (min (4 + 1) 4)), .int (nI C), .int (nI V), .int (nI Ac), .ref a3, .ref a4, .ref a5, .ref a6])), (a1, zA cI 49 w), (a2, zA cI 196 (hst hs w 4))])) ([.ref o] : List Value).toArray s 0 0 A) (F0 m 10 ls []) := by
        intro f
        induction f with
        | zero => intro k hk hf; exact absurd hf (Nat.not_lt_zero _)
        | succ f ih10 =>
          intro k hk hf H locs hV ls hl
          refine lv_iload_n (pc := 10) S.1 S.2.1 dX6_edit_10 rfl (lv_at hl 1 rfl) ?_
          refine zz_sipush (pc := 11) (v := nI 147) S dX6_edit_11 rfl ?_
          refine zz_icmp_ge (pc := 14) (tgt := 38) S dX6_edit_14 (by decide) (n_le (by omega) (by omega)) (fun c14 => ?_) (fun c14 => ?_)
          · refine lv_aload_n (pc := 38) S.1 S.2.1 dX6_edit_38 rfl (lv_at hl 0 rfl) ?_
            refine lv_dup (pc := 39) S.1 S.2.1 dX6_edit_39 rfl ?_
            refine zz_get (pc := 40) S hV.1 iX6 0 rfl rfl 2 (by decide) wd_140 rfl rfl dX6_edit_40 ?_
            refine zz_iconst (pc := 43) (v := nI 1) S dX6_edit_43 rfl ?_
            refine zz_isub (pc := 44) (v := nI 3) S dX6_edit_44 (n_sub (by omega)) ?_
            refine zz_put (pc := 45) (v := .int (nI 3)) (ty := .int) S hV iX6 tyX6 tyX6_ok nmX6 0 rfl rfl 2 (by decide) wd_140 rfl rfl (by decide +kernel) rfl rfl (Nat.le_of_ble_eq_true rfl) (ws' := [(o, .inr (6, [.ref a1, .ref a2, .int (nI 3), .int (nI C), .int (nI V), .int (nI Ac), .ref a3, .ref a4, .ref a5, .ref a6])), (a1, zA cI 49 w), (a2, zA cI 196 (shl hs 49 0 k))]) rfl dX6_edit_45 (fun H locs hV => ?_)
            refine zz_iconst (pc := 48) (v := nI 0) S dX6_edit_48 rfl ?_
            refine lv_istore_n (pc := 49) (lv' := [(1, .int (nI 0)), (0, .ref o)]) S.1 S.2.1 dX6_edit_49 rfl hl (by decide) rfl (fun ls hl => ?_)
            have L11 : ∀ (f : Nat) (k : Nat), (k ≤ 49) → 49 - k < f → ∀ (H : Heap) (locs : List Loc), zV D cI cR A [(o, .inr (6, [.ref a1, .ref a2, .int (nI 3), .int (nI C), .int (nI V), .int (nI Ac), .ref a3, .ref a4, .ref a5, .ref a6])), (a1, zA cI 49 w), (a2, zA cI 196 (hcp (shl hs 49 0 147) w 147 k))] s H locs → ∀ ls : Array Slot, lv_has ls 2 [(0, .ref o), (1, .int (nI k))] → W p l e (headSpec wm_X6_edit ({ frames := 0, cells := 0, slots := 0, locals := 0 } : Room)).room s m ([.ref o] : List Value).toArray below meth c H locs 0 0 (MQ below (zQv D cI cR A (fun w0 => w0 = [(o, .inr (6, [.ref a1, .ref a2, .int (nI (min (4 + 1) 4)), .int (nI C), .int (nI V), .int (nI Ac), .ref a3, .ref a4, .ref a5, .ref a6])), (a1, zA cI 49 w), (a2, zA cI 196 (hst hs w 4))])) ([.ref o] : List Value).toArray s 0 0 A) (F0 m 50 ls []) := by
              intro f
              induction f with
              | zero => intro k hk2 hf; exact absurd hf (Nat.not_lt_zero _)
              | succ f ih12 =>
                intro k hk2 hf H locs hV ls hl
                refine lv_iload_n (pc := 50) S.1 S.2.1 dX6_edit_50 rfl (lv_at hl 1 rfl) ?_
                refine zz_bipush (pc := 51) (v := nI 49) S dX6_edit_51 rfl ?_
                refine zz_icmp_ge (pc := 53) (tgt := 82) S dX6_edit_53 (by decide) (n_le (by omega) (by omega)) (fun c53 => ?_) (fun c53 => ?_)
                · refine lv_aload_n (pc := 82) S.1 S.2.1 dX6_edit_82 rfl (lv_at hl 0 rfl) ?_
                  refine lv_dup (pc := 83) S.1 S.2.1 dX6_edit_83 rfl ?_
                  refine zz_get (pc := 84) S hV.1 iX6 0 rfl rfl 2 (by decide) wd_140 rfl rfl dX6_edit_84 ?_
                  refine zz_iconst (pc := 87) (v := nI 1) S dX6_edit_87 rfl ?_
                  refine zz_iadd (pc := 88) (v := nI 4) S dX6_edit_88 (n_add _ _) ?_
                  refine zz_put (pc := 89) (v := .int (nI 4)) (ty := .int) S hV iX6 tyX6 tyX6_ok nmX6 0 rfl rfl 2 (by decide) wd_140 rfl rfl (by decide +kernel) rfl rfl (Nat.le_of_ble_eq_true rfl) (ws' := [(o, .inr (6, [.ref a1, .ref a2, .int (nI 4), .int (nI C), .int (nI V), .int (nI Ac), .ref a3, .ref a4, .ref a5, .ref a6])), (a1, zA cI 49 w), (a2, zA cI 196 (hcp (shl hs 49 0 147) w 147 k))]) rfl dX6_edit_89 (fun H locs hV => ?_)
                  have hV : zV D cI cR A [(o, .inr (6, [.ref a1, .ref a2, .int (nI 4), .int (nI C), .int (nI V), .int (nI Ac), .ref a3, .ref a4, .ref a5, .ref a6])), (a1, zA cI 49 w), (a2, zA cI 196 (hst hs w 4))] s H locs := hV.arr 2 rfl (fun j hj => by rw [show k = 49 by omega]; rfl) rfl
                  exact zz_vretM (pc := 92) S hr hlocks hV (rfl) dX6_edit_92
                · refine lv_aload_n (pc := 56) S.1 S.2.1 dX6_edit_56 rfl (lv_at hl 0 rfl) ?_
                  refine zz_get (pc := 57) S hV.1 iX6 0 rfl rfl 1 (by decide) wd_68 rfl rfl dX6_edit_57 ?_
                  refine zz_bipush (pc := 60) (v := nI 49) S dX6_edit_60 rfl ?_
                  refine lv_aload_n (pc := 62) S.1 S.2.1 dX6_edit_62 rfl (lv_at hl 0 rfl) ?_
                  refine zz_get (pc := 63) S hV.1 iX6 0 rfl rfl 2 (by decide) wd_140 rfl rfl dX6_edit_63 ?_
                  refine zz_imul (pc := 66) (v := nI (49 * 3)) S dX6_edit_66 (n_mul _ _) ?_
                  refine lv_iload_n (pc := 67) S.1 S.2.1 dX6_edit_67 rfl (lv_at hl 1 rfl) ?_
                  refine zz_iadd (pc := 68) (v := nI (49 * 3 + k)) S dX6_edit_68 (n_add _ _) ?_
                  refine lv_aload_n (pc := 69) S.1 S.2.1 dX6_edit_69 rfl (lv_at hl 0 rfl) ?_
                  refine zz_get (pc := 70) S hV.1 iX6 0 rfl rfl 0 (by decide) wd_67 rfl rfl dX6_edit_70 ?_
                  refine lv_iload_n (pc := 73) S.1 S.2.1 dX6_edit_73 rfl (lv_at hl 1 rfl) ?_
                  refine zz_iald (pc := 74) (k := k) S hV.1 1 rfl (by omega) dX6_edit_74 ?_
                  refine zz_iast (pc := 75) (k := 49 * 3 + k) (v := w k) S hV 2 rfl (by omega) (ws' := [(o, .inr (6, [.ref a1, .ref a2, .int (nI 3), .int (nI C), .int (nI V), .int (nI Ac), .ref a3, .ref a4, .ref a5, .ref a6])), (a1, zA cI 49 w), (a2, zA cI 196 (va_up (hcp (shl hs 49 0 147) w 147 k) (49 * 3 + k) (w k)))]) rfl dX6_edit_75 (fun H locs hV => ?_)
                  refine lv_iinc (pc := 76) (v := nI (k + 1)) (lv' := [(1, .int (nI (k + 1))), (0, .ref o)]) S.1 S.2.1 dX6_edit_76 hl (k := 1) rfl (n_add _ _) (by decide) rfl (fun ls hl => ?_)
                  refine lv_goto (pc := 79) (tgt := 50) S.1 S.2.1 dX6_edit_79 (by decide) ?_
                  have hV : zV D cI cR A [(o, .inr (6, [.ref a1, .ref a2, .int (nI 3), .int (nI C), .int (nI V), .int (nI Ac), .ref a3, .ref a4, .ref a5, .ref a6])), (a1, zA cI 49 w), (a2, zA cI 196 (hcp (shl hs 49 0 147) w 147 (k + 1)))] s H locs := hV.arr 2 rfl (fun j hj => by exact hcp_s _ _ _ k j _ rfl) rfl
                  exact ih12 (k + 1) (by omega) (by omega) H locs hV ls (lv_sub hl [1, 0] rfl)
            have hV : zV D cI cR A [(o, .inr (6, [.ref a1, .ref a2, .int (nI 3), .int (nI C), .int (nI V), .int (nI Ac), .ref a3, .ref a4, .ref a5, .ref a6])), (a1, zA cI 49 w), (a2, zA cI 196 (hcp (shl hs 49 0 147) w 147 0))] s H locs := hV.arr 2 rfl (fun j hj => by first | exact hcp_0 _ _ _ j | (rw [show k = 147 by omega]; exact hcp_0 _ _ _ j)) rfl
            exact L11 (49 - 0 + 1) 0 (by omega) (Nat.lt_succ_self _) H locs hV ls (lv_sub hl [1, 0] rfl)
          · refine lv_aload_n (pc := 17) S.1 S.2.1 dX6_edit_17 rfl (lv_at hl 0 rfl) ?_
            refine zz_get (pc := 18) S hV.1 iX6 0 rfl rfl 1 (by decide) wd_68 rfl rfl dX6_edit_18 ?_
            refine lv_iload_n (pc := 21) S.1 S.2.1 dX6_edit_21 rfl (lv_at hl 1 rfl) ?_
            refine lv_aload_n (pc := 22) S.1 S.2.1 dX6_edit_22 rfl (lv_at hl 0 rfl) ?_
            refine zz_get (pc := 23) S hV.1 iX6 0 rfl rfl 1 (by decide) wd_68 rfl rfl dX6_edit_23 ?_
            refine lv_iload_n (pc := 26) S.1 S.2.1 dX6_edit_26 rfl (lv_at hl 1 rfl) ?_
            refine zz_bipush (pc := 27) (v := nI 49) S dX6_edit_27 rfl ?_
            refine zz_iadd (pc := 29) (v := nI (k + 49)) S dX6_edit_29 (n_add _ _) ?_
            refine zz_iald (pc := 30) (k := k + 49) S hV.1 2 rfl (by omega) dX6_edit_30 ?_
            refine zz_iast (pc := 31) (k := k) (v := (shl hs 49 0 k) (k + 49)) S hV 2 rfl (by omega) (ws' := [(o, .inr (6, [.ref a1, .ref a2, .int (nI 4), .int (nI C), .int (nI V), .int (nI Ac), .ref a3, .ref a4, .ref a5, .ref a6])), (a1, zA cI 49 w), (a2, zA cI 196 (va_up (shl hs 49 0 k) k ((shl hs 49 0 k) (k + 49))))]) rfl dX6_edit_31 (fun H locs hV => ?_)
            refine lv_iinc (pc := 32) (v := nI (k + 1)) (lv' := [(1, .int (nI (k + 1))), (0, .ref o)]) S.1 S.2.1 dX6_edit_32 hl (k := 1) rfl (n_add _ _) (by decide) rfl (fun ls hl => ?_)
            refine lv_goto (pc := 35) (tgt := 10) S.1 S.2.1 dX6_edit_35 (by decide) ?_
            have hV : zV D cI cR A [(o, .inr (6, [.ref a1, .ref a2, .int (nI 4), .int (nI C), .int (nI V), .int (nI Ac), .ref a3, .ref a4, .ref a5, .ref a6])), (a1, zA cI 49 w), (a2, zA cI 196 (shl hs 49 0 (k + 1)))] s H locs := hV.arr 2 rfl (fun j hj => by exact shl_u hs 49 0 k j (by omega)) rfl
            exact ih10 (k + 1) (by omega) (by omega) H locs hV ls (lv_sub hl [1, 0] rfl)
      have hV : zV D cI cR A [(o, .inr (6, [.ref a1, .ref a2, .int (nI 4), .int (nI C), .int (nI V), .int (nI Ac), .ref a3, .ref a4, .ref a5, .ref a6])), (a1, zA cI 49 w), (a2, zA cI 196 (shl hs 49 0 0))] s s.heap [] := hV.arr 2 rfl (fun j hj => by exact shl_0 hs 49 0 0 j (Nat.le_refl 0)) rfl
      exact L9 (147 - 0 + 1) 0 (by omega) (Nat.lt_succ_self _) s.heap [] hV ls (lv_sub hl [1, 0] rfl)
abbrev wm_X6_undo : List Cond := .code yX6_undo cX6_undo 2 (some .int) :: wU
theorem q_X6_undo : yX6_undo.cls = RX6 ∧ yX6_undo.cls ≠ "java/lang/invoke/MethodHandle" ∧ yX6_undo.cls ≠ "java/lang/invoke/VarHandle" ∧ (parseMethodDescriptor yX6_undo.desc).map (fun d => d.parameters.length) = some 0 := by decide +kernel
set_option maxHeartbeats 4000000 in
set_option maxRecDepth 100000 in
theorem c_X6_undo_e (l : Launch) (D : va_G) (cI cR : ClassId) (o a1 a2 a3 a4 a5 a6 ed C V Ac : Nat) (w : Nat → Nat) (hs : Nat → Nat) (n : Nat) (P X Y L : Nat → Nat) (hge : zGe n P X Y) (hR : zRl w n P X Y L) (hset : zSt C V Ac) (hed : ed = 0) : Met l yX6_undo wm_X6_undo ({ frames := 0, cells := 0, slots := 0, locals := 0 } : Room) (va_Pc [.ref o] (zW D cI cR [(o, .inr (6, [.ref a1, .ref a2, .int (nI ed), .int (nI C), .int (nI V), .int (nI Ac), .ref a3, .ref a4, .ref a5, .ref a6])), (a1, zA cI 49 w), (a2, zA cI 196 hs)])) (vp_Si (fun r => r = zI (-3))) 0 0 (fun _ => False) := by
  refine Met.ofW (cc := cX6_undo) (maxL := 2) (ret := (some .int)) (by decide) rfl ?_
  intro p e s m args below meth c s₁ B hml hv
  obtain ⟨rfl, hG⟩ := hv
  have S : CallFix p m c cX6_undo 2 s ([.ref o] : List Value).toArray wU RX6 := ⟨B.exec, B.bytes, hml, findClass_of_methodNamed B.named, fun w h => atoms_spec (ws := wm_X6_undo) B.pre w (List.mem_cons_of_mem _ h)⟩
  have hr := B.returns
  have hlocks := B.notSynchronized
  have hG : zG D cI cR [(o, .inr (6, [.ref a1, .ref a2, .int (nI ed), .int (nI C), .int (nI V), .int (nI Ac), .ref a3, .ref a4, .ref a5, .ref a6])), (a1, zA cI 49 w), (a2, zA cI 196 hs)] s s.heap := hG
  have hl := lv_entry ([.ref o]) (n := 2) (Nat.le_of_ble_eq_true rfl)
  rw [lg_entry_eq]
  generalize (lg_sl ([.ref o]) ++ List.replicate (2 - (lg_sl ([.ref o])).length) Slot.unset).toArray = ls at hl ⊢
  have hl : lv_has ls 2 [(0, .ref o)] := hl
  obtain ⟨hn, hPf, hXY⟩ := id hge
  obtain ⟨hC, hV9, hA9⟩ := id hset
  refine lv_aload_n (pc := 0) S.1 S.2.1 dX6_undo_0 rfl (lv_at hl 0 rfl) ?_
  refine zz_get (pc := 1) S hG iX6 0 rfl rfl 2 (by decide) wd_140 rfl rfl dX6_undo_1 ?_
  refine zz_if_ne (pc := 4) (tgt := 10) S dX6_undo_4 (by decide) (n_eq0 (by omega)) (fun c4 => ?_) (fun c4 => ?_)
  · exfalso; omega
  · refine zz_bipush (pc := 7) (v := zI (-3)) S dX6_undo_7 rfl ?_
    exact zz_iretS (pc := 9) S hr hlocks (rfl) dX6_undo_9
set_option maxHeartbeats 4000000 in
set_option maxRecDepth 100000 in
theorem c_X6_undo_k (l : Launch) (D : va_G) (cI cR : ClassId) (o a1 a2 a3 a4 a5 a6 ed C V Ac : Nat) (w : Nat → Nat) (hs : Nat → Nat) (n : Nat) (P X Y L : Nat → Nat) (sz : Nat) (hge : zGe n P X Y) (hR : zRl w n P X Y L) (hset : zSt C V Ac) (hed : 1 ≤ ed ∧ ed ≤ 4) : Met l yX6_undo wm_X6_undo ({ frames := 0, cells := 0, slots := 0, locals := 0 } : Room) (va_Pc [.ref o] (zX D cI cR [(o, .inr (6, [.ref a1, .ref a2, .int (nI ed), .int (nI C), .int (nI V), .int (nI Ac), .ref a3, .ref a4, .ref a5, .ref a6])), (a1, zA cI 49 w), (a2, zA cI 196 hs)] sz)) (zQi D cI cR (va_A [(o, .inr (6, [.ref a1, .ref a2, .int (nI ed), .int (nI C), .int (nI V), .int (nI Ac), .ref a3, .ref a4, .ref a5, .ref a6])), (a1, zA cI 49 w), (a2, zA cI 196 hs)] sz) (fun r w0 => (w0 = [(o, .inr (6, [.ref a1, .ref a2, .int (nI (ed - 1)), .int (nI C), .int (nI V), .int (nI Ac), .ref a3, .ref a4, .ref a5, .ref a6])), (a1, zA cI 49 (fun j => hs (49 * (ed - 1) + j))), (a2, zA cI 196 hs)] ∧ r = nI (ed - 1)))) 0 0 (va_A [(o, .inr (6, [.ref a1, .ref a2, .int (nI ed), .int (nI C), .int (nI V), .int (nI Ac), .ref a3, .ref a4, .ref a5, .ref a6])), (a1, zA cI 49 w), (a2, zA cI 196 hs)] sz) := by
  refine Met.ofW (cc := cX6_undo) (maxL := 2) (ret := (some .int)) (by decide) rfl ?_
  intro p e s m args below meth c s₁ B hml hv
  obtain ⟨rfl, hsz, hG, hD0⟩ := hv
  have S : CallFix p m c cX6_undo 2 s ([.ref o] : List Value).toArray wU RX6 := ⟨B.exec, B.bytes, hml, findClass_of_methodNamed B.named, fun w h => atoms_spec (ws := wm_X6_undo) B.pre w (List.mem_cons_of_mem _ h)⟩
  have hr := B.returns
  have hlocks := B.notSynchronized
  subst hsz
  have hD := hD0.self (sz := s.heap.size)
  generalize hAe : va_A [(o, .inr (6, [.ref a1, .ref a2, .int (nI ed), .int (nI C), .int (nI V), .int (nI Ac), .ref a3, .ref a4, .ref a5, .ref a6])), (a1, zA cI 49 w), (a2, zA cI 196 hs)] s.heap.size = A at hD ⊢
  have hV : zV D cI cR A [(o, .inr (6, [.ref a1, .ref a2, .int (nI ed), .int (nI C), .int (nI V), .int (nI Ac), .ref a3, .ref a4, .ref a5, .ref a6])), (a1, zA cI 49 w), (a2, zA cI 196 hs)] s s.heap [] := ⟨hG, hD, va_S.rf, fun q h => by rw [← hAe]; exact Or.inr h⟩
  have hl := lv_entry ([.ref o]) (n := 2) (Nat.le_of_ble_eq_true rfl)
  rw [lg_entry_eq]
  generalize (lg_sl ([.ref o]) ++ List.replicate (2 - (lg_sl ([.ref o])).length) Slot.unset).toArray = ls at hl ⊢
  have hl : lv_has ls 2 [(0, .ref o)] := hl
  obtain ⟨hn, hPf, hXY⟩ := id hge
  obtain ⟨hC, hV9, hA9⟩ := id hset
  refine lv_aload_n (pc := 0) S.1 S.2.1 dX6_undo_0 rfl (lv_at hl 0 rfl) ?_
  refine zz_get (pc := 1) S hV.1 iX6 0 rfl rfl 2 (by decide) wd_140 rfl rfl dX6_undo_1 ?_
  refine zz_if_ne (pc := 4) (tgt := 10) S dX6_undo_4 (by decide) (n_eq0 (by omega)) (fun c4 => ?_) (fun c4 => ?_)
  · refine lv_aload_n (pc := 10) S.1 S.2.1 dX6_undo_10 rfl (lv_at hl 0 rfl) ?_
    refine lv_dup (pc := 11) S.1 S.2.1 dX6_undo_11 rfl ?_
    refine zz_get (pc := 12) S hV.1 iX6 0 rfl rfl 2 (by decide) wd_140 rfl rfl dX6_undo_12 ?_
    refine zz_iconst (pc := 15) (v := nI 1) S dX6_undo_15 rfl ?_
    refine zz_isub (pc := 16) (v := nI (ed - 1)) S dX6_undo_16 (n_sub (by omega)) ?_
    refine zz_put (pc := 17) (v := .int (nI (ed - 1))) (ty := .int) S hV iX6 tyX6 tyX6_ok nmX6 0 rfl rfl 2 (by decide) wd_140 rfl rfl (by decide +kernel) rfl rfl (Nat.le_of_ble_eq_true rfl) (ws' := [(o, .inr (6, [.ref a1, .ref a2, .int (nI (ed - 1)), .int (nI C), .int (nI V), .int (nI Ac), .ref a3, .ref a4, .ref a5, .ref a6])), (a1, zA cI 49 w), (a2, zA cI 196 hs)]) rfl dX6_undo_17 (fun H locs hV => ?_)
    refine zz_iconst (pc := 20) (v := nI 0) S dX6_undo_20 rfl ?_
    refine lv_istore_n (pc := 21) (lv' := [(1, .int (nI 0)), (0, .ref o)]) S.1 S.2.1 dX6_undo_21 rfl hl (by decide) rfl (fun ls hl => ?_)
    have L1 : ∀ (f : Nat) (k : Nat), (k ≤ 49) → 49 - k < f → ∀ (H : Heap) (locs : List Loc), zV D cI cR A [(o, .inr (6, [.ref a1, .ref a2, .int (nI (ed - 1)), .int (nI C), .int (nI V), .int (nI Ac), .ref a3, .ref a4, .ref a5, .ref a6])), (a1, zA cI 49 (hcp w (fun j => hs (49 * (ed - 1) + j)) 0 k)), (a2, zA cI 196 hs)] s H locs → ∀ ls : Array Slot, lv_has ls 2 [(0, .ref o), (1, .int (nI k))] → W p l e (headSpec wm_X6_undo ({ frames := 0, cells := 0, slots := 0, locals := 0 } : Room)).room s m ([.ref o] : List Value).toArray below meth c H locs 0 0 (MQ below (zQi D cI cR A (fun r w0 => (w0 = [(o, .inr (6, [.ref a1, .ref a2, .int (nI (ed - 1)), .int (nI C), .int (nI V), .int (nI Ac), .ref a3, .ref a4, .ref a5, .ref a6])), (a1, zA cI 49 (fun j => hs (49 * (ed - 1) + j))), (a2, zA cI 196 hs)] ∧ r = nI (ed - 1)))) ([.ref o] : List Value).toArray s 0 0 A) (F0 m 22 ls []) := by
      intro f
      induction f with
      | zero => intro k hk2 hf; exact absurd hf (Nat.not_lt_zero _)
      | succ f ih2 =>
        intro k hk2 hf H locs hV ls hl
        refine lv_iload_n (pc := 22) S.1 S.2.1 dX6_undo_22 rfl (lv_at hl 1 rfl) ?_
        refine zz_bipush (pc := 23) (v := nI 49) S dX6_undo_23 rfl ?_
        refine zz_icmp_ge (pc := 25) (tgt := 54) S dX6_undo_25 (by decide) (n_le (by omega) (by omega)) (fun c25 => ?_) (fun c25 => ?_)
        · refine lv_aload_n (pc := 54) S.1 S.2.1 dX6_undo_54 rfl (lv_at hl 0 rfl) ?_
          refine zz_get (pc := 55) S hV.1 iX6 0 rfl rfl 2 (by decide) wd_140 rfl rfl dX6_undo_55 ?_
          have hV : zV D cI cR A [(o, .inr (6, [.ref a1, .ref a2, .int (nI (ed - 1)), .int (nI C), .int (nI V), .int (nI Ac), .ref a3, .ref a4, .ref a5, .ref a6])), (a1, zA cI 49 (fun j => hs (49 * (ed - 1) + j))), (a2, zA cI 196 hs)] s H locs := hV.arr 1 rfl (fun j hj => by unfold hcp; rw [if_pos (by omega), Nat.sub_zero]) rfl
          exact zz_iretM (pc := 58) S hr hlocks hV (⟨rfl, rfl⟩) dX6_undo_58
        · refine lv_aload_n (pc := 28) S.1 S.2.1 dX6_undo_28 rfl (lv_at hl 0 rfl) ?_
          refine zz_get (pc := 29) S hV.1 iX6 0 rfl rfl 0 (by decide) wd_67 rfl rfl dX6_undo_29 ?_
          refine lv_iload_n (pc := 32) S.1 S.2.1 dX6_undo_32 rfl (lv_at hl 1 rfl) ?_
          refine lv_aload_n (pc := 33) S.1 S.2.1 dX6_undo_33 rfl (lv_at hl 0 rfl) ?_
          refine zz_get (pc := 34) S hV.1 iX6 0 rfl rfl 1 (by decide) wd_68 rfl rfl dX6_undo_34 ?_
          refine zz_bipush (pc := 37) (v := nI 49) S dX6_undo_37 rfl ?_
          refine lv_aload_n (pc := 39) S.1 S.2.1 dX6_undo_39 rfl (lv_at hl 0 rfl) ?_
          refine zz_get (pc := 40) S hV.1 iX6 0 rfl rfl 2 (by decide) wd_140 rfl rfl dX6_undo_40 ?_
          refine zz_imul (pc := 43) (v := nI (49 * (ed - 1))) S dX6_undo_43 (n_mul _ _) ?_
          refine lv_iload_n (pc := 44) S.1 S.2.1 dX6_undo_44 rfl (lv_at hl 1 rfl) ?_
          refine zz_iadd (pc := 45) (v := nI (49 * (ed - 1) + k)) S dX6_undo_45 (n_add _ _) ?_
          refine zz_iald (pc := 46) (k := 49 * (ed - 1) + k) S hV.1 2 rfl (by omega) dX6_undo_46 ?_
          refine zz_iast (pc := 47) (k := k) (v := hs (49 * (ed - 1) + k)) S hV 1 rfl (by omega) (ws' := [(o, .inr (6, [.ref a1, .ref a2, .int (nI (ed - 1)), .int (nI C), .int (nI V), .int (nI Ac), .ref a3, .ref a4, .ref a5, .ref a6])), (a1, zA cI 49 (va_up (hcp w (fun j => hs (49 * (ed - 1) + j)) 0 k) k (hs (49 * (ed - 1) + k)))), (a2, zA cI 196 hs)]) rfl dX6_undo_47 (fun H locs hV => ?_)
          refine lv_iinc (pc := 48) (v := nI (k + 1)) (lv' := [(1, .int (nI (k + 1))), (0, .ref o)]) S.1 S.2.1 dX6_undo_48 hl (k := 1) rfl (n_add _ _) (by decide) rfl (fun ls hl => ?_)
          refine lv_goto (pc := 51) (tgt := 22) S.1 S.2.1 dX6_undo_51 (by decide) ?_
          have hV : zV D cI cR A [(o, .inr (6, [.ref a1, .ref a2, .int (nI (ed - 1)), .int (nI C), .int (nI V), .int (nI Ac), .ref a3, .ref a4, .ref a5, .ref a6])), (a1, zA cI 49 (hcp w (fun j => hs (49 * (ed - 1) + j)) 0 (k + 1))), (a2, zA cI 196 hs)] s H locs := hV.arr 1 rfl (fun j hj => by have q := hcp_s w (fun j => hs (49 * (ed - 1) + j)) 0 k j _ rfl; rw [Nat.zero_add] at q; exact q) rfl
          exact ih2 (k + 1) (by omega) (by omega) H locs hV ls (lv_sub hl [1, 0] rfl)
    have hV : zV D cI cR A [(o, .inr (6, [.ref a1, .ref a2, .int (nI (ed - 1)), .int (nI C), .int (nI V), .int (nI Ac), .ref a3, .ref a4, .ref a5, .ref a6])), (a1, zA cI 49 (hcp w (fun j => hs (49 * (ed - 1) + j)) 0 0)), (a2, zA cI 196 hs)] s H locs := hV.arr 1 rfl (fun j hj => by exact hcp_0 _ _ 0 j) rfl
    exact L1 (49 - 0 + 1) 0 (by omega) (Nat.lt_succ_self _) H locs hV ls (lv_sub hl [1, 0] rfl)
  · exfalso; omega
abbrev wm_X6_addStroke : List Cond := .code yX6_addStroke cX6_addStroke 8 (some .int) :: wU
theorem q_X6_addStroke : yX6_addStroke.cls = RX6 ∧ yX6_addStroke.cls ≠ "java/lang/invoke/MethodHandle" ∧ yX6_addStroke.cls ≠ "java/lang/invoke/VarHandle" ∧ (parseMethodDescriptor yX6_addStroke.desc).map (fun d => d.parameters.length) = some 5 := by decide +kernel
set_option maxHeartbeats 4000000 in
set_option maxRecDepth 100000 in
theorem c_X6_addStroke_e (l : Launch) (D : va_G) (cI cR : ClassId) (o a1 a2 a3 a4 a5 a6 ed C V Ac : Nat) (w : Nat → Nat) (n : Nat) (P X Y L : Nat → Nat) (x1 : Int) (y1 : Int) (x2 : Int) (y2 : Int) (q : Int) (hge : zGe n P X Y) (hR : zRl w n P X Y L) (hset : zSt C V Ac) (hx1 : zR x1) (hy1 : zR y1) (hx2 : zR x2) (hy2 : zR y2) (hq : zR q) (hbad : ¬ ((0 ≤ x1 ∧ x1 ≤ 99) ∧ (0 ≤ y1 ∧ y1 ≤ 99) ∧ (0 ≤ x2 ∧ x2 ≤ 99) ∧ (0 ≤ y2 ∧ y2 ≤ 99) ∧ (0 ≤ q ∧ q ≤ 3) ∧ ¬ (x1 = x2 ∧ y1 = y2))) : Met l yX6_addStroke wm_X6_addStroke ({ frames := 1, cells := 0, slots := 0, locals := 22 } : Room) (va_Pc [.ref o, .int (zI x1), .int (zI y1), .int (zI x2), .int (zI y2), .int (zI q)] (zW D cI cR [(o, .inr (6, [.ref a1, .ref a2, .int (nI ed), .int (nI C), .int (nI V), .int (nI Ac), .ref a3, .ref a4, .ref a5, .ref a6])), (a1, zA cI 49 w)])) (vp_Si (fun r => r = zI (-1))) 0 0 (fun _ => False) := by
  refine Met.ofW (cc := cX6_addStroke) (maxL := 8) (ret := (some .int)) (by decide) rfl ?_
  intro p e s m args below meth c s₁ B hml hv
  obtain ⟨rfl, hG⟩ := hv
  have S : CallFix p m c cX6_addStroke 8 s ([.ref o, .int (zI x1), .int (zI y1), .int (zI x2), .int (zI y2), .int (zI q)] : List Value).toArray wU RX6 := ⟨B.exec, B.bytes, hml, findClass_of_methodNamed B.named, fun w h => atoms_spec (ws := wm_X6_addStroke) B.pre w (List.mem_cons_of_mem _ h)⟩
  have hr := B.returns
  have hlocks := B.notSynchronized
  have hG : zG D cI cR [(o, .inr (6, [.ref a1, .ref a2, .int (nI ed), .int (nI C), .int (nI V), .int (nI Ac), .ref a3, .ref a4, .ref a5, .ref a6])), (a1, zA cI 49 w)] s s.heap := hG
  have hl := lv_entry ([.ref o, .int (zI x1), .int (zI y1), .int (zI x2), .int (zI y2), .int (zI q)]) (n := 8) (Nat.le_of_ble_eq_true rfl)
  rw [lg_entry_eq]
  generalize (lg_sl ([.ref o, .int (zI x1), .int (zI y1), .int (zI x2), .int (zI y2), .int (zI q)]) ++ List.replicate (8 - (lg_sl ([.ref o, .int (zI x1), .int (zI y1), .int (zI x2), .int (zI y2), .int (zI q)])).length) Slot.unset).toArray = ls at hl ⊢
  have hl : lv_has ls 8 [(0, .ref o), (1, .int (zI x1)), (2, .int (zI y1)), (3, .int (zI x2)), (4, .int (zI y2)), (5, .int (zI q))] := hl
  have r_hx1 := id hx1
  unfold zR at r_hx1
  have r_hy1 := id hy1
  unfold zR at r_hy1
  have r_hx2 := id hx2
  unfold zR at r_hx2
  have r_hy2 := id hy2
  unfold zR at r_hy2
  have r_hq := id hq
  unfold zR at r_hq
  obtain ⟨hn, hPf, hXY⟩ := id hge
  obtain ⟨hC, hV9, hA9⟩ := id hset
  have J1 : ∀ ls : Array Slot, lv_has ls 8 [(0, .ref o), (1, .int (zI x1)), (2, .int (zI y1)), (3, .int (zI x2)), (4, .int (zI y2)), (5, .int (zI q))] → W p l e (headSpec wm_X6_addStroke ({ frames := 1, cells := 0, slots := 0, locals := 22 } : Room)).room s m ([.ref o, .int (zI x1), .int (zI y1), .int (zI x2), .int (zI y2), .int (zI q)] : List Value).toArray below meth c s.heap [] 0 0 (MQ below (vp_Si (fun r => r = zI (-1))) ([.ref o, .int (zI x1), .int (zI y1), .int (zI x2), .int (zI y2), .int (zI q)] : List Value).toArray s 0 0 (fun _ => False)) (F0 m 67 ls [.int (nI (zB ((0 ≤ x1 ∧ x1 ≤ 99) ∧ (0 ≤ y1 ∧ y1 ≤ 99) ∧ (0 ≤ x2 ∧ x2 ≤ 99) ∧ (0 ≤ y2 ∧ y2 ≤ 99) ∧ (0 ≤ q ∧ q ≤ 3) ∧ ¬ (x1 = x2 ∧ y1 = y2))))]) := by
    intro ls hl
    refine lv_istore (pc := 67) (lv' := [(6, .int (nI (zB ((0 ≤ x1 ∧ x1 ≤ 99) ∧ (0 ≤ y1 ∧ y1 ≤ 99) ∧ (0 ≤ x2 ∧ x2 ≤ 99) ∧ (0 ≤ y2 ∧ y2 ≤ 99) ∧ (0 ≤ q ∧ q ≤ 3) ∧ ¬ (x1 = x2 ∧ y1 = y2))))), (0, .ref o), (1, .int (zI x1)), (2, .int (zI y1)), (3, .int (zI x2)), (4, .int (zI y2)), (5, .int (zI q))]) S.1 S.2.1 dX6_addStroke_67 hl (by decide) rfl (fun ls hl => ?_)
    refine lv_iload (pc := 69) S.1 S.2.1 dX6_addStroke_69 (lv_at hl 0 rfl) ?_
    refine zz_ifb_ne (pc := 71) (tgt := 76) S dX6_addStroke_71 (by decide) (fun c71 => ?_) (fun c71 => ?_)
    · exfalso; omega
    · refine zz_iconst (pc := 74) (v := zI (-1)) S dX6_addStroke_74 rfl ?_
      exact zz_iretS (pc := 75) S hr hlocks (rfl) dX6_addStroke_75
  refine lv_iload_n (pc := 0) S.1 S.2.1 dX6_addStroke_0 rfl (lv_at hl 1 rfl) ?_
  refine zz_iconst (pc := 1) (v := nI 0) S dX6_addStroke_1 rfl ?_
  refine zz_bipush (pc := 2) (v := nI 99) S dX6_addStroke_2 rfl ?_
  refine zz_callS (pc := 4) (As := [.int (zI x1), .int (zI 0), .int (zI 99)]) (rest := []) S (c_X6_in l D cI cR x1 0 99 (by unfold zR; omega) (by unfold zR; omega) (by unfold zR; omega)) (zuS wd_135 wd_133 wd_134 wd_5) 3 rfl q_X6_in.2 ⟨⟨rfl, rfl⟩, Nat.le_of_ble_eq_true rfl, Nat.le_of_ble_eq_true rfl⟩ rfl rfl (Nat.le_of_ble_eq_true rfl) hl.1 ⟨Nat.zero_le _, Nat.zero_le _⟩ dX6_addStroke_4 ?_
  refine zz_ifb_eq (pc := 7) (tgt := 66) S dX6_addStroke_7 (by decide) (fun c7 => ?_) (fun c7 => ?_)
  · refine zz_iconst (pc := 66) (v := nI 0) S dX6_addStroke_66 rfl ?_
    refine zz_cast (v := nI (zB ((0 ≤ x1 ∧ x1 ≤ 99) ∧ (0 ≤ y1 ∧ y1 ≤ 99) ∧ (0 ≤ x2 ∧ x2 ≤ 99) ∧ (0 ≤ y2 ∧ y2 ≤ 99) ∧ (0 ≤ q ∧ q ≤ 3) ∧ ¬ (x1 = x2 ∧ y1 = y2)))) (congrArg nI (zB_f (by omega)).symm) ?_
    exact J1 ls (lv_sub hl [0, 1, 2, 3, 4, 5] rfl)
  · refine lv_iload_n (pc := 10) S.1 S.2.1 dX6_addStroke_10 rfl (lv_at hl 2 rfl) ?_
    refine zz_iconst (pc := 11) (v := nI 0) S dX6_addStroke_11 rfl ?_
    refine zz_bipush (pc := 12) (v := nI 99) S dX6_addStroke_12 rfl ?_
    refine zz_callS (pc := 14) (As := [.int (zI y1), .int (zI 0), .int (zI 99)]) (rest := []) S (c_X6_in l D cI cR y1 0 99 (by unfold zR; omega) (by unfold zR; omega) (by unfold zR; omega)) (zuS wd_135 wd_133 wd_134 wd_5) 3 rfl q_X6_in.2 ⟨⟨rfl, rfl⟩, Nat.le_of_ble_eq_true rfl, Nat.le_of_ble_eq_true rfl⟩ rfl rfl (Nat.le_of_ble_eq_true rfl) hl.1 ⟨Nat.zero_le _, Nat.zero_le _⟩ dX6_addStroke_14 ?_
    refine zz_ifb_eq (pc := 17) (tgt := 66) S dX6_addStroke_17 (by decide) (fun c17 => ?_) (fun c17 => ?_)
    · refine zz_iconst (pc := 66) (v := nI 0) S dX6_addStroke_66 rfl ?_
      refine zz_cast (v := nI (zB ((0 ≤ x1 ∧ x1 ≤ 99) ∧ (0 ≤ y1 ∧ y1 ≤ 99) ∧ (0 ≤ x2 ∧ x2 ≤ 99) ∧ (0 ≤ y2 ∧ y2 ≤ 99) ∧ (0 ≤ q ∧ q ≤ 3) ∧ ¬ (x1 = x2 ∧ y1 = y2)))) (congrArg nI (zB_f (by omega)).symm) ?_
      exact J1 ls (lv_sub hl [0, 1, 2, 3, 4, 5] rfl)
    · refine lv_iload_n (pc := 20) S.1 S.2.1 dX6_addStroke_20 rfl (lv_at hl 3 rfl) ?_
      refine zz_iconst (pc := 21) (v := nI 0) S dX6_addStroke_21 rfl ?_
      refine zz_bipush (pc := 22) (v := nI 99) S dX6_addStroke_22 rfl ?_
      refine zz_callS (pc := 24) (As := [.int (zI x2), .int (zI 0), .int (zI 99)]) (rest := []) S (c_X6_in l D cI cR x2 0 99 (by unfold zR; omega) (by unfold zR; omega) (by unfold zR; omega)) (zuS wd_135 wd_133 wd_134 wd_5) 3 rfl q_X6_in.2 ⟨⟨rfl, rfl⟩, Nat.le_of_ble_eq_true rfl, Nat.le_of_ble_eq_true rfl⟩ rfl rfl (Nat.le_of_ble_eq_true rfl) hl.1 ⟨Nat.zero_le _, Nat.zero_le _⟩ dX6_addStroke_24 ?_
      refine zz_ifb_eq (pc := 27) (tgt := 66) S dX6_addStroke_27 (by decide) (fun c27 => ?_) (fun c27 => ?_)
      · refine zz_iconst (pc := 66) (v := nI 0) S dX6_addStroke_66 rfl ?_
        refine zz_cast (v := nI (zB ((0 ≤ x1 ∧ x1 ≤ 99) ∧ (0 ≤ y1 ∧ y1 ≤ 99) ∧ (0 ≤ x2 ∧ x2 ≤ 99) ∧ (0 ≤ y2 ∧ y2 ≤ 99) ∧ (0 ≤ q ∧ q ≤ 3) ∧ ¬ (x1 = x2 ∧ y1 = y2)))) (congrArg nI (zB_f (by omega)).symm) ?_
        exact J1 ls (lv_sub hl [0, 1, 2, 3, 4, 5] rfl)
      · refine lv_iload (pc := 30) S.1 S.2.1 dX6_addStroke_30 (lv_at hl 4 rfl) ?_
        refine zz_iconst (pc := 32) (v := nI 0) S dX6_addStroke_32 rfl ?_
        refine zz_bipush (pc := 33) (v := nI 99) S dX6_addStroke_33 rfl ?_
        refine zz_callS (pc := 35) (As := [.int (zI y2), .int (zI 0), .int (zI 99)]) (rest := []) S (c_X6_in l D cI cR y2 0 99 (by unfold zR; omega) (by unfold zR; omega) (by unfold zR; omega)) (zuS wd_135 wd_133 wd_134 wd_5) 3 rfl q_X6_in.2 ⟨⟨rfl, rfl⟩, Nat.le_of_ble_eq_true rfl, Nat.le_of_ble_eq_true rfl⟩ rfl rfl (Nat.le_of_ble_eq_true rfl) hl.1 ⟨Nat.zero_le _, Nat.zero_le _⟩ dX6_addStroke_35 ?_
        refine zz_ifb_eq (pc := 38) (tgt := 66) S dX6_addStroke_38 (by decide) (fun c38 => ?_) (fun c38 => ?_)
        · refine zz_iconst (pc := 66) (v := nI 0) S dX6_addStroke_66 rfl ?_
          refine zz_cast (v := nI (zB ((0 ≤ x1 ∧ x1 ≤ 99) ∧ (0 ≤ y1 ∧ y1 ≤ 99) ∧ (0 ≤ x2 ∧ x2 ≤ 99) ∧ (0 ≤ y2 ∧ y2 ≤ 99) ∧ (0 ≤ q ∧ q ≤ 3) ∧ ¬ (x1 = x2 ∧ y1 = y2)))) (congrArg nI (zB_f (by omega)).symm) ?_
          exact J1 ls (lv_sub hl [0, 1, 2, 3, 4, 5] rfl)
        · refine lv_iload (pc := 41) S.1 S.2.1 dX6_addStroke_41 (lv_at hl 5 rfl) ?_
          refine zz_iconst (pc := 43) (v := nI 0) S dX6_addStroke_43 rfl ?_
          refine zz_iconst (pc := 44) (v := nI 3) S dX6_addStroke_44 rfl ?_
          refine zz_callS (pc := 45) (As := [.int (zI q), .int (zI 0), .int (zI 3)]) (rest := []) S (c_X6_in l D cI cR q 0 3 (by unfold zR; omega) (by unfold zR; omega) (by unfold zR; omega)) (zuS wd_135 wd_133 wd_134 wd_5) 3 rfl q_X6_in.2 ⟨⟨rfl, rfl⟩, Nat.le_of_ble_eq_true rfl, Nat.le_of_ble_eq_true rfl⟩ rfl rfl (Nat.le_of_ble_eq_true rfl) hl.1 ⟨Nat.zero_le _, Nat.zero_le _⟩ dX6_addStroke_45 ?_
          refine zz_ifb_eq (pc := 48) (tgt := 66) S dX6_addStroke_48 (by decide) (fun c48 => ?_) (fun c48 => ?_)
          · refine zz_iconst (pc := 66) (v := nI 0) S dX6_addStroke_66 rfl ?_
            refine zz_cast (v := nI (zB ((0 ≤ x1 ∧ x1 ≤ 99) ∧ (0 ≤ y1 ∧ y1 ≤ 99) ∧ (0 ≤ x2 ∧ x2 ≤ 99) ∧ (0 ≤ y2 ∧ y2 ≤ 99) ∧ (0 ≤ q ∧ q ≤ 3) ∧ ¬ (x1 = x2 ∧ y1 = y2)))) (congrArg nI (zB_f (by omega)).symm) ?_
            exact J1 ls (lv_sub hl [0, 1, 2, 3, 4, 5] rfl)
          · refine lv_iload_n (pc := 51) S.1 S.2.1 dX6_addStroke_51 rfl (lv_at hl 1 rfl) ?_
            refine lv_iload_n (pc := 52) S.1 S.2.1 dX6_addStroke_52 rfl (lv_at hl 3 rfl) ?_
            refine zz_icmp_ne (pc := 53) (tgt := 62) S dX6_addStroke_53 (by decide) (zI_eq (a := x1) (b := x2) (by unfold zR; omega) (by unfold zR; omega)) (fun c53 => ?_) (fun c53 => ?_)
            · refine zz_iconst (pc := 62) (v := nI 1) S dX6_addStroke_62 rfl ?_
              refine lv_goto (pc := 63) (tgt := 67) S.1 S.2.1 dX6_addStroke_63 (by decide) ?_
              refine zz_cast (v := nI (zB ((0 ≤ x1 ∧ x1 ≤ 99) ∧ (0 ≤ y1 ∧ y1 ≤ 99) ∧ (0 ≤ x2 ∧ x2 ≤ 99) ∧ (0 ≤ y2 ∧ y2 ≤ 99) ∧ (0 ≤ q ∧ q ≤ 3) ∧ ¬ (x1 = x2 ∧ y1 = y2)))) (congrArg nI (zB_t (by omega)).symm) ?_
              exact J1 ls (lv_sub hl [0, 1, 2, 3, 4, 5] rfl)
            · refine lv_iload_n (pc := 56) S.1 S.2.1 dX6_addStroke_56 rfl (lv_at hl 2 rfl) ?_
              refine lv_iload (pc := 57) S.1 S.2.1 dX6_addStroke_57 (lv_at hl 4 rfl) ?_
              refine zz_icmp_eq (pc := 59) (tgt := 66) S dX6_addStroke_59 (by decide) (zI_eq (a := y1) (b := y2) (by unfold zR; omega) (by unfold zR; omega)) (fun c59 => ?_) (fun c59 => ?_)
              · refine zz_iconst (pc := 66) (v := nI 0) S dX6_addStroke_66 rfl ?_
                refine zz_cast (v := nI (zB ((0 ≤ x1 ∧ x1 ≤ 99) ∧ (0 ≤ y1 ∧ y1 ≤ 99) ∧ (0 ≤ x2 ∧ x2 ≤ 99) ∧ (0 ≤ y2 ∧ y2 ≤ 99) ∧ (0 ≤ q ∧ q ≤ 3) ∧ ¬ (x1 = x2 ∧ y1 = y2)))) (congrArg nI (zB_f (by omega)).symm) ?_
                exact J1 ls (lv_sub hl [0, 1, 2, 3, 4, 5] rfl)
              · refine zz_iconst (pc := 62) (v := nI 1) S dX6_addStroke_62 rfl ?_
                refine lv_goto (pc := 63) (tgt := 67) S.1 S.2.1 dX6_addStroke_63 (by decide) ?_
                refine zz_cast (v := nI (zB ((0 ≤ x1 ∧ x1 ≤ 99) ∧ (0 ≤ y1 ∧ y1 ≤ 99) ∧ (0 ≤ x2 ∧ x2 ≤ 99) ∧ (0 ≤ y2 ∧ y2 ≤ 99) ∧ (0 ≤ q ∧ q ≤ 3) ∧ ¬ (x1 = x2 ∧ y1 = y2)))) (congrArg nI (zB_t (by omega)).symm) ?_
                exact J1 ls (lv_sub hl [0, 1, 2, 3, 4, 5] rfl)
set_option maxHeartbeats 4000000 in
set_option maxRecDepth 100000 in
theorem c_X6_addStroke_f (l : Launch) (D : va_G) (cI cR : ClassId) (o a1 a2 a3 a4 a5 a6 ed C V Ac : Nat) (w : Nat → Nat) (n : Nat) (P X Y L : Nat → Nat) (x1 : Nat) (y1 : Nat) (x2 : Nat) (y2 : Nat) (q : Nat) (hge : zGe n P X Y) (hR : zRl w n P X Y L) (hset : zSt C V Ac) (hgood : (x1 ≤ 99 ∧ y1 ≤ 99) ∧ (x2 ≤ 99 ∧ y2 ≤ 99) ∧ q ≤ 3 ∧ ¬ (x1 = x2 ∧ y1 = y2)) (hfull : ¬ n < 8) : Met l yX6_addStroke wm_X6_addStroke ({ frames := 1, cells := 0, slots := 0, locals := 22 } : Room) (va_Pc [.ref o, .int (nI x1), .int (nI y1), .int (nI x2), .int (nI y2), .int (nI q)] (zW D cI cR [(o, .inr (6, [.ref a1, .ref a2, .int (nI ed), .int (nI C), .int (nI V), .int (nI Ac), .ref a3, .ref a4, .ref a5, .ref a6])), (a1, zA cI 49 w)])) (vp_Si (fun r => r = zI (-2))) 0 0 (fun _ => False) := by
  refine Met.ofW (cc := cX6_addStroke) (maxL := 8) (ret := (some .int)) (by decide) rfl ?_
  intro p e s m args below meth c s₁ B hml hv
  obtain ⟨rfl, hG⟩ := hv
  have S : CallFix p m c cX6_addStroke 8 s ([.ref o, .int (nI x1), .int (nI y1), .int (nI x2), .int (nI y2), .int (nI q)] : List Value).toArray wU RX6 := ⟨B.exec, B.bytes, hml, findClass_of_methodNamed B.named, fun w h => atoms_spec (ws := wm_X6_addStroke) B.pre w (List.mem_cons_of_mem _ h)⟩
  have hr := B.returns
  have hlocks := B.notSynchronized
  have hG : zG D cI cR [(o, .inr (6, [.ref a1, .ref a2, .int (nI ed), .int (nI C), .int (nI V), .int (nI Ac), .ref a3, .ref a4, .ref a5, .ref a6])), (a1, zA cI 49 w)] s s.heap := hG
  have hl := lv_entry ([.ref o, .int (nI x1), .int (nI y1), .int (nI x2), .int (nI y2), .int (nI q)]) (n := 8) (Nat.le_of_ble_eq_true rfl)
  rw [lg_entry_eq]
  generalize (lg_sl ([.ref o, .int (nI x1), .int (nI y1), .int (nI x2), .int (nI y2), .int (nI q)]) ++ List.replicate (8 - (lg_sl ([.ref o, .int (nI x1), .int (nI y1), .int (nI x2), .int (nI y2), .int (nI q)])).length) Slot.unset).toArray = ls at hl ⊢
  have hl : lv_has ls 8 [(0, .ref o), (1, .int (nI x1)), (2, .int (nI y1)), (3, .int (nI x2)), (4, .int (nI y2)), (5, .int (nI q))] := hl
  obtain ⟨hn, hPf, hXY⟩ := id hge
  obtain ⟨hC, hV9, hA9⟩ := id hset
  have J1 : ∀ ls : Array Slot, lv_has ls 8 [(0, .ref o), (1, .int (nI x1)), (2, .int (nI y1)), (3, .int (nI x2)), (4, .int (nI y2)), (5, .int (nI q))] → W p l e (headSpec wm_X6_addStroke ({ frames := 1, cells := 0, slots := 0, locals := 22 } : Room)).room s m ([.ref o, .int (nI x1), .int (nI y1), .int (nI x2), .int (nI y2), .int (nI q)] : List Value).toArray below meth c s.heap [] 0 0 (MQ below (vp_Si (fun r => r = zI (-2))) ([.ref o, .int (nI x1), .int (nI y1), .int (nI x2), .int (nI y2), .int (nI q)] : List Value).toArray s 0 0 (fun _ => False)) (F0 m 67 ls [.int (nI (zB ((x1 ≤ 99 ∧ y1 ≤ 99) ∧ (x2 ≤ 99 ∧ y2 ≤ 99) ∧ q ≤ 3 ∧ ¬ (x1 = x2 ∧ y1 = y2))))]) := by
    intro ls hl
    refine lv_istore (pc := 67) (lv' := [(6, .int (nI (zB ((x1 ≤ 99 ∧ y1 ≤ 99) ∧ (x2 ≤ 99 ∧ y2 ≤ 99) ∧ q ≤ 3 ∧ ¬ (x1 = x2 ∧ y1 = y2))))), (0, .ref o), (1, .int (nI x1)), (2, .int (nI y1)), (3, .int (nI x2)), (4, .int (nI y2)), (5, .int (nI q))]) S.1 S.2.1 dX6_addStroke_67 hl (by decide) rfl (fun ls hl => ?_)
    refine lv_iload (pc := 69) S.1 S.2.1 dX6_addStroke_69 (lv_at hl 0 rfl) ?_
    refine zz_ifb_ne (pc := 71) (tgt := 76) S dX6_addStroke_71 (by decide) (fun c71 => ?_) (fun c71 => ?_)
    · refine lv_aload_n (pc := 76) S.1 S.2.1 dX6_addStroke_76 rfl (lv_at hl 1 rfl) ?_
      refine zz_get (pc := 77) S hG iX6 0 rfl rfl 0 (by decide) wd_67 rfl rfl dX6_addStroke_77 ?_
      refine zz_bipush (pc := 80) (v := nI 48) S dX6_addStroke_80 rfl ?_
      refine zz_iald (pc := 82) (k := 48) S hG 1 rfl (by omega) dX6_addStroke_82 ?_
      refine zz_cast (v := nI n) (congrArg nI hR.1) ?_
      refine zz_bipush (pc := 83) (v := nI 8) S dX6_addStroke_83 rfl ?_
      refine zz_icmp_ne (pc := 85) (tgt := 91) S dX6_addStroke_85 (by decide) (n_eq (by omega) (by omega)) (fun c85 => ?_) (fun c85 => ?_)
      · exfalso; omega
      · refine zz_bipush (pc := 88) (v := zI (-2)) S dX6_addStroke_88 rfl ?_
        exact zz_iretS (pc := 90) S hr hlocks (rfl) dX6_addStroke_90
    · exfalso; omega
  refine lv_iload_n (pc := 0) S.1 S.2.1 dX6_addStroke_0 rfl (lv_at hl 1 rfl) ?_
  refine zz_iconst (pc := 1) (v := nI 0) S dX6_addStroke_1 rfl ?_
  refine zz_bipush (pc := 2) (v := nI 99) S dX6_addStroke_2 rfl ?_
  refine zz_callS (pc := 4) (As := [.int (zI ((x1 : Nat) : Int)), .int (zI 0), .int (zI 99)]) (rest := []) S (c_X6_in l D cI cR ((x1 : Nat) : Int) 0 99 (by unfold zR; omega) (by unfold zR; omega) (by unfold zR; omega)) (zuS wd_135 wd_133 wd_134 wd_5) 3 rfl q_X6_in.2 ⟨⟨rfl, rfl⟩, Nat.le_of_ble_eq_true rfl, Nat.le_of_ble_eq_true rfl⟩ rfl rfl (Nat.le_of_ble_eq_true rfl) hl.1 ⟨Nat.zero_le _, Nat.zero_le _⟩ dX6_addStroke_4 ?_
  refine zz_ifb_eq (pc := 7) (tgt := 66) S dX6_addStroke_7 (by decide) (fun c7 => ?_) (fun c7 => ?_)
  · refine zz_iconst (pc := 66) (v := nI 0) S dX6_addStroke_66 rfl ?_
    refine zz_cast (v := nI (zB ((x1 ≤ 99 ∧ y1 ≤ 99) ∧ (x2 ≤ 99 ∧ y2 ≤ 99) ∧ q ≤ 3 ∧ ¬ (x1 = x2 ∧ y1 = y2)))) (congrArg nI (zB_f (by omega)).symm) ?_
    exact J1 ls (lv_sub hl [0, 1, 2, 3, 4, 5] rfl)
  · refine lv_iload_n (pc := 10) S.1 S.2.1 dX6_addStroke_10 rfl (lv_at hl 2 rfl) ?_
    refine zz_iconst (pc := 11) (v := nI 0) S dX6_addStroke_11 rfl ?_
    refine zz_bipush (pc := 12) (v := nI 99) S dX6_addStroke_12 rfl ?_
    refine zz_callS (pc := 14) (As := [.int (zI ((y1 : Nat) : Int)), .int (zI 0), .int (zI 99)]) (rest := []) S (c_X6_in l D cI cR ((y1 : Nat) : Int) 0 99 (by unfold zR; omega) (by unfold zR; omega) (by unfold zR; omega)) (zuS wd_135 wd_133 wd_134 wd_5) 3 rfl q_X6_in.2 ⟨⟨rfl, rfl⟩, Nat.le_of_ble_eq_true rfl, Nat.le_of_ble_eq_true rfl⟩ rfl rfl (Nat.le_of_ble_eq_true rfl) hl.1 ⟨Nat.zero_le _, Nat.zero_le _⟩ dX6_addStroke_14 ?_
    refine zz_ifb_eq (pc := 17) (tgt := 66) S dX6_addStroke_17 (by decide) (fun c17 => ?_) (fun c17 => ?_)
    · refine zz_iconst (pc := 66) (v := nI 0) S dX6_addStroke_66 rfl ?_
      refine zz_cast (v := nI (zB ((x1 ≤ 99 ∧ y1 ≤ 99) ∧ (x2 ≤ 99 ∧ y2 ≤ 99) ∧ q ≤ 3 ∧ ¬ (x1 = x2 ∧ y1 = y2)))) (congrArg nI (zB_f (by omega)).symm) ?_
      exact J1 ls (lv_sub hl [0, 1, 2, 3, 4, 5] rfl)
    · refine lv_iload_n (pc := 20) S.1 S.2.1 dX6_addStroke_20 rfl (lv_at hl 3 rfl) ?_
      refine zz_iconst (pc := 21) (v := nI 0) S dX6_addStroke_21 rfl ?_
      refine zz_bipush (pc := 22) (v := nI 99) S dX6_addStroke_22 rfl ?_
      refine zz_callS (pc := 24) (As := [.int (zI ((x2 : Nat) : Int)), .int (zI 0), .int (zI 99)]) (rest := []) S (c_X6_in l D cI cR ((x2 : Nat) : Int) 0 99 (by unfold zR; omega) (by unfold zR; omega) (by unfold zR; omega)) (zuS wd_135 wd_133 wd_134 wd_5) 3 rfl q_X6_in.2 ⟨⟨rfl, rfl⟩, Nat.le_of_ble_eq_true rfl, Nat.le_of_ble_eq_true rfl⟩ rfl rfl (Nat.le_of_ble_eq_true rfl) hl.1 ⟨Nat.zero_le _, Nat.zero_le _⟩ dX6_addStroke_24 ?_
      refine zz_ifb_eq (pc := 27) (tgt := 66) S dX6_addStroke_27 (by decide) (fun c27 => ?_) (fun c27 => ?_)
      · refine zz_iconst (pc := 66) (v := nI 0) S dX6_addStroke_66 rfl ?_
        refine zz_cast (v := nI (zB ((x1 ≤ 99 ∧ y1 ≤ 99) ∧ (x2 ≤ 99 ∧ y2 ≤ 99) ∧ q ≤ 3 ∧ ¬ (x1 = x2 ∧ y1 = y2)))) (congrArg nI (zB_f (by omega)).symm) ?_
        exact J1 ls (lv_sub hl [0, 1, 2, 3, 4, 5] rfl)
      · refine lv_iload (pc := 30) S.1 S.2.1 dX6_addStroke_30 (lv_at hl 4 rfl) ?_
        refine zz_iconst (pc := 32) (v := nI 0) S dX6_addStroke_32 rfl ?_
        refine zz_bipush (pc := 33) (v := nI 99) S dX6_addStroke_33 rfl ?_
        refine zz_callS (pc := 35) (As := [.int (zI ((y2 : Nat) : Int)), .int (zI 0), .int (zI 99)]) (rest := []) S (c_X6_in l D cI cR ((y2 : Nat) : Int) 0 99 (by unfold zR; omega) (by unfold zR; omega) (by unfold zR; omega)) (zuS wd_135 wd_133 wd_134 wd_5) 3 rfl q_X6_in.2 ⟨⟨rfl, rfl⟩, Nat.le_of_ble_eq_true rfl, Nat.le_of_ble_eq_true rfl⟩ rfl rfl (Nat.le_of_ble_eq_true rfl) hl.1 ⟨Nat.zero_le _, Nat.zero_le _⟩ dX6_addStroke_35 ?_
        refine zz_ifb_eq (pc := 38) (tgt := 66) S dX6_addStroke_38 (by decide) (fun c38 => ?_) (fun c38 => ?_)
        · refine zz_iconst (pc := 66) (v := nI 0) S dX6_addStroke_66 rfl ?_
          refine zz_cast (v := nI (zB ((x1 ≤ 99 ∧ y1 ≤ 99) ∧ (x2 ≤ 99 ∧ y2 ≤ 99) ∧ q ≤ 3 ∧ ¬ (x1 = x2 ∧ y1 = y2)))) (congrArg nI (zB_f (by omega)).symm) ?_
          exact J1 ls (lv_sub hl [0, 1, 2, 3, 4, 5] rfl)
        · refine lv_iload (pc := 41) S.1 S.2.1 dX6_addStroke_41 (lv_at hl 5 rfl) ?_
          refine zz_iconst (pc := 43) (v := nI 0) S dX6_addStroke_43 rfl ?_
          refine zz_iconst (pc := 44) (v := nI 3) S dX6_addStroke_44 rfl ?_
          refine zz_callS (pc := 45) (As := [.int (zI ((q : Nat) : Int)), .int (zI 0), .int (zI 3)]) (rest := []) S (c_X6_in l D cI cR ((q : Nat) : Int) 0 3 (by unfold zR; omega) (by unfold zR; omega) (by unfold zR; omega)) (zuS wd_135 wd_133 wd_134 wd_5) 3 rfl q_X6_in.2 ⟨⟨rfl, rfl⟩, Nat.le_of_ble_eq_true rfl, Nat.le_of_ble_eq_true rfl⟩ rfl rfl (Nat.le_of_ble_eq_true rfl) hl.1 ⟨Nat.zero_le _, Nat.zero_le _⟩ dX6_addStroke_45 ?_
          refine zz_ifb_eq (pc := 48) (tgt := 66) S dX6_addStroke_48 (by decide) (fun c48 => ?_) (fun c48 => ?_)
          · refine zz_iconst (pc := 66) (v := nI 0) S dX6_addStroke_66 rfl ?_
            refine zz_cast (v := nI (zB ((x1 ≤ 99 ∧ y1 ≤ 99) ∧ (x2 ≤ 99 ∧ y2 ≤ 99) ∧ q ≤ 3 ∧ ¬ (x1 = x2 ∧ y1 = y2)))) (congrArg nI (zB_f (by omega)).symm) ?_
            exact J1 ls (lv_sub hl [0, 1, 2, 3, 4, 5] rfl)
          · refine lv_iload_n (pc := 51) S.1 S.2.1 dX6_addStroke_51 rfl (lv_at hl 1 rfl) ?_
            refine lv_iload_n (pc := 52) S.1 S.2.1 dX6_addStroke_52 rfl (lv_at hl 3 rfl) ?_
            refine zz_icmp_ne (pc := 53) (tgt := 62) S dX6_addStroke_53 (by decide) (n_eq (by omega) (by omega)) (fun c53 => ?_) (fun c53 => ?_)
            · refine zz_iconst (pc := 62) (v := nI 1) S dX6_addStroke_62 rfl ?_
              refine lv_goto (pc := 63) (tgt := 67) S.1 S.2.1 dX6_addStroke_63 (by decide) ?_
              refine zz_cast (v := nI (zB ((x1 ≤ 99 ∧ y1 ≤ 99) ∧ (x2 ≤ 99 ∧ y2 ≤ 99) ∧ q ≤ 3 ∧ ¬ (x1 = x2 ∧ y1 = y2)))) (congrArg nI (zB_t (by omega)).symm) ?_
              exact J1 ls (lv_sub hl [0, 1, 2, 3, 4, 5] rfl)
            · refine lv_iload_n (pc := 56) S.1 S.2.1 dX6_addStroke_56 rfl (lv_at hl 2 rfl) ?_
              refine lv_iload (pc := 57) S.1 S.2.1 dX6_addStroke_57 (lv_at hl 4 rfl) ?_
              refine zz_icmp_eq (pc := 59) (tgt := 66) S dX6_addStroke_59 (by decide) (n_eq (by omega) (by omega)) (fun c59 => ?_) (fun c59 => ?_)
              · refine zz_iconst (pc := 66) (v := nI 0) S dX6_addStroke_66 rfl ?_
                refine zz_cast (v := nI (zB ((x1 ≤ 99 ∧ y1 ≤ 99) ∧ (x2 ≤ 99 ∧ y2 ≤ 99) ∧ q ≤ 3 ∧ ¬ (x1 = x2 ∧ y1 = y2)))) (congrArg nI (zB_f (by omega)).symm) ?_
                exact J1 ls (lv_sub hl [0, 1, 2, 3, 4, 5] rfl)
              · refine zz_iconst (pc := 62) (v := nI 1) S dX6_addStroke_62 rfl ?_
                refine lv_goto (pc := 63) (tgt := 67) S.1 S.2.1 dX6_addStroke_63 (by decide) ?_
                refine zz_cast (v := nI (zB ((x1 ≤ 99 ∧ y1 ≤ 99) ∧ (x2 ≤ 99 ∧ y2 ≤ 99) ∧ q ≤ 3 ∧ ¬ (x1 = x2 ∧ y1 = y2)))) (congrArg nI (zB_t (by omega)).symm) ?_
                exact J1 ls (lv_sub hl [0, 1, 2, 3, 4, 5] rfl)
set_option maxHeartbeats 4000000 in
set_option maxRecDepth 100000 in
theorem c_X6_addStroke_k (l : Launch) (D : va_G) (cI cR : ClassId) (o a1 a2 a3 a4 a5 a6 ed C V Ac : Nat) (w : Nat → Nat) (hs : Nat → Nat) (n : Nat) (P X Y L : Nat → Nat) (x1 : Nat) (y1 : Nat) (x2 : Nat) (y2 : Nat) (q : Nat) (sz : Nat) (hge : zGe n P X Y) (hR : zRl w n P X Y L) (hset : zSt C V Ac) (hed : ed ≤ 4) (hgood : (x1 ≤ 99 ∧ y1 ≤ 99) ∧ (x2 ≤ 99 ∧ y2 ≤ 99) ∧ q ≤ 3 ∧ ¬ (x1 = x2 ∧ y1 = y2)) (hroom : n < 8) : Met l yX6_addStroke wm_X6_addStroke ({ frames := 1, cells := 0, slots := 0, locals := 22 } : Room) (va_Pc [.ref o, .int (nI x1), .int (nI y1), .int (nI x2), .int (nI y2), .int (nI q)] (zX D cI cR [(o, .inr (6, [.ref a1, .ref a2, .int (nI ed), .int (nI C), .int (nI V), .int (nI Ac), .ref a3, .ref a4, .ref a5, .ref a6])), (a1, zA cI 49 w), (a2, zA cI 196 hs)] sz)) (zQi D cI cR (va_A [(o, .inr (6, [.ref a1, .ref a2, .int (nI ed), .int (nI C), .int (nI V), .int (nI Ac), .ref a3, .ref a4, .ref a5, .ref a6])), (a1, zA cI 49 w), (a2, zA cI 196 hs)] sz) (fun r w0 => (w0 = [(o, .inr (6, [.ref a1, .ref a2, .int (nI (min (ed + 1) 4)), .int (nI C), .int (nI V), .int (nI Ac), .ref a3, .ref a4, .ref a5, .ref a6])), (a1, zA cI 49 (adw w n x1 y1 x2 y2 q)), (a2, zA cI 196 (hst hs w ed))] ∧ r = nI n))) 0 0 (va_A [(o, .inr (6, [.ref a1, .ref a2, .int (nI ed), .int (nI C), .int (nI V), .int (nI Ac), .ref a3, .ref a4, .ref a5, .ref a6])), (a1, zA cI 49 w), (a2, zA cI 196 hs)] sz) := by
  refine Met.ofW (cc := cX6_addStroke) (maxL := 8) (ret := (some .int)) (by decide) rfl ?_
  intro p e s m args below meth c s₁ B hml hv
  obtain ⟨rfl, hsz, hG, hD0⟩ := hv
  have S : CallFix p m c cX6_addStroke 8 s ([.ref o, .int (nI x1), .int (nI y1), .int (nI x2), .int (nI y2), .int (nI q)] : List Value).toArray wU RX6 := ⟨B.exec, B.bytes, hml, findClass_of_methodNamed B.named, fun w h => atoms_spec (ws := wm_X6_addStroke) B.pre w (List.mem_cons_of_mem _ h)⟩
  have hr := B.returns
  have hlocks := B.notSynchronized
  subst hsz
  have hD := hD0.self (sz := s.heap.size)
  generalize hAe : va_A [(o, .inr (6, [.ref a1, .ref a2, .int (nI ed), .int (nI C), .int (nI V), .int (nI Ac), .ref a3, .ref a4, .ref a5, .ref a6])), (a1, zA cI 49 w), (a2, zA cI 196 hs)] s.heap.size = A at hD ⊢
  have hV : zV D cI cR A [(o, .inr (6, [.ref a1, .ref a2, .int (nI ed), .int (nI C), .int (nI V), .int (nI Ac), .ref a3, .ref a4, .ref a5, .ref a6])), (a1, zA cI 49 w), (a2, zA cI 196 hs)] s s.heap [] := ⟨hG, hD, va_S.rf, fun q h => by rw [← hAe]; exact Or.inr h⟩
  have hl := lv_entry ([.ref o, .int (nI x1), .int (nI y1), .int (nI x2), .int (nI y2), .int (nI q)]) (n := 8) (Nat.le_of_ble_eq_true rfl)
  rw [lg_entry_eq]
  generalize (lg_sl ([.ref o, .int (nI x1), .int (nI y1), .int (nI x2), .int (nI y2), .int (nI q)]) ++ List.replicate (8 - (lg_sl ([.ref o, .int (nI x1), .int (nI y1), .int (nI x2), .int (nI y2), .int (nI q)])).length) Slot.unset).toArray = ls at hl ⊢
  have hl : lv_has ls 8 [(0, .ref o), (1, .int (nI x1)), (2, .int (nI y1)), (3, .int (nI x2)), (4, .int (nI y2)), (5, .int (nI q))] := hl
  obtain ⟨hn, hPf, hXY⟩ := id hge
  obtain ⟨hC, hV9, hA9⟩ := id hset
  have J1 : ∀ ls : Array Slot, lv_has ls 8 [(0, .ref o), (1, .int (nI x1)), (2, .int (nI y1)), (3, .int (nI x2)), (4, .int (nI y2)), (5, .int (nI q))] → W p l e (headSpec wm_X6_addStroke ({ frames := 1, cells := 0, slots := 0, locals := 22 } : Room)).room s m ([.ref o, .int (nI x1), .int (nI y1), .int (nI x2), .int (nI y2), .int (nI q)] : List Value).toArray below meth c s.heap [] 0 0 (MQ below (zQi D cI cR A (fun r w0 => (w0 = [(o, .inr (6, [.ref a1, .ref a2, .int (nI (min (ed + 1) 4)), .int (nI C), .int (nI V), .int (nI Ac), .ref a3, .ref a4, .ref a5, .ref a6])), (a1, zA cI 49 (adw w n x1 y1 x2 y2 q)), (a2, zA cI 196 (hst hs w ed))] ∧ r = nI n))) ([.ref o, .int (nI x1), .int (nI y1), .int (nI x2), .int (nI y2), .int (nI q)] : List Value).toArray s 0 0 A) (F0 m 67 ls [.int (nI (zB ((x1 ≤ 99 ∧ y1 ≤ 99) ∧ (x2 ≤ 99 ∧ y2 ≤ 99) ∧ q ≤ 3 ∧ ¬ (x1 = x2 ∧ y1 = y2))))]) := by
    intro ls hl
    refine lv_istore (pc := 67) (lv' := [(6, .int (nI (zB ((x1 ≤ 99 ∧ y1 ≤ 99) ∧ (x2 ≤ 99 ∧ y2 ≤ 99) ∧ q ≤ 3 ∧ ¬ (x1 = x2 ∧ y1 = y2))))), (0, .ref o), (1, .int (nI x1)), (2, .int (nI y1)), (3, .int (nI x2)), (4, .int (nI y2)), (5, .int (nI q))]) S.1 S.2.1 dX6_addStroke_67 hl (by decide) rfl (fun ls hl => ?_)
    refine lv_iload (pc := 69) S.1 S.2.1 dX6_addStroke_69 (lv_at hl 0 rfl) ?_
    refine zz_ifb_ne (pc := 71) (tgt := 76) S dX6_addStroke_71 (by decide) (fun c71 => ?_) (fun c71 => ?_)
    · refine lv_aload_n (pc := 76) S.1 S.2.1 dX6_addStroke_76 rfl (lv_at hl 1 rfl) ?_
      refine zz_get (pc := 77) S hV.1 iX6 0 rfl rfl 0 (by decide) wd_67 rfl rfl dX6_addStroke_77 ?_
      refine zz_bipush (pc := 80) (v := nI 48) S dX6_addStroke_80 rfl ?_
      refine zz_iald (pc := 82) (k := 48) S hV.1 1 rfl (by omega) dX6_addStroke_82 ?_
      refine zz_cast (v := nI n) (congrArg nI hR.1) ?_
      refine zz_bipush (pc := 83) (v := nI 8) S dX6_addStroke_83 rfl ?_
      refine zz_icmp_ne (pc := 85) (tgt := 91) S dX6_addStroke_85 (by decide) (n_eq (by omega) (by omega)) (fun c85 => ?_) (fun c85 => ?_)
      · refine lv_aload_n (pc := 91) S.1 S.2.1 dX6_addStroke_91 rfl (lv_at hl 1 rfl) ?_
        refine zz_callMv (pc := 92) (As := []) (rest := []) (wr := []) S hV (c_X6_edit l D cI cR o a1 a2 a3 a4 a5 a6 ed C V Ac w hs n P X Y L s.heap.size hge hR hset (by omega)) (zuV wd_139 wd_136 wd_137 wd_138 wd_5) 0 rfl q_X6_edit ⟨⟨rfl, rfl⟩, Nat.le_of_ble_eq_true rfl, Nat.le_of_ble_eq_true rfl⟩ [0, 1, 2] [] rfl rfl (by decide) (by decide) (by decide) 0 rfl rfl rfl rfl rfl (Nat.le_of_ble_eq_true rfl) hl.1 ⟨Nat.zero_le _, Nat.zero_le _⟩ dX6_addStroke_92 (fun w1 H locs hp hV => ?_)
        obtain rfl := hp
        have hV : zV D cI cR A [(o, .inr (6, [.ref a1, .ref a2, .int (nI (min (ed + 1) 4)), .int (nI C), .int (nI V), .int (nI Ac), .ref a3, .ref a4, .ref a5, .ref a6])), (a1, zA cI 49 w), (a2, zA cI 196 (hst hs w ed))] s H locs := hV.perm [0, 1, 2] (by decide) rfl
        refine lv_aload_n (pc := 95) S.1 S.2.1 dX6_addStroke_95 rfl (lv_at hl 1 rfl) ?_
        refine zz_get (pc := 96) S hV.1 iX6 0 rfl rfl 0 (by decide) wd_67 rfl rfl dX6_addStroke_96 ?_
        refine zz_bipush (pc := 99) (v := nI 48) S dX6_addStroke_99 rfl ?_
        refine zz_iald (pc := 101) (k := 48) S hV.1 1 rfl (by omega) dX6_addStroke_101 ?_
        refine zz_cast (v := nI n) (congrArg nI hR.1) ?_
        refine lv_istore (pc := 102) (lv' := [(7, .int (nI n)), (6, .int (nI (zB ((x1 ≤ 99 ∧ y1 ≤ 99) ∧ (x2 ≤ 99 ∧ y2 ≤ 99) ∧ q ≤ 3 ∧ ¬ (x1 = x2 ∧ y1 = y2))))), (0, .ref o), (1, .int (nI x1)), (2, .int (nI y1)), (3, .int (nI x2)), (4, .int (nI y2)), (5, .int (nI q))]) S.1 S.2.1 dX6_addStroke_102 hl (by decide) rfl (fun ls hl => ?_)
        refine lv_aload_n (pc := 104) S.1 S.2.1 dX6_addStroke_104 rfl (lv_at hl 2 rfl) ?_
        refine zz_get (pc := 105) S hV.1 iX6 0 rfl rfl 0 (by decide) wd_67 rfl rfl dX6_addStroke_105 ?_
        refine zz_iconst (pc := 108) (v := nI 5) S dX6_addStroke_108 rfl ?_
        refine lv_iload (pc := 109) S.1 S.2.1 dX6_addStroke_109 (lv_at hl 0 rfl) ?_
        refine zz_imul (pc := 111) (v := nI (5 * n)) S dX6_addStroke_111 (n_mul _ _) ?_
        refine lv_iload_n (pc := 112) S.1 S.2.1 dX6_addStroke_112 rfl (lv_at hl 3 rfl) ?_
        refine zz_iast (pc := 113) (k := 5 * n) (v := x1) S hV 1 rfl (by omega) (ws' := [(o, .inr (6, [.ref a1, .ref a2, .int (nI (min (ed + 1) 4)), .int (nI C), .int (nI V), .int (nI Ac), .ref a3, .ref a4, .ref a5, .ref a6])), (a1, zA cI 49 (va_up w (5 * n) x1)), (a2, zA cI 196 (hst hs w ed))]) rfl dX6_addStroke_113 (fun H locs hV => ?_)
        refine lv_aload_n (pc := 114) S.1 S.2.1 dX6_addStroke_114 rfl (lv_at hl 2 rfl) ?_
        refine zz_get (pc := 115) S hV.1 iX6 0 rfl rfl 0 (by decide) wd_67 rfl rfl dX6_addStroke_115 ?_
        refine zz_iconst (pc := 118) (v := nI 5) S dX6_addStroke_118 rfl ?_
        refine lv_iload (pc := 119) S.1 S.2.1 dX6_addStroke_119 (lv_at hl 0 rfl) ?_
        refine zz_imul (pc := 121) (v := nI (5 * n)) S dX6_addStroke_121 (n_mul _ _) ?_
        refine zz_iconst (pc := 122) (v := nI 1) S dX6_addStroke_122 rfl ?_
        refine zz_iadd (pc := 123) (v := nI (5 * n + 1)) S dX6_addStroke_123 (n_add _ _) ?_
        refine lv_iload_n (pc := 124) S.1 S.2.1 dX6_addStroke_124 rfl (lv_at hl 4 rfl) ?_
        refine zz_iast (pc := 125) (k := 5 * n + 1) (v := y1) S hV 1 rfl (by omega) (ws' := [(o, .inr (6, [.ref a1, .ref a2, .int (nI (min (ed + 1) 4)), .int (nI C), .int (nI V), .int (nI Ac), .ref a3, .ref a4, .ref a5, .ref a6])), (a1, zA cI 49 (va_up (va_up w (5 * n) x1) (5 * n + 1) y1)), (a2, zA cI 196 (hst hs w ed))]) rfl dX6_addStroke_125 (fun H locs hV => ?_)
        refine lv_aload_n (pc := 126) S.1 S.2.1 dX6_addStroke_126 rfl (lv_at hl 2 rfl) ?_
        refine zz_get (pc := 127) S hV.1 iX6 0 rfl rfl 0 (by decide) wd_67 rfl rfl dX6_addStroke_127 ?_
        refine zz_iconst (pc := 130) (v := nI 5) S dX6_addStroke_130 rfl ?_
        refine lv_iload (pc := 131) S.1 S.2.1 dX6_addStroke_131 (lv_at hl 0 rfl) ?_
        refine zz_imul (pc := 133) (v := nI (5 * n)) S dX6_addStroke_133 (n_mul _ _) ?_
        refine zz_iconst (pc := 134) (v := nI 2) S dX6_addStroke_134 rfl ?_
        refine zz_iadd (pc := 135) (v := nI (5 * n + 2)) S dX6_addStroke_135 (n_add _ _) ?_
        refine lv_iload_n (pc := 136) S.1 S.2.1 dX6_addStroke_136 rfl (lv_at hl 5 rfl) ?_
        refine zz_iast (pc := 137) (k := 5 * n + 2) (v := x2) S hV 1 rfl (by omega) (ws' := [(o, .inr (6, [.ref a1, .ref a2, .int (nI (min (ed + 1) 4)), .int (nI C), .int (nI V), .int (nI Ac), .ref a3, .ref a4, .ref a5, .ref a6])), (a1, zA cI 49 (va_up (va_up (va_up w (5 * n) x1) (5 * n + 1) y1) (5 * n + 2) x2)), (a2, zA cI 196 (hst hs w ed))]) rfl dX6_addStroke_137 (fun H locs hV => ?_)
        refine lv_aload_n (pc := 138) S.1 S.2.1 dX6_addStroke_138 rfl (lv_at hl 2 rfl) ?_
        refine zz_get (pc := 139) S hV.1 iX6 0 rfl rfl 0 (by decide) wd_67 rfl rfl dX6_addStroke_139 ?_
        refine zz_iconst (pc := 142) (v := nI 5) S dX6_addStroke_142 rfl ?_
        refine lv_iload (pc := 143) S.1 S.2.1 dX6_addStroke_143 (lv_at hl 0 rfl) ?_
        refine zz_imul (pc := 145) (v := nI (5 * n)) S dX6_addStroke_145 (n_mul _ _) ?_
        refine zz_iconst (pc := 146) (v := nI 3) S dX6_addStroke_146 rfl ?_
        refine zz_iadd (pc := 147) (v := nI (5 * n + 3)) S dX6_addStroke_147 (n_add _ _) ?_
        refine lv_iload (pc := 148) S.1 S.2.1 dX6_addStroke_148 (lv_at hl 6 rfl) ?_
        refine zz_iast (pc := 150) (k := 5 * n + 3) (v := y2) S hV 1 rfl (by omega) (ws' := [(o, .inr (6, [.ref a1, .ref a2, .int (nI (min (ed + 1) 4)), .int (nI C), .int (nI V), .int (nI Ac), .ref a3, .ref a4, .ref a5, .ref a6])), (a1, zA cI 49 (va_up (va_up (va_up (va_up w (5 * n) x1) (5 * n + 1) y1) (5 * n + 2) x2) (5 * n + 3) y2)), (a2, zA cI 196 (hst hs w ed))]) rfl dX6_addStroke_150 (fun H locs hV => ?_)
        refine lv_aload_n (pc := 151) S.1 S.2.1 dX6_addStroke_151 rfl (lv_at hl 2 rfl) ?_
        refine zz_get (pc := 152) S hV.1 iX6 0 rfl rfl 0 (by decide) wd_67 rfl rfl dX6_addStroke_152 ?_
        refine zz_iconst (pc := 155) (v := nI 5) S dX6_addStroke_155 rfl ?_
        refine lv_iload (pc := 156) S.1 S.2.1 dX6_addStroke_156 (lv_at hl 0 rfl) ?_
        refine zz_imul (pc := 158) (v := nI (5 * n)) S dX6_addStroke_158 (n_mul _ _) ?_
        refine zz_iconst (pc := 159) (v := nI 4) S dX6_addStroke_159 rfl ?_
        refine zz_iadd (pc := 160) (v := nI (5 * n + 4)) S dX6_addStroke_160 (n_add _ _) ?_
        refine lv_iload (pc := 161) S.1 S.2.1 dX6_addStroke_161 (lv_at hl 7 rfl) ?_
        refine zz_iast (pc := 163) (k := 5 * n + 4) (v := q) S hV 1 rfl (by omega) (ws' := [(o, .inr (6, [.ref a1, .ref a2, .int (nI (min (ed + 1) 4)), .int (nI C), .int (nI V), .int (nI Ac), .ref a3, .ref a4, .ref a5, .ref a6])), (a1, zA cI 49 (va_up (va_up (va_up (va_up (va_up w (5 * n) x1) (5 * n + 1) y1) (5 * n + 2) x2) (5 * n + 3) y2) (5 * n + 4) q)), (a2, zA cI 196 (hst hs w ed))]) rfl dX6_addStroke_163 (fun H locs hV => ?_)
        refine lv_aload_n (pc := 164) S.1 S.2.1 dX6_addStroke_164 rfl (lv_at hl 2 rfl) ?_
        refine zz_get (pc := 165) S hV.1 iX6 0 rfl rfl 0 (by decide) wd_67 rfl rfl dX6_addStroke_165 ?_
        refine zz_bipush (pc := 168) (v := nI 40) S dX6_addStroke_168 rfl ?_
        refine lv_iload (pc := 170) S.1 S.2.1 dX6_addStroke_170 (lv_at hl 0 rfl) ?_
        refine zz_iadd (pc := 172) (v := nI (40 + n)) S dX6_addStroke_172 (n_add _ _) ?_
        refine zz_iconst (pc := 173) (v := nI 2) S dX6_addStroke_173 rfl ?_
        refine lv_iload (pc := 174) S.1 S.2.1 dX6_addStroke_174 (lv_at hl 0 rfl) ?_
        refine zz_imul (pc := 176) (v := nI (2 * n)) S dX6_addStroke_176 (n_mul _ _) ?_
        refine zz_iast (pc := 177) (k := 40 + n) (v := 2 * n) S hV 1 rfl (by omega) (ws' := [(o, .inr (6, [.ref a1, .ref a2, .int (nI (min (ed + 1) 4)), .int (nI C), .int (nI V), .int (nI Ac), .ref a3, .ref a4, .ref a5, .ref a6])), (a1, zA cI 49 (va_up (va_up (va_up (va_up (va_up (va_up w (5 * n) x1) (5 * n + 1) y1) (5 * n + 2) x2) (5 * n + 3) y2) (5 * n + 4) q) (40 + n) (2 * n))), (a2, zA cI 196 (hst hs w ed))]) rfl dX6_addStroke_177 (fun H locs hV => ?_)
        refine lv_aload_n (pc := 178) S.1 S.2.1 dX6_addStroke_178 rfl (lv_at hl 2 rfl) ?_
        refine zz_get (pc := 179) S hV.1 iX6 0 rfl rfl 0 (by decide) wd_67 rfl rfl dX6_addStroke_179 ?_
        refine zz_bipush (pc := 182) (v := nI 48) S dX6_addStroke_182 rfl ?_
        refine lv_dup2_11 (pc := 184) S.1 S.2.1 dX6_addStroke_184 rfl rfl ?_
        refine zz_iald (pc := 185) (k := 48) S hV.1 1 rfl (by omega) dX6_addStroke_185 ?_
        refine zz_cast (v := nI n) (congrArg nI (by unfold va_up; rw [if_neg (by omega), if_neg (by omega), if_neg (by omega), if_neg (by omega), if_neg (by omega), if_neg (by omega)]; exact hR.1)) ?_
        refine zz_iconst (pc := 186) (v := nI 1) S dX6_addStroke_186 rfl ?_
        refine zz_iadd (pc := 187) (v := nI (n + 1)) S dX6_addStroke_187 (n_add _ _) ?_
        refine zz_iast (pc := 188) (k := 48) (v := n + 1) S hV 1 rfl (by omega) (ws' := [(o, .inr (6, [.ref a1, .ref a2, .int (nI (min (ed + 1) 4)), .int (nI C), .int (nI V), .int (nI Ac), .ref a3, .ref a4, .ref a5, .ref a6])), (a1, zA cI 49 (va_up (va_up (va_up (va_up (va_up (va_up (va_up w (5 * n) x1) (5 * n + 1) y1) (5 * n + 2) x2) (5 * n + 3) y2) (5 * n + 4) q) (40 + n) (2 * n)) 48 (n + 1))), (a2, zA cI 196 (hst hs w ed))]) rfl dX6_addStroke_188 (fun H locs hV => ?_)
        refine lv_iload (pc := 189) S.1 S.2.1 dX6_addStroke_189 (lv_at hl 0 rfl) ?_
        have hV : zV D cI cR A [(o, .inr (6, [.ref a1, .ref a2, .int (nI (min (ed + 1) 4)), .int (nI C), .int (nI V), .int (nI Ac), .ref a3, .ref a4, .ref a5, .ref a6])), (a1, zA cI 49 (adw w n x1 y1 x2 y2 q)), (a2, zA cI 196 (hst hs w ed))] s H locs := hV.arr 1 rfl (fun j hj => by rfl) rfl
        exact zz_iretM (pc := 191) S hr hlocks hV (⟨rfl, rfl⟩) dX6_addStroke_191
      · exfalso; omega
    · exfalso; omega
  refine lv_iload_n (pc := 0) S.1 S.2.1 dX6_addStroke_0 rfl (lv_at hl 1 rfl) ?_
  refine zz_iconst (pc := 1) (v := nI 0) S dX6_addStroke_1 rfl ?_
  refine zz_bipush (pc := 2) (v := nI 99) S dX6_addStroke_2 rfl ?_
  refine zz_callS (pc := 4) (As := [.int (zI ((x1 : Nat) : Int)), .int (zI 0), .int (zI 99)]) (rest := []) S (c_X6_in l D cI cR ((x1 : Nat) : Int) 0 99 (by unfold zR; omega) (by unfold zR; omega) (by unfold zR; omega)) (zuS wd_135 wd_133 wd_134 wd_5) 3 rfl q_X6_in.2 ⟨⟨rfl, rfl⟩, Nat.le_of_ble_eq_true rfl, Nat.le_of_ble_eq_true rfl⟩ rfl rfl (Nat.le_of_ble_eq_true rfl) hl.1 ⟨Nat.zero_le _, Nat.zero_le _⟩ dX6_addStroke_4 ?_
  refine zz_ifb_eq (pc := 7) (tgt := 66) S dX6_addStroke_7 (by decide) (fun c7 => ?_) (fun c7 => ?_)
  · refine zz_iconst (pc := 66) (v := nI 0) S dX6_addStroke_66 rfl ?_
    refine zz_cast (v := nI (zB ((x1 ≤ 99 ∧ y1 ≤ 99) ∧ (x2 ≤ 99 ∧ y2 ≤ 99) ∧ q ≤ 3 ∧ ¬ (x1 = x2 ∧ y1 = y2)))) (congrArg nI (zB_f (by omega)).symm) ?_
    exact J1 ls (lv_sub hl [0, 1, 2, 3, 4, 5] rfl)
  · refine lv_iload_n (pc := 10) S.1 S.2.1 dX6_addStroke_10 rfl (lv_at hl 2 rfl) ?_
    refine zz_iconst (pc := 11) (v := nI 0) S dX6_addStroke_11 rfl ?_
    refine zz_bipush (pc := 12) (v := nI 99) S dX6_addStroke_12 rfl ?_
    refine zz_callS (pc := 14) (As := [.int (zI ((y1 : Nat) : Int)), .int (zI 0), .int (zI 99)]) (rest := []) S (c_X6_in l D cI cR ((y1 : Nat) : Int) 0 99 (by unfold zR; omega) (by unfold zR; omega) (by unfold zR; omega)) (zuS wd_135 wd_133 wd_134 wd_5) 3 rfl q_X6_in.2 ⟨⟨rfl, rfl⟩, Nat.le_of_ble_eq_true rfl, Nat.le_of_ble_eq_true rfl⟩ rfl rfl (Nat.le_of_ble_eq_true rfl) hl.1 ⟨Nat.zero_le _, Nat.zero_le _⟩ dX6_addStroke_14 ?_
    refine zz_ifb_eq (pc := 17) (tgt := 66) S dX6_addStroke_17 (by decide) (fun c17 => ?_) (fun c17 => ?_)
    · refine zz_iconst (pc := 66) (v := nI 0) S dX6_addStroke_66 rfl ?_
      refine zz_cast (v := nI (zB ((x1 ≤ 99 ∧ y1 ≤ 99) ∧ (x2 ≤ 99 ∧ y2 ≤ 99) ∧ q ≤ 3 ∧ ¬ (x1 = x2 ∧ y1 = y2)))) (congrArg nI (zB_f (by omega)).symm) ?_
      exact J1 ls (lv_sub hl [0, 1, 2, 3, 4, 5] rfl)
    · refine lv_iload_n (pc := 20) S.1 S.2.1 dX6_addStroke_20 rfl (lv_at hl 3 rfl) ?_
      refine zz_iconst (pc := 21) (v := nI 0) S dX6_addStroke_21 rfl ?_
      refine zz_bipush (pc := 22) (v := nI 99) S dX6_addStroke_22 rfl ?_
      refine zz_callS (pc := 24) (As := [.int (zI ((x2 : Nat) : Int)), .int (zI 0), .int (zI 99)]) (rest := []) S (c_X6_in l D cI cR ((x2 : Nat) : Int) 0 99 (by unfold zR; omega) (by unfold zR; omega) (by unfold zR; omega)) (zuS wd_135 wd_133 wd_134 wd_5) 3 rfl q_X6_in.2 ⟨⟨rfl, rfl⟩, Nat.le_of_ble_eq_true rfl, Nat.le_of_ble_eq_true rfl⟩ rfl rfl (Nat.le_of_ble_eq_true rfl) hl.1 ⟨Nat.zero_le _, Nat.zero_le _⟩ dX6_addStroke_24 ?_
      refine zz_ifb_eq (pc := 27) (tgt := 66) S dX6_addStroke_27 (by decide) (fun c27 => ?_) (fun c27 => ?_)
      · refine zz_iconst (pc := 66) (v := nI 0) S dX6_addStroke_66 rfl ?_
        refine zz_cast (v := nI (zB ((x1 ≤ 99 ∧ y1 ≤ 99) ∧ (x2 ≤ 99 ∧ y2 ≤ 99) ∧ q ≤ 3 ∧ ¬ (x1 = x2 ∧ y1 = y2)))) (congrArg nI (zB_f (by omega)).symm) ?_
        exact J1 ls (lv_sub hl [0, 1, 2, 3, 4, 5] rfl)
      · refine lv_iload (pc := 30) S.1 S.2.1 dX6_addStroke_30 (lv_at hl 4 rfl) ?_
        refine zz_iconst (pc := 32) (v := nI 0) S dX6_addStroke_32 rfl ?_
        refine zz_bipush (pc := 33) (v := nI 99) S dX6_addStroke_33 rfl ?_
        refine zz_callS (pc := 35) (As := [.int (zI ((y2 : Nat) : Int)), .int (zI 0), .int (zI 99)]) (rest := []) S (c_X6_in l D cI cR ((y2 : Nat) : Int) 0 99 (by unfold zR; omega) (by unfold zR; omega) (by unfold zR; omega)) (zuS wd_135 wd_133 wd_134 wd_5) 3 rfl q_X6_in.2 ⟨⟨rfl, rfl⟩, Nat.le_of_ble_eq_true rfl, Nat.le_of_ble_eq_true rfl⟩ rfl rfl (Nat.le_of_ble_eq_true rfl) hl.1 ⟨Nat.zero_le _, Nat.zero_le _⟩ dX6_addStroke_35 ?_
        refine zz_ifb_eq (pc := 38) (tgt := 66) S dX6_addStroke_38 (by decide) (fun c38 => ?_) (fun c38 => ?_)
        · refine zz_iconst (pc := 66) (v := nI 0) S dX6_addStroke_66 rfl ?_
          refine zz_cast (v := nI (zB ((x1 ≤ 99 ∧ y1 ≤ 99) ∧ (x2 ≤ 99 ∧ y2 ≤ 99) ∧ q ≤ 3 ∧ ¬ (x1 = x2 ∧ y1 = y2)))) (congrArg nI (zB_f (by omega)).symm) ?_
          exact J1 ls (lv_sub hl [0, 1, 2, 3, 4, 5] rfl)
        · refine lv_iload (pc := 41) S.1 S.2.1 dX6_addStroke_41 (lv_at hl 5 rfl) ?_
          refine zz_iconst (pc := 43) (v := nI 0) S dX6_addStroke_43 rfl ?_
          refine zz_iconst (pc := 44) (v := nI 3) S dX6_addStroke_44 rfl ?_
          refine zz_callS (pc := 45) (As := [.int (zI ((q : Nat) : Int)), .int (zI 0), .int (zI 3)]) (rest := []) S (c_X6_in l D cI cR ((q : Nat) : Int) 0 3 (by unfold zR; omega) (by unfold zR; omega) (by unfold zR; omega)) (zuS wd_135 wd_133 wd_134 wd_5) 3 rfl q_X6_in.2 ⟨⟨rfl, rfl⟩, Nat.le_of_ble_eq_true rfl, Nat.le_of_ble_eq_true rfl⟩ rfl rfl (Nat.le_of_ble_eq_true rfl) hl.1 ⟨Nat.zero_le _, Nat.zero_le _⟩ dX6_addStroke_45 ?_
          refine zz_ifb_eq (pc := 48) (tgt := 66) S dX6_addStroke_48 (by decide) (fun c48 => ?_) (fun c48 => ?_)
          · refine zz_iconst (pc := 66) (v := nI 0) S dX6_addStroke_66 rfl ?_
            refine zz_cast (v := nI (zB ((x1 ≤ 99 ∧ y1 ≤ 99) ∧ (x2 ≤ 99 ∧ y2 ≤ 99) ∧ q ≤ 3 ∧ ¬ (x1 = x2 ∧ y1 = y2)))) (congrArg nI (zB_f (by omega)).symm) ?_
            exact J1 ls (lv_sub hl [0, 1, 2, 3, 4, 5] rfl)
          · refine lv_iload_n (pc := 51) S.1 S.2.1 dX6_addStroke_51 rfl (lv_at hl 1 rfl) ?_
            refine lv_iload_n (pc := 52) S.1 S.2.1 dX6_addStroke_52 rfl (lv_at hl 3 rfl) ?_
            refine zz_icmp_ne (pc := 53) (tgt := 62) S dX6_addStroke_53 (by decide) (n_eq (by omega) (by omega)) (fun c53 => ?_) (fun c53 => ?_)
            · refine zz_iconst (pc := 62) (v := nI 1) S dX6_addStroke_62 rfl ?_
              refine lv_goto (pc := 63) (tgt := 67) S.1 S.2.1 dX6_addStroke_63 (by decide) ?_
              refine zz_cast (v := nI (zB ((x1 ≤ 99 ∧ y1 ≤ 99) ∧ (x2 ≤ 99 ∧ y2 ≤ 99) ∧ q ≤ 3 ∧ ¬ (x1 = x2 ∧ y1 = y2)))) (congrArg nI (zB_t (by omega)).symm) ?_
              exact J1 ls (lv_sub hl [0, 1, 2, 3, 4, 5] rfl)
            · refine lv_iload_n (pc := 56) S.1 S.2.1 dX6_addStroke_56 rfl (lv_at hl 2 rfl) ?_
              refine lv_iload (pc := 57) S.1 S.2.1 dX6_addStroke_57 (lv_at hl 4 rfl) ?_
              refine zz_icmp_eq (pc := 59) (tgt := 66) S dX6_addStroke_59 (by decide) (n_eq (by omega) (by omega)) (fun c59 => ?_) (fun c59 => ?_)
              · refine zz_iconst (pc := 66) (v := nI 0) S dX6_addStroke_66 rfl ?_
                refine zz_cast (v := nI (zB ((x1 ≤ 99 ∧ y1 ≤ 99) ∧ (x2 ≤ 99 ∧ y2 ≤ 99) ∧ q ≤ 3 ∧ ¬ (x1 = x2 ∧ y1 = y2)))) (congrArg nI (zB_f (by omega)).symm) ?_
                exact J1 ls (lv_sub hl [0, 1, 2, 3, 4, 5] rfl)
              · refine zz_iconst (pc := 62) (v := nI 1) S dX6_addStroke_62 rfl ?_
                refine lv_goto (pc := 63) (tgt := 67) S.1 S.2.1 dX6_addStroke_63 (by decide) ?_
                refine zz_cast (v := nI (zB ((x1 ≤ 99 ∧ y1 ≤ 99) ∧ (x2 ≤ 99 ∧ y2 ≤ 99) ∧ q ≤ 3 ∧ ¬ (x1 = x2 ∧ y1 = y2)))) (congrArg nI (zB_t (by omega)).symm) ?_
                exact J1 ls (lv_sub hl [0, 1, 2, 3, 4, 5] rfl)
abbrev wm_X6_setSquareLimit : List Cond := .code yX6_setSquareLimit cX6_setSquareLimit 3 (some .int) :: wU
theorem q_X6_setSquareLimit : yX6_setSquareLimit.cls = RX6 ∧ yX6_setSquareLimit.cls ≠ "java/lang/invoke/MethodHandle" ∧ yX6_setSquareLimit.cls ≠ "java/lang/invoke/VarHandle" ∧ (parseMethodDescriptor yX6_setSquareLimit.desc).map (fun d => d.parameters.length) = some 1 := by decide +kernel
set_option maxHeartbeats 4000000 in
set_option maxRecDepth 100000 in
theorem c_X6_setSquareLimit_e (l : Launch) (D : va_G) (cI cR : ClassId) (o a1 a2 a3 a4 a5 a6 ed C V Ac : Nat) (w : Nat → Nat) (n : Nat) (P X Y L : Nat → Nat) (a : Int) (hge : zGe n P X Y) (hR : zRl w n P X Y L) (hset : zSt C V Ac) (ha : zR a) (hbad : ¬ (1 ≤ a ∧ a ≤ 9999)) : Met l yX6_setSquareLimit wm_X6_setSquareLimit ({ frames := 1, cells := 0, slots := 0, locals := 22 } : Room) (va_Pc [.ref o, .int (zI a)] (zW D cI cR [(o, .inr (6, [.ref a1, .ref a2, .int (nI ed), .int (nI C), .int (nI V), .int (nI Ac), .ref a3, .ref a4, .ref a5, .ref a6])), (a1, zA cI 49 w)])) (vp_Si (fun r => r = zI (-1))) 0 0 (fun _ => False) := by
  refine Met.ofW (cc := cX6_setSquareLimit) (maxL := 3) (ret := (some .int)) (by decide) rfl ?_
  intro p e s m args below meth c s₁ B hml hv
  obtain ⟨rfl, hG⟩ := hv
  have S : CallFix p m c cX6_setSquareLimit 3 s ([.ref o, .int (zI a)] : List Value).toArray wU RX6 := ⟨B.exec, B.bytes, hml, findClass_of_methodNamed B.named, fun w h => atoms_spec (ws := wm_X6_setSquareLimit) B.pre w (List.mem_cons_of_mem _ h)⟩
  have hr := B.returns
  have hlocks := B.notSynchronized
  have hG : zG D cI cR [(o, .inr (6, [.ref a1, .ref a2, .int (nI ed), .int (nI C), .int (nI V), .int (nI Ac), .ref a3, .ref a4, .ref a5, .ref a6])), (a1, zA cI 49 w)] s s.heap := hG
  have hl := lv_entry ([.ref o, .int (zI a)]) (n := 3) (Nat.le_of_ble_eq_true rfl)
  rw [lg_entry_eq]
  generalize (lg_sl ([.ref o, .int (zI a)]) ++ List.replicate (3 - (lg_sl ([.ref o, .int (zI a)])).length) Slot.unset).toArray = ls at hl ⊢
  have hl : lv_has ls 3 [(0, .ref o), (1, .int (zI a))] := hl
  have r_ha := id ha
  unfold zR at r_ha
  obtain ⟨hn, hPf, hXY⟩ := id hge
  obtain ⟨hC, hV9, hA9⟩ := id hset
  refine lv_iload_n (pc := 0) S.1 S.2.1 dX6_setSquareLimit_0 rfl (lv_at hl 1 rfl) ?_
  refine zz_iconst (pc := 1) (v := nI 1) S dX6_setSquareLimit_1 rfl ?_
  refine zz_sipush (pc := 2) (v := nI 9999) S dX6_setSquareLimit_2 rfl ?_
  refine zz_callS (pc := 5) (As := [.int (zI a), .int (zI 1), .int (zI 9999)]) (rest := []) S (c_X6_in l D cI cR a 1 9999 (by unfold zR; omega) (by unfold zR; omega) (by unfold zR; omega)) (zuS wd_135 wd_133 wd_134 wd_5) 3 rfl q_X6_in.2 ⟨⟨rfl, rfl⟩, Nat.le_of_ble_eq_true rfl, Nat.le_of_ble_eq_true rfl⟩ rfl rfl (Nat.le_of_ble_eq_true rfl) hl.1 ⟨Nat.zero_le _, Nat.zero_le _⟩ dX6_setSquareLimit_5 ?_
  refine zz_ifb_ne (pc := 8) (tgt := 13) S dX6_setSquareLimit_8 (by decide) (fun c8 => ?_) (fun c8 => ?_)
  · exfalso; omega
  · refine zz_iconst (pc := 11) (v := zI (-1)) S dX6_setSquareLimit_11 rfl ?_
    exact zz_iretS (pc := 12) S hr hlocks (rfl) dX6_setSquareLimit_12
set_option maxHeartbeats 4000000 in
set_option maxRecDepth 100000 in
theorem c_X6_setSquareLimit_k (l : Launch) (D : va_G) (cI cR : ClassId) (o a1 a2 a3 a4 a5 a6 ed C V Ac : Nat) (w : Nat → Nat) (n : Nat) (P X Y L : Nat → Nat) (a : Nat) (sz : Nat) (hge : zGe n P X Y) (hR : zRl w n P X Y L) (hset : zSt C V Ac) (ha : 1 ≤ a ∧ a ≤ 9999) : Met l yX6_setSquareLimit wm_X6_setSquareLimit ({ frames := 1, cells := 0, slots := 0, locals := 22 } : Room) (va_Pc [.ref o, .int (nI a)] (zX D cI cR [(o, .inr (6, [.ref a1, .ref a2, .int (nI ed), .int (nI C), .int (nI V), .int (nI Ac), .ref a3, .ref a4, .ref a5, .ref a6])), (a1, zA cI 49 w)] sz)) (zQi D cI cR (va_A [(o, .inr (6, [.ref a1, .ref a2, .int (nI ed), .int (nI C), .int (nI V), .int (nI Ac), .ref a3, .ref a4, .ref a5, .ref a6])), (a1, zA cI 49 w)] sz) (fun r w0 => (w0 = [(o, .inr (6, [.ref a1, .ref a2, .int (nI ed), .int (nI C), .int (nI a), .int (nI Ac), .ref a3, .ref a4, .ref a5, .ref a6])), (a1, zA cI 49 w)] ∧ r = nI V))) 0 0 (va_A [(o, .inr (6, [.ref a1, .ref a2, .int (nI ed), .int (nI C), .int (nI V), .int (nI Ac), .ref a3, .ref a4, .ref a5, .ref a6])), (a1, zA cI 49 w)] sz) := by
  refine Met.ofW (cc := cX6_setSquareLimit) (maxL := 3) (ret := (some .int)) (by decide) rfl ?_
  intro p e s m args below meth c s₁ B hml hv
  obtain ⟨rfl, hsz, hG, hD0⟩ := hv
  have S : CallFix p m c cX6_setSquareLimit 3 s ([.ref o, .int (nI a)] : List Value).toArray wU RX6 := ⟨B.exec, B.bytes, hml, findClass_of_methodNamed B.named, fun w h => atoms_spec (ws := wm_X6_setSquareLimit) B.pre w (List.mem_cons_of_mem _ h)⟩
  have hr := B.returns
  have hlocks := B.notSynchronized
  subst hsz
  have hD := hD0.self (sz := s.heap.size)
  generalize hAe : va_A [(o, .inr (6, [.ref a1, .ref a2, .int (nI ed), .int (nI C), .int (nI V), .int (nI Ac), .ref a3, .ref a4, .ref a5, .ref a6])), (a1, zA cI 49 w)] s.heap.size = A at hD ⊢
  have hV : zV D cI cR A [(o, .inr (6, [.ref a1, .ref a2, .int (nI ed), .int (nI C), .int (nI V), .int (nI Ac), .ref a3, .ref a4, .ref a5, .ref a6])), (a1, zA cI 49 w)] s s.heap [] := ⟨hG, hD, va_S.rf, fun q h => by rw [← hAe]; exact Or.inr h⟩
  have hl := lv_entry ([.ref o, .int (nI a)]) (n := 3) (Nat.le_of_ble_eq_true rfl)
  rw [lg_entry_eq]
  generalize (lg_sl ([.ref o, .int (nI a)]) ++ List.replicate (3 - (lg_sl ([.ref o, .int (nI a)])).length) Slot.unset).toArray = ls at hl ⊢
  have hl : lv_has ls 3 [(0, .ref o), (1, .int (nI a))] := hl
  obtain ⟨hn, hPf, hXY⟩ := id hge
  obtain ⟨hC, hV9, hA9⟩ := id hset
  refine lv_iload_n (pc := 0) S.1 S.2.1 dX6_setSquareLimit_0 rfl (lv_at hl 1 rfl) ?_
  refine zz_iconst (pc := 1) (v := nI 1) S dX6_setSquareLimit_1 rfl ?_
  refine zz_sipush (pc := 2) (v := nI 9999) S dX6_setSquareLimit_2 rfl ?_
  refine zz_callS (pc := 5) (As := [.int (zI ((a : Nat) : Int)), .int (zI 1), .int (zI 9999)]) (rest := []) S (c_X6_in l D cI cR ((a : Nat) : Int) 1 9999 (by unfold zR; omega) (by unfold zR; omega) (by unfold zR; omega)) (zuS wd_135 wd_133 wd_134 wd_5) 3 rfl q_X6_in.2 ⟨⟨rfl, rfl⟩, Nat.le_of_ble_eq_true rfl, Nat.le_of_ble_eq_true rfl⟩ rfl rfl (Nat.le_of_ble_eq_true rfl) hl.1 ⟨Nat.zero_le _, Nat.zero_le _⟩ dX6_setSquareLimit_5 ?_
  refine zz_ifb_ne (pc := 8) (tgt := 13) S dX6_setSquareLimit_8 (by decide) (fun c8 => ?_) (fun c8 => ?_)
  · refine lv_aload_n (pc := 13) S.1 S.2.1 dX6_setSquareLimit_13 rfl (lv_at hl 0 rfl) ?_
    refine zz_get (pc := 14) S hV.1 iX6 0 rfl rfl 4 (by decide) wd_70 rfl rfl dX6_setSquareLimit_14 ?_
    refine lv_istore_n (pc := 17) (lv' := [(2, .int (nI V)), (0, .ref o), (1, .int (nI a))]) S.1 S.2.1 dX6_setSquareLimit_17 rfl hl (by decide) rfl (fun ls hl => ?_)
    refine lv_aload_n (pc := 18) S.1 S.2.1 dX6_setSquareLimit_18 rfl (lv_at hl 1 rfl) ?_
    refine lv_iload_n (pc := 19) S.1 S.2.1 dX6_setSquareLimit_19 rfl (lv_at hl 2 rfl) ?_
    refine zz_put (pc := 20) (v := .int (nI a)) (ty := .int) S hV iX6 tyX6 tyX6_ok nmX6 0 rfl rfl 4 (by decide) wd_70 rfl rfl (by decide +kernel) rfl rfl (Nat.le_of_ble_eq_true rfl) (ws' := [(o, .inr (6, [.ref a1, .ref a2, .int (nI ed), .int (nI C), .int (nI a), .int (nI Ac), .ref a3, .ref a4, .ref a5, .ref a6])), (a1, zA cI 49 w)]) rfl dX6_setSquareLimit_20 (fun H locs hV => ?_)
    refine lv_iload_n (pc := 23) S.1 S.2.1 dX6_setSquareLimit_23 rfl (lv_at hl 0 rfl) ?_
    exact zz_iretM (pc := 24) S hr hlocks hV (⟨rfl, rfl⟩) dX6_setSquareLimit_24
  · exfalso; omega
abbrev wm_X6_setAcceleration : List Cond := .code yX6_setAcceleration cX6_setAcceleration 3 (some .int) :: wU
theorem q_X6_setAcceleration : yX6_setAcceleration.cls = RX6 ∧ yX6_setAcceleration.cls ≠ "java/lang/invoke/MethodHandle" ∧ yX6_setAcceleration.cls ≠ "java/lang/invoke/VarHandle" ∧ (parseMethodDescriptor yX6_setAcceleration.desc).map (fun d => d.parameters.length) = some 1 := by decide +kernel
set_option maxHeartbeats 4000000 in
set_option maxRecDepth 100000 in
theorem c_X6_setAcceleration_e (l : Launch) (D : va_G) (cI cR : ClassId) (o a1 a2 a3 a4 a5 a6 ed C V Ac : Nat) (w : Nat → Nat) (n : Nat) (P X Y L : Nat → Nat) (a : Int) (hge : zGe n P X Y) (hR : zRl w n P X Y L) (hset : zSt C V Ac) (ha : zR a) (hbad : ¬ (1 ≤ a ∧ a ≤ 99)) : Met l yX6_setAcceleration wm_X6_setAcceleration ({ frames := 1, cells := 0, slots := 0, locals := 22 } : Room) (va_Pc [.ref o, .int (zI a)] (zW D cI cR [(o, .inr (6, [.ref a1, .ref a2, .int (nI ed), .int (nI C), .int (nI V), .int (nI Ac), .ref a3, .ref a4, .ref a5, .ref a6])), (a1, zA cI 49 w)])) (vp_Si (fun r => r = zI (-1))) 0 0 (fun _ => False) := by
  refine Met.ofW (cc := cX6_setAcceleration) (maxL := 3) (ret := (some .int)) (by decide) rfl ?_
  intro p e s m args below meth c s₁ B hml hv
  obtain ⟨rfl, hG⟩ := hv
  have S : CallFix p m c cX6_setAcceleration 3 s ([.ref o, .int (zI a)] : List Value).toArray wU RX6 := ⟨B.exec, B.bytes, hml, findClass_of_methodNamed B.named, fun w h => atoms_spec (ws := wm_X6_setAcceleration) B.pre w (List.mem_cons_of_mem _ h)⟩
  have hr := B.returns
  have hlocks := B.notSynchronized
  have hG : zG D cI cR [(o, .inr (6, [.ref a1, .ref a2, .int (nI ed), .int (nI C), .int (nI V), .int (nI Ac), .ref a3, .ref a4, .ref a5, .ref a6])), (a1, zA cI 49 w)] s s.heap := hG
  have hl := lv_entry ([.ref o, .int (zI a)]) (n := 3) (Nat.le_of_ble_eq_true rfl)
  rw [lg_entry_eq]
  generalize (lg_sl ([.ref o, .int (zI a)]) ++ List.replicate (3 - (lg_sl ([.ref o, .int (zI a)])).length) Slot.unset).toArray = ls at hl ⊢
  have hl : lv_has ls 3 [(0, .ref o), (1, .int (zI a))] := hl
  have r_ha := id ha
  unfold zR at r_ha
  obtain ⟨hn, hPf, hXY⟩ := id hge
  obtain ⟨hC, hV9, hA9⟩ := id hset
  refine lv_iload_n (pc := 0) S.1 S.2.1 dX6_setAcceleration_0 rfl (lv_at hl 1 rfl) ?_
  refine zz_iconst (pc := 1) (v := nI 1) S dX6_setAcceleration_1 rfl ?_
  refine zz_bipush (pc := 2) (v := nI 99) S dX6_setAcceleration_2 rfl ?_
  refine zz_callS (pc := 4) (As := [.int (zI a), .int (zI 1), .int (zI 99)]) (rest := []) S (c_X6_in l D cI cR a 1 99 (by unfold zR; omega) (by unfold zR; omega) (by unfold zR; omega)) (zuS wd_135 wd_133 wd_134 wd_5) 3 rfl q_X6_in.2 ⟨⟨rfl, rfl⟩, Nat.le_of_ble_eq_true rfl, Nat.le_of_ble_eq_true rfl⟩ rfl rfl (Nat.le_of_ble_eq_true rfl) hl.1 ⟨Nat.zero_le _, Nat.zero_le _⟩ dX6_setAcceleration_4 ?_
  refine zz_ifb_ne (pc := 7) (tgt := 12) S dX6_setAcceleration_7 (by decide) (fun c7 => ?_) (fun c7 => ?_)
  · exfalso; omega
  · refine zz_iconst (pc := 10) (v := zI (-1)) S dX6_setAcceleration_10 rfl ?_
    exact zz_iretS (pc := 11) S hr hlocks (rfl) dX6_setAcceleration_11
set_option maxHeartbeats 4000000 in
set_option maxRecDepth 100000 in
theorem c_X6_setAcceleration_k (l : Launch) (D : va_G) (cI cR : ClassId) (o a1 a2 a3 a4 a5 a6 ed C V Ac : Nat) (w : Nat → Nat) (n : Nat) (P X Y L : Nat → Nat) (a : Nat) (sz : Nat) (hge : zGe n P X Y) (hR : zRl w n P X Y L) (hset : zSt C V Ac) (ha : 1 ≤ a ∧ a ≤ 99) : Met l yX6_setAcceleration wm_X6_setAcceleration ({ frames := 1, cells := 0, slots := 0, locals := 22 } : Room) (va_Pc [.ref o, .int (nI a)] (zX D cI cR [(o, .inr (6, [.ref a1, .ref a2, .int (nI ed), .int (nI C), .int (nI V), .int (nI Ac), .ref a3, .ref a4, .ref a5, .ref a6])), (a1, zA cI 49 w)] sz)) (zQi D cI cR (va_A [(o, .inr (6, [.ref a1, .ref a2, .int (nI ed), .int (nI C), .int (nI V), .int (nI Ac), .ref a3, .ref a4, .ref a5, .ref a6])), (a1, zA cI 49 w)] sz) (fun r w0 => (w0 = [(o, .inr (6, [.ref a1, .ref a2, .int (nI ed), .int (nI C), .int (nI V), .int (nI a), .ref a3, .ref a4, .ref a5, .ref a6])), (a1, zA cI 49 w)] ∧ r = nI Ac))) 0 0 (va_A [(o, .inr (6, [.ref a1, .ref a2, .int (nI ed), .int (nI C), .int (nI V), .int (nI Ac), .ref a3, .ref a4, .ref a5, .ref a6])), (a1, zA cI 49 w)] sz) := by
  refine Met.ofW (cc := cX6_setAcceleration) (maxL := 3) (ret := (some .int)) (by decide) rfl ?_
  intro p e s m args below meth c s₁ B hml hv
  obtain ⟨rfl, hsz, hG, hD0⟩ := hv
  have S : CallFix p m c cX6_setAcceleration 3 s ([.ref o, .int (nI a)] : List Value).toArray wU RX6 := ⟨B.exec, B.bytes, hml, findClass_of_methodNamed B.named, fun w h => atoms_spec (ws := wm_X6_setAcceleration) B.pre w (List.mem_cons_of_mem _ h)⟩
  have hr := B.returns
  have hlocks := B.notSynchronized
  subst hsz
  have hD := hD0.self (sz := s.heap.size)
  generalize hAe : va_A [(o, .inr (6, [.ref a1, .ref a2, .int (nI ed), .int (nI C), .int (nI V), .int (nI Ac), .ref a3, .ref a4, .ref a5, .ref a6])), (a1, zA cI 49 w)] s.heap.size = A at hD ⊢
  have hV : zV D cI cR A [(o, .inr (6, [.ref a1, .ref a2, .int (nI ed), .int (nI C), .int (nI V), .int (nI Ac), .ref a3, .ref a4, .ref a5, .ref a6])), (a1, zA cI 49 w)] s s.heap [] := ⟨hG, hD, va_S.rf, fun q h => by rw [← hAe]; exact Or.inr h⟩
  have hl := lv_entry ([.ref o, .int (nI a)]) (n := 3) (Nat.le_of_ble_eq_true rfl)
  rw [lg_entry_eq]
  generalize (lg_sl ([.ref o, .int (nI a)]) ++ List.replicate (3 - (lg_sl ([.ref o, .int (nI a)])).length) Slot.unset).toArray = ls at hl ⊢
  have hl : lv_has ls 3 [(0, .ref o), (1, .int (nI a))] := hl
  obtain ⟨hn, hPf, hXY⟩ := id hge
  obtain ⟨hC, hV9, hA9⟩ := id hset
  refine lv_iload_n (pc := 0) S.1 S.2.1 dX6_setAcceleration_0 rfl (lv_at hl 1 rfl) ?_
  refine zz_iconst (pc := 1) (v := nI 1) S dX6_setAcceleration_1 rfl ?_
  refine zz_bipush (pc := 2) (v := nI 99) S dX6_setAcceleration_2 rfl ?_
  refine zz_callS (pc := 4) (As := [.int (zI ((a : Nat) : Int)), .int (zI 1), .int (zI 99)]) (rest := []) S (c_X6_in l D cI cR ((a : Nat) : Int) 1 99 (by unfold zR; omega) (by unfold zR; omega) (by unfold zR; omega)) (zuS wd_135 wd_133 wd_134 wd_5) 3 rfl q_X6_in.2 ⟨⟨rfl, rfl⟩, Nat.le_of_ble_eq_true rfl, Nat.le_of_ble_eq_true rfl⟩ rfl rfl (Nat.le_of_ble_eq_true rfl) hl.1 ⟨Nat.zero_le _, Nat.zero_le _⟩ dX6_setAcceleration_4 ?_
  refine zz_ifb_ne (pc := 7) (tgt := 12) S dX6_setAcceleration_7 (by decide) (fun c7 => ?_) (fun c7 => ?_)
  · refine lv_aload_n (pc := 12) S.1 S.2.1 dX6_setAcceleration_12 rfl (lv_at hl 0 rfl) ?_
    refine zz_get (pc := 13) S hV.1 iX6 0 rfl rfl 5 (by decide) wd_71 rfl rfl dX6_setAcceleration_13 ?_
    refine lv_istore_n (pc := 16) (lv' := [(2, .int (nI Ac)), (0, .ref o), (1, .int (nI a))]) S.1 S.2.1 dX6_setAcceleration_16 rfl hl (by decide) rfl (fun ls hl => ?_)
    refine lv_aload_n (pc := 17) S.1 S.2.1 dX6_setAcceleration_17 rfl (lv_at hl 1 rfl) ?_
    refine lv_iload_n (pc := 18) S.1 S.2.1 dX6_setAcceleration_18 rfl (lv_at hl 2 rfl) ?_
    refine zz_put (pc := 19) (v := .int (nI a)) (ty := .int) S hV iX6 tyX6 tyX6_ok nmX6 0 rfl rfl 5 (by decide) wd_71 rfl rfl (by decide +kernel) rfl rfl (Nat.le_of_ble_eq_true rfl) (ws' := [(o, .inr (6, [.ref a1, .ref a2, .int (nI ed), .int (nI C), .int (nI V), .int (nI a), .ref a3, .ref a4, .ref a5, .ref a6])), (a1, zA cI 49 w)]) rfl dX6_setAcceleration_19 (fun H locs hV => ?_)
    refine lv_iload_n (pc := 22) S.1 S.2.1 dX6_setAcceleration_22 rfl (lv_at hl 0 rfl) ?_
    exact zz_iretM (pc := 23) S hr hlocks hV (⟨rfl, rfl⟩) dX6_setAcceleration_23
  · exfalso; omega
abbrev wm_X6_setPenCost : List Cond := .code yX6_setPenCost cX6_setPenCost 3 (some .int) :: wU
theorem q_X6_setPenCost : yX6_setPenCost.cls = RX6 ∧ yX6_setPenCost.cls ≠ "java/lang/invoke/MethodHandle" ∧ yX6_setPenCost.cls ≠ "java/lang/invoke/VarHandle" ∧ (parseMethodDescriptor yX6_setPenCost.desc).map (fun d => d.parameters.length) = some 1 := by decide +kernel
set_option maxHeartbeats 4000000 in
set_option maxRecDepth 100000 in
theorem c_X6_setPenCost_e (l : Launch) (D : va_G) (cI cR : ClassId) (o a1 a2 a3 a4 a5 a6 ed C V Ac : Nat) (w : Nat → Nat) (n : Nat) (P X Y L : Nat → Nat) (a : Int) (hge : zGe n P X Y) (hR : zRl w n P X Y L) (hset : zSt C V Ac) (ha : zR a) (hbad : ¬ (0 ≤ a ∧ a ≤ 500)) : Met l yX6_setPenCost wm_X6_setPenCost ({ frames := 1, cells := 0, slots := 0, locals := 22 } : Room) (va_Pc [.ref o, .int (zI a)] (zW D cI cR [(o, .inr (6, [.ref a1, .ref a2, .int (nI ed), .int (nI C), .int (nI V), .int (nI Ac), .ref a3, .ref a4, .ref a5, .ref a6])), (a1, zA cI 49 w)])) (vp_Si (fun r => r = zI (-1))) 0 0 (fun _ => False) := by
  refine Met.ofW (cc := cX6_setPenCost) (maxL := 3) (ret := (some .int)) (by decide) rfl ?_
  intro p e s m args below meth c s₁ B hml hv
  obtain ⟨rfl, hG⟩ := hv
  have S : CallFix p m c cX6_setPenCost 3 s ([.ref o, .int (zI a)] : List Value).toArray wU RX6 := ⟨B.exec, B.bytes, hml, findClass_of_methodNamed B.named, fun w h => atoms_spec (ws := wm_X6_setPenCost) B.pre w (List.mem_cons_of_mem _ h)⟩
  have hr := B.returns
  have hlocks := B.notSynchronized
  have hG : zG D cI cR [(o, .inr (6, [.ref a1, .ref a2, .int (nI ed), .int (nI C), .int (nI V), .int (nI Ac), .ref a3, .ref a4, .ref a5, .ref a6])), (a1, zA cI 49 w)] s s.heap := hG
  have hl := lv_entry ([.ref o, .int (zI a)]) (n := 3) (Nat.le_of_ble_eq_true rfl)
  rw [lg_entry_eq]
  generalize (lg_sl ([.ref o, .int (zI a)]) ++ List.replicate (3 - (lg_sl ([.ref o, .int (zI a)])).length) Slot.unset).toArray = ls at hl ⊢
  have hl : lv_has ls 3 [(0, .ref o), (1, .int (zI a))] := hl
  have r_ha := id ha
  unfold zR at r_ha
  obtain ⟨hn, hPf, hXY⟩ := id hge
  obtain ⟨hC, hV9, hA9⟩ := id hset
  refine lv_iload_n (pc := 0) S.1 S.2.1 dX6_setPenCost_0 rfl (lv_at hl 1 rfl) ?_
  refine zz_iconst (pc := 1) (v := nI 0) S dX6_setPenCost_1 rfl ?_
  refine zz_sipush (pc := 2) (v := nI 500) S dX6_setPenCost_2 rfl ?_
  refine zz_callS (pc := 5) (As := [.int (zI a), .int (zI 0), .int (zI 500)]) (rest := []) S (c_X6_in l D cI cR a 0 500 (by unfold zR; omega) (by unfold zR; omega) (by unfold zR; omega)) (zuS wd_135 wd_133 wd_134 wd_5) 3 rfl q_X6_in.2 ⟨⟨rfl, rfl⟩, Nat.le_of_ble_eq_true rfl, Nat.le_of_ble_eq_true rfl⟩ rfl rfl (Nat.le_of_ble_eq_true rfl) hl.1 ⟨Nat.zero_le _, Nat.zero_le _⟩ dX6_setPenCost_5 ?_
  refine zz_ifb_ne (pc := 8) (tgt := 13) S dX6_setPenCost_8 (by decide) (fun c8 => ?_) (fun c8 => ?_)
  · exfalso; omega
  · refine zz_iconst (pc := 11) (v := zI (-1)) S dX6_setPenCost_11 rfl ?_
    exact zz_iretS (pc := 12) S hr hlocks (rfl) dX6_setPenCost_12
set_option maxHeartbeats 4000000 in
set_option maxRecDepth 100000 in
theorem c_X6_setPenCost_k (l : Launch) (D : va_G) (cI cR : ClassId) (o a1 a2 a3 a4 a5 a6 ed C V Ac : Nat) (w : Nat → Nat) (n : Nat) (P X Y L : Nat → Nat) (a : Nat) (sz : Nat) (hge : zGe n P X Y) (hR : zRl w n P X Y L) (hset : zSt C V Ac) (ha : 0 ≤ a ∧ a ≤ 500) : Met l yX6_setPenCost wm_X6_setPenCost ({ frames := 1, cells := 0, slots := 0, locals := 22 } : Room) (va_Pc [.ref o, .int (nI a)] (zX D cI cR [(o, .inr (6, [.ref a1, .ref a2, .int (nI ed), .int (nI C), .int (nI V), .int (nI Ac), .ref a3, .ref a4, .ref a5, .ref a6])), (a1, zA cI 49 w)] sz)) (zQi D cI cR (va_A [(o, .inr (6, [.ref a1, .ref a2, .int (nI ed), .int (nI C), .int (nI V), .int (nI Ac), .ref a3, .ref a4, .ref a5, .ref a6])), (a1, zA cI 49 w)] sz) (fun r w0 => (w0 = [(o, .inr (6, [.ref a1, .ref a2, .int (nI ed), .int (nI a), .int (nI V), .int (nI Ac), .ref a3, .ref a4, .ref a5, .ref a6])), (a1, zA cI 49 w)] ∧ r = nI C))) 0 0 (va_A [(o, .inr (6, [.ref a1, .ref a2, .int (nI ed), .int (nI C), .int (nI V), .int (nI Ac), .ref a3, .ref a4, .ref a5, .ref a6])), (a1, zA cI 49 w)] sz) := by
  refine Met.ofW (cc := cX6_setPenCost) (maxL := 3) (ret := (some .int)) (by decide) rfl ?_
  intro p e s m args below meth c s₁ B hml hv
  obtain ⟨rfl, hsz, hG, hD0⟩ := hv
  have S : CallFix p m c cX6_setPenCost 3 s ([.ref o, .int (nI a)] : List Value).toArray wU RX6 := ⟨B.exec, B.bytes, hml, findClass_of_methodNamed B.named, fun w h => atoms_spec (ws := wm_X6_setPenCost) B.pre w (List.mem_cons_of_mem _ h)⟩
  have hr := B.returns
  have hlocks := B.notSynchronized
  subst hsz
  have hD := hD0.self (sz := s.heap.size)
  generalize hAe : va_A [(o, .inr (6, [.ref a1, .ref a2, .int (nI ed), .int (nI C), .int (nI V), .int (nI Ac), .ref a3, .ref a4, .ref a5, .ref a6])), (a1, zA cI 49 w)] s.heap.size = A at hD ⊢
  have hV : zV D cI cR A [(o, .inr (6, [.ref a1, .ref a2, .int (nI ed), .int (nI C), .int (nI V), .int (nI Ac), .ref a3, .ref a4, .ref a5, .ref a6])), (a1, zA cI 49 w)] s s.heap [] := ⟨hG, hD, va_S.rf, fun q h => by rw [← hAe]; exact Or.inr h⟩
  have hl := lv_entry ([.ref o, .int (nI a)]) (n := 3) (Nat.le_of_ble_eq_true rfl)
  rw [lg_entry_eq]
  generalize (lg_sl ([.ref o, .int (nI a)]) ++ List.replicate (3 - (lg_sl ([.ref o, .int (nI a)])).length) Slot.unset).toArray = ls at hl ⊢
  have hl : lv_has ls 3 [(0, .ref o), (1, .int (nI a))] := hl
  obtain ⟨hn, hPf, hXY⟩ := id hge
  obtain ⟨hC, hV9, hA9⟩ := id hset
  refine lv_iload_n (pc := 0) S.1 S.2.1 dX6_setPenCost_0 rfl (lv_at hl 1 rfl) ?_
  refine zz_iconst (pc := 1) (v := nI 0) S dX6_setPenCost_1 rfl ?_
  refine zz_sipush (pc := 2) (v := nI 500) S dX6_setPenCost_2 rfl ?_
  refine zz_callS (pc := 5) (As := [.int (zI ((a : Nat) : Int)), .int (zI 0), .int (zI 500)]) (rest := []) S (c_X6_in l D cI cR ((a : Nat) : Int) 0 500 (by unfold zR; omega) (by unfold zR; omega) (by unfold zR; omega)) (zuS wd_135 wd_133 wd_134 wd_5) 3 rfl q_X6_in.2 ⟨⟨rfl, rfl⟩, Nat.le_of_ble_eq_true rfl, Nat.le_of_ble_eq_true rfl⟩ rfl rfl (Nat.le_of_ble_eq_true rfl) hl.1 ⟨Nat.zero_le _, Nat.zero_le _⟩ dX6_setPenCost_5 ?_
  refine zz_ifb_ne (pc := 8) (tgt := 13) S dX6_setPenCost_8 (by decide) (fun c8 => ?_) (fun c8 => ?_)
  · refine lv_aload_n (pc := 13) S.1 S.2.1 dX6_setPenCost_13 rfl (lv_at hl 0 rfl) ?_
    refine zz_get (pc := 14) S hV.1 iX6 0 rfl rfl 3 (by decide) wd_69 rfl rfl dX6_setPenCost_14 ?_
    refine lv_istore_n (pc := 17) (lv' := [(2, .int (nI C)), (0, .ref o), (1, .int (nI a))]) S.1 S.2.1 dX6_setPenCost_17 rfl hl (by decide) rfl (fun ls hl => ?_)
    refine lv_aload_n (pc := 18) S.1 S.2.1 dX6_setPenCost_18 rfl (lv_at hl 1 rfl) ?_
    refine lv_iload_n (pc := 19) S.1 S.2.1 dX6_setPenCost_19 rfl (lv_at hl 2 rfl) ?_
    refine zz_put (pc := 20) (v := .int (nI a)) (ty := .int) S hV iX6 tyX6 tyX6_ok nmX6 0 rfl rfl 3 (by decide) wd_69 rfl rfl (by decide +kernel) rfl rfl (Nat.le_of_ble_eq_true rfl) (ws' := [(o, .inr (6, [.ref a1, .ref a2, .int (nI ed), .int (nI a), .int (nI V), .int (nI Ac), .ref a3, .ref a4, .ref a5, .ref a6])), (a1, zA cI 49 w)]) rfl dX6_setPenCost_20 (fun H locs hV => ?_)
    refine lv_iload_n (pc := 23) S.1 S.2.1 dX6_setPenCost_23 rfl (lv_at hl 0 rfl) ?_
    exact zz_iretM (pc := 24) S hr hlocks hV (⟨rfl, rfl⟩) dX6_setPenCost_24
  · exfalso; omega
