abbrev wm_X6_removes : List Cond := .code yX6_removes cX6_removes 4 none :: wU
theorem q_X6_removes : yX6_removes.cls = RX6 ∧ yX6_removes.cls ≠ "java/lang/invoke/MethodHandle" ∧ yX6_removes.cls ≠ "java/lang/invoke/VarHandle" ∧ (parseMethodDescriptor yX6_removes.desc).map (fun d => d.parameters.length) = some 1 := by decide +kernel
set_option maxHeartbeats 4000000 in
set_option maxRecDepth 100000 in
theorem c_X6_removes (l : Launch) (D : va_G) (cI cR : ClassId) (o a1 a2 a3 a4 a5 a6 ed C V Ac : Nat) (w : Nat → Nat) (n : Nat) (P X Y L : Nat → Nat) (a : Nat) (t : Nat) (sz : Nat) (hok : zOk n P X Y L) (hR : zRl w n P X Y L) (hset : zSt C V Ac) (ha : a < n) (ht : t < n ∧ L t / 2 = a) : Met l yX6_removes wm_X6_removes ({ frames := 0, cells := 0, slots := 0, locals := 0 } : Room) (va_Pc [.ref o, .int (nI a)] (zX D cI cR [(o, .inr (6, [.ref a1, .ref a2, .int (nI ed), .int (nI C), .int (nI V), .int (nI Ac), .ref a3, .ref a4, .ref a5, .ref a6])), (a1, zA cI 49 w)] sz)) (zQv D cI cR (va_A [(o, .inr (6, [.ref a1, .ref a2, .int (nI ed), .int (nI C), .int (nI V), .int (nI Ac), .ref a3, .ref a4, .ref a5, .ref a6])), (a1, zA cI 49 w)] sz) (fun w0 => w0 = [(o, .inr (6, [.ref a1, .ref a2, .int (nI ed), .int (nI C), .int (nI V), .int (nI Ac), .ref a3, .ref a4, .ref a5, .ref a6])), (a1, zA cI 49 (rmw w n a t))])) 0 0 (va_A [(o, .inr (6, [.ref a1, .ref a2, .int (nI ed), .int (nI C), .int (nI V), .int (nI Ac), .ref a3, .ref a4, .ref a5, .ref a6])), (a1, zA cI 49 w)] sz) := by
  refine Met.ofW (cc := cX6_removes) (maxL := 4) (ret := none) (by decide) rfl ?_
  intro p e s m args below meth c s₁ B hml hv
  obtain ⟨rfl, hsz, hG, hD0⟩ := hv
  have S : CallFix p m c cX6_removes 4 s ([.ref o, .int (nI a)] : List Value).toArray wU RX6 := ⟨B.exec, B.bytes, hml, findClass_of_methodNamed B.named, fun w h => atoms_spec (ws := wm_X6_removes) B.pre w (List.mem_cons_of_mem _ h)⟩
  have hr := B.returns
  have hlocks := B.notSynchronized
  subst hsz
  have hD := hD0.self (sz := s.heap.size)
  generalize hAe : va_A [(o, .inr (6, [.ref a1, .ref a2, .int (nI ed), .int (nI C), .int (nI V), .int (nI Ac), .ref a3, .ref a4, .ref a5, .ref a6])), (a1, zA cI 49 w)] s.heap.size = A at hD ⊢
  have hV : zV D cI cR A [(o, .inr (6, [.ref a1, .ref a2, .int (nI ed), .int (nI C), .int (nI V), .int (nI Ac), .ref a3, .ref a4, .ref a5, .ref a6])), (a1, zA cI 49 w)] s s.heap [] := ⟨hG, hD, va_S.rf, fun q h => by rw [← hAe]; exact Or.inr h⟩
  have hl := lv_entry ([.ref o, .int (nI a)]) (n := 4) (Nat.le_of_ble_eq_true rfl)
  rw [lg_entry_eq]
  generalize (lg_sl ([.ref o, .int (nI a)]) ++ List.replicate (4 - (lg_sl ([.ref o, .int (nI a)])).length) Slot.unset).toArray = ls at hl ⊢
  have hl : lv_has ls 4 [(0, .ref o), (1, .int (nI a))] := hl
  obtain ⟨⟨hn, hPf, hXY⟩, hLf, hinj⟩ := id hok
  obtain ⟨hC, hV9, hA9⟩ := id hset
  refine zz_iconst (pc := 0) (v := nI 0) S dX6_removes_0 rfl ?_
  refine lv_istore_n (pc := 1) (lv' := [(2, .int (nI 0)), (0, .ref o), (1, .int (nI a))]) S.1 S.2.1 dX6_removes_1 rfl hl (by decide) rfl (fun ls hl => ?_)
  have L1 : ∀ (f : Nat) (k : Nat), (k ≤ t) → n - k < f → ∀ (H : Heap) (locs : List Loc), zV D cI cR A [(o, .inr (6, [.ref a1, .ref a2, .int (nI ed), .int (nI C), .int (nI V), .int (nI Ac), .ref a3, .ref a4, .ref a5, .ref a6])), (a1, zA cI 49 w)] s H locs → ∀ ls : Array Slot, lv_has ls 4 [(0, .ref o), (1, .int (nI a)), (2, .int (nI k))] → W p l e (headSpec wm_X6_removes ({ frames := 0, cells := 0, slots := 0, locals := 0 } : Room)).room s m ([.ref o, .int (nI a)] : List Value).toArray below meth c H locs 0 0 (MQ below (zQv D cI cR A (fun w0 => w0 = [(o, .inr (6, [.ref a1, .ref a2, .int (nI ed), .int (nI C), .int (nI V), .int (nI Ac), .ref a3, .ref a4, .ref a5, .ref a6])), (a1, zA cI 49 (rmw w n a t))])) ([.ref o, .int (nI a)] : List Value).toArray s 0 0 A) (F0 m 2 ls []) := by
    intro f
    induction f with
    | zero => intro k hk hf; exact absurd hf (Nat.not_lt_zero _)
    | succ f ih2 =>
      intro k hk hf H locs hV ls hl
      refine lv_aload_n (pc := 2) S.1 S.2.1 dX6_removes_2 rfl (lv_at hl 0 rfl) ?_
      refine zz_get (pc := 3) S hV.1 iX6 0 rfl rfl 0 (by decide) wd_67 rfl rfl dX6_removes_3 ?_
      refine zz_bipush (pc := 6) (v := nI 40) S dX6_removes_6 rfl ?_
      refine lv_iload_n (pc := 8) S.1 S.2.1 dX6_removes_8 rfl (lv_at hl 2 rfl) ?_
      refine zz_iadd (pc := 9) (v := nI (40 + k)) S dX6_removes_9 (n_add _ _) ?_
      refine zz_iald (pc := 10) (k := 40 + k) S hV.1 1 rfl (by omega) dX6_removes_10 ?_
      refine zz_cast (v := nI (L k)) (congrArg nI (hR.2.2.2 k (by omega))) ?_
      have g3 := hLf k (by omega)
      refine zz_iconst (pc := 11) (v := nI 2) S dX6_removes_11 rfl ?_
      refine zz_idiv (pc := 12) (v := nI ((L k) / 2)) S dX6_removes_12 (by decide) (n_div (by omega) (by decide) (by decide)) ?_
      refine lv_iload_n (pc := 13) S.1 S.2.1 dX6_removes_13 rfl (lv_at hl 1 rfl) ?_
      refine zz_icmp_eq (pc := 14) (tgt := 23) S dX6_removes_14 (by decide) (n_eq (by omega) (by omega)) (fun c14 => ?_) (fun c14 => ?_)
      · have hkt : k = t := hinj k t (by omega) (by omega) (by omega)
        refine lv_aload_n (pc := 23) S.1 S.2.1 dX6_removes_23 rfl (lv_at hl 0 rfl) ?_
        refine zz_get (pc := 24) S hV.1 iX6 0 rfl rfl 0 (by decide) wd_67 rfl rfl dX6_removes_24 ?_
        refine zz_bipush (pc := 27) (v := nI 48) S dX6_removes_27 rfl ?_
        refine lv_dup2_11 (pc := 29) S.1 S.2.1 dX6_removes_29 rfl rfl ?_
        refine zz_iald (pc := 30) (k := 48) S hV.1 1 rfl (by omega) dX6_removes_30 ?_
        refine zz_cast (v := nI n) (congrArg nI hR.1) ?_
        refine zz_iconst (pc := 31) (v := nI 1) S dX6_removes_31 rfl ?_
        refine zz_isub (pc := 32) (v := nI (n - 1)) S dX6_removes_32 (n_sub (by omega)) ?_
        refine zz_iast (pc := 33) (k := 48) (v := n - 1) S hV 1 rfl (by omega) (ws' := [(o, .inr (6, [.ref a1, .ref a2, .int (nI ed), .int (nI C), .int (nI V), .int (nI Ac), .ref a3, .ref a4, .ref a5, .ref a6])), (a1, zA cI 49 (va_up w 48 (n - 1)))]) rfl dX6_removes_33 (fun H locs hV => ?_)
        refine lv_iload_n (pc := 34) S.1 S.2.1 dX6_removes_34 rfl (lv_at hl 2 rfl) ?_
        refine lv_istore_n (pc := 35) (lv' := [(3, .int (nI k)), (0, .ref o), (1, .int (nI a)), (2, .int (nI k))]) S.1 S.2.1 dX6_removes_35 rfl hl (by decide) rfl (fun ls hl => ?_)
        have L4 : ∀ (f : Nat) (k : Nat), (t ≤ k ∧ k ≤ n - 1) → n - k < f → ∀ (H : Heap) (locs : List Loc), zV D cI cR A [(o, .inr (6, [.ref a1, .ref a2, .int (nI ed), .int (nI C), .int (nI V), .int (nI Ac), .ref a3, .ref a4, .ref a5, .ref a6])), (a1, zA cI 49 (rm2 w n t k))] s H locs → ∀ ls : Array Slot, lv_has ls 4 [(0, .ref o), (1, .int (nI a)), (3, .int (nI k))] → W p l e (headSpec wm_X6_removes ({ frames := 0, cells := 0, slots := 0, locals := 0 } : Room)).room s m ([.ref o, .int (nI a)] : List Value).toArray below meth c H locs 0 0 (MQ below (zQv D cI cR A (fun w0 => w0 = [(o, .inr (6, [.ref a1, .ref a2, .int (nI ed), .int (nI C), .int (nI V), .int (nI Ac), .ref a3, .ref a4, .ref a5, .ref a6])), (a1, zA cI 49 (rmw w n a t))])) ([.ref o, .int (nI a)] : List Value).toArray s 0 0 A) (F0 m 36 ls []) := by
          intro f
          induction f with
          | zero => intro k hk hf; exact absurd hf (Nat.not_lt_zero _)
          | succ f ih5 =>
            intro k hk hf H locs hV ls hl
            refine lv_iload_n (pc := 36) S.1 S.2.1 dX6_removes_36 rfl (lv_at hl 2 rfl) ?_
            refine lv_aload_n (pc := 37) S.1 S.2.1 dX6_removes_37 rfl (lv_at hl 0 rfl) ?_
            refine zz_get (pc := 38) S hV.1 iX6 0 rfl rfl 0 (by decide) wd_67 rfl rfl dX6_removes_38 ?_
            refine zz_bipush (pc := 41) (v := nI 48) S dX6_removes_41 rfl ?_
            refine zz_iald (pc := 43) (k := 48) S hV.1 1 rfl (by omega) dX6_removes_43 ?_
            refine zz_cast (v := nI (n - 1)) (congrArg nI (rm2_48 (by omega) hn (by omega))) ?_
            refine zz_icmp_ge (pc := 44) (tgt := 73) S dX6_removes_44 (by decide) (n_le (by omega) (by omega)) (fun c44 => ?_) (fun c44 => ?_)
            · refine zz_iconst (pc := 73) (v := nI 0) S dX6_removes_73 rfl ?_
              refine lv_istore_n (pc := 74) (lv' := [(3, .int (nI 0)), (0, .ref o), (1, .int (nI a))]) S.1 S.2.1 dX6_removes_74 rfl hl (by decide) rfl (fun ls hl => ?_)
              have L6 : ∀ (f : Nat) (k : Nat), (k ≤ n - 1) → n - k < f → ∀ (H : Heap) (locs : List Loc), zV D cI cR A [(o, .inr (6, [.ref a1, .ref a2, .int (nI ed), .int (nI C), .int (nI V), .int (nI Ac), .ref a3, .ref a4, .ref a5, .ref a6])), (a1, zA cI 49 (rm3 w n t a k))] s H locs → ∀ ls : Array Slot, lv_has ls 4 [(0, .ref o), (1, .int (nI a)), (3, .int (nI k))] → W p l e (headSpec wm_X6_removes ({ frames := 0, cells := 0, slots := 0, locals := 0 } : Room)).room s m ([.ref o, .int (nI a)] : List Value).toArray below meth c H locs 0 0 (MQ below (zQv D cI cR A (fun w0 => w0 = [(o, .inr (6, [.ref a1, .ref a2, .int (nI ed), .int (nI C), .int (nI V), .int (nI Ac), .ref a3, .ref a4, .ref a5, .ref a6])), (a1, zA cI 49 (rmw w n a t))])) ([.ref o, .int (nI a)] : List Value).toArray s 0 0 A) (F0 m 75 ls []) := by
                intro f
                induction f with
                | zero => intro k hk hf; exact absurd hf (Nat.not_lt_zero _)
                | succ f ih7 =>
                  intro k hk hf H locs hV ls hl
                  have hpl : k + 1 < n → pl1 L t k < 2 * n := fun h => hLf _ (by split <;> omega)
                  refine lv_iload_n (pc := 75) S.1 S.2.1 dX6_removes_75 rfl (lv_at hl 2 rfl) ?_
                  refine lv_aload_n (pc := 76) S.1 S.2.1 dX6_removes_76 rfl (lv_at hl 0 rfl) ?_
                  refine zz_get (pc := 77) S hV.1 iX6 0 rfl rfl 0 (by decide) wd_67 rfl rfl dX6_removes_77 ?_
                  refine zz_bipush (pc := 80) (v := nI 48) S dX6_removes_80 rfl ?_
                  refine zz_iald (pc := 82) (k := 48) S hV.1 1 rfl (by omega) dX6_removes_82 ?_
                  refine zz_cast (v := nI (n - 1)) (congrArg nI (rm3_48 (by omega) hn (by omega))) ?_
                  refine zz_icmp_ge (pc := 83) (tgt := 124) S dX6_removes_83 (by decide) (n_le (by omega) (by omega)) (fun c83 => ?_) (fun c83 => ?_)
                  · refine zz_iconst (pc := 124) (v := nI 5) S dX6_removes_124 rfl ?_
                    refine lv_iload_n (pc := 125) S.1 S.2.1 dX6_removes_125 rfl (lv_at hl 1 rfl) ?_
                    refine zz_imul (pc := 126) (v := nI (5 * a)) S dX6_removes_126 (n_mul _ _) ?_
                    refine lv_istore_n (pc := 127) (lv' := [(3, .int (nI (5 * a))), (0, .ref o), (1, .int (nI a))]) S.1 S.2.1 dX6_removes_127 rfl hl (by decide) rfl (fun ls hl => ?_)
                    have L8 : ∀ (f : Nat) (k : Nat), (5 * a ≤ k ∧ k ≤ 5 * (n - 1)) → 5 * (n - 1) - k < f → ∀ (H : Heap) (locs : List Loc), zV D cI cR A [(o, .inr (6, [.ref a1, .ref a2, .int (nI ed), .int (nI C), .int (nI V), .int (nI Ac), .ref a3, .ref a4, .ref a5, .ref a6])), (a1, zA cI 49 (shl (rm3 w n t a (n - 1)) 5 (5 * a) k))] s H locs → ∀ ls : Array Slot, lv_has ls 4 [(0, .ref o), (1, .int (nI a)), (3, .int (nI k))] → W p l e (headSpec wm_X6_removes ({ frames := 0, cells := 0, slots := 0, locals := 0 } : Room)).room s m ([.ref o, .int (nI a)] : List Value).toArray below meth c H locs 0 0 (MQ below (zQv D cI cR A (fun w0 => w0 = [(o, .inr (6, [.ref a1, .ref a2, .int (nI ed), .int (nI C), .int (nI V), .int (nI Ac), .ref a3, .ref a4, .ref a5, .ref a6])), (a1, zA cI 49 (rmw w n a t))])) ([.ref o, .int (nI a)] : List Value).toArray s 0 0 A) (F0 m 128 ls []) := by
                      intro f
                      induction f with
                      | zero => intro k hk hf; exact absurd hf (Nat.not_lt_zero _)
                      | succ f ih9 =>
                        intro k hk hf H locs hV ls hl
                        refine lv_iload_n (pc := 128) S.1 S.2.1 dX6_removes_128 rfl (lv_at hl 2 rfl) ?_
                        refine zz_iconst (pc := 129) (v := nI 5) S dX6_removes_129 rfl ?_
                        refine lv_aload_n (pc := 130) S.1 S.2.1 dX6_removes_130 rfl (lv_at hl 0 rfl) ?_
                        refine zz_get (pc := 131) S hV.1 iX6 0 rfl rfl 0 (by decide) wd_67 rfl rfl dX6_removes_131 ?_
                        refine zz_bipush (pc := 134) (v := nI 48) S dX6_removes_134 rfl ?_
                        refine zz_iald (pc := 136) (k := 48) S hV.1 1 rfl (by omega) dX6_removes_136 ?_
                        refine zz_cast (v := nI (n - 1)) (congrArg nI (rm4_48 (by omega) hn (by omega))) ?_
                        refine zz_imul (pc := 137) (v := nI (5 * (n - 1))) S dX6_removes_137 (n_mul _ _) ?_
                        refine zz_icmp_ge (pc := 138) (tgt := 161) S dX6_removes_138 (by decide) (n_le (by omega) (by omega)) (fun c138 => ?_) (fun c138 => ?_)
                        · have hV : zV D cI cR A [(o, .inr (6, [.ref a1, .ref a2, .int (nI ed), .int (nI C), .int (nI V), .int (nI Ac), .ref a3, .ref a4, .ref a5, .ref a6])), (a1, zA cI 49 (rmw w n a t))] s H locs := hV.arr 1 rfl (fun j hj => by rw [show k = 5 * (n - 1) by omega]; rfl) rfl
                          exact zz_vretM (pc := 161) S hr hlocks hV (rfl) dX6_removes_161
                        · refine lv_aload_n (pc := 141) S.1 S.2.1 dX6_removes_141 rfl (lv_at hl 0 rfl) ?_
                          refine zz_get (pc := 142) S hV.1 iX6 0 rfl rfl 0 (by decide) wd_67 rfl rfl dX6_removes_142 ?_
                          refine lv_iload_n (pc := 145) S.1 S.2.1 dX6_removes_145 rfl (lv_at hl 2 rfl) ?_
                          refine lv_aload_n (pc := 146) S.1 S.2.1 dX6_removes_146 rfl (lv_at hl 0 rfl) ?_
                          refine zz_get (pc := 147) S hV.1 iX6 0 rfl rfl 0 (by decide) wd_67 rfl rfl dX6_removes_147 ?_
                          refine lv_iload_n (pc := 150) S.1 S.2.1 dX6_removes_150 rfl (lv_at hl 2 rfl) ?_
                          refine zz_iconst (pc := 151) (v := nI 5) S dX6_removes_151 rfl ?_
                          refine zz_iadd (pc := 152) (v := nI (k + 5)) S dX6_removes_152 (n_add _ _) ?_
                          refine zz_iald (pc := 153) (k := k + 5) S hV.1 1 rfl (by omega) dX6_removes_153 ?_
                          refine zz_iast (pc := 154) (k := k) (v := (shl (rm3 w n t a (n - 1)) 5 (5 * a) k) (k + 5)) S hV 1 rfl (by omega) (ws' := [(o, .inr (6, [.ref a1, .ref a2, .int (nI ed), .int (nI C), .int (nI V), .int (nI Ac), .ref a3, .ref a4, .ref a5, .ref a6])), (a1, zA cI 49 (va_up (shl (rm3 w n t a (n - 1)) 5 (5 * a) k) k ((shl (rm3 w n t a (n - 1)) 5 (5 * a) k) (k + 5))))]) rfl dX6_removes_154 (fun H locs hV => ?_)
                          refine lv_iinc (pc := 155) (v := nI (k + 1)) (lv' := [(3, .int (nI (k + 1))), (0, .ref o), (1, .int (nI a))]) S.1 S.2.1 dX6_removes_155 hl (k := 2) rfl (n_add _ _) (by decide) rfl (fun ls hl => ?_)
                          refine lv_goto (pc := 158) (tgt := 128) S.1 S.2.1 dX6_removes_158 (by decide) ?_
                          have hV : zV D cI cR A [(o, .inr (6, [.ref a1, .ref a2, .int (nI ed), .int (nI C), .int (nI V), .int (nI Ac), .ref a3, .ref a4, .ref a5, .ref a6])), (a1, zA cI 49 (shl (rm3 w n t a (n - 1)) 5 (5 * a) (k + 1)))] s H locs := hV.arr 1 rfl (fun j hj => by exact shl_u (rm3 w n t a (n - 1)) 5 (5 * a) k j (by omega)) rfl
                          exact ih9 (k + 1) (by omega) (by omega) H locs hV ls (lv_sub hl [1, 2, 0] rfl)
                    have hV : zV D cI cR A [(o, .inr (6, [.ref a1, .ref a2, .int (nI ed), .int (nI C), .int (nI V), .int (nI Ac), .ref a3, .ref a4, .ref a5, .ref a6])), (a1, zA cI 49 (shl (rm3 w n t a (n - 1)) 5 (5 * a) (5 * a)))] s H locs := hV.arr 1 rfl (fun j hj => by rw [show k = n - 1 by omega]; exact shl_0 _ 5 _ _ j (Nat.le_refl _)) rfl
                    exact L8 (5 * (n - 1) - (5 * a) + 1) (5 * a) (by omega) (Nat.lt_succ_self _) H locs hV ls (lv_sub hl [1, 2, 0] rfl)
                  · refine lv_aload_n (pc := 86) S.1 S.2.1 dX6_removes_86 rfl (lv_at hl 0 rfl) ?_
                    refine zz_get (pc := 87) S hV.1 iX6 0 rfl rfl 0 (by decide) wd_67 rfl rfl dX6_removes_87 ?_
                    refine zz_bipush (pc := 90) (v := nI 40) S dX6_removes_90 rfl ?_
                    refine lv_iload_n (pc := 92) S.1 S.2.1 dX6_removes_92 rfl (lv_at hl 2 rfl) ?_
                    refine zz_iadd (pc := 93) (v := nI (40 + k)) S dX6_removes_93 (n_add _ _) ?_
                    refine lv_dup2_11 (pc := 94) S.1 S.2.1 dX6_removes_94 rfl rfl ?_
                    refine zz_iald (pc := 95) (k := 40 + k) S hV.1 1 rfl (by omega) dX6_removes_95 ?_
                    refine zz_cast (v := nI (pl1 L t k)) (congrArg nI ((rm3_k w n t a k).trans (rm2_pl hR (by omega) hn))) ?_
                    refine lv_aload_n (pc := 96) S.1 S.2.1 dX6_removes_96 rfl (lv_at hl 0 rfl) ?_
                    refine zz_get (pc := 97) S hV.1 iX6 0 rfl rfl 0 (by decide) wd_67 rfl rfl dX6_removes_97 ?_
                    refine zz_bipush (pc := 100) (v := nI 40) S dX6_removes_100 rfl ?_
                    refine lv_iload_n (pc := 102) S.1 S.2.1 dX6_removes_102 rfl (lv_at hl 2 rfl) ?_
                    refine zz_iadd (pc := 103) (v := nI (40 + k)) S dX6_removes_103 (n_add _ _) ?_
                    refine zz_iald (pc := 104) (k := 40 + k) S hV.1 1 rfl (by omega) dX6_removes_104 ?_
                    refine zz_cast (v := nI (pl1 L t k)) (congrArg nI ((rm3_k w n t a k).trans (rm2_pl hR (by omega) hn))) ?_
                    refine zz_iconst (pc := 105) (v := nI 2) S dX6_removes_105 rfl ?_
                    refine zz_idiv (pc := 106) (v := nI ((pl1 L t k) / 2)) S dX6_removes_106 (by decide) (n_div (by omega) (by decide) (by decide)) ?_
                    refine lv_iload_n (pc := 107) S.1 S.2.1 dX6_removes_107 rfl (lv_at hl 1 rfl) ?_
                    refine zz_icmp_le (pc := 108) (tgt := 115) S dX6_removes_108 (by decide) (n_le (by omega) (by omega)) (fun c108 => ?_) (fun c108 => ?_)
                    · refine zz_iconst (pc := 115) (v := nI 0) S dX6_removes_115 rfl ?_
                      refine zz_isub (pc := 116) (v := nI ((pl1 L t k) - 0)) S dX6_removes_116 (n_sub (by omega)) ?_
                      refine zz_iast (pc := 117) (k := 40 + k) (v := (pl1 L t k) - 0) S hV 1 rfl (by omega) (ws' := [(o, .inr (6, [.ref a1, .ref a2, .int (nI ed), .int (nI C), .int (nI V), .int (nI Ac), .ref a3, .ref a4, .ref a5, .ref a6])), (a1, zA cI 49 (va_up (rm3 w n t a k) (40 + k) ((pl1 L t k) - 0)))]) rfl dX6_removes_117 (fun H locs hV => ?_)
                      refine lv_iinc (pc := 118) (v := nI (k + 1)) (lv' := [(3, .int (nI (k + 1))), (0, .ref o), (1, .int (nI a))]) S.1 S.2.1 dX6_removes_118 hl (k := 2) rfl (n_add _ _) (by decide) rfl (fun ls hl => ?_)
                      refine lv_goto (pc := 121) (tgt := 75) S.1 S.2.1 dX6_removes_121 (by decide) ?_
                      have hV : zV D cI cR A [(o, .inr (6, [.ref a1, .ref a2, .int (nI ed), .int (nI C), .int (nI V), .int (nI Ac), .ref a3, .ref a4, .ref a5, .ref a6])), (a1, zA cI 49 (rm3 w n t a (k + 1)))] s H locs := hV.arr 1 rfl (fun j hj => by exact rm3_s w n t a k _ j (by rw [rm2_pl hR (by omega) hn]; first | exact (adj_t (by omega)).symm | exact (adj_f (by omega)).symm)) rfl
                      exact ih7 (k + 1) (by omega) (by omega) H locs hV ls (lv_sub hl [1, 2, 0] rfl)
                    · refine zz_iconst (pc := 111) (v := nI 2) S dX6_removes_111 rfl ?_
                      refine lv_goto (pc := 112) (tgt := 116) S.1 S.2.1 dX6_removes_112 (by decide) ?_
                      refine zz_isub (pc := 116) (v := nI ((pl1 L t k) - 2)) S dX6_removes_116 (n_sub (by omega)) ?_
                      refine zz_iast (pc := 117) (k := 40 + k) (v := (pl1 L t k) - 2) S hV 1 rfl (by omega) (ws' := [(o, .inr (6, [.ref a1, .ref a2, .int (nI ed), .int (nI C), .int (nI V), .int (nI Ac), .ref a3, .ref a4, .ref a5, .ref a6])), (a1, zA cI 49 (va_up (rm3 w n t a k) (40 + k) ((pl1 L t k) - 2)))]) rfl dX6_removes_117 (fun H locs hV => ?_)
                      refine lv_iinc (pc := 118) (v := nI (k + 1)) (lv' := [(3, .int (nI (k + 1))), (0, .ref o), (1, .int (nI a))]) S.1 S.2.1 dX6_removes_118 hl (k := 2) rfl (n_add _ _) (by decide) rfl (fun ls hl => ?_)
                      refine lv_goto (pc := 121) (tgt := 75) S.1 S.2.1 dX6_removes_121 (by decide) ?_
                      have hV : zV D cI cR A [(o, .inr (6, [.ref a1, .ref a2, .int (nI ed), .int (nI C), .int (nI V), .int (nI Ac), .ref a3, .ref a4, .ref a5, .ref a6])), (a1, zA cI 49 (rm3 w n t a (k + 1)))] s H locs := hV.arr 1 rfl (fun j hj => by exact rm3_s w n t a k _ j (by rw [rm2_pl hR (by omega) hn]; first | exact (adj_t (by omega)).symm | exact (adj_f (by omega)).symm)) rfl
                      exact ih7 (k + 1) (by omega) (by omega) H locs hV ls (lv_sub hl [1, 2, 0] rfl)
              have hV : zV D cI cR A [(o, .inr (6, [.ref a1, .ref a2, .int (nI ed), .int (nI C), .int (nI V), .int (nI Ac), .ref a3, .ref a4, .ref a5, .ref a6])), (a1, zA cI 49 (rm3 w n t a 0))] s H locs := hV.arr 1 rfl (fun j hj => by rw [show k = n - 1 by omega]; exact rm3_0 w n t a j) rfl
              exact L6 (n - 0 + 1) 0 (by omega) (Nat.lt_succ_self _) H locs hV ls (lv_sub hl [1, 2, 0] rfl)
            · refine lv_aload_n (pc := 47) S.1 S.2.1 dX6_removes_47 rfl (lv_at hl 0 rfl) ?_
              refine zz_get (pc := 48) S hV.1 iX6 0 rfl rfl 0 (by decide) wd_67 rfl rfl dX6_removes_48 ?_
              refine zz_bipush (pc := 51) (v := nI 40) S dX6_removes_51 rfl ?_
              refine lv_iload_n (pc := 53) S.1 S.2.1 dX6_removes_53 rfl (lv_at hl 2 rfl) ?_
              refine zz_iadd (pc := 54) (v := nI (40 + k)) S dX6_removes_54 (n_add _ _) ?_
              refine lv_aload_n (pc := 55) S.1 S.2.1 dX6_removes_55 rfl (lv_at hl 0 rfl) ?_
              refine zz_get (pc := 56) S hV.1 iX6 0 rfl rfl 0 (by decide) wd_67 rfl rfl dX6_removes_56 ?_
              refine zz_bipush (pc := 59) (v := nI 40) S dX6_removes_59 rfl ?_
              refine lv_iload_n (pc := 61) S.1 S.2.1 dX6_removes_61 rfl (lv_at hl 2 rfl) ?_
              refine zz_iadd (pc := 62) (v := nI (40 + k)) S dX6_removes_62 (n_add _ _) ?_
              refine zz_iconst (pc := 63) (v := nI 1) S dX6_removes_63 rfl ?_
              refine zz_iadd (pc := 64) (v := nI (40 + k + 1)) S dX6_removes_64 (n_add _ _) ?_
              refine zz_iald (pc := 65) (k := 40 + k + 1) S hV.1 1 rfl (by omega) dX6_removes_65 ?_
              refine zz_iast (pc := 66) (k := 40 + k) (v := (rm2 w n t k) (40 + k + 1)) S hV 1 rfl (by omega) (ws' := [(o, .inr (6, [.ref a1, .ref a2, .int (nI ed), .int (nI C), .int (nI V), .int (nI Ac), .ref a3, .ref a4, .ref a5, .ref a6])), (a1, zA cI 49 (va_up (rm2 w n t k) (40 + k) ((rm2 w n t k) (40 + k + 1))))]) rfl dX6_removes_66 (fun H locs hV => ?_)
              refine lv_iinc (pc := 67) (v := nI (k + 1)) (lv' := [(3, .int (nI (k + 1))), (0, .ref o), (1, .int (nI a))]) S.1 S.2.1 dX6_removes_67 hl (k := 2) rfl (n_add _ _) (by decide) rfl (fun ls hl => ?_)
              refine lv_goto (pc := 70) (tgt := 36) S.1 S.2.1 dX6_removes_70 (by decide) ?_
              have hV : zV D cI cR A [(o, .inr (6, [.ref a1, .ref a2, .int (nI ed), .int (nI C), .int (nI V), .int (nI Ac), .ref a3, .ref a4, .ref a5, .ref a6])), (a1, zA cI 49 (rm2 w n t (k + 1)))] s H locs := hV.arr 1 rfl (fun j hj => by exact shl_u (va_up w 48 (n - 1)) 1 (40 + t) (40 + k) j (by omega)) rfl
              exact ih5 (k + 1) (by omega) (by omega) H locs hV ls (lv_sub hl [1, 2, 0] rfl)
        have hV : zV D cI cR A [(o, .inr (6, [.ref a1, .ref a2, .int (nI ed), .int (nI C), .int (nI V), .int (nI Ac), .ref a3, .ref a4, .ref a5, .ref a6])), (a1, zA cI 49 (rm2 w n t t))] s H locs := hV.arr 1 rfl (fun j hj => by exact shl_0 _ 1 _ _ j (Nat.le_refl _)) rfl
        exact L4 (n - t + 1) t (by omega) (Nat.lt_succ_self _) H locs hV ls (by rw [show t = k by omega]; exact lv_sub hl [1, 2, 0] rfl)
      · have hkt : ¬ k = t := by intro q; rw [q] at c14; omega
        refine lv_iinc (pc := 17) (v := nI (k + 1)) (lv' := [(2, .int (nI (k + 1))), (0, .ref o), (1, .int (nI a))]) S.1 S.2.1 dX6_removes_17 hl (k := 2) rfl (n_add _ _) (by decide) rfl (fun ls hl => ?_)
        refine lv_goto (pc := 20) (tgt := 2) S.1 S.2.1 dX6_removes_20 (by decide) ?_
        exact ih2 (k + 1) (by omega) (by omega) H locs hV ls (lv_sub hl [1, 2, 0] rfl)
  exact L1 (n - 0 + 1) 0 (by omega) (Nat.lt_succ_self _) s.heap [] hV ls (lv_sub hl [1, 2, 0] rfl)
abbrev wm_X6_removeStroke : List Cond := .code yX6_removeStroke cX6_removeStroke 2 (some .int) :: wU
theorem q_X6_removeStroke : yX6_removeStroke.cls = RX6 ∧ yX6_removeStroke.cls ≠ "java/lang/invoke/MethodHandle" ∧ yX6_removeStroke.cls ≠ "java/lang/invoke/VarHandle" ∧ (parseMethodDescriptor yX6_removeStroke.desc).map (fun d => d.parameters.length) = some 1 := by decide +kernel
set_option maxHeartbeats 4000000 in
set_option maxRecDepth 100000 in
theorem c_X6_removeStroke_e (l : Launch) (D : va_G) (cI cR : ClassId) (o a1 a2 a3 a4 a5 a6 ed C V Ac : Nat) (w : Nat → Nat) (n : Nat) (P X Y L : Nat → Nat) (a : Int) (hge : zGe n P X Y) (hR : zRl w n P X Y L) (hset : zSt C V Ac) (ha : zR a) (hbad : ¬ (0 ≤ a ∧ a < (n : Int))) : Met l yX6_removeStroke wm_X6_removeStroke ({ frames := 2, cells := 0, slots := 0, locals := 43 } : Room) (va_Pc [.ref o, .int (zI a)] (zW D cI cR [(o, .inr (6, [.ref a1, .ref a2, .int (nI ed), .int (nI C), .int (nI V), .int (nI Ac), .ref a3, .ref a4, .ref a5, .ref a6])), (a1, zA cI 49 w)])) (vp_Si (fun r => r = zI (-1))) 0 0 (fun _ => False) := by
  refine Met.ofW (cc := cX6_removeStroke) (maxL := 2) (ret := (some .int)) (by decide) rfl ?_
  intro p e s m args below meth c s₁ B hml hv
  obtain ⟨rfl, hG⟩ := hv
  have S : CallFix p m c cX6_removeStroke 2 s ([.ref o, .int (zI a)] : List Value).toArray wU RX6 := ⟨B.exec, B.bytes, hml, findClass_of_methodNamed B.named, fun w h => atoms_spec (ws := wm_X6_removeStroke) B.pre w (List.mem_cons_of_mem _ h)⟩
  have hr := B.returns
  have hlocks := B.notSynchronized
  have hG : zG D cI cR [(o, .inr (6, [.ref a1, .ref a2, .int (nI ed), .int (nI C), .int (nI V), .int (nI Ac), .ref a3, .ref a4, .ref a5, .ref a6])), (a1, zA cI 49 w)] s s.heap := hG
  have hl := lv_entry ([.ref o, .int (zI a)]) (n := 2) (Nat.le_of_ble_eq_true rfl)
  rw [lg_entry_eq]
  generalize (lg_sl ([.ref o, .int (zI a)]) ++ List.replicate (2 - (lg_sl ([.ref o, .int (zI a)])).length) Slot.unset).toArray = ls at hl ⊢
  have hl : lv_has ls 2 [(0, .ref o), (1, .int (zI a))] := hl
  have r_ha := id ha
  unfold zR at r_ha
  obtain ⟨hn, hPf, hXY⟩ := id hge
  obtain ⟨hC, hV9, hA9⟩ := id hset
  refine lv_aload_n (pc := 0) S.1 S.2.1 dX6_removeStroke_0 rfl (lv_at hl 0 rfl) ?_
  refine lv_iload_n (pc := 1) S.1 S.2.1 dX6_removeStroke_1 rfl (lv_at hl 1 rfl) ?_
  refine zz_callV (pc := 2) (As := [.int (zI a)]) (rest := []) S (c_X6_isStroke l D cI cR o a1 a2 a3 a4 a5 a6 ed C V Ac w n P X Y L a hge hR hset (by unfold zR; omega)) (zuV wd_165 wd_162 wd_163 wd_164 wd_5) 1 rfl q_X6_isStroke ⟨⟨rfl, rfl⟩, Nat.le_of_ble_eq_true rfl, Nat.le_of_ble_eq_true rfl⟩ hG [0, 1] rfl 0 rfl rfl rfl rfl rfl (Nat.le_of_ble_eq_true rfl) hl.1 ⟨Nat.zero_le _, Nat.zero_le _⟩ dX6_removeStroke_2 ?_
  refine zz_ifb_ne (pc := 5) (tgt := 10) S dX6_removeStroke_5 (by decide) (fun c5 => ?_) (fun c5 => ?_)
  · exfalso; omega
  · refine zz_iconst (pc := 8) (v := zI (-1)) S dX6_removeStroke_8 rfl ?_
    exact zz_iretS (pc := 9) S hr hlocks (rfl) dX6_removeStroke_9
set_option maxHeartbeats 4000000 in
set_option maxRecDepth 100000 in
theorem c_X6_removeStroke_k (l : Launch) (D : va_G) (cI cR : ClassId) (o a1 a2 a3 a4 a5 a6 ed C V Ac : Nat) (w : Nat → Nat) (hs : Nat → Nat) (n : Nat) (P X Y L : Nat → Nat) (a : Nat) (sz : Nat) (hok : zOk n P X Y L) (hR : zRl w n P X Y L) (hset : zSt C V Ac) (hed : ed ≤ 4) (ha : a < n) : Met l yX6_removeStroke wm_X6_removeStroke ({ frames := 2, cells := 0, slots := 0, locals := 43 } : Room) (va_Pc [.ref o, .int (nI a)] (zX D cI cR [(o, .inr (6, [.ref a1, .ref a2, .int (nI ed), .int (nI C), .int (nI V), .int (nI Ac), .ref a3, .ref a4, .ref a5, .ref a6])), (a1, zA cI 49 w), (a2, zA cI 196 hs)] sz)) (zQi D cI cR (va_A [(o, .inr (6, [.ref a1, .ref a2, .int (nI ed), .int (nI C), .int (nI V), .int (nI Ac), .ref a3, .ref a4, .ref a5, .ref a6])), (a1, zA cI 49 w), (a2, zA cI 196 hs)] sz) (fun r w0 => (w0 = [(o, .inr (6, [.ref a1, .ref a2, .int (nI (min (ed + 1) 4)), .int (nI C), .int (nI V), .int (nI Ac), .ref a3, .ref a4, .ref a5, .ref a6])), (a1, zA cI 49 (rmw w n a (pos n L a))), (a2, zA cI 196 (hst hs w ed))] ∧ r = nI (n - 1)))) 0 0 (va_A [(o, .inr (6, [.ref a1, .ref a2, .int (nI ed), .int (nI C), .int (nI V), .int (nI Ac), .ref a3, .ref a4, .ref a5, .ref a6])), (a1, zA cI 49 w), (a2, zA cI 196 hs)] sz) := by
  refine Met.ofW (cc := cX6_removeStroke) (maxL := 2) (ret := (some .int)) (by decide) rfl ?_
  intro p e s m args below meth c s₁ B hml hv
  obtain ⟨rfl, hsz, hG, hD0⟩ := hv
  have S : CallFix p m c cX6_removeStroke 2 s ([.ref o, .int (nI a)] : List Value).toArray wU RX6 := ⟨B.exec, B.bytes, hml, findClass_of_methodNamed B.named, fun w h => atoms_spec (ws := wm_X6_removeStroke) B.pre w (List.mem_cons_of_mem _ h)⟩
  have hr := B.returns
  have hlocks := B.notSynchronized
  subst hsz
  have hD := hD0.self (sz := s.heap.size)
  generalize hAe : va_A [(o, .inr (6, [.ref a1, .ref a2, .int (nI ed), .int (nI C), .int (nI V), .int (nI Ac), .ref a3, .ref a4, .ref a5, .ref a6])), (a1, zA cI 49 w), (a2, zA cI 196 hs)] s.heap.size = A at hD ⊢
  have hV : zV D cI cR A [(o, .inr (6, [.ref a1, .ref a2, .int (nI ed), .int (nI C), .int (nI V), .int (nI Ac), .ref a3, .ref a4, .ref a5, .ref a6])), (a1, zA cI 49 w), (a2, zA cI 196 hs)] s s.heap [] := ⟨hG, hD, va_S.rf, fun q h => by rw [← hAe]; exact Or.inr h⟩
  have hl := lv_entry ([.ref o, .int (nI a)]) (n := 2) (Nat.le_of_ble_eq_true rfl)
  rw [lg_entry_eq]
  generalize (lg_sl ([.ref o, .int (nI a)]) ++ List.replicate (2 - (lg_sl ([.ref o, .int (nI a)])).length) Slot.unset).toArray = ls at hl ⊢
  have hl : lv_has ls 2 [(0, .ref o), (1, .int (nI a))] := hl
  obtain ⟨⟨hn, hPf, hXY⟩, hLf, hinj⟩ := id hok
  obtain ⟨hC, hV9, hA9⟩ := id hset
  refine lv_aload_n (pc := 0) S.1 S.2.1 dX6_removeStroke_0 rfl (lv_at hl 0 rfl) ?_
  refine lv_iload_n (pc := 1) S.1 S.2.1 dX6_removeStroke_1 rfl (lv_at hl 1 rfl) ?_
  refine zz_callV (pc := 2) (As := [.int (zI ((a : Nat) : Int))]) (rest := []) S (c_X6_isStroke l D cI cR o a1 a2 a3 a4 a5 a6 ed C V Ac w n P X Y L ((a : Nat) : Int) hok.1 hR hset (by unfold zR; omega)) (zuV wd_165 wd_162 wd_163 wd_164 wd_5) 1 rfl q_X6_isStroke ⟨⟨rfl, rfl⟩, Nat.le_of_ble_eq_true rfl, Nat.le_of_ble_eq_true rfl⟩ hV.1 [0, 1] rfl 0 rfl rfl rfl rfl rfl (Nat.le_of_ble_eq_true rfl) hl.1 ⟨Nat.zero_le _, Nat.zero_le _⟩ dX6_removeStroke_2 ?_
  refine zz_ifb_ne (pc := 5) (tgt := 10) S dX6_removeStroke_5 (by decide) (fun c5 => ?_) (fun c5 => ?_)
  · refine lv_aload_n (pc := 10) S.1 S.2.1 dX6_removeStroke_10 rfl (lv_at hl 0 rfl) ?_
    refine zz_callMv (pc := 11) (As := []) (rest := []) (wr := []) S hV (c_X6_edit l D cI cR o a1 a2 a3 a4 a5 a6 ed C V Ac w hs n P X Y L s.heap.size hok.1 hR hset (by omega)) (zuV wd_139 wd_136 wd_137 wd_138 wd_5) 0 rfl q_X6_edit ⟨⟨rfl, rfl⟩, Nat.le_of_ble_eq_true rfl, Nat.le_of_ble_eq_true rfl⟩ [0, 1, 2] [] rfl rfl (by decide) (by decide) (by decide) 0 rfl rfl rfl rfl rfl (Nat.le_of_ble_eq_true rfl) hl.1 ⟨Nat.zero_le _, Nat.zero_le _⟩ dX6_removeStroke_11 (fun w1 H locs hp hV => ?_)
    obtain rfl := hp
    have hV : zV D cI cR A [(o, .inr (6, [.ref a1, .ref a2, .int (nI (min (ed + 1) 4)), .int (nI C), .int (nI V), .int (nI Ac), .ref a3, .ref a4, .ref a5, .ref a6])), (a1, zA cI 49 w), (a2, zA cI 196 (hst hs w ed))] s H locs := hV.perm [0, 1, 2] (by decide) rfl
    have hp := pos_ok hok ha
    have hR8 := rm_rl hR (a := a) (t := pos n L a) hn ha hp.1
    refine lv_aload_n (pc := 14) S.1 S.2.1 dX6_removeStroke_14 rfl (lv_at hl 0 rfl) ?_
    refine lv_iload_n (pc := 15) S.1 S.2.1 dX6_removeStroke_15 rfl (lv_at hl 1 rfl) ?_
    refine zz_callMv (pc := 16) (As := [.int (nI a)]) (rest := []) (wr := [(a2, zA cI 196 (hst hs w ed))]) S hV (c_X6_removes l D cI cR o a1 a2 a3 a4 a5 a6 (min (ed + 1) 4) C V Ac w n P X Y L a (pos n L a) H.size hok hR hset (by omega) (pos_ok hok (by omega))) (zuV wd_169 wd_166 wd_167 wd_168 wd_5) 1 rfl q_X6_removes ⟨⟨rfl, rfl⟩, Nat.le_of_ble_eq_true rfl, Nat.le_of_ble_eq_true rfl⟩ [0, 1] [2] rfl rfl (by decide) (by decide) (by decide) 0 rfl rfl rfl rfl rfl (Nat.le_of_ble_eq_true rfl) hl.1 ⟨Nat.zero_le _, Nat.zero_le _⟩ dX6_removeStroke_16 (fun w1 H locs hp hV => ?_)
    obtain rfl := hp
    have hV : zV D cI cR A [(o, .inr (6, [.ref a1, .ref a2, .int (nI (min (ed + 1) 4)), .int (nI C), .int (nI V), .int (nI Ac), .ref a3, .ref a4, .ref a5, .ref a6])), (a1, zA cI 49 (rmw w n a (pos n L a))), (a2, zA cI 196 (hst hs w ed))] s H locs := hV.perm [1, 2, 0] (by decide) rfl
    refine lv_aload_n (pc := 19) S.1 S.2.1 dX6_removeStroke_19 rfl (lv_at hl 0 rfl) ?_
    refine zz_get (pc := 20) S hV.1 iX6 0 rfl rfl 0 (by decide) wd_67 rfl rfl dX6_removeStroke_20 ?_
    refine zz_bipush (pc := 23) (v := nI 48) S dX6_removeStroke_23 rfl ?_
    refine zz_iald (pc := 25) (k := 48) S hV.1 1 rfl (by omega) dX6_removeStroke_25 ?_
    refine zz_cast (v := nI (n - 1)) (congrArg nI hR8.1) ?_
    exact zz_iretM (pc := 26) S hr hlocks hV (⟨rfl, rfl⟩) dX6_removeStroke_26
  · exfalso; omega
abbrev wm_X6_turnPosition : List Cond := .code yX6_turnPosition cX6_turnPosition 2 (some .int) :: wU
theorem q_X6_turnPosition : yX6_turnPosition.cls = RX6 ∧ yX6_turnPosition.cls ≠ "java/lang/invoke/MethodHandle" ∧ yX6_turnPosition.cls ≠ "java/lang/invoke/VarHandle" ∧ (parseMethodDescriptor yX6_turnPosition.desc).map (fun d => d.parameters.length) = some 1 := by decide +kernel
set_option maxHeartbeats 4000000 in
set_option maxRecDepth 100000 in
theorem c_X6_turnPosition_e (l : Launch) (D : va_G) (cI cR : ClassId) (o a1 a2 a3 a4 a5 a6 ed C V Ac : Nat) (w : Nat → Nat) (n : Nat) (P X Y L : Nat → Nat) (a : Int) (hge : zGe n P X Y) (hR : zRl w n P X Y L) (hset : zSt C V Ac) (ha : zR a) (hbad : ¬ (0 ≤ a ∧ a < (n : Int))) : Met l yX6_turnPosition wm_X6_turnPosition ({ frames := 2, cells := 0, slots := 0, locals := 43 } : Room) (va_Pc [.ref o, .int (zI a)] (zW D cI cR [(o, .inr (6, [.ref a1, .ref a2, .int (nI ed), .int (nI C), .int (nI V), .int (nI Ac), .ref a3, .ref a4, .ref a5, .ref a6])), (a1, zA cI 49 w)])) (vp_Si (fun r => r = zI (-1))) 0 0 (fun _ => False) := by
  refine Met.ofW (cc := cX6_turnPosition) (maxL := 2) (ret := (some .int)) (by decide) rfl ?_
  intro p e s m args below meth c s₁ B hml hv
  obtain ⟨rfl, hG⟩ := hv
  have S : CallFix p m c cX6_turnPosition 2 s ([.ref o, .int (zI a)] : List Value).toArray wU RX6 := ⟨B.exec, B.bytes, hml, findClass_of_methodNamed B.named, fun w h => atoms_spec (ws := wm_X6_turnPosition) B.pre w (List.mem_cons_of_mem _ h)⟩
  have hr := B.returns
  have hlocks := B.notSynchronized
  have hG : zG D cI cR [(o, .inr (6, [.ref a1, .ref a2, .int (nI ed), .int (nI C), .int (nI V), .int (nI Ac), .ref a3, .ref a4, .ref a5, .ref a6])), (a1, zA cI 49 w)] s s.heap := hG
  have hl := lv_entry ([.ref o, .int (zI a)]) (n := 2) (Nat.le_of_ble_eq_true rfl)
  rw [lg_entry_eq]
  generalize (lg_sl ([.ref o, .int (zI a)]) ++ List.replicate (2 - (lg_sl ([.ref o, .int (zI a)])).length) Slot.unset).toArray = ls at hl ⊢
  have hl : lv_has ls 2 [(0, .ref o), (1, .int (zI a))] := hl
  have r_ha := id ha
  unfold zR at r_ha
  obtain ⟨hn, hPf, hXY⟩ := id hge
  obtain ⟨hC, hV9, hA9⟩ := id hset
  refine lv_aload_n (pc := 0) S.1 S.2.1 dX6_turnPosition_0 rfl (lv_at hl 0 rfl) ?_
  refine lv_iload_n (pc := 1) S.1 S.2.1 dX6_turnPosition_1 rfl (lv_at hl 1 rfl) ?_
  refine zz_callV (pc := 2) (As := [.int (zI a)]) (rest := []) S (c_X6_isPosition l D cI cR o a1 a2 a3 a4 a5 a6 ed C V Ac w n P X Y L a hge hR hset (by unfold zR; omega)) (zuV wd_360 wd_357 wd_358 wd_359 wd_5) 1 rfl q_X6_isPosition ⟨⟨rfl, rfl⟩, Nat.le_of_ble_eq_true rfl, Nat.le_of_ble_eq_true rfl⟩ hG [0, 1] rfl 0 rfl rfl rfl rfl rfl (Nat.le_of_ble_eq_true rfl) hl.1 ⟨Nat.zero_le _, Nat.zero_le _⟩ dX6_turnPosition_2 ?_
  refine zz_ifb_ne (pc := 5) (tgt := 10) S dX6_turnPosition_5 (by decide) (fun c5 => ?_) (fun c5 => ?_)
  · exfalso; omega
  · refine zz_iconst (pc := 8) (v := zI (-1)) S dX6_turnPosition_8 rfl ?_
    exact zz_iretS (pc := 9) S hr hlocks (rfl) dX6_turnPosition_9
set_option maxHeartbeats 4000000 in
set_option maxRecDepth 100000 in
theorem c_X6_turnPosition_k (l : Launch) (D : va_G) (cI cR : ClassId) (o a1 a2 a3 a4 a5 a6 ed C V Ac : Nat) (w : Nat → Nat) (hs : Nat → Nat) (n : Nat) (P X Y L : Nat → Nat) (a : Nat) (sz : Nat) (hok : zOk n P X Y L) (hR : zRl w n P X Y L) (hset : zSt C V Ac) (hed : ed ≤ 4) (ha : a < n) : Met l yX6_turnPosition wm_X6_turnPosition ({ frames := 2, cells := 0, slots := 0, locals := 43 } : Room) (va_Pc [.ref o, .int (nI a)] (zX D cI cR [(o, .inr (6, [.ref a1, .ref a2, .int (nI ed), .int (nI C), .int (nI V), .int (nI Ac), .ref a3, .ref a4, .ref a5, .ref a6])), (a1, zA cI 49 w), (a2, zA cI 196 hs)] sz)) (zQi D cI cR (va_A [(o, .inr (6, [.ref a1, .ref a2, .int (nI ed), .int (nI C), .int (nI V), .int (nI Ac), .ref a3, .ref a4, .ref a5, .ref a6])), (a1, zA cI 49 w), (a2, zA cI 196 hs)] sz) (fun r w0 => (w0 = [(o, .inr (6, [.ref a1, .ref a2, .int (nI (min (ed + 1) 4)), .int (nI C), .int (nI V), .int (nI Ac), .ref a3, .ref a4, .ref a5, .ref a6])), (a1, zA cI 49 (va_up w (40 + a) (sw (L a)))), (a2, zA cI 196 (hst hs w ed))] ∧ r = nI (sw (L a) % 2)))) 0 0 (va_A [(o, .inr (6, [.ref a1, .ref a2, .int (nI ed), .int (nI C), .int (nI V), .int (nI Ac), .ref a3, .ref a4, .ref a5, .ref a6])), (a1, zA cI 49 w), (a2, zA cI 196 hs)] sz) := by
  refine Met.ofW (cc := cX6_turnPosition) (maxL := 2) (ret := (some .int)) (by decide) rfl ?_
  intro p e s m args below meth c s₁ B hml hv
  obtain ⟨rfl, hsz, hG, hD0⟩ := hv
  have S : CallFix p m c cX6_turnPosition 2 s ([.ref o, .int (nI a)] : List Value).toArray wU RX6 := ⟨B.exec, B.bytes, hml, findClass_of_methodNamed B.named, fun w h => atoms_spec (ws := wm_X6_turnPosition) B.pre w (List.mem_cons_of_mem _ h)⟩
  have hr := B.returns
  have hlocks := B.notSynchronized
  subst hsz
  have hD := hD0.self (sz := s.heap.size)
  generalize hAe : va_A [(o, .inr (6, [.ref a1, .ref a2, .int (nI ed), .int (nI C), .int (nI V), .int (nI Ac), .ref a3, .ref a4, .ref a5, .ref a6])), (a1, zA cI 49 w), (a2, zA cI 196 hs)] s.heap.size = A at hD ⊢
  have hV : zV D cI cR A [(o, .inr (6, [.ref a1, .ref a2, .int (nI ed), .int (nI C), .int (nI V), .int (nI Ac), .ref a3, .ref a4, .ref a5, .ref a6])), (a1, zA cI 49 w), (a2, zA cI 196 hs)] s s.heap [] := ⟨hG, hD, va_S.rf, fun q h => by rw [← hAe]; exact Or.inr h⟩
  have hl := lv_entry ([.ref o, .int (nI a)]) (n := 2) (Nat.le_of_ble_eq_true rfl)
  rw [lg_entry_eq]
  generalize (lg_sl ([.ref o, .int (nI a)]) ++ List.replicate (2 - (lg_sl ([.ref o, .int (nI a)])).length) Slot.unset).toArray = ls at hl ⊢
  have hl : lv_has ls 2 [(0, .ref o), (1, .int (nI a))] := hl
  obtain ⟨⟨hn, hPf, hXY⟩, hLf, hinj⟩ := id hok
  obtain ⟨hC, hV9, hA9⟩ := id hset
  have hsw := sw_lt (c := L a) (n := n) (hLf a ha)
  refine lv_aload_n (pc := 0) S.1 S.2.1 dX6_turnPosition_0 rfl (lv_at hl 0 rfl) ?_
  refine lv_iload_n (pc := 1) S.1 S.2.1 dX6_turnPosition_1 rfl (lv_at hl 1 rfl) ?_
  refine zz_callV (pc := 2) (As := [.int (zI ((a : Nat) : Int))]) (rest := []) S (c_X6_isPosition l D cI cR o a1 a2 a3 a4 a5 a6 ed C V Ac w n P X Y L ((a : Nat) : Int) hok.1 hR hset (by unfold zR; omega)) (zuV wd_360 wd_357 wd_358 wd_359 wd_5) 1 rfl q_X6_isPosition ⟨⟨rfl, rfl⟩, Nat.le_of_ble_eq_true rfl, Nat.le_of_ble_eq_true rfl⟩ hV.1 [0, 1] rfl 0 rfl rfl rfl rfl rfl (Nat.le_of_ble_eq_true rfl) hl.1 ⟨Nat.zero_le _, Nat.zero_le _⟩ dX6_turnPosition_2 ?_
  refine zz_ifb_ne (pc := 5) (tgt := 10) S dX6_turnPosition_5 (by decide) (fun c5 => ?_) (fun c5 => ?_)
  · refine lv_aload_n (pc := 10) S.1 S.2.1 dX6_turnPosition_10 rfl (lv_at hl 0 rfl) ?_
    refine zz_callMv (pc := 11) (As := []) (rest := []) (wr := []) S hV (c_X6_edit l D cI cR o a1 a2 a3 a4 a5 a6 ed C V Ac w hs n P X Y L s.heap.size hok.1 hR hset (by omega)) (zuV wd_139 wd_136 wd_137 wd_138 wd_5) 0 rfl q_X6_edit ⟨⟨rfl, rfl⟩, Nat.le_of_ble_eq_true rfl, Nat.le_of_ble_eq_true rfl⟩ [0, 1, 2] [] rfl rfl (by decide) (by decide) (by decide) 0 rfl rfl rfl rfl rfl (Nat.le_of_ble_eq_true rfl) hl.1 ⟨Nat.zero_le _, Nat.zero_le _⟩ dX6_turnPosition_11 (fun w1 H locs hp hV => ?_)
    obtain rfl := hp
    have hV : zV D cI cR A [(o, .inr (6, [.ref a1, .ref a2, .int (nI (min (ed + 1) 4)), .int (nI C), .int (nI V), .int (nI Ac), .ref a3, .ref a4, .ref a5, .ref a6])), (a1, zA cI 49 w), (a2, zA cI 196 (hst hs w ed))] s H locs := hV.perm [0, 1, 2] (by decide) rfl
    refine lv_aload_n (pc := 14) S.1 S.2.1 dX6_turnPosition_14 rfl (lv_at hl 0 rfl) ?_
    refine zz_get (pc := 15) S hV.1 iX6 0 rfl rfl 0 (by decide) wd_67 rfl rfl dX6_turnPosition_15 ?_
    refine zz_bipush (pc := 18) (v := nI 40) S dX6_turnPosition_18 rfl ?_
    refine lv_iload_n (pc := 20) S.1 S.2.1 dX6_turnPosition_20 rfl (lv_at hl 1 rfl) ?_
    refine zz_iadd (pc := 21) (v := nI (40 + a)) S dX6_turnPosition_21 (n_add _ _) ?_
    refine lv_dup2_11 (pc := 22) S.1 S.2.1 dX6_turnPosition_22 rfl rfl ?_
    refine zz_iald (pc := 23) (k := 40 + a) S hV.1 1 rfl (by omega) dX6_turnPosition_23 ?_
    refine zz_cast (v := nI (L a)) (congrArg nI (hR.2.2.2 a (by omega))) ?_
    have g2 := hLf a (by omega)
    refine zz_iconst (pc := 24) (v := nI 1) S dX6_turnPosition_24 rfl ?_
    refine zz_ixor (pc := 25) (v := nI (sw (L a))) S dX6_turnPosition_25 (n_xor1 _) ?_
    refine zz_iast (pc := 26) (k := 40 + a) (v := sw (L a)) S hV 1 rfl (by omega) (ws' := [(o, .inr (6, [.ref a1, .ref a2, .int (nI (min (ed + 1) 4)), .int (nI C), .int (nI V), .int (nI Ac), .ref a3, .ref a4, .ref a5, .ref a6])), (a1, zA cI 49 (va_up w (40 + a) (sw (L a)))), (a2, zA cI 196 (hst hs w ed))]) rfl dX6_turnPosition_26 (fun H locs hV => ?_)
    have hR8 := rl_turn hR (a := a) hn ha (sw (L a))
    have hok8 := turn_ok (a := a) hok ha
    have hLf := hok8.2.1
    refine lv_aload_n (pc := 27) S.1 S.2.1 dX6_turnPosition_27 rfl (lv_at hl 0 rfl) ?_
    refine lv_iload_n (pc := 28) S.1 S.2.1 dX6_turnPosition_28 rfl (lv_at hl 1 rfl) ?_
    refine zz_callV (pc := 29) (As := [.int (nI a)]) (rest := []) S (c_X6_at l D cI cR o a1 a2 a3 a4 a5 a6 (min (ed + 1) 4) C V Ac (va_up w (40 + a) (sw (L a))) n P X Y (va_up L a (sw (L a))) a hok8 hR8 hset (by omega)) (zuV wd_364 wd_361 wd_362 wd_363 wd_5) 1 rfl q_X6_at ⟨⟨rfl, rfl⟩, Nat.le_of_ble_eq_true rfl, Nat.le_of_ble_eq_true rfl⟩ hV.1 [0, 1] rfl 0 rfl rfl rfl rfl rfl (Nat.le_of_ble_eq_true rfl) hl.1 ⟨Nat.zero_le _, Nat.zero_le _⟩ dX6_turnPosition_29 ?_
    have g3 := hLf a (by omega)
    refine zz_iconst (pc := 32) (v := nI 2) S dX6_turnPosition_32 rfl ?_
    refine zz_irem (pc := 33) (v := nI (((va_up L a (sw (L a))) a) % 2)) S dX6_turnPosition_33 (by decide) (n_rem (by omega) (by decide) (by decide)) ?_
    exact zz_iretM (pc := 34) S hr hlocks hV (⟨rfl, congrArg nI (by rw [show va_up L a (sw (L a)) a = sw (L a) from if_pos rfl])⟩) dX6_turnPosition_34
  · exfalso; omega
abbrev wm_X6_movePosition : List Cond := .code yX6_movePosition cX6_movePosition 6 (some .int) :: wU
theorem q_X6_movePosition : yX6_movePosition.cls = RX6 ∧ yX6_movePosition.cls ≠ "java/lang/invoke/MethodHandle" ∧ yX6_movePosition.cls ≠ "java/lang/invoke/VarHandle" ∧ (parseMethodDescriptor yX6_movePosition.desc).map (fun d => d.parameters.length) = some 2 := by decide +kernel
set_option maxHeartbeats 4000000 in
set_option maxRecDepth 100000 in
theorem c_X6_movePosition_e (l : Launch) (D : va_G) (cI cR : ClassId) (o a1 a2 a3 a4 a5 a6 ed C V Ac : Nat) (w : Nat → Nat) (n : Nat) (P X Y L : Nat → Nat) (a : Int) (y : Int) (hge : zGe n P X Y) (hR : zRl w n P X Y L) (hset : zSt C V Ac) (ha : zR a) (hy : zR y) (hbad : ¬ ((0 ≤ a ∧ a < (n : Int)) ∧ (0 ≤ y ∧ y < (n : Int)))) : Met l yX6_movePosition wm_X6_movePosition ({ frames := 2, cells := 0, slots := 0, locals := 43 } : Room) (va_Pc [.ref o, .int (zI a), .int (zI y)] (zW D cI cR [(o, .inr (6, [.ref a1, .ref a2, .int (nI ed), .int (nI C), .int (nI V), .int (nI Ac), .ref a3, .ref a4, .ref a5, .ref a6])), (a1, zA cI 49 w)])) (vp_Si (fun r => r = zI (-1))) 0 0 (fun _ => False) := by
  refine Met.ofW (cc := cX6_movePosition) (maxL := 6) (ret := (some .int)) (by decide) rfl ?_
  intro p e s m args below meth c s₁ B hml hv
  obtain ⟨rfl, hG⟩ := hv
  have S : CallFix p m c cX6_movePosition 6 s ([.ref o, .int (zI a), .int (zI y)] : List Value).toArray wU RX6 := ⟨B.exec, B.bytes, hml, findClass_of_methodNamed B.named, fun w h => atoms_spec (ws := wm_X6_movePosition) B.pre w (List.mem_cons_of_mem _ h)⟩
  have hr := B.returns
  have hlocks := B.notSynchronized
  have hG : zG D cI cR [(o, .inr (6, [.ref a1, .ref a2, .int (nI ed), .int (nI C), .int (nI V), .int (nI Ac), .ref a3, .ref a4, .ref a5, .ref a6])), (a1, zA cI 49 w)] s s.heap := hG
  have hl := lv_entry ([.ref o, .int (zI a), .int (zI y)]) (n := 6) (Nat.le_of_ble_eq_true rfl)
  rw [lg_entry_eq]
  generalize (lg_sl ([.ref o, .int (zI a), .int (zI y)]) ++ List.replicate (6 - (lg_sl ([.ref o, .int (zI a), .int (zI y)])).length) Slot.unset).toArray = ls at hl ⊢
  have hl : lv_has ls 6 [(0, .ref o), (1, .int (zI a)), (2, .int (zI y))] := hl
  have r_ha := id ha
  unfold zR at r_ha
  have r_hy := id hy
  unfold zR at r_hy
  obtain ⟨hn, hPf, hXY⟩ := id hge
  obtain ⟨hC, hV9, hA9⟩ := id hset
  refine lv_aload_n (pc := 0) S.1 S.2.1 dX6_movePosition_0 rfl (lv_at hl 0 rfl) ?_
  refine lv_iload_n (pc := 1) S.1 S.2.1 dX6_movePosition_1 rfl (lv_at hl 1 rfl) ?_
  refine zz_callV (pc := 2) (As := [.int (zI a)]) (rest := []) S (c_X6_isPosition l D cI cR o a1 a2 a3 a4 a5 a6 ed C V Ac w n P X Y L a hge hR hset (by unfold zR; omega)) (zuV wd_360 wd_357 wd_358 wd_359 wd_5) 1 rfl q_X6_isPosition ⟨⟨rfl, rfl⟩, Nat.le_of_ble_eq_true rfl, Nat.le_of_ble_eq_true rfl⟩ hG [0, 1] rfl 0 rfl rfl rfl rfl rfl (Nat.le_of_ble_eq_true rfl) hl.1 ⟨Nat.zero_le _, Nat.zero_le _⟩ dX6_movePosition_2 ?_
  refine zz_ifb_eq (pc := 5) (tgt := 16) S dX6_movePosition_5 (by decide) (fun c5 => ?_) (fun c5 => ?_)
  · refine zz_iconst (pc := 16) (v := zI (-1)) S dX6_movePosition_16 rfl ?_
    exact zz_iretS (pc := 17) S hr hlocks (rfl) dX6_movePosition_17
  · refine lv_aload_n (pc := 8) S.1 S.2.1 dX6_movePosition_8 rfl (lv_at hl 0 rfl) ?_
    refine lv_iload_n (pc := 9) S.1 S.2.1 dX6_movePosition_9 rfl (lv_at hl 2 rfl) ?_
    refine zz_callV (pc := 10) (As := [.int (zI y)]) (rest := []) S (c_X6_isPosition l D cI cR o a1 a2 a3 a4 a5 a6 ed C V Ac w n P X Y L y hge hR hset (by unfold zR; omega)) (zuV wd_360 wd_357 wd_358 wd_359 wd_5) 1 rfl q_X6_isPosition ⟨⟨rfl, rfl⟩, Nat.le_of_ble_eq_true rfl, Nat.le_of_ble_eq_true rfl⟩ hG [0, 1] rfl 0 rfl rfl rfl rfl rfl (Nat.le_of_ble_eq_true rfl) hl.1 ⟨Nat.zero_le _, Nat.zero_le _⟩ dX6_movePosition_10 ?_
    refine zz_ifb_ne (pc := 13) (tgt := 18) S dX6_movePosition_13 (by decide) (fun c13 => ?_) (fun c13 => ?_)
    · exfalso; omega
    · refine zz_iconst (pc := 16) (v := zI (-1)) S dX6_movePosition_16 rfl ?_
      exact zz_iretS (pc := 17) S hr hlocks (rfl) dX6_movePosition_17
set_option maxHeartbeats 4000000 in
set_option maxRecDepth 100000 in
theorem c_X6_movePosition_f (l : Launch) (D : va_G) (cI cR : ClassId) (o a1 a2 a3 a4 a5 a6 ed C V Ac : Nat) (w : Nat → Nat) (hs : Nat → Nat) (n : Nat) (P X Y L : Nat → Nat) (a : Nat) (y : Nat) (sz : Nat) (hok : zOk n P X Y L) (hR : zRl w n P X Y L) (hset : zSt C V Ac) (hed : ed ≤ 4) (ha : a < n) (hy : y < n) (hq : a < y) : Met l yX6_movePosition wm_X6_movePosition ({ frames := 2, cells := 0, slots := 0, locals := 43 } : Room) (va_Pc [.ref o, .int (nI a), .int (nI y)] (zX D cI cR [(o, .inr (6, [.ref a1, .ref a2, .int (nI ed), .int (nI C), .int (nI V), .int (nI Ac), .ref a3, .ref a4, .ref a5, .ref a6])), (a1, zA cI 49 w), (a2, zA cI 196 hs)] sz)) (zQi D cI cR (va_A [(o, .inr (6, [.ref a1, .ref a2, .int (nI ed), .int (nI C), .int (nI V), .int (nI Ac), .ref a3, .ref a4, .ref a5, .ref a6])), (a1, zA cI 49 w), (a2, zA cI 196 hs)] sz) (fun r w0 => ∃ (w5 : Nat → Nat), (w0 = [(o, .inr (6, [.ref a1, .ref a2, .int (nI (min (ed + 1) 4)), .int (nI C), .int (nI V), .int (nI Ac), .ref a3, .ref a4, .ref a5, .ref a6])), (a1, zA cI 49 w5), (a2, zA cI 196 (hst hs w ed))] ∧ r = nI (L a / 2)) ∧ (zRl w5 n P X Y (mvp L a y)))) 0 0 (va_A [(o, .inr (6, [.ref a1, .ref a2, .int (nI ed), .int (nI C), .int (nI V), .int (nI Ac), .ref a3, .ref a4, .ref a5, .ref a6])), (a1, zA cI 49 w), (a2, zA cI 196 hs)] sz) := by
  refine Met.ofW (cc := cX6_movePosition) (maxL := 6) (ret := (some .int)) (by decide) rfl ?_
  intro p e s m args below meth c s₁ B hml hv
  obtain ⟨rfl, hsz, hG, hD0⟩ := hv
  have S : CallFix p m c cX6_movePosition 6 s ([.ref o, .int (nI a), .int (nI y)] : List Value).toArray wU RX6 := ⟨B.exec, B.bytes, hml, findClass_of_methodNamed B.named, fun w h => atoms_spec (ws := wm_X6_movePosition) B.pre w (List.mem_cons_of_mem _ h)⟩
  have hr := B.returns
  have hlocks := B.notSynchronized
  subst hsz
  have hD := hD0.self (sz := s.heap.size)
  generalize hAe : va_A [(o, .inr (6, [.ref a1, .ref a2, .int (nI ed), .int (nI C), .int (nI V), .int (nI Ac), .ref a3, .ref a4, .ref a5, .ref a6])), (a1, zA cI 49 w), (a2, zA cI 196 hs)] s.heap.size = A at hD ⊢
  have hV : zV D cI cR A [(o, .inr (6, [.ref a1, .ref a2, .int (nI ed), .int (nI C), .int (nI V), .int (nI Ac), .ref a3, .ref a4, .ref a5, .ref a6])), (a1, zA cI 49 w), (a2, zA cI 196 hs)] s s.heap [] := ⟨hG, hD, va_S.rf, fun q h => by rw [← hAe]; exact Or.inr h⟩
  have hl := lv_entry ([.ref o, .int (nI a), .int (nI y)]) (n := 6) (Nat.le_of_ble_eq_true rfl)
  rw [lg_entry_eq]
  generalize (lg_sl ([.ref o, .int (nI a), .int (nI y)]) ++ List.replicate (6 - (lg_sl ([.ref o, .int (nI a), .int (nI y)])).length) Slot.unset).toArray = ls at hl ⊢
  have hl : lv_has ls 6 [(0, .ref o), (1, .int (nI a)), (2, .int (nI y))] := hl
  obtain ⟨⟨hn, hPf, hXY⟩, hLf, hinj⟩ := id hok
  obtain ⟨hC, hV9, hA9⟩ := id hset
  refine lv_aload_n (pc := 0) S.1 S.2.1 dX6_movePosition_0 rfl (lv_at hl 0 rfl) ?_
  refine lv_iload_n (pc := 1) S.1 S.2.1 dX6_movePosition_1 rfl (lv_at hl 1 rfl) ?_
  refine zz_callV (pc := 2) (As := [.int (zI ((a : Nat) : Int))]) (rest := []) S (c_X6_isPosition l D cI cR o a1 a2 a3 a4 a5 a6 ed C V Ac w n P X Y L ((a : Nat) : Int) hok.1 hR hset (by unfold zR; omega)) (zuV wd_360 wd_357 wd_358 wd_359 wd_5) 1 rfl q_X6_isPosition ⟨⟨rfl, rfl⟩, Nat.le_of_ble_eq_true rfl, Nat.le_of_ble_eq_true rfl⟩ hV.1 [0, 1] rfl 0 rfl rfl rfl rfl rfl (Nat.le_of_ble_eq_true rfl) hl.1 ⟨Nat.zero_le _, Nat.zero_le _⟩ dX6_movePosition_2 ?_
  refine zz_ifb_eq (pc := 5) (tgt := 16) S dX6_movePosition_5 (by decide) (fun c5 => ?_) (fun c5 => ?_)
  · exfalso; omega
  · refine lv_aload_n (pc := 8) S.1 S.2.1 dX6_movePosition_8 rfl (lv_at hl 0 rfl) ?_
    refine lv_iload_n (pc := 9) S.1 S.2.1 dX6_movePosition_9 rfl (lv_at hl 2 rfl) ?_
    refine zz_callV (pc := 10) (As := [.int (zI ((y : Nat) : Int))]) (rest := []) S (c_X6_isPosition l D cI cR o a1 a2 a3 a4 a5 a6 ed C V Ac w n P X Y L ((y : Nat) : Int) hok.1 hR hset (by unfold zR; omega)) (zuV wd_360 wd_357 wd_358 wd_359 wd_5) 1 rfl q_X6_isPosition ⟨⟨rfl, rfl⟩, Nat.le_of_ble_eq_true rfl, Nat.le_of_ble_eq_true rfl⟩ hV.1 [0, 1] rfl 0 rfl rfl rfl rfl rfl (Nat.le_of_ble_eq_true rfl) hl.1 ⟨Nat.zero_le _, Nat.zero_le _⟩ dX6_movePosition_10 ?_
    refine zz_ifb_ne (pc := 13) (tgt := 18) S dX6_movePosition_13 (by decide) (fun c13 => ?_) (fun c13 => ?_)
    · refine lv_aload_n (pc := 18) S.1 S.2.1 dX6_movePosition_18 rfl (lv_at hl 0 rfl) ?_
      refine zz_callMv (pc := 19) (As := []) (rest := []) (wr := []) S hV (c_X6_edit l D cI cR o a1 a2 a3 a4 a5 a6 ed C V Ac w hs n P X Y L s.heap.size hok.1 hR hset (by omega)) (zuV wd_139 wd_136 wd_137 wd_138 wd_5) 0 rfl q_X6_edit ⟨⟨rfl, rfl⟩, Nat.le_of_ble_eq_true rfl, Nat.le_of_ble_eq_true rfl⟩ [0, 1, 2] [] rfl rfl (by decide) (by decide) (by decide) 0 rfl rfl rfl rfl rfl (Nat.le_of_ble_eq_true rfl) hl.1 ⟨Nat.zero_le _, Nat.zero_le _⟩ dX6_movePosition_19 (fun w1 H locs hp hV => ?_)
      obtain rfl := hp
      have hV : zV D cI cR A [(o, .inr (6, [.ref a1, .ref a2, .int (nI (min (ed + 1) 4)), .int (nI C), .int (nI V), .int (nI Ac), .ref a3, .ref a4, .ref a5, .ref a6])), (a1, zA cI 49 w), (a2, zA cI 196 (hst hs w ed))] s H locs := hV.perm [0, 1, 2] (by decide) rfl
      refine lv_aload_n (pc := 22) S.1 S.2.1 dX6_movePosition_22 rfl (lv_at hl 0 rfl) ?_
      refine lv_iload_n (pc := 23) S.1 S.2.1 dX6_movePosition_23 rfl (lv_at hl 1 rfl) ?_
      refine zz_callV (pc := 24) (As := [.int (nI a)]) (rest := []) S (c_X6_at l D cI cR o a1 a2 a3 a4 a5 a6 (min (ed + 1) 4) C V Ac w n P X Y L a hok hR hset (by omega)) (zuV wd_364 wd_361 wd_362 wd_363 wd_5) 1 rfl q_X6_at ⟨⟨rfl, rfl⟩, Nat.le_of_ble_eq_true rfl, Nat.le_of_ble_eq_true rfl⟩ hV.1 [0, 1] rfl 0 rfl rfl rfl rfl rfl (Nat.le_of_ble_eq_true rfl) hl.1 ⟨Nat.zero_le _, Nat.zero_le _⟩ dX6_movePosition_24 ?_
      have g2 := hLf a (by omega)
      refine lv_istore_n (pc := 27) (lv' := [(3, .int (nI (L a))), (0, .ref o), (1, .int (nI a)), (2, .int (nI y))]) S.1 S.2.1 dX6_movePosition_27 rfl hl (by decide) rfl (fun ls hl => ?_)
      refine lv_iload_n (pc := 28) S.1 S.2.1 dX6_movePosition_28 rfl (lv_at hl 2 rfl) ?_
      refine lv_iload_n (pc := 29) S.1 S.2.1 dX6_movePosition_29 rfl (lv_at hl 3 rfl) ?_
      refine zz_icmp_ge (pc := 30) (tgt := 37) S dX6_movePosition_30 (by decide) (n_le (by omega) (by omega)) (fun c30 => ?_) (fun c30 => ?_)
      · exfalso; omega
      · refine zz_iconst (pc := 33) (v := nI 1) S dX6_movePosition_33 rfl ?_
        refine lv_goto (pc := 34) (tgt := 38) S.1 S.2.1 dX6_movePosition_34 (by decide) ?_
        refine lv_istore (pc := 38) (lv' := [(4, .int (nI 1)), (3, .int (nI (L a))), (0, .ref o), (1, .int (nI a)), (2, .int (nI y))]) S.1 S.2.1 dX6_movePosition_38 hl (by decide) rfl (fun ls hl => ?_)
        refine lv_iload_n (pc := 40) S.1 S.2.1 dX6_movePosition_40 rfl (lv_at hl 3 rfl) ?_
        refine lv_istore (pc := 41) (lv' := [(5, .int (nI a)), (4, .int (nI 1)), (3, .int (nI (L a))), (0, .ref o), (1, .int (nI a)), (2, .int (nI y))]) S.1 S.2.1 dX6_movePosition_41 hl (by decide) rfl (fun ls hl => ?_)
        have L3 : ∀ (f : Nat) (k : Nat), (a ≤ k ∧ k ≤ y) → y - k < f → ∀ (H : Heap) (locs : List Loc), zV D cI cR A [(o, .inr (6, [.ref a1, .ref a2, .int (nI (min (ed + 1) 4)), .int (nI C), .int (nI V), .int (nI Ac), .ref a3, .ref a4, .ref a5, .ref a6])), (a1, zA cI 49 (shl w 1 (40 + a) (40 + k))), (a2, zA cI 196 (hst hs w ed))] s H locs → ∀ ls : Array Slot, lv_has ls 6 [(0, .ref o), (1, .int (nI a)), (2, .int (nI y)), (3, .int (nI (L a))), (4, .int (nI 1)), (5, .int (nI k))] → W p l e (headSpec wm_X6_movePosition ({ frames := 2, cells := 0, slots := 0, locals := 43 } : Room)).room s m ([.ref o, .int (nI a), .int (nI y)] : List Value).toArray below meth c H locs 0 0 (MQ below (zQi D cI cR A (fun r w0 => ∃ (w5 : Nat → Nat), (w0 = [(o, .inr (6, [.ref a1, .ref a2, .int (nI (min (ed + 1) 4)), .int (nI C), .int (nI V), .int (nI Ac), .ref a3, .ref a4, .ref a5, .ref a6])), (a1, zA cI 49 w5), (a2, zA cI 196 (hst hs w ed))] ∧ r = nI (L a / 2)) ∧ (zRl w5 n P X Y (mvp L a y)))) ([.ref o, .int (nI a), .int (nI y)] : List Value).toArray s 0 0 A) (F0 m 43 ls []) := by
          intro f
          induction f with
          | zero => intro k hk hf; exact absurd hf (Nat.not_lt_zero _)
          | succ f ih4 =>
            intro k hk hf H locs hV ls hl
            refine lv_iload (pc := 43) S.1 S.2.1 dX6_movePosition_43 (lv_at hl 5 rfl) ?_
            refine lv_iload_n (pc := 45) S.1 S.2.1 dX6_movePosition_45 rfl (lv_at hl 2 rfl) ?_
            refine zz_icmp_eq (pc := 46) (tgt := 82) S dX6_movePosition_46 (by decide) (n_eq (by omega) (by omega)) (fun c46 => ?_) (fun c46 => ?_)
            · refine lv_aload_n (pc := 82) S.1 S.2.1 dX6_movePosition_82 rfl (lv_at hl 0 rfl) ?_
              refine zz_get (pc := 83) S hV.1 iX6 0 rfl rfl 0 (by decide) wd_67 rfl rfl dX6_movePosition_83 ?_
              refine zz_bipush (pc := 86) (v := nI 40) S dX6_movePosition_86 rfl ?_
              refine lv_iload_n (pc := 88) S.1 S.2.1 dX6_movePosition_88 rfl (lv_at hl 2 rfl) ?_
              refine zz_iadd (pc := 89) (v := nI (40 + y)) S dX6_movePosition_89 (n_add _ _) ?_
              refine lv_iload_n (pc := 90) S.1 S.2.1 dX6_movePosition_90 rfl (lv_at hl 3 rfl) ?_
              refine zz_iast (pc := 91) (k := 40 + y) (v := L a) S hV 1 rfl (by omega) (ws' := [(o, .inr (6, [.ref a1, .ref a2, .int (nI (min (ed + 1) 4)), .int (nI C), .int (nI V), .int (nI Ac), .ref a3, .ref a4, .ref a5, .ref a6])), (a1, zA cI 49 (va_up (shl w 1 (40 + a) (40 + k)) (40 + y) (L a))), (a2, zA cI 196 (hst hs w ed))]) rfl dX6_movePosition_91 (fun H locs hV => ?_)
              refine lv_iload_n (pc := 92) S.1 S.2.1 dX6_movePosition_92 rfl (lv_at hl 3 rfl) ?_
              refine zz_iconst (pc := 93) (v := nI 2) S dX6_movePosition_93 rfl ?_
              refine zz_idiv (pc := 94) (v := nI ((L a) / 2)) S dX6_movePosition_94 (by decide) (n_div (by omega) (by decide) (by decide)) ?_
              have hV : zV D cI cR A [(o, .inr (6, [.ref a1, .ref a2, .int (nI (min (ed + 1) 4)), .int (nI C), .int (nI V), .int (nI Ac), .ref a3, .ref a4, .ref a5, .ref a6])), (a1, zA cI 49 (va_up (shl w 1 (40 + a) (40 + k)) (40 + y) (L a))), (a2, zA cI 196 (hst hs w ed))] s H locs := hV.arr 1 rfl (fun j hj => by rfl) rfl
              exact zz_iretM (pc := 95) S hr hlocks hV (⟨(va_up (shl w 1 (40 + a) (40 + k)) (40 + y) (L a)), ⟨rfl, congrArg nI (by first | omega | rfl)⟩, (by rw [show k = y by omega]; exact mv_f hR hn ha hy hq)⟩) dX6_movePosition_95
            · refine lv_aload_n (pc := 49) S.1 S.2.1 dX6_movePosition_49 rfl (lv_at hl 0 rfl) ?_
              refine zz_get (pc := 50) S hV.1 iX6 0 rfl rfl 0 (by decide) wd_67 rfl rfl dX6_movePosition_50 ?_
              refine zz_bipush (pc := 53) (v := nI 40) S dX6_movePosition_53 rfl ?_
              refine lv_iload (pc := 55) S.1 S.2.1 dX6_movePosition_55 (lv_at hl 5 rfl) ?_
              refine zz_iadd (pc := 57) (v := nI (40 + k)) S dX6_movePosition_57 (n_add _ _) ?_
              refine lv_aload_n (pc := 58) S.1 S.2.1 dX6_movePosition_58 rfl (lv_at hl 0 rfl) ?_
              refine zz_get (pc := 59) S hV.1 iX6 0 rfl rfl 0 (by decide) wd_67 rfl rfl dX6_movePosition_59 ?_
              refine zz_bipush (pc := 62) (v := nI 40) S dX6_movePosition_62 rfl ?_
              refine lv_iload (pc := 64) S.1 S.2.1 dX6_movePosition_64 (lv_at hl 5 rfl) ?_
              refine zz_iadd (pc := 66) (v := nI (40 + k)) S dX6_movePosition_66 (n_add _ _) ?_
              refine lv_iload (pc := 67) S.1 S.2.1 dX6_movePosition_67 (lv_at hl 4 rfl) ?_
              refine zz_iadd (pc := 69) (v := nI (40 + k + 1)) S dX6_movePosition_69 (n_add _ _) ?_
              refine zz_iald (pc := 70) (k := 40 + k + 1) S hV.1 1 rfl (by omega) dX6_movePosition_70 ?_
              refine zz_iast (pc := 71) (k := 40 + k) (v := (shl w 1 (40 + a) (40 + k)) (40 + k + 1)) S hV 1 rfl (by omega) (ws' := [(o, .inr (6, [.ref a1, .ref a2, .int (nI (min (ed + 1) 4)), .int (nI C), .int (nI V), .int (nI Ac), .ref a3, .ref a4, .ref a5, .ref a6])), (a1, zA cI 49 (va_up (shl w 1 (40 + a) (40 + k)) (40 + k) ((shl w 1 (40 + a) (40 + k)) (40 + k + 1)))), (a2, zA cI 196 (hst hs w ed))]) rfl dX6_movePosition_71 (fun H locs hV => ?_)
              refine lv_iload (pc := 72) S.1 S.2.1 dX6_movePosition_72 (lv_at hl 5 rfl) ?_
              refine lv_iload (pc := 74) S.1 S.2.1 dX6_movePosition_74 (lv_at hl 4 rfl) ?_
              refine zz_iadd (pc := 76) (v := nI (k + 1)) S dX6_movePosition_76 (n_add _ _) ?_
              refine lv_istore (pc := 77) (lv' := [(5, .int (nI (k + 1))), (0, .ref o), (1, .int (nI a)), (2, .int (nI y)), (3, .int (nI (L a))), (4, .int (nI 1))]) S.1 S.2.1 dX6_movePosition_77 hl (by decide) rfl (fun ls hl => ?_)
              refine lv_goto (pc := 79) (tgt := 43) S.1 S.2.1 dX6_movePosition_79 (by decide) ?_
              have hV : zV D cI cR A [(o, .inr (6, [.ref a1, .ref a2, .int (nI (min (ed + 1) 4)), .int (nI C), .int (nI V), .int (nI Ac), .ref a3, .ref a4, .ref a5, .ref a6])), (a1, zA cI 49 (shl w 1 (40 + a) (40 + (k + 1)))), (a2, zA cI 196 (hst hs w ed))] s H locs := hV.arr 1 rfl (fun j hj => by exact shl_u w 1 (40 + a) (40 + k) j (by omega)) rfl
              exact ih4 (k + 1) (by omega) (by omega) H locs hV ls (lv_sub hl [1, 2, 3, 4, 5, 0] rfl)
        have hV : zV D cI cR A [(o, .inr (6, [.ref a1, .ref a2, .int (nI (min (ed + 1) 4)), .int (nI C), .int (nI V), .int (nI Ac), .ref a3, .ref a4, .ref a5, .ref a6])), (a1, zA cI 49 (shl w 1 (40 + a) (40 + a))), (a2, zA cI 196 (hst hs w ed))] s H locs := hV.arr 1 rfl (fun j hj => by exact shl_0 w 1 _ _ j (Nat.le_refl _)) rfl
        exact L3 (y - a + 1) a (by omega) (Nat.lt_succ_self _) H locs hV ls (lv_sub hl [3, 4, 5, 2, 1, 0] rfl)
    · exfalso; omega
set_option maxHeartbeats 4000000 in
set_option maxRecDepth 100000 in
theorem c_X6_movePosition_b (l : Launch) (D : va_G) (cI cR : ClassId) (o a1 a2 a3 a4 a5 a6 ed C V Ac : Nat) (w : Nat → Nat) (hs : Nat → Nat) (n : Nat) (P X Y L : Nat → Nat) (a : Nat) (y : Nat) (sz : Nat) (hok : zOk n P X Y L) (hR : zRl w n P X Y L) (hset : zSt C V Ac) (hed : ed ≤ 4) (ha : a < n) (hy : y < n) (hq : y ≤ a) : Met l yX6_movePosition wm_X6_movePosition ({ frames := 2, cells := 0, slots := 0, locals := 43 } : Room) (va_Pc [.ref o, .int (nI a), .int (nI y)] (zX D cI cR [(o, .inr (6, [.ref a1, .ref a2, .int (nI ed), .int (nI C), .int (nI V), .int (nI Ac), .ref a3, .ref a4, .ref a5, .ref a6])), (a1, zA cI 49 w), (a2, zA cI 196 hs)] sz)) (zQi D cI cR (va_A [(o, .inr (6, [.ref a1, .ref a2, .int (nI ed), .int (nI C), .int (nI V), .int (nI Ac), .ref a3, .ref a4, .ref a5, .ref a6])), (a1, zA cI 49 w), (a2, zA cI 196 hs)] sz) (fun r w0 => ∃ (w5 : Nat → Nat), (w0 = [(o, .inr (6, [.ref a1, .ref a2, .int (nI (min (ed + 1) 4)), .int (nI C), .int (nI V), .int (nI Ac), .ref a3, .ref a4, .ref a5, .ref a6])), (a1, zA cI 49 w5), (a2, zA cI 196 (hst hs w ed))] ∧ r = nI (L a / 2)) ∧ (zRl w5 n P X Y (mvp L a y)))) 0 0 (va_A [(o, .inr (6, [.ref a1, .ref a2, .int (nI ed), .int (nI C), .int (nI V), .int (nI Ac), .ref a3, .ref a4, .ref a5, .ref a6])), (a1, zA cI 49 w), (a2, zA cI 196 hs)] sz) := by
  refine Met.ofW (cc := cX6_movePosition) (maxL := 6) (ret := (some .int)) (by decide) rfl ?_
  intro p e s m args below meth c s₁ B hml hv
  obtain ⟨rfl, hsz, hG, hD0⟩ := hv
  have S : CallFix p m c cX6_movePosition 6 s ([.ref o, .int (nI a), .int (nI y)] : List Value).toArray wU RX6 := ⟨B.exec, B.bytes, hml, findClass_of_methodNamed B.named, fun w h => atoms_spec (ws := wm_X6_movePosition) B.pre w (List.mem_cons_of_mem _ h)⟩
  have hr := B.returns
  have hlocks := B.notSynchronized
  subst hsz
  have hD := hD0.self (sz := s.heap.size)
  generalize hAe : va_A [(o, .inr (6, [.ref a1, .ref a2, .int (nI ed), .int (nI C), .int (nI V), .int (nI Ac), .ref a3, .ref a4, .ref a5, .ref a6])), (a1, zA cI 49 w), (a2, zA cI 196 hs)] s.heap.size = A at hD ⊢
  have hV : zV D cI cR A [(o, .inr (6, [.ref a1, .ref a2, .int (nI ed), .int (nI C), .int (nI V), .int (nI Ac), .ref a3, .ref a4, .ref a5, .ref a6])), (a1, zA cI 49 w), (a2, zA cI 196 hs)] s s.heap [] := ⟨hG, hD, va_S.rf, fun q h => by rw [← hAe]; exact Or.inr h⟩
  have hl := lv_entry ([.ref o, .int (nI a), .int (nI y)]) (n := 6) (Nat.le_of_ble_eq_true rfl)
  rw [lg_entry_eq]
  generalize (lg_sl ([.ref o, .int (nI a), .int (nI y)]) ++ List.replicate (6 - (lg_sl ([.ref o, .int (nI a), .int (nI y)])).length) Slot.unset).toArray = ls at hl ⊢
  have hl : lv_has ls 6 [(0, .ref o), (1, .int (nI a)), (2, .int (nI y))] := hl
  obtain ⟨⟨hn, hPf, hXY⟩, hLf, hinj⟩ := id hok
  obtain ⟨hC, hV9, hA9⟩ := id hset
  refine lv_aload_n (pc := 0) S.1 S.2.1 dX6_movePosition_0 rfl (lv_at hl 0 rfl) ?_
  refine lv_iload_n (pc := 1) S.1 S.2.1 dX6_movePosition_1 rfl (lv_at hl 1 rfl) ?_
  refine zz_callV (pc := 2) (As := [.int (zI ((a : Nat) : Int))]) (rest := []) S (c_X6_isPosition l D cI cR o a1 a2 a3 a4 a5 a6 ed C V Ac w n P X Y L ((a : Nat) : Int) hok.1 hR hset (by unfold zR; omega)) (zuV wd_360 wd_357 wd_358 wd_359 wd_5) 1 rfl q_X6_isPosition ⟨⟨rfl, rfl⟩, Nat.le_of_ble_eq_true rfl, Nat.le_of_ble_eq_true rfl⟩ hV.1 [0, 1] rfl 0 rfl rfl rfl rfl rfl (Nat.le_of_ble_eq_true rfl) hl.1 ⟨Nat.zero_le _, Nat.zero_le _⟩ dX6_movePosition_2 ?_
  refine zz_ifb_eq (pc := 5) (tgt := 16) S dX6_movePosition_5 (by decide) (fun c5 => ?_) (fun c5 => ?_)
  · exfalso; omega
  · refine lv_aload_n (pc := 8) S.1 S.2.1 dX6_movePosition_8 rfl (lv_at hl 0 rfl) ?_
    refine lv_iload_n (pc := 9) S.1 S.2.1 dX6_movePosition_9 rfl (lv_at hl 2 rfl) ?_
    refine zz_callV (pc := 10) (As := [.int (zI ((y : Nat) : Int))]) (rest := []) S (c_X6_isPosition l D cI cR o a1 a2 a3 a4 a5 a6 ed C V Ac w n P X Y L ((y : Nat) : Int) hok.1 hR hset (by unfold zR; omega)) (zuV wd_360 wd_357 wd_358 wd_359 wd_5) 1 rfl q_X6_isPosition ⟨⟨rfl, rfl⟩, Nat.le_of_ble_eq_true rfl, Nat.le_of_ble_eq_true rfl⟩ hV.1 [0, 1] rfl 0 rfl rfl rfl rfl rfl (Nat.le_of_ble_eq_true rfl) hl.1 ⟨Nat.zero_le _, Nat.zero_le _⟩ dX6_movePosition_10 ?_
    refine zz_ifb_ne (pc := 13) (tgt := 18) S dX6_movePosition_13 (by decide) (fun c13 => ?_) (fun c13 => ?_)
    · refine lv_aload_n (pc := 18) S.1 S.2.1 dX6_movePosition_18 rfl (lv_at hl 0 rfl) ?_
      refine zz_callMv (pc := 19) (As := []) (rest := []) (wr := []) S hV (c_X6_edit l D cI cR o a1 a2 a3 a4 a5 a6 ed C V Ac w hs n P X Y L s.heap.size hok.1 hR hset (by omega)) (zuV wd_139 wd_136 wd_137 wd_138 wd_5) 0 rfl q_X6_edit ⟨⟨rfl, rfl⟩, Nat.le_of_ble_eq_true rfl, Nat.le_of_ble_eq_true rfl⟩ [0, 1, 2] [] rfl rfl (by decide) (by decide) (by decide) 0 rfl rfl rfl rfl rfl (Nat.le_of_ble_eq_true rfl) hl.1 ⟨Nat.zero_le _, Nat.zero_le _⟩ dX6_movePosition_19 (fun w1 H locs hp hV => ?_)
      obtain rfl := hp
      have hV : zV D cI cR A [(o, .inr (6, [.ref a1, .ref a2, .int (nI (min (ed + 1) 4)), .int (nI C), .int (nI V), .int (nI Ac), .ref a3, .ref a4, .ref a5, .ref a6])), (a1, zA cI 49 w), (a2, zA cI 196 (hst hs w ed))] s H locs := hV.perm [0, 1, 2] (by decide) rfl
      refine lv_aload_n (pc := 22) S.1 S.2.1 dX6_movePosition_22 rfl (lv_at hl 0 rfl) ?_
      refine lv_iload_n (pc := 23) S.1 S.2.1 dX6_movePosition_23 rfl (lv_at hl 1 rfl) ?_
      refine zz_callV (pc := 24) (As := [.int (nI a)]) (rest := []) S (c_X6_at l D cI cR o a1 a2 a3 a4 a5 a6 (min (ed + 1) 4) C V Ac w n P X Y L a hok hR hset (by omega)) (zuV wd_364 wd_361 wd_362 wd_363 wd_5) 1 rfl q_X6_at ⟨⟨rfl, rfl⟩, Nat.le_of_ble_eq_true rfl, Nat.le_of_ble_eq_true rfl⟩ hV.1 [0, 1] rfl 0 rfl rfl rfl rfl rfl (Nat.le_of_ble_eq_true rfl) hl.1 ⟨Nat.zero_le _, Nat.zero_le _⟩ dX6_movePosition_24 ?_
      have g2 := hLf a (by omega)
      refine lv_istore_n (pc := 27) (lv' := [(3, .int (nI (L a))), (0, .ref o), (1, .int (nI a)), (2, .int (nI y))]) S.1 S.2.1 dX6_movePosition_27 rfl hl (by decide) rfl (fun ls hl => ?_)
      refine lv_iload_n (pc := 28) S.1 S.2.1 dX6_movePosition_28 rfl (lv_at hl 2 rfl) ?_
      refine lv_iload_n (pc := 29) S.1 S.2.1 dX6_movePosition_29 rfl (lv_at hl 3 rfl) ?_
      refine zz_icmp_ge (pc := 30) (tgt := 37) S dX6_movePosition_30 (by decide) (n_le (by omega) (by omega)) (fun c30 => ?_) (fun c30 => ?_)
      · refine zz_iconst (pc := 37) (v := zI (-1)) S dX6_movePosition_37 rfl ?_
        refine lv_istore (pc := 38) (lv' := [(4, .int (zI (-1))), (3, .int (nI (L a))), (0, .ref o), (1, .int (nI a)), (2, .int (nI y))]) S.1 S.2.1 dX6_movePosition_38 hl (by decide) rfl (fun ls hl => ?_)
        refine lv_iload_n (pc := 40) S.1 S.2.1 dX6_movePosition_40 rfl (lv_at hl 3 rfl) ?_
        refine lv_istore (pc := 41) (lv' := [(5, .int (nI a)), (4, .int (zI (-1))), (3, .int (nI (L a))), (0, .ref o), (1, .int (nI a)), (2, .int (nI y))]) S.1 S.2.1 dX6_movePosition_41 hl (by decide) rfl (fun ls hl => ?_)
        have L3 : ∀ (f : Nat) (k : Nat), (y ≤ k ∧ k ≤ a) → k < f → ∀ (H : Heap) (locs : List Loc), zV D cI cR A [(o, .inr (6, [.ref a1, .ref a2, .int (nI (min (ed + 1) 4)), .int (nI C), .int (nI V), .int (nI Ac), .ref a3, .ref a4, .ref a5, .ref a6])), (a1, zA cI 49 (shr w (40 + a) (40 + k))), (a2, zA cI 196 (hst hs w ed))] s H locs → ∀ ls : Array Slot, lv_has ls 6 [(0, .ref o), (1, .int (nI a)), (2, .int (nI y)), (3, .int (nI (L a))), (4, .int (zI (-1))), (5, .int (nI k))] → W p l e (headSpec wm_X6_movePosition ({ frames := 2, cells := 0, slots := 0, locals := 43 } : Room)).room s m ([.ref o, .int (nI a), .int (nI y)] : List Value).toArray below meth c H locs 0 0 (MQ below (zQi D cI cR A (fun r w0 => ∃ (w5 : Nat → Nat), (w0 = [(o, .inr (6, [.ref a1, .ref a2, .int (nI (min (ed + 1) 4)), .int (nI C), .int (nI V), .int (nI Ac), .ref a3, .ref a4, .ref a5, .ref a6])), (a1, zA cI 49 w5), (a2, zA cI 196 (hst hs w ed))] ∧ r = nI (L a / 2)) ∧ (zRl w5 n P X Y (mvp L a y)))) ([.ref o, .int (nI a), .int (nI y)] : List Value).toArray s 0 0 A) (F0 m 43 ls []) := by
          intro f
          induction f with
          | zero => intro k hk hf; exact absurd hf (Nat.not_lt_zero _)
          | succ f ih4 =>
            intro k hk hf H locs hV ls hl
            refine lv_iload (pc := 43) S.1 S.2.1 dX6_movePosition_43 (lv_at hl 5 rfl) ?_
            refine lv_iload_n (pc := 45) S.1 S.2.1 dX6_movePosition_45 rfl (lv_at hl 2 rfl) ?_
            refine zz_icmp_eq (pc := 46) (tgt := 82) S dX6_movePosition_46 (by decide) (n_eq (by omega) (by omega)) (fun c46 => ?_) (fun c46 => ?_)
            · refine lv_aload_n (pc := 82) S.1 S.2.1 dX6_movePosition_82 rfl (lv_at hl 0 rfl) ?_
              refine zz_get (pc := 83) S hV.1 iX6 0 rfl rfl 0 (by decide) wd_67 rfl rfl dX6_movePosition_83 ?_
              refine zz_bipush (pc := 86) (v := nI 40) S dX6_movePosition_86 rfl ?_
              refine lv_iload_n (pc := 88) S.1 S.2.1 dX6_movePosition_88 rfl (lv_at hl 2 rfl) ?_
              refine zz_iadd (pc := 89) (v := nI (40 + y)) S dX6_movePosition_89 (n_add _ _) ?_
              refine lv_iload_n (pc := 90) S.1 S.2.1 dX6_movePosition_90 rfl (lv_at hl 3 rfl) ?_
              refine zz_iast (pc := 91) (k := 40 + y) (v := L a) S hV 1 rfl (by omega) (ws' := [(o, .inr (6, [.ref a1, .ref a2, .int (nI (min (ed + 1) 4)), .int (nI C), .int (nI V), .int (nI Ac), .ref a3, .ref a4, .ref a5, .ref a6])), (a1, zA cI 49 (va_up (shr w (40 + a) (40 + k)) (40 + y) (L a))), (a2, zA cI 196 (hst hs w ed))]) rfl dX6_movePosition_91 (fun H locs hV => ?_)
              refine lv_iload_n (pc := 92) S.1 S.2.1 dX6_movePosition_92 rfl (lv_at hl 3 rfl) ?_
              refine zz_iconst (pc := 93) (v := nI 2) S dX6_movePosition_93 rfl ?_
              refine zz_idiv (pc := 94) (v := nI ((L a) / 2)) S dX6_movePosition_94 (by decide) (n_div (by omega) (by decide) (by decide)) ?_
              have hV : zV D cI cR A [(o, .inr (6, [.ref a1, .ref a2, .int (nI (min (ed + 1) 4)), .int (nI C), .int (nI V), .int (nI Ac), .ref a3, .ref a4, .ref a5, .ref a6])), (a1, zA cI 49 (va_up (shr w (40 + a) (40 + k)) (40 + y) (L a))), (a2, zA cI 196 (hst hs w ed))] s H locs := hV.arr 1 rfl (fun j hj => by rfl) rfl
              exact zz_iretM (pc := 95) S hr hlocks hV (⟨(va_up (shr w (40 + a) (40 + k)) (40 + y) (L a)), ⟨rfl, congrArg nI (by first | omega | rfl)⟩, (by rw [show k = y by omega]; exact mv_b hR hn ha hy hq)⟩) dX6_movePosition_95
            · refine lv_aload_n (pc := 49) S.1 S.2.1 dX6_movePosition_49 rfl (lv_at hl 0 rfl) ?_
              refine zz_get (pc := 50) S hV.1 iX6 0 rfl rfl 0 (by decide) wd_67 rfl rfl dX6_movePosition_50 ?_
              refine zz_bipush (pc := 53) (v := nI 40) S dX6_movePosition_53 rfl ?_
              refine lv_iload (pc := 55) S.1 S.2.1 dX6_movePosition_55 (lv_at hl 5 rfl) ?_
              refine zz_iadd (pc := 57) (v := nI (40 + k)) S dX6_movePosition_57 (n_add _ _) ?_
              refine lv_aload_n (pc := 58) S.1 S.2.1 dX6_movePosition_58 rfl (lv_at hl 0 rfl) ?_
              refine zz_get (pc := 59) S hV.1 iX6 0 rfl rfl 0 (by decide) wd_67 rfl rfl dX6_movePosition_59 ?_
              refine zz_bipush (pc := 62) (v := nI 40) S dX6_movePosition_62 rfl ?_
              refine lv_iload (pc := 64) S.1 S.2.1 dX6_movePosition_64 (lv_at hl 5 rfl) ?_
              refine zz_iadd (pc := 66) (v := nI (40 + k)) S dX6_movePosition_66 (n_add _ _) ?_
              refine lv_iload (pc := 67) S.1 S.2.1 dX6_movePosition_67 (lv_at hl 4 rfl) ?_
              refine zz_iadd (pc := 69) (v := zI (((40 + k : Nat) : Int) + (-1))) S dX6_movePosition_69 (zI_add ((40 + k : Nat) : Int) (-1)) ?_
              refine zz_cast (v := nI (40 + k - 1)) (zn_of (by omega)) ?_
              refine zz_iald (pc := 70) (k := 40 + k - 1) S hV.1 1 rfl (by omega) dX6_movePosition_70 ?_
              refine zz_iast (pc := 71) (k := 40 + k) (v := (shr w (40 + a) (40 + k)) (40 + k - 1)) S hV 1 rfl (by omega) (ws' := [(o, .inr (6, [.ref a1, .ref a2, .int (nI (min (ed + 1) 4)), .int (nI C), .int (nI V), .int (nI Ac), .ref a3, .ref a4, .ref a5, .ref a6])), (a1, zA cI 49 (va_up (shr w (40 + a) (40 + k)) (40 + k) ((shr w (40 + a) (40 + k)) (40 + k - 1)))), (a2, zA cI 196 (hst hs w ed))]) rfl dX6_movePosition_71 (fun H locs hV => ?_)
              refine lv_iload (pc := 72) S.1 S.2.1 dX6_movePosition_72 (lv_at hl 5 rfl) ?_
              refine lv_iload (pc := 74) S.1 S.2.1 dX6_movePosition_74 (lv_at hl 4 rfl) ?_
              refine zz_iadd (pc := 76) (v := zI (((k : Nat) : Int) + (-1))) S dX6_movePosition_76 (zI_add ((k : Nat) : Int) (-1)) ?_
              refine zz_cast (v := nI (k - 1)) (zn_of (by omega)) ?_
              refine lv_istore (pc := 77) (lv' := [(5, .int (nI (k - 1))), (0, .ref o), (1, .int (nI a)), (2, .int (nI y)), (3, .int (nI (L a))), (4, .int (zI (-1)))]) S.1 S.2.1 dX6_movePosition_77 hl (by decide) rfl (fun ls hl => ?_)
              refine lv_goto (pc := 79) (tgt := 43) S.1 S.2.1 dX6_movePosition_79 (by decide) ?_
              have hV : zV D cI cR A [(o, .inr (6, [.ref a1, .ref a2, .int (nI (min (ed + 1) 4)), .int (nI C), .int (nI V), .int (nI Ac), .ref a3, .ref a4, .ref a5, .ref a6])), (a1, zA cI 49 (shr w (40 + a) (40 + (k - 1)))), (a2, zA cI 196 (hst hs w ed))] s H locs := hV.arr 1 rfl (fun j hj => by have q9 := shr_s w (40 + a) (40 + k) j (by omega) (by omega); rw [show 40 + k - 1 = 40 + (k - 1) by omega] at q9 ⊢; exact q9) rfl
              exact ih4 (k - 1) (by omega) (by omega) H locs hV ls (lv_sub hl [1, 2, 3, 4, 5, 0] rfl)
        have hV : zV D cI cR A [(o, .inr (6, [.ref a1, .ref a2, .int (nI (min (ed + 1) 4)), .int (nI C), .int (nI V), .int (nI Ac), .ref a3, .ref a4, .ref a5, .ref a6])), (a1, zA cI 49 (shr w (40 + a) (40 + a))), (a2, zA cI 196 (hst hs w ed))] s H locs := hV.arr 1 rfl (fun j hj => by exact shr_0 w (40 + a) j) rfl
        exact L3 (a + 1) a (by omega) (Nat.lt_succ_self _) H locs hV ls (lv_sub hl [3, 4, 5, 2, 1, 0] rfl)
      · exfalso; omega
    · exfalso; omega
abbrev wm_X6_removeDuplicates : List Cond := .code yX6_removeDuplicates cX6_removeDuplicates 5 (some .int) :: wU
theorem q_X6_removeDuplicates : yX6_removeDuplicates.cls = RX6 ∧ yX6_removeDuplicates.cls ≠ "java/lang/invoke/MethodHandle" ∧ yX6_removeDuplicates.cls ≠ "java/lang/invoke/VarHandle" ∧ (parseMethodDescriptor yX6_removeDuplicates.desc).map (fun d => d.parameters.length) = some 0 := by decide +kernel
set_option maxHeartbeats 4000000 in
set_option maxRecDepth 100000 in
theorem c_X6_removeDuplicates (l : Launch) (D : va_G) (cI cR : ClassId) (o a1 a2 a3 a4 a5 a6 ed C V Ac : Nat) (w : Nat → Nat) (hs : Nat → Nat) (n : Nat) (P X Y L : Nat → Nat) (sz : Nat) (hok : zOk n P X Y L) (hR : zRl w n P X Y L) (hset : zSt C V Ac) (hed : ed ≤ 4) : Met l yX6_removeDuplicates wm_X6_removeDuplicates ({ frames := 2, cells := 0, slots := 0, locals := 45 } : Room) (va_Pc [.ref o] (zX D cI cR [(o, .inr (6, [.ref a1, .ref a2, .int (nI ed), .int (nI C), .int (nI V), .int (nI Ac), .ref a3, .ref a4, .ref a5, .ref a6])), (a1, zA cI 49 w), (a2, zA cI 196 hs)] sz)) (zQi D cI cR (va_A [(o, .inr (6, [.ref a1, .ref a2, .int (nI ed), .int (nI C), .int (nI V), .int (nI Ac), .ref a3, .ref a4, .ref a5, .ref a6])), (a1, zA cI 49 w), (a2, zA cI 196 hs)] sz) (fun r w0 => ∃ (n5 : Nat) (P5 : Nat → Nat) (X5 : Nat → Nat) (Y5 : Nat → Nat) (L5 : Nat → Nat) (w5 : Nat → Nat) (q5 : Nat), (w0 = [(o, .inr (6, [.ref a1, .ref a2, .int (nI (min (ed + 1) 4)), .int (nI C), .int (nI V), .int (nI Ac), .ref a3, .ref a4, .ref a5, .ref a6])), (a1, zA cI 49 w5), (a2, zA cI 196 (hst hs w ed))] ∧ r = nI q5) ∧ (ddr n (n, P, X, Y, L) 0 = ((n5, P5, X5, Y5, L5), q5)) ∧ (zRl w5 n5 P5 X5 Y5 L5))) 0 0 (va_A [(o, .inr (6, [.ref a1, .ref a2, .int (nI ed), .int (nI C), .int (nI V), .int (nI Ac), .ref a3, .ref a4, .ref a5, .ref a6])), (a1, zA cI 49 w), (a2, zA cI 196 hs)] sz) := by
  refine Met.ofW (cc := cX6_removeDuplicates) (maxL := 5) (ret := (some .int)) (by decide) rfl ?_
  intro p e s m args below meth c s₁ B hml hv
  obtain ⟨rfl, hsz, hG, hD0⟩ := hv
  have S : CallFix p m c cX6_removeDuplicates 5 s ([.ref o] : List Value).toArray wU RX6 := ⟨B.exec, B.bytes, hml, findClass_of_methodNamed B.named, fun w h => atoms_spec (ws := wm_X6_removeDuplicates) B.pre w (List.mem_cons_of_mem _ h)⟩
  have hr := B.returns
  have hlocks := B.notSynchronized
  subst hsz
  have hD := hD0.self (sz := s.heap.size)
  generalize hAe : va_A [(o, .inr (6, [.ref a1, .ref a2, .int (nI ed), .int (nI C), .int (nI V), .int (nI Ac), .ref a3, .ref a4, .ref a5, .ref a6])), (a1, zA cI 49 w), (a2, zA cI 196 hs)] s.heap.size = A at hD ⊢
  have hV : zV D cI cR A [(o, .inr (6, [.ref a1, .ref a2, .int (nI ed), .int (nI C), .int (nI V), .int (nI Ac), .ref a3, .ref a4, .ref a5, .ref a6])), (a1, zA cI 49 w), (a2, zA cI 196 hs)] s s.heap [] := ⟨hG, hD, va_S.rf, fun q h => by rw [← hAe]; exact Or.inr h⟩
  have hl := lv_entry ([.ref o]) (n := 5) (Nat.le_of_ble_eq_true rfl)
  rw [lg_entry_eq]
  generalize (lg_sl ([.ref o]) ++ List.replicate (5 - (lg_sl ([.ref o])).length) Slot.unset).toArray = ls at hl ⊢
  have hl : lv_has ls 5 [(0, .ref o)] := hl
  obtain ⟨⟨hn, hPf, hXY⟩, hLf, hinj⟩ := id hok
  obtain ⟨hC, hV9, hA9⟩ := id hset
  refine lv_aload_n (pc := 0) S.1 S.2.1 dX6_removeDuplicates_0 rfl (lv_at hl 0 rfl) ?_
  refine zz_callMv (pc := 1) (As := []) (rest := []) (wr := []) S hV (c_X6_edit l D cI cR o a1 a2 a3 a4 a5 a6 ed C V Ac w hs n P X Y L s.heap.size hok.1 hR hset (by omega)) (zuV wd_139 wd_136 wd_137 wd_138 wd_5) 0 rfl q_X6_edit ⟨⟨rfl, rfl⟩, Nat.le_of_ble_eq_true rfl, Nat.le_of_ble_eq_true rfl⟩ [0, 1, 2] [] rfl rfl (by decide) (by decide) (by decide) 0 rfl rfl rfl rfl rfl (Nat.le_of_ble_eq_true rfl) hl.1 ⟨Nat.zero_le _, Nat.zero_le _⟩ dX6_removeDuplicates_1 (fun w1 H locs hp hV => ?_)
  obtain rfl := hp
  have hV : zV D cI cR A [(o, .inr (6, [.ref a1, .ref a2, .int (nI (min (ed + 1) 4)), .int (nI C), .int (nI V), .int (nI Ac), .ref a3, .ref a4, .ref a5, .ref a6])), (a1, zA cI 49 w), (a2, zA cI 196 (hst hs w ed))] s H locs := hV.perm [0, 1, 2] (by decide) rfl
  refine zz_iconst (pc := 4) (v := nI 0) S dX6_removeDuplicates_4 rfl ?_
  refine lv_istore_n (pc := 5) (lv' := [(1, .int (nI 0)), (0, .ref o)]) S.1 S.2.1 dX6_removeDuplicates_5 rfl hl (by decide) rfl (fun ls hl => ?_)
  refine lv_aload_n (pc := 6) S.1 S.2.1 dX6_removeDuplicates_6 rfl (lv_at hl 1 rfl) ?_
  refine zz_get (pc := 7) S hV.1 iX6 0 rfl rfl 0 (by decide) wd_67 rfl rfl dX6_removeDuplicates_7 ?_
  refine zz_bipush (pc := 10) (v := nI 48) S dX6_removeDuplicates_10 rfl ?_
  refine zz_iald (pc := 12) (k := 48) S hV.1 1 rfl (by omega) dX6_removeDuplicates_12 ?_
  refine zz_cast (v := nI n) (congrArg nI hR.1) ?_
  refine zz_iconst (pc := 13) (v := nI 1) S dX6_removeDuplicates_13 rfl ?_
  refine zz_isub (pc := 14) (v := zI (((n : Nat) : Int) - 1)) S dX6_removeDuplicates_14 (zI_sub ((n : Nat) : Int) 1) ?_
  refine lv_istore_n (pc := 15) (lv' := [(2, .int (zI (((n : Nat) : Int) - 1))), (1, .int (nI 0)), (0, .ref o)]) S.1 S.2.1 dX6_removeDuplicates_15 rfl hl (by decide) rfl (fun ls hl => ?_)
  have L2 : ∀ (f : Nat) (k : Nat) (n2 : Nat) (P2 : Nat → Nat) (X2 : Nat → Nat) (Y2 : Nat → Nat) (L2 : Nat → Nat) (w2 : Nat → Nat) (cnt : Nat), (k ≤ n2) → (zOk n2 P2 X2 Y2 L2) → (zRl w2 n2 P2 X2 Y2 L2) → (ddr k (n2, P2, X2, Y2, L2) cnt = ddr n (n, P, X, Y, L) 0) → k < f → ∀ (H : Heap) (locs : List Loc), zV D cI cR A [(o, .inr (6, [.ref a1, .ref a2, .int (nI (min (ed + 1) 4)), .int (nI C), .int (nI V), .int (nI Ac), .ref a3, .ref a4, .ref a5, .ref a6])), (a1, zA cI 49 w2), (a2, zA cI 196 (hst hs w ed))] s H locs → ∀ ls : Array Slot, lv_has ls 5 [(0, .ref o), (1, .int (nI cnt)), (2, .int (zI (((k : Nat) : Int) - 1)))] → W p l e (headSpec wm_X6_removeDuplicates ({ frames := 2, cells := 0, slots := 0, locals := 45 } : Room)).room s m ([.ref o] : List Value).toArray below meth c H locs 0 0 (MQ below (zQi D cI cR A (fun r w0 => ∃ (n5 : Nat) (P5 : Nat → Nat) (X5 : Nat → Nat) (Y5 : Nat → Nat) (L5 : Nat → Nat) (w5 : Nat → Nat) (q5 : Nat), (w0 = [(o, .inr (6, [.ref a1, .ref a2, .int (nI (min (ed + 1) 4)), .int (nI C), .int (nI V), .int (nI Ac), .ref a3, .ref a4, .ref a5, .ref a6])), (a1, zA cI 49 w5), (a2, zA cI 196 (hst hs w ed))] ∧ r = nI q5) ∧ (ddr n (n, P, X, Y, L) 0 = ((n5, P5, X5, Y5, L5), q5)) ∧ (zRl w5 n5 P5 X5 Y5 L5))) ([.ref o] : List Value).toArray s 0 0 A) (F0 m 16 ls []) := by
    intro f
    induction f with
    | zero => intro k n2 P2 X2 Y2 L2 w2 cnt hk hok2 hR2 he hf; exact absurd hf (Nat.not_lt_zero _)
    | succ f ih3 =>
      intro k n2 P2 X2 Y2 L2 w2 cnt hk hok2 hR2 he hf H locs hV ls hl
      obtain ⟨⟨hn, hPf, hXY⟩, hLf, hinj⟩ := id hok2
      refine lv_iload_n (pc := 16) S.1 S.2.1 dX6_removeDuplicates_16 rfl (lv_at hl 2 rfl) ?_
      refine zz_if_le (pc := 17) (tgt := 75) S dX6_removeDuplicates_17 (by decide) (z_le0 (by unfold zR; omega)) (fun c17 => ?_) (fun c17 => ?_)
      · refine lv_iload_n (pc := 75) S.1 S.2.1 dX6_removeDuplicates_75 rfl (lv_at hl 1 rfl) ?_
        exact zz_iretM (pc := 76) S hr hlocks hV (⟨n2, P2, X2, Y2, L2, w2, cnt, ⟨rfl, rfl⟩, (by exact he.symm.trans (ddr_e (d := (n2, P2, X2, Y2, L2)) (by omega))), (by exact hR2)⟩) dX6_removeDuplicates_76
      · refine zz_iconst (pc := 20) (v := nI 0) S dX6_removeDuplicates_20 rfl ?_
        refine lv_istore_n (pc := 21) (lv' := [(3, .int (nI 0)), (0, .ref o), (1, .int (nI cnt)), (2, .int (zI (((k : Nat) : Int) - 1)))]) S.1 S.2.1 dX6_removeDuplicates_21 rfl hl (by decide) rfl (fun ls hl => ?_)
        refine zz_iconst (pc := 22) (v := nI 0) S dX6_removeDuplicates_22 rfl ?_
        refine lv_istore (pc := 23) (lv' := [(4, .int (nI 0)), (3, .int (nI 0)), (0, .ref o), (1, .int (nI cnt)), (2, .int (zI (((k : Nat) : Int) - 1)))]) S.1 S.2.1 dX6_removeDuplicates_23 hl (by decide) rfl (fun ls hl => ?_)
        have L4 : ∀ (f : Nat) (i : Nat), (i ≤ k - 1) → k - i < f → ∀ (H : Heap) (locs : List Loc), zV D cI cR A [(o, .inr (6, [.ref a1, .ref a2, .int (nI (min (ed + 1) 4)), .int (nI C), .int (nI V), .int (nI Ac), .ref a3, .ref a4, .ref a5, .ref a6])), (a1, zA cI 49 w2), (a2, zA cI 196 (hst hs w ed))] s H locs → ∀ ls : Array Slot, lv_has ls 5 [(0, .ref o), (1, .int (nI cnt)), (2, .int (zI (((k : Nat) : Int) - 1))), (3, .int (nI (zB (¬ ∀ j, j < i → ¬ alk P2 X2 Y2 (k - 1) j)))), (4, .int (nI i))] → W p l e (headSpec wm_X6_removeDuplicates ({ frames := 2, cells := 0, slots := 0, locals := 45 } : Room)).room s m ([.ref o] : List Value).toArray below meth c H locs 0 0 (MQ below (zQi D cI cR A (fun r w0 => ∃ (n5 : Nat) (P5 : Nat → Nat) (X5 : Nat → Nat) (Y5 : Nat → Nat) (L5 : Nat → Nat) (w5 : Nat → Nat) (q5 : Nat), (w0 = [(o, .inr (6, [.ref a1, .ref a2, .int (nI (min (ed + 1) 4)), .int (nI C), .int (nI V), .int (nI Ac), .ref a3, .ref a4, .ref a5, .ref a6])), (a1, zA cI 49 w5), (a2, zA cI 196 (hst hs w ed))] ∧ r = nI q5) ∧ (ddr n (n, P, X, Y, L) 0 = ((n5, P5, X5, Y5, L5), q5)) ∧ (zRl w5 n5 P5 X5 Y5 L5))) ([.ref o] : List Value).toArray s 0 0 A) (F0 m 25 ls []) := by
          intro f
          induction f with
          | zero => intro i hi hf; exact absurd hf (Nat.not_lt_zero _)
          | succ f ih5 =>
            intro i hi hf H locs hV ls hl
            refine lv_iload (pc := 25) S.1 S.2.1 dX6_removeDuplicates_25 (lv_at hl 4 rfl) ?_
            refine lv_iload_n (pc := 27) S.1 S.2.1 dX6_removeDuplicates_27 rfl (lv_at hl 2 rfl) ?_
            refine zz_icmp_ge (pc := 28) (tgt := 57) S dX6_removeDuplicates_28 (by decide) (zI_le (a := ((k : Nat) : Int) - 1) (b := ((i : Nat) : Int)) (by unfold zR; omega) (by unfold zR; omega)) (fun c28 => ?_) (fun c28 => ?_)
            · refine lv_iload_n (pc := 57) S.1 S.2.1 dX6_removeDuplicates_57 rfl (lv_at hl 3 rfl) ?_
              refine zz_ifb_eq (pc := 58) (tgt := 69) S dX6_removeDuplicates_58 (by decide) (fun c58 => ?_) (fun c58 => ?_)
              · refine lv_iinc (pc := 69) (v := zI (((k : Nat) : Int) - 1 + (-1))) (lv' := [(2, .int (zI (((k : Nat) : Int) - 1 + (-1)))), (0, .ref o), (1, .int (nI cnt)), (3, .int (nI (zB (¬ ∀ j, j < i → ¬ alk P2 X2 Y2 (k - 1) j)))), (4, .int (nI i))]) S.1 S.2.1 dX6_removeDuplicates_69 hl (k := 2) rfl (zI_add _ _) (by decide) rfl (fun ls hl => ?_)
                refine lv_goto (pc := 72) (tgt := 16) S.1 S.2.1 dX6_removeDuplicates_72 (by decide) ?_
                exact ih3 (k - 1) n2 P2 X2 Y2 L2 w2 cnt (by omega) (by exact hok2) (by exact hR2) (by exact (ddr_keep (d := (n2, P2, X2, Y2, L2)) (by omega) (by have z9 : i = k - 1 := (by omega); rw [z9] at c58; exact Classical.byContradiction c58)).symm.trans he) (by omega) H locs hV ls (by rw [show (((k - 1 : Nat) : Int) - 1) = ((k : Nat) : Int) - 1 + (-1) by omega]; exact lv_sub hl [1, 2, 0] rfl)
              · refine lv_aload_n (pc := 61) S.1 S.2.1 dX6_removeDuplicates_61 rfl (lv_at hl 0 rfl) ?_
                refine lv_iload_n (pc := 62) S.1 S.2.1 dX6_removeDuplicates_62 rfl (lv_at hl 2 rfl) ?_
                refine zz_cast (v := nI (k - 1)) (zn_of (by omega)) ?_
                refine zz_callMv (pc := 63) (As := [.int (nI (k - 1))]) (rest := []) (wr := [(a2, zA cI 196 (hst hs w ed))]) S hV (c_X6_removes l D cI cR o a1 a2 a3 a4 a5 a6 (min (ed + 1) 4) C V Ac w2 n2 P2 X2 Y2 L2 (k - 1) (pos n2 L2 (k - 1)) H.size hok2 hR2 hset (by omega) (pos_ok hok2 (by omega))) (zuV wd_169 wd_166 wd_167 wd_168 wd_5) 1 rfl q_X6_removes ⟨⟨rfl, rfl⟩, Nat.le_of_ble_eq_true rfl, Nat.le_of_ble_eq_true rfl⟩ [0, 1] [2] rfl rfl (by decide) (by decide) (by decide) 0 rfl rfl rfl rfl rfl (Nat.le_of_ble_eq_true rfl) hl.1 ⟨Nat.zero_le _, Nat.zero_le _⟩ dX6_removeDuplicates_63 (fun w1 H locs hp hV => ?_)
                obtain rfl := hp
                have hV : zV D cI cR A [(o, .inr (6, [.ref a1, .ref a2, .int (nI (min (ed + 1) 4)), .int (nI C), .int (nI V), .int (nI Ac), .ref a3, .ref a4, .ref a5, .ref a6])), (a1, zA cI 49 (rmw w2 n2 (k - 1) (pos n2 L2 (k - 1)))), (a2, zA cI 196 (hst hs w ed))] s H locs := hV.perm [1, 2, 0] (by decide) rfl
                refine lv_iinc (pc := 66) (v := nI (cnt + 1)) (lv' := [(1, .int (nI (cnt + 1))), (0, .ref o), (2, .int (zI (((k : Nat) : Int) - 1))), (3, .int (nI (zB (¬ ∀ j, j < i → ¬ alk P2 X2 Y2 (k - 1) j)))), (4, .int (nI i))]) S.1 S.2.1 dX6_removeDuplicates_66 hl (k := 1) rfl (n_add _ _) (by decide) rfl (fun ls hl => ?_)
                refine lv_iinc (pc := 69) (v := zI (((k : Nat) : Int) - 1 + (-1))) (lv' := [(2, .int (zI (((k : Nat) : Int) - 1 + (-1)))), (1, .int (nI (cnt + 1))), (0, .ref o), (3, .int (nI (zB (¬ ∀ j, j < i → ¬ alk P2 X2 Y2 (k - 1) j)))), (4, .int (nI i))]) S.1 S.2.1 dX6_removeDuplicates_69 hl (k := 2) rfl (zI_add _ _) (by decide) rfl (fun ls hl => ?_)
                refine lv_goto (pc := 72) (tgt := 16) S.1 S.2.1 dX6_removeDuplicates_72 (by decide) ?_
                have hV : zV D cI cR A [(o, .inr (6, [.ref a1, .ref a2, .int (nI (min (ed + 1) 4)), .int (nI C), .int (nI V), .int (nI Ac), .ref a3, .ref a4, .ref a5, .ref a6])), (a1, zA cI 49 (rmw w2 n2 (k - 1) (pos n2 L2 (k - 1)))), (a2, zA cI 196 (hst hs w ed))] s H locs := hV.arr 1 rfl (fun j hj => by rfl) rfl
                exact ih3 (k - 1) (n2 - 1) (shl P2 1 (k - 1) (n2 - 1)) (shl X2 2 (2 * (k - 1)) (2 * n2 - 2)) (shl Y2 2 (2 * (k - 1)) (2 * n2 - 2)) (dpl L2 (k - 1) (pos n2 L2 (k - 1)) n2) (rmw w2 n2 (k - 1) (pos n2 L2 (k - 1))) (cnt + 1) (by omega) (by exact drp_ok (d := (n2, P2, X2, Y2, L2)) hok2 (show k - 1 < n2 by omega)) (by exact rm_rl hR2 hn (by omega) (pos_ok hok2 (show k - 1 < n2 by omega)).1) (by exact (ddr_drop' (d := (n2, P2, X2, Y2, L2)) (by omega) (by have z9 : i = k - 1 := (by omega); rw [z9] at c58; exact c58)).symm.trans he) (by omega) H locs hV ls (by rw [show (((k - 1 : Nat) : Int) - 1) = ((k : Nat) : Int) - 1 + (-1) by omega]; exact lv_sub hl [2, 1, 0] rfl)
            · have J7 : ∀ ls : Array Slot, lv_has ls 5 [(0, .ref o), (1, .int (nI cnt)), (2, .int (zI (((k : Nat) : Int) - 1))), (3, .int (nI (zB (¬ ∀ j, j < i → ¬ alk P2 X2 Y2 (k - 1) j)))), (4, .int (nI i))] → W p l e (headSpec wm_X6_removeDuplicates ({ frames := 2, cells := 0, slots := 0, locals := 45 } : Room)).room s m ([.ref o] : List Value).toArray below meth c H locs 0 0 (MQ below (zQi D cI cR A (fun r w0 => ∃ (n5 : Nat) (P5 : Nat → Nat) (X5 : Nat → Nat) (Y5 : Nat → Nat) (L5 : Nat → Nat) (w5 : Nat → Nat) (q5 : Nat), (w0 = [(o, .inr (6, [.ref a1, .ref a2, .int (nI (min (ed + 1) 4)), .int (nI C), .int (nI V), .int (nI Ac), .ref a3, .ref a4, .ref a5, .ref a6])), (a1, zA cI 49 w5), (a2, zA cI 196 (hst hs w ed))] ∧ r = nI q5) ∧ (ddr n (n, P, X, Y, L) 0 = ((n5, P5, X5, Y5, L5), q5)) ∧ (zRl w5 n5 P5 X5 Y5 L5))) ([.ref o] : List Value).toArray s 0 0 A) (F0 m 50 ls [.int (nI (zB (¬ ∀ j, j < (i + 1) → ¬ alk P2 X2 Y2 (k - 1) j)))]) := by
                intro ls hl
                refine lv_istore_n (pc := 50) (lv' := [(3, .int (nI (zB (¬ ∀ j, j < (i + 1) → ¬ alk P2 X2 Y2 (k - 1) j)))), (0, .ref o), (1, .int (nI cnt)), (2, .int (zI (((k : Nat) : Int) - 1))), (4, .int (nI i))]) S.1 S.2.1 dX6_removeDuplicates_50 rfl hl (by decide) rfl (fun ls hl => ?_)
                refine lv_iinc (pc := 51) (v := nI (i + 1)) (lv' := [(4, .int (nI (i + 1))), (3, .int (nI (zB (¬ ∀ j, j < (i + 1) → ¬ alk P2 X2 Y2 (k - 1) j)))), (0, .ref o), (1, .int (nI cnt)), (2, .int (zI (((k : Nat) : Int) - 1)))]) S.1 S.2.1 dX6_removeDuplicates_51 hl (k := 4) rfl (n_add _ _) (by decide) rfl (fun ls hl => ?_)
                refine lv_goto (pc := 54) (tgt := 25) S.1 S.2.1 dX6_removeDuplicates_54 (by decide) ?_
                exact ih5 (i + 1) (by omega) (by omega) H locs hV ls (lv_sub hl [2, 3, 4, 1, 0] rfl)
              refine lv_iload_n (pc := 31) S.1 S.2.1 dX6_removeDuplicates_31 rfl (lv_at hl 3 rfl) ?_
              refine zz_ifb_ne (pc := 32) (tgt := 45) S dX6_removeDuplicates_32 (by decide) (fun c32 => ?_) (fun c32 => ?_)
              · refine zz_iconst (pc := 45) (v := nI 1) S dX6_removeDuplicates_45 rfl ?_
                refine lv_goto (pc := 46) (tgt := 50) S.1 S.2.1 dX6_removeDuplicates_46 (by decide) ?_
                refine zz_cast (v := nI (zB (¬ ∀ j, j < (i + 1) → ¬ alk P2 X2 Y2 (k - 1) j))) (congrArg nI (zB_t (by first | exact ex_l (Q := fun j => alk P2 X2 Y2 (k - 1) j) c32 | exact ex_r (Q := fun j => alk P2 X2 Y2 (k - 1) j) c42 | exact ex_n (Q := fun j => alk P2 X2 Y2 (k - 1) j) c32 c42)).symm) ?_
                exact J7 ls (lv_sub hl [0, 1, 2, 3, 4] rfl)
              · refine lv_aload_n (pc := 35) S.1 S.2.1 dX6_removeDuplicates_35 rfl (lv_at hl 0 rfl) ?_
                refine lv_iload_n (pc := 36) S.1 S.2.1 dX6_removeDuplicates_36 rfl (lv_at hl 2 rfl) ?_
                refine zz_cast (v := nI (k - 1)) (zn_of (by omega)) ?_
                refine lv_iload (pc := 37) S.1 S.2.1 dX6_removeDuplicates_37 (lv_at hl 4 rfl) ?_
                refine zz_callV (pc := 39) (As := [.int (nI (k - 1)), .int (nI i)]) (rest := []) S (c_X6_areAlike l D cI cR o a1 a2 a3 a4 a5 a6 (min (ed + 1) 4) C V Ac w2 n2 P2 X2 Y2 L2 (k - 1) i hok2.1 hR2 hset (by omega) (by omega)) (zuV wd_230 wd_227 wd_228 wd_229 wd_5) 2 rfl q_X6_areAlike ⟨⟨rfl, rfl⟩, Nat.le_of_ble_eq_true rfl, Nat.le_of_ble_eq_true rfl⟩ hV.1 [0, 1] rfl 0 rfl rfl rfl rfl rfl (Nat.le_of_ble_eq_true rfl) hl.1 ⟨Nat.zero_le _, Nat.zero_le _⟩ dX6_removeDuplicates_39 ?_
                refine zz_ifb_eq (pc := 42) (tgt := 49) S dX6_removeDuplicates_42 (by decide) (fun c42 => ?_) (fun c42 => ?_)
                · refine zz_iconst (pc := 49) (v := nI 0) S dX6_removeDuplicates_49 rfl ?_
                  refine zz_cast (v := nI (zB (¬ ∀ j, j < (i + 1) → ¬ alk P2 X2 Y2 (k - 1) j))) (congrArg nI (zB_f (by first | exact ex_l (Q := fun j => alk P2 X2 Y2 (k - 1) j) c32 | exact ex_r (Q := fun j => alk P2 X2 Y2 (k - 1) j) c42 | exact ex_n (Q := fun j => alk P2 X2 Y2 (k - 1) j) c32 c42)).symm) ?_
                  exact J7 ls (lv_sub hl [0, 1, 2, 3, 4] rfl)
                · refine zz_iconst (pc := 45) (v := nI 1) S dX6_removeDuplicates_45 rfl ?_
                  refine lv_goto (pc := 46) (tgt := 50) S.1 S.2.1 dX6_removeDuplicates_46 (by decide) ?_
                  refine zz_cast (v := nI (zB (¬ ∀ j, j < (i + 1) → ¬ alk P2 X2 Y2 (k - 1) j))) (congrArg nI (zB_t (by first | exact ex_l (Q := fun j => alk P2 X2 Y2 (k - 1) j) c32 | exact ex_r (Q := fun j => alk P2 X2 Y2 (k - 1) j) c42 | exact ex_n (Q := fun j => alk P2 X2 Y2 (k - 1) j) c32 c42)).symm) ?_
                  exact J7 ls (lv_sub hl [0, 1, 2, 3, 4] rfl)
        exact L4 (k - 0 + 1) 0 (by omega) (Nat.lt_succ_self _) H locs hV ls (by rw [(show ∀ i, i = 0 → zB (¬ ∀ j, j < i → ¬ alk P2 X2 Y2 (k - 1) j) = 0 from fun i h => by subst h; exact zB_f (ex_0 (Q := fun j => alk P2 X2 Y2 (k - 1) j))) 0 rfl]; exact lv_sub hl [2, 3, 4, 1, 0] rfl)
  exact L2 (n + 1) n n P X Y L w 0 (by omega) (by exact hok) (by exact hR) (by rfl) (Nat.lt_succ_self _) H locs hV ls (lv_sub hl [2, 1, 0] rfl)
