abbrev wm_X6_ahead : List Cond := .code yX6_ahead cX6_ahead 6 (some .int) :: wU
theorem q_X6_ahead : yX6_ahead.cls = RX6 ∧ yX6_ahead.cls ≠ "java/lang/invoke/MethodHandle" ∧ yX6_ahead.cls ≠ "java/lang/invoke/VarHandle" ∧ (parseMethodDescriptor yX6_ahead.desc).map (fun d => d.parameters.length) = some 2 := by decide +kernel
set_option maxHeartbeats 4000000 in
set_option maxRecDepth 100000 in
theorem c_X6_ahead (l : Launch) (D : va_G) (cI cR : ClassId) (o a1 a2 a3 a4 a5 a6 ed C V Ac : Nat) (w : Nat → Nat) (rt : Nat → Nat) (n : Nat) (P X Y L : Nat → Nat) (a : Nat) (b : Int) (hok : zOk n P X Y L) (hR : zRl w n P X Y L) (hset : zSt C V Ac) (ha : a < 2 ^ n) (hb : -1 ≤ b ∧ b < 2 * (n : Int)) (hrt : rsO P X Y C n rt a) : Met l yX6_ahead wm_X6_ahead ({ frames := 2, cells := 0, slots := 0, locals := 47 } : Room) (va_Pc [.ref o, .int (nI a), .int (zI b)] (zW D cI cR [(o, .inr (6, [.ref a1, .ref a2, .int (nI ed), .int (nI C), .int (nI V), .int (nI Ac), .ref a3, .ref a4, .ref a5, .ref a6])), (a1, zA cI 49 w), (a3, zA cI 4096 rt)])) (vp_Si (fun r => r = nI (vl P X Y C n (cpl n a) b))) 0 0 (fun _ => False) := by
  refine Met.ofW (cc := cX6_ahead) (maxL := 6) (ret := (some .int)) (by decide) rfl ?_
  intro p e s m args below meth c s₁ B hml hv
  obtain ⟨rfl, hG⟩ := hv
  have S : CallFix p m c cX6_ahead 6 s ([.ref o, .int (nI a), .int (zI b)] : List Value).toArray wU RX6 := ⟨B.exec, B.bytes, hml, findClass_of_methodNamed B.named, fun w h => atoms_spec (ws := wm_X6_ahead) B.pre w (List.mem_cons_of_mem _ h)⟩
  have hr := B.returns
  have hlocks := B.notSynchronized
  have hG : zG D cI cR [(o, .inr (6, [.ref a1, .ref a2, .int (nI ed), .int (nI C), .int (nI V), .int (nI Ac), .ref a3, .ref a4, .ref a5, .ref a6])), (a1, zA cI 49 w), (a3, zA cI 4096 rt)] s s.heap := hG
  have hl := lv_entry ([.ref o, .int (nI a), .int (zI b)]) (n := 6) (Nat.le_of_ble_eq_true rfl)
  rw [lg_entry_eq]
  generalize (lg_sl ([.ref o, .int (nI a), .int (zI b)]) ++ List.replicate (6 - (lg_sl ([.ref o, .int (nI a), .int (zI b)])).length) Slot.unset).toArray = ls at hl ⊢
  have hl : lv_has ls 6 [(0, .ref o), (1, .int (nI a)), (2, .int (zI b))] := hl
  obtain ⟨⟨hn, hPf, hXY⟩, hLf, hinj⟩ := id hok
  obtain ⟨hC, hV9, hA9⟩ := id hset
  have hpw : 0 < 2 ^ n := Nat.pow_pos (by decide)
  have hp2 := (crd_full n hn).2
  have J1 : ∀ ls : Array Slot, lv_has ls 6 [(0, .ref o), (1, .int (nI a)), (2, .int (zI b))] → W p l e (headSpec wm_X6_ahead ({ frames := 2, cells := 0, slots := 0, locals := 47 } : Room)).room s m ([.ref o, .int (nI a), .int (zI b)] : List Value).toArray below meth c s.heap [] 0 0 (MQ below (vp_Si (fun r => r = nI (vl P X Y C n (cpl n a) b))) ([.ref o, .int (nI a), .int (zI b)] : List Value).toArray s 0 0 (fun _ => False)) (F0 m 21 ls [.int (nI (if a = 2 ^ n - 1 then 0 else 1000000))]) := by
    intro ls hl
    refine lv_istore_n (pc := 21) (lv' := [(3, .int (nI (if a = 2 ^ n - 1 then 0 else 1000000))), (0, .ref o), (1, .int (nI a)), (2, .int (zI b))]) S.1 S.2.1 dX6_ahead_21 rfl hl (by decide) rfl (fun ls hl => ?_)
    refine zz_iconst (pc := 22) (v := nI 0) S dX6_ahead_22 rfl ?_
    refine lv_istore (pc := 23) (lv' := [(4, .int (nI 0)), (3, .int (nI (if a = 2 ^ n - 1 then 0 else 1000000))), (0, .ref o), (1, .int (nI a)), (2, .int (zI b))]) S.1 S.2.1 dX6_ahead_23 hl (by decide) rfl (fun ls hl => ?_)
    have L2 : ∀ (f : Nat) (k : Nat), (k ≤ 2 * n) → 2 * n - k < f → ∀ ls : Array Slot, lv_has ls 6 [(0, .ref o), (1, .int (nI a)), (2, .int (zI b)), (3, .int (nI (led (fun j => inS (cpl n a) j) (fun j => stp P X Y C b j + vl P X Y C n (clb (cpl n a) (j / 2)) (j : Int)) (if a = 2 ^ n - 1 then 0 else 1000000) k))), (4, .int (nI k))] → W p l e (headSpec wm_X6_ahead ({ frames := 2, cells := 0, slots := 0, locals := 47 } : Room)).room s m ([.ref o, .int (nI a), .int (zI b)] : List Value).toArray below meth c s.heap [] 0 0 (MQ below (vp_Si (fun r => r = nI (vl P X Y C n (cpl n a) b))) ([.ref o, .int (nI a), .int (zI b)] : List Value).toArray s 0 0 (fun _ => False)) (F0 m 25 ls []) := by
      intro f
      induction f with
      | zero => intro k hk hf; exact absurd hf (Nat.not_lt_zero _)
      | succ f ih3 =>
        intro k hk hf ls hl
        have hif : (if a = 2 ^ n - 1 then 0 else 1000000) ≤ 1000000 := by split <;> omega
        have hle : led (fun j => inS (cpl n a) j) (fun j => stp P X Y C b j + vl P X Y C n (clb (cpl n a) (j / 2)) (j : Int)) (if a = 2 ^ n - 1 then 0 else 1000000) k ≤ 1000000 := led_le (fun j hj => by have q1 := stp_le (P := P) (X := X) (Y := Y) (C := C) (a := b) (b := j) hXY (by omega) (by omega); have q2 := vl_bd (P := P) (X := X) (Y := Y) (C := C) (n := n) (S := clb (cpl n a) (j / 2)) (a := (j : Int)) hn hXY (by omega) (by have z1 := clb_le (cpl n a) (j / 2); have z2 := cpl_le n a; omega) (by omega); show _ + _ ≤ _; omega) hif
        refine lv_iload (pc := 25) S.1 S.2.1 dX6_ahead_25 (lv_at hl 4 rfl) ?_
        refine zz_iconst (pc := 27) (v := nI 2) S dX6_ahead_27 rfl ?_
        refine lv_aload_n (pc := 28) S.1 S.2.1 dX6_ahead_28 rfl (lv_at hl 0 rfl) ?_
        refine zz_get (pc := 29) S hG iX6 0 rfl rfl 0 (by decide) wd_67 rfl rfl dX6_ahead_29 ?_
        refine zz_bipush (pc := 32) (v := nI 48) S dX6_ahead_32 rfl ?_
        refine zz_iald (pc := 34) (k := 48) S hG 1 rfl (by omega) dX6_ahead_34 ?_
        refine zz_cast (v := nI n) (congrArg nI hR.1) ?_
        refine zz_imul (pc := 35) (v := nI (2 * n)) S dX6_ahead_35 (n_mul _ _) ?_
        refine zz_icmp_ge (pc := 36) (tgt := 98) S dX6_ahead_36 (by decide) (n_le (by omega) (by omega)) (fun c36 => ?_) (fun c36 => ?_)
        · refine lv_iload_n (pc := 98) S.1 S.2.1 dX6_ahead_98 rfl (lv_at hl 3 rfl) ?_
          exact zz_iretS (pc := 99) S hr hlocks (congrArg nI (by first | (rw [show k = 2 * n by omega]; exact led_vl hn ha (fun h => if_pos h)) | (rw [show k = 2 * n by omega]; exact (led_vl hn ha (fun h => if_pos h)).symm))) dX6_ahead_99
        · refine lv_iload_n (pc := 39) S.1 S.2.1 dX6_ahead_39 rfl (lv_at hl 1 rfl) ?_
          refine lv_iload (pc := 40) S.1 S.2.1 dX6_ahead_40 (lv_at hl 4 rfl) ?_
          refine zz_iconst (pc := 42) (v := nI 2) S dX6_ahead_42 rfl ?_
          refine zz_idiv (pc := 43) (v := nI (k / 2)) S dX6_ahead_43 (by decide) (n_div (by omega) (by decide) (by decide)) ?_
          refine zz_ishr (pc := 44) (v := nI (a / 2 ^ (k / 2))) S dX6_ahead_44 (n_shr (by omega) (by omega)) ?_
          refine zz_iconst (pc := 45) (v := nI 1) S dX6_ahead_45 rfl ?_
          refine zz_iand (pc := 46) (v := nI ((a / 2 ^ (k / 2)) % 2)) S dX6_ahead_46 (n_and1 _) ?_
          refine zz_if_ne (pc := 47) (tgt := 92) S dX6_ahead_47 (by decide) (n_eq0 (by omega)) (fun c47 => ?_) (fun c47 => ?_)
          · have w : led (fun j => inS (cpl n a) j) (fun j => stp P X Y C b j + vl P X Y C n (clb (cpl n a) (j / 2)) (j : Int)) (if a = 2 ^ n - 1 then 0 else 1000000) (k + 1) = led (fun j => inS (cpl n a) j) (fun j => stp P X Y C b j + vl P X Y C n (clb (cpl n a) (j / 2)) (j : Int)) (if a = 2 ^ n - 1 then 0 else 1000000) k := led_skip (fun q => by have q2 := (cpl_bit n (by omega) a ha (k / 2) (by omega)).mp q; omega)
            refine lv_iinc (pc := 92) (v := nI (k + 1)) (lv' := [(4, .int (nI (k + 1))), (0, .ref o), (1, .int (nI a)), (2, .int (zI b)), (3, .int (nI (led (fun j => inS (cpl n a) j) (fun j => stp P X Y C b j + vl P X Y C n (clb (cpl n a) (j / 2)) (j : Int)) (if a = 2 ^ n - 1 then 0 else 1000000) k)))]) S.1 S.2.1 dX6_ahead_92 hl (k := 4) rfl (n_add _ _) (by decide) rfl (fun ls hl => ?_)
            refine lv_goto (pc := 95) (tgt := 25) S.1 S.2.1 dX6_ahead_95 (by decide) ?_
            exact ih3 (k + 1) (by omega) (by omega) ls (by rw [w]; exact lv_sub hl [1, 2, 3, 4, 0] rfl)
          · have hQ : inS (cpl n a) k := (cpl_bit n (by omega) a ha (k / 2) (by omega)).mpr (by omega)
            have ho := cpl_or n (by omega) a ha (k / 2) (by omega) (by omega)
            obtain ⟨ho1, ho2, ho3, ho4⟩ := ho
            have hrk : rt (16 * (a ||| 2 ^ (k / 2)) + k) = vl P X Y C n (clb (cpl n a) (k / 2)) ((k : Nat) : Int) := by rw [← ho1]; exact hrt _ k ho2 (by omega) ho3 ho4
            have hvb := vl_bd (P := P) (X := X) (Y := Y) (C := C) (n := n) (S := clb (cpl n a) (k / 2)) (a := ((k : Nat) : Int)) hn hXY (by omega) (by have z1 := clb_le (cpl n a) (k / 2); have z2 := cpl_le n a; omega) (by omega)
            have hnf : (if a = 2 ^ n - 1 then 0 else 1000000) = 1000000 := if_neg (by intro z; omega)
            refine lv_aload_n (pc := 50) S.1 S.2.1 dX6_ahead_50 rfl (lv_at hl 0 rfl) ?_
            refine lv_iload_n (pc := 51) S.1 S.2.1 dX6_ahead_51 rfl (lv_at hl 2 rfl) ?_
            refine lv_iload (pc := 52) S.1 S.2.1 dX6_ahead_52 (lv_at hl 4 rfl) ?_
            refine zz_callV (pc := 54) (As := [.int (zI b), .int (nI k)]) (rest := []) S (c_X6_step l D cI cR o a1 a2 a3 a4 a5 a6 ed C V Ac w n P X Y L b k hok.1 hR hset (by omega) (by omega)) (zuV wd_430 wd_427 wd_428 wd_429 wd_5) 2 rfl q_X6_step ⟨⟨rfl, rfl⟩, Nat.le_of_ble_eq_true rfl, Nat.le_of_ble_eq_true rfl⟩ hG [0, 1] rfl 0 rfl rfl rfl rfl rfl (Nat.le_of_ble_eq_true rfl) hl.1 ⟨Nat.zero_le _, Nat.zero_le _⟩ dX6_ahead_54 ?_
            have g4 := stp_le (P := P) (X := X) (Y := Y) (C := C) (a := b) (b := k) (n := n) hXY (by omega) (by omega)
            refine lv_aload_n (pc := 57) S.1 S.2.1 dX6_ahead_57 rfl (lv_at hl 0 rfl) ?_
            refine zz_get (pc := 58) S hG iX6 0 rfl rfl 6 (by decide) wd_72 rfl rfl dX6_ahead_58 ?_
            refine zz_bipush (pc := 61) (v := nI 16) S dX6_ahead_61 rfl ?_
            refine lv_iload_n (pc := 63) S.1 S.2.1 dX6_ahead_63 rfl (lv_at hl 1 rfl) ?_
            refine zz_iconst (pc := 64) (v := nI 1) S dX6_ahead_64 rfl ?_
            refine lv_iload (pc := 65) S.1 S.2.1 dX6_ahead_65 (lv_at hl 4 rfl) ?_
            refine zz_iconst (pc := 67) (v := nI 2) S dX6_ahead_67 rfl ?_
            refine zz_idiv (pc := 68) (v := nI (k / 2)) S dX6_ahead_68 (by decide) (n_div (by omega) (by decide) (by decide)) ?_
            refine zz_ishl (pc := 69) (v := nI (2 ^ (k / 2))) S dX6_ahead_69 (n_shl1 (by omega)) ?_
            refine zz_ior (pc := 70) (v := nI (a ||| (2 ^ (k / 2)))) S dX6_ahead_70 (n_or _ _) ?_
            refine zz_imul (pc := 71) (v := nI (16 * (a ||| (2 ^ (k / 2))))) S dX6_ahead_71 (n_mul _ _) ?_
            refine lv_iload (pc := 72) S.1 S.2.1 dX6_ahead_72 (lv_at hl 4 rfl) ?_
            refine zz_iadd (pc := 74) (v := nI ((16 * (a ||| (2 ^ (k / 2)))) + k)) S dX6_ahead_74 (n_add _ _) ?_
            refine zz_iald (pc := 75) (k := (16 * (a ||| (2 ^ (k / 2)))) + k) S hG 2 rfl (by omega) dX6_ahead_75 ?_
            refine zz_cast (v := nI (vl P X Y C n (clb (cpl n a) (k / 2)) ((k : Nat) : Int))) (congrArg nI hrk) ?_
            refine zz_iadd (pc := 76) (v := nI (stp P X Y C b k + (vl P X Y C n (clb (cpl n a) (k / 2)) ((k : Nat) : Int)))) S dX6_ahead_76 (n_add _ _) ?_
            refine lv_istore (pc := 77) (lv' := [(5, .int (nI (stp P X Y C b k + (vl P X Y C n (clb (cpl n a) (k / 2)) ((k : Nat) : Int))))), (0, .ref o), (1, .int (nI a)), (2, .int (zI b)), (3, .int (nI (led (fun j => inS (cpl n a) j) (fun j => stp P X Y C b j + vl P X Y C n (clb (cpl n a) (j / 2)) (j : Int)) (if a = 2 ^ n - 1 then 0 else 1000000) k))), (4, .int (nI k))]) S.1 S.2.1 dX6_ahead_77 hl (by decide) rfl (fun ls hl => ?_)
            refine lv_iload (pc := 79) S.1 S.2.1 dX6_ahead_79 (lv_at hl 0 rfl) ?_
            refine lv_iload_n (pc := 81) S.1 S.2.1 dX6_ahead_81 rfl (lv_at hl 4 rfl) ?_
            refine zz_icmp_ge (pc := 82) (tgt := 90) S dX6_ahead_82 (by decide) (n_le (by omega) (by omega)) (fun c82 => ?_) (fun c82 => ?_)
            · have w : led (fun j => inS (cpl n a) j) (fun j => stp P X Y C b j + vl P X Y C n (clb (cpl n a) (j / 2)) (j : Int)) (if a = 2 ^ n - 1 then 0 else 1000000) (k + 1) = led (fun j => inS (cpl n a) j) (fun j => stp P X Y C b j + vl P X Y C n (clb (cpl n a) (j / 2)) (j : Int)) (if a = 2 ^ n - 1 then 0 else 1000000) k := led_keep (by show ¬ stp P X Y C b k + vl P X Y C n (clb (cpl n a) (k / 2)) ((k : Nat) : Int) < _; omega) (by show stp P X Y C b k + vl P X Y C n (clb (cpl n a) (k / 2)) ((k : Nat) : Int) < _; rw [hnf]; omega)
              refine lv_iload_n (pc := 90) S.1 S.2.1 dX6_ahead_90 rfl (lv_at hl 4 rfl) ?_
              refine lv_istore_n (pc := 91) (lv' := [(3, .int (nI (led (fun j => inS (cpl n a) j) (fun j => stp P X Y C b j + vl P X Y C n (clb (cpl n a) (j / 2)) (j : Int)) (if a = 2 ^ n - 1 then 0 else 1000000) k))), (5, .int (nI (stp P X Y C b k + (vl P X Y C n (clb (cpl n a) (k / 2)) ((k : Nat) : Int))))), (0, .ref o), (1, .int (nI a)), (2, .int (zI b)), (4, .int (nI k))]) S.1 S.2.1 dX6_ahead_91 rfl hl (by decide) rfl (fun ls hl => ?_)
              refine lv_iinc (pc := 92) (v := nI (k + 1)) (lv' := [(4, .int (nI (k + 1))), (3, .int (nI (led (fun j => inS (cpl n a) j) (fun j => stp P X Y C b j + vl P X Y C n (clb (cpl n a) (j / 2)) (j : Int)) (if a = 2 ^ n - 1 then 0 else 1000000) k))), (5, .int (nI (stp P X Y C b k + (vl P X Y C n (clb (cpl n a) (k / 2)) ((k : Nat) : Int))))), (0, .ref o), (1, .int (nI a)), (2, .int (zI b))]) S.1 S.2.1 dX6_ahead_92 hl (k := 5) rfl (n_add _ _) (by decide) rfl (fun ls hl => ?_)
              refine lv_goto (pc := 95) (tgt := 25) S.1 S.2.1 dX6_ahead_95 (by decide) ?_
              exact ih3 (k + 1) (by omega) (by omega) ls (by rw [w]; exact lv_sub hl [3, 4, 5, 1, 0] rfl)
            · have w : led (fun j => inS (cpl n a) j) (fun j => stp P X Y C b j + vl P X Y C n (clb (cpl n a) (j / 2)) (j : Int)) (if a = 2 ^ n - 1 then 0 else 1000000) (k + 1) = stp P X Y C b k + vl P X Y C n (clb (cpl n a) (k / 2)) ((k : Nat) : Int) := led_take hQ (by show stp P X Y C b k + vl P X Y C n (clb (cpl n a) (k / 2)) ((k : Nat) : Int) < _; omega)
              refine lv_iload (pc := 85) S.1 S.2.1 dX6_ahead_85 (lv_at hl 0 rfl) ?_
              refine lv_goto (pc := 87) (tgt := 91) S.1 S.2.1 dX6_ahead_87 (by decide) ?_
              refine lv_istore_n (pc := 91) (lv' := [(3, .int (nI (stp P X Y C b k + (vl P X Y C n (clb (cpl n a) (k / 2)) ((k : Nat) : Int))))), (5, .int (nI (stp P X Y C b k + (vl P X Y C n (clb (cpl n a) (k / 2)) ((k : Nat) : Int))))), (0, .ref o), (1, .int (nI a)), (2, .int (zI b)), (4, .int (nI k))]) S.1 S.2.1 dX6_ahead_91 rfl hl (by decide) rfl (fun ls hl => ?_)
              refine lv_iinc (pc := 92) (v := nI (k + 1)) (lv' := [(4, .int (nI (k + 1))), (3, .int (nI (stp P X Y C b k + (vl P X Y C n (clb (cpl n a) (k / 2)) ((k : Nat) : Int))))), (5, .int (nI (stp P X Y C b k + (vl P X Y C n (clb (cpl n a) (k / 2)) ((k : Nat) : Int))))), (0, .ref o), (1, .int (nI a)), (2, .int (zI b))]) S.1 S.2.1 dX6_ahead_92 hl (k := 5) rfl (n_add _ _) (by decide) rfl (fun ls hl => ?_)
              refine lv_goto (pc := 95) (tgt := 25) S.1 S.2.1 dX6_ahead_95 (by decide) ?_
              exact ih3 (k + 1) (by omega) (by omega) ls (by rw [w]; exact lv_sub hl [3, 4, 5, 1, 0] rfl)
    exact L2 (2 * n - 0 + 1) 0 (by omega) (Nat.lt_succ_self _) ls (lv_sub hl [2, 3, 4, 1, 0] rfl)
  refine lv_iload_n (pc := 0) S.1 S.2.1 dX6_ahead_0 rfl (lv_at hl 1 rfl) ?_
  refine zz_iconst (pc := 1) (v := nI 1) S dX6_ahead_1 rfl ?_
  refine lv_aload_n (pc := 2) S.1 S.2.1 dX6_ahead_2 rfl (lv_at hl 0 rfl) ?_
  refine zz_get (pc := 3) S hG iX6 0 rfl rfl 0 (by decide) wd_67 rfl rfl dX6_ahead_3 ?_
  refine zz_bipush (pc := 6) (v := nI 48) S dX6_ahead_6 rfl ?_
  refine zz_iald (pc := 8) (k := 48) S hG 1 rfl (by omega) dX6_ahead_8 ?_
  refine zz_cast (v := nI n) (congrArg nI hR.1) ?_
  refine zz_ishl (pc := 9) (v := nI (2 ^ n)) S dX6_ahead_9 (n_shl1 (by omega)) ?_
  refine zz_iconst (pc := 10) (v := nI 1) S dX6_ahead_10 rfl ?_
  refine zz_isub (pc := 11) (v := nI ((2 ^ n) - 1)) S dX6_ahead_11 (n_sub (by omega)) ?_
  refine zz_icmp_ne (pc := 12) (tgt := 19) S dX6_ahead_12 (by decide) (n_eq (by omega) (by omega)) (fun c12 => ?_) (fun c12 => ?_)
  · refine lv_ldc (pc := 19) S.1 S.2.1 S.2.2.2.1 (S.2.2.2.2 _ wd_555) dX6_ahead_19 ?_
    refine zz_cast (v := nI 1000000) rfl ?_
    refine zz_cast (v := nI (if a = 2 ^ n - 1 then 0 else 1000000)) (congrArg nI (by first | rw [if_pos (by omega)] | rw [if_neg (by omega)])) ?_
    exact J1 ls (lv_sub hl [0, 1, 2] rfl)
  · refine zz_iconst (pc := 15) (v := nI 0) S dX6_ahead_15 rfl ?_
    refine lv_goto (pc := 16) (tgt := 21) S.1 S.2.1 dX6_ahead_16 (by decide) ?_
    refine zz_cast (v := nI (if a = 2 ^ n - 1 then 0 else 1000000)) (congrArg nI (by first | rw [if_pos (by omega)] | rw [if_neg (by omega)])) ?_
    exact J1 ls (lv_sub hl [0, 1, 2] rfl)
