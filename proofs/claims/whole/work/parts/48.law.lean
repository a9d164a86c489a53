set_option maxHeartbeats 4000000 in
set_option maxRecDepth 100000 in
theorem law_loop {p : Program} {l : Launch} {e : Env} {s : State} {m : MethodId} {below : List Frame} {meth : Method} {c : Code} (D : va_G) (cI cR : ClassId) (A : Nat → Prop) {sc N9 : Nat} {xs : Nat → Int32} (hL9 : N9 ≤ 3072) (C0 : lw_At p s m meth c sc N9 xs) (hbA : ¬ A sc) (hAl : ∀ q, A q → s.heap.size ≤ q) (z o : Nat) : ∀ (f i : Nat), i ≤ N9 + 6 → N9 + 7 ≤ i + f → ∀ (H : Heap) (locs : List Loc), lSt D cI cR A s z o H locs → ∀ ls : Array Slot, lv_has ls 4 [(0, .ref sc), (1, .ref z), (2, .ref o), (3, .int (nI i))] → W p l e room_1 s m #[Value.ref sc] below meth c H locs 43 9063 (lw_Z below #[Value.ref sc] s) (F0 m 18 ls []) := by
  obtain ⟨hx, hb, hr, hml, hown, hts, hXs, hbl, hlocks, hgv⟩ := id C0
  have S : CallFix p m c cL_law 4 s #[Value.ref sc] wU RL := ⟨hx, hb, hml, hown, fun w9 h9 => hts w9 (wU_tbl w9 h9)⟩
  intro f
  induction f with
  | zero => intro i h1 h2; exact absurd h2 (by omega)
  | succ f ih =>
    intro i hi hf H locs hst0 ls hl
    have hS : va_S A s.heap H locs := lSt_el hst0 (fun _ _ _ _ _ _ _ _ _ _ _ _ _ _ _ _ _ _ _ _ _ _ _ _ _ _ _ _ _ _ _ _ _ _ _ _ _ _ _ _ _ _ _ _ _ _ _ _ _ _ _ _ _ _ _ hV hI => hV.2.2.1)
    refine lv_iload_n (pc := 18) S.1 S.2.1 dL_law_18 rfl (lv_at hl 3 rfl) ?_
    refine lv_aload_n (pc := 19) S.1 S.2.1 dL_law_19 rfl (lv_at hl 0 rfl) ?_
    refine va_slen (pc := 20) S.1 S.2.1 hXs hbl hbA hS dL_law_20 ?_
    refine zz_cast (v := zI ((N9 : Nat) : Int)) (zI_nI N9).symm ?_
    refine zz_bipush (pc := 21) (v := zI 6) S dL_law_21 rfl ?_
    refine zz_isub (pc := 23) (v := zI (((N9 : Nat) : Int) - 6)) S dL_law_23 (zI_sub _ _) ?_
    have r1 : zR (((N9 : Nat) : Int) - 6) := by unfold zR; omega
    have r2 : zR ((i : Nat) : Int) := by unfold zR; omega
    refine lv_icmp_gt (pc := 24) (tgt := 743) S.1 S.2.1 dL_law_24 (by decide) (fun c24 => ?_) (fun c24 => ?_)
    · refine zz_iconst (pc := 743) (v := nI 1) S dL_law_743 rfl ?_
      refine va_forget (fun q hq => hAl _ (hS.2.2 q hq)) ?_
      refine W.widen (k := 600000) (n := 7302250) (Nat.le_of_ble_eq_true rfl) (Nat.le_of_ble_eq_true rfl) ?_
      exact lw_ret hx hb hr hlocks dL_law_744
    · have hi6 : i + 6 ≤ N9 := by
        have q9 : ¬ zI (((N9 : Nat) : Int) - 6) < zI ((i : Nat) : Int) := by rw [zI_nI i]; exact c24
        rw [zI_lt r1 r2] at q9
        omega
      refine lv_aload_n (pc := 27) S.1 S.2.1 dL_law_27 rfl (lv_at hl 0 rfl) ?_
      refine lv_iload_n (pc := 28) S.1 S.2.1 dL_law_28 rfl (lv_at hl 3 rfl) ?_
      refine zz_sld (pc := 29) (k := i) (v := xs i) S hXs hbl hbA hS (by omega) (by omega) rfl dL_law_29 ?_
      refine zz_bipush (pc := 30) (v := nI 31) S dL_law_30 rfl ?_
      obtain ⟨j, hj1, hj2⟩ := vp_in_of (pk_andIn (xs i) (m := nI 31) 5 (by decide) (by omega)) (by decide)
      refine zz_iand (pc := 32) (v := nI j) S dL_law_32 hj2 ?_
      have K : ∀ (H : Heap) (locs : List Loc), lSt D cI cR A s z o H locs → ∀ ls : Array Slot, lv_has ls 4 [(0, .ref sc), (1, .ref z), (2, .ref o), (3, .int (nI i))] → W p l e room_1 s m #[Value.ref sc] below meth c H locs 43 9063 (lw_Z below #[Value.ref sc] s) (F0 m 737 ls []) := by
        intro H locs hst1 ls hl
        refine lv_iinc (pc := 737) (v := nI (i + 6)) (lv' := [(3, .int (nI (i + 6))), (0, .ref sc), (1, .ref z), (2, .ref o)]) S.1 S.2.1 dL_law_737 hl (k := 3) rfl (n_add i 6) (by decide) rfl (fun ls hl => ?_)
        refine lv_goto (pc := 740) (tgt := 18) S.1 S.2.1 dL_law_740 (by decide) ?_
        exact ih (i + 6) (by omega) (by omega) H locs hst1 ls (lv_sub hl [1, 2, 3, 0] rfl)
      rcases (show j = 0 ∨ j = 1 ∨ j = 2 ∨ j = 3 ∨ j = 4 ∨ j = 5 ∨ j = 6 ∨ j = 7 ∨ j = 8 ∨ j = 9 ∨ j = 10 ∨ j = 11 ∨ j = 12 ∨ j = 13 ∨ j = 14 ∨ j = 15 ∨ j = 16 ∨ j = 17 ∨ j = 18 ∨ j = 19 ∨ j = 20 ∨ j = 21 ∨ j = 22 ∨ j = 23 ∨ j = 24 ∨ j = 25 ∨ j = 26 ∨ j = 27 ∨ j = 28 ∨ j = 29 ∨ j = 30 ∨ j = 31 by omega) with rfl | rfl | rfl | rfl | rfl | rfl | rfl | rfl | rfl | rfl | rfl | rfl | rfl | rfl | rfl | rfl | rfl | rfl | rfl | rfl | rfl | rfl | rfl | rfl | rfl | rfl | rfl | rfl | rfl | rfl | rfl | rfl
      · refine lv_tableIn (pc := 33) (x := nI 0) (off := 123) (tgt := 156) S.1 S.2.1 dL_law_33 (by decide) (by decide) (by decide) (by decide) ?_
        exact arm_0 D cI cR A hL9 C0 hbA z o i hi6 hst0 hl K
      · refine lv_tableIn (pc := 33) (x := nI 1) (off := 186) (tgt := 219) S.1 S.2.1 dL_law_33 (by decide) (by decide) (by decide) (by decide) ?_
        exact arm_1 D cI cR A hL9 C0 hbA z o i hi6 hst0 hl K
      · refine lv_tableIn (pc := 33) (x := nI 2) (off := 209) (tgt := 242) S.1 S.2.1 dL_law_33 (by decide) (by decide) (by decide) (by decide) ?_
        exact arm_2 D cI cR A hL9 C0 hbA z o i hi6 hst0 hl K
      · refine lv_tableIn (pc := 33) (x := nI 3) (off := 222) (tgt := 255) S.1 S.2.1 dL_law_33 (by decide) (by decide) (by decide) (by decide) ?_
        exact arm_3 D cI cR A hL9 C0 hbA z o i hi6 hst0 hl K
      · refine lv_tableIn (pc := 33) (x := nI 4) (off := 245) (tgt := 278) S.1 S.2.1 dL_law_33 (by decide) (by decide) (by decide) (by decide) ?_
        exact arm_4 D cI cR A hL9 C0 hbA z o i hi6 hst0 hl K
      · refine lv_tableIn (pc := 33) (x := nI 5) (off := 268) (tgt := 301) S.1 S.2.1 dL_law_33 (by decide) (by decide) (by decide) (by decide) ?_
        exact arm_5 D cI cR A hL9 C0 hbA z o i hi6 hst0 hl K
      · refine lv_tableIn (pc := 33) (x := nI 6) (off := 291) (tgt := 324) S.1 S.2.1 dL_law_33 (by decide) (by decide) (by decide) (by decide) ?_
        exact arm_6 D cI cR A hL9 C0 hbA z o i hi6 hst0 hl K
      · refine lv_tableIn (pc := 33) (x := nI 7) (off := 304) (tgt := 337) S.1 S.2.1 dL_law_33 (by decide) (by decide) (by decide) (by decide) ?_
        exact arm_7 D cI cR A hL9 C0 hbA z o i hi6 hst0 hl K
      · refine lv_tableIn (pc := 33) (x := nI 8) (off := 327) (tgt := 360) S.1 S.2.1 dL_law_33 (by decide) (by decide) (by decide) (by decide) ?_
        exact arm_8 D cI cR A hL9 C0 hbA z o i hi6 hst0 hl K
      · refine lv_tableIn (pc := 33) (x := nI 9) (off := 350) (tgt := 383) S.1 S.2.1 dL_law_33 (by decide) (by decide) (by decide) (by decide) ?_
        exact arm_9 D cI cR A hL9 C0 hbA z o i hi6 hst0 hl K
      · refine lv_tableIn (pc := 33) (x := nI 10) (off := 373) (tgt := 406) S.1 S.2.1 dL_law_33 (by decide) (by decide) (by decide) (by decide) ?_
        exact arm_10 D cI cR A hL9 C0 hbA z o i hi6 hst0 hl K
      · refine lv_tableIn (pc := 33) (x := nI 11) (off := 406) (tgt := 439) S.1 S.2.1 dL_law_33 (by decide) (by decide) (by decide) (by decide) ?_
        exact arm_11 D cI cR A hL9 C0 hbA z o i hi6 hst0 hl K
      · refine lv_tableIn (pc := 33) (x := nI 12) (off := 429) (tgt := 462) S.1 S.2.1 dL_law_33 (by decide) (by decide) (by decide) (by decide) ?_
        exact arm_12 D cI cR A hL9 C0 hbA z o i hi6 hst0 hl K
      · refine lv_tableIn (pc := 33) (x := nI 13) (off := 442) (tgt := 475) S.1 S.2.1 dL_law_33 (by decide) (by decide) (by decide) (by decide) ?_
        exact arm_13 D cI cR A hL9 C0 hbA z o i hi6 hst0 hl K
      · refine lv_tableIn (pc := 33) (x := nI 14) (off := 455) (tgt := 488) S.1 S.2.1 dL_law_33 (by decide) (by decide) (by decide) (by decide) ?_
        exact arm_14 D cI cR A hL9 C0 hbA z o i hi6 hst0 hl K
      · refine lv_tableIn (pc := 33) (x := nI 15) (off := 468) (tgt := 501) S.1 S.2.1 dL_law_33 (by decide) (by decide) (by decide) (by decide) ?_
        exact arm_15 D cI cR A hL9 C0 hbA z o i hi6 hst0 hl K
      · refine lv_tableIn (pc := 33) (x := nI 16) (off := 491) (tgt := 524) S.1 S.2.1 dL_law_33 (by decide) (by decide) (by decide) (by decide) ?_
        exact arm_16 D cI cR A hL9 C0 hbA z o i hi6 hst0 hl K
      · refine lv_tableIn (pc := 33) (x := nI 17) (off := 514) (tgt := 547) S.1 S.2.1 dL_law_33 (by decide) (by decide) (by decide) (by decide) ?_
        exact arm_17 D cI cR A hL9 C0 hbA z o i hi6 hst0 hl K
      · refine lv_tableIn (pc := 33) (x := nI 18) (off := 527) (tgt := 560) S.1 S.2.1 dL_law_33 (by decide) (by decide) (by decide) (by decide) ?_
        exact arm_18 D cI cR A hL9 C0 hbA z o i hi6 hst0 hl K
      · refine lv_tableIn (pc := 33) (x := nI 19) (off := 550) (tgt := 583) S.1 S.2.1 dL_law_33 (by decide) (by decide) (by decide) (by decide) ?_
        exact arm_19 D cI cR A hL9 C0 hbA z o i hi6 hst0 hl K
      · refine lv_tableIn (pc := 33) (x := nI 20) (off := 563) (tgt := 596) S.1 S.2.1 dL_law_33 (by decide) (by decide) (by decide) (by decide) ?_
        exact arm_20 D cI cR A hL9 C0 hbA z o i hi6 hst0 hl K
      · refine lv_tableIn (pc := 33) (x := nI 21) (off := 576) (tgt := 609) S.1 S.2.1 dL_law_33 (by decide) (by decide) (by decide) (by decide) ?_
        exact arm_21 D cI cR A hL9 C0 hbA z o i hi6 hst0 hl K
      · refine lv_tableIn (pc := 33) (x := nI 22) (off := 599) (tgt := 632) S.1 S.2.1 dL_law_33 (by decide) (by decide) (by decide) (by decide) ?_
        exact arm_22 D cI cR A hL9 C0 hbA z o i hi6 hst0 hl K
      · refine lv_tableIn (pc := 33) (x := nI 23) (off := 622) (tgt := 655) S.1 S.2.1 dL_law_33 (by decide) (by decide) (by decide) (by decide) ?_
        exact arm_23 D cI cR A hL9 C0 hbA z o i hi6 hst0 hl K
      · refine lv_tableIn (pc := 33) (x := nI 24) (off := 645) (tgt := 678) S.1 S.2.1 dL_law_33 (by decide) (by decide) (by decide) (by decide) ?_
        exact arm_24 D cI cR A hL9 C0 hbA z o i hi6 hst0 hl K
      · refine lv_tableIn (pc := 33) (x := nI 25) (off := 668) (tgt := 701) S.1 S.2.1 dL_law_33 (by decide) (by decide) (by decide) (by decide) ?_
        exact arm_25 D cI cR A hL9 C0 hbA z o i hi6 hst0 hl K
      · refine lv_tableIn (pc := 33) (x := nI 26) (off := 691) (tgt := 724) S.1 S.2.1 dL_law_33 (by decide) (by decide) (by decide) (by decide) ?_
        exact arm_26 D cI cR A hL9 C0 hbA z o i hi6 hst0 hl K
      · refine lv_tableOut (pc := 33) (x := nI 27) (tgt := 737) S.1 S.2.1 dL_law_33 (Or.inr (by decide)) (by decide) ?_
        exact K H locs hst0 ls hl
      · refine lv_tableOut (pc := 33) (x := nI 28) (tgt := 737) S.1 S.2.1 dL_law_33 (Or.inr (by decide)) (by decide) ?_
        exact K H locs hst0 ls hl
      · refine lv_tableOut (pc := 33) (x := nI 29) (tgt := 737) S.1 S.2.1 dL_law_33 (Or.inr (by decide)) (by decide) ?_
        exact K H locs hst0 ls hl
      · refine lv_tableOut (pc := 33) (x := nI 30) (tgt := 737) S.1 S.2.1 dL_law_33 (Or.inr (by decide)) (by decide) ?_
        exact K H locs hst0 ls hl
      · refine lv_tableOut (pc := 33) (x := nI 31) (tgt := 737) S.1 S.2.1 dL_law_33 (Or.inr (by decide)) (by decide) ?_
        exact K H locs hst0 ls hl
theorem lIv_0 : lIv 50 400 10 0 (fun _ => 0) (fun _ => 0) (fun _ => 0) (fun _ => 0) (fun _ => 0) (fun _ _ => 0) (fun _ _ => 0) (fun _ _ => 0) (fun _ _ => 0) 0 0 0 0 (fun _ => 0) (fun _ => 0) (fun _ => 0) (fun _ => 0) (fun _ => 0) := ⟨⟨⟨by omega, fun k hk => absurd hk (Nat.not_lt_zero _), fun k hk => absurd hk (by omega)⟩, fun k hk => absurd hk (Nat.not_lt_zero _), fun i j hi => absurd hi (Nat.not_lt_zero _)⟩, by unfold zSt; omega, ⟨rfl, fun c hc => absurd hc (by omega), fun s hs => absurd hs (Nat.not_lt_zero _), fun k hk => absurd hk (Nat.not_lt_zero _)⟩, by omega, by omega, ⟨fun _ => Nat.zero_le _, fun _ => Nat.zero_le _, by omega, fun q => absurd q (by decide)⟩, fun j hj => absurd hj (Nat.not_lt_zero _)⟩
set_option maxHeartbeats 4000000 in
set_option maxRecDepth 100000 in
/-- THE LAW, from its entry -/
theorem whole_start {p : Program} {e : Env} {s : State} {m : MethodId} {below : List Frame} {meth : Method} {c : Code} (l : Launch) (hflags : l.flags = flags0) {sc N9 : Nat} {xs : Nat → Int32} (hL9 : N9 ≤ 3072) (C0 : lw_At p s m meth c sc N9 xs) : W p l e room_1 s m #[Value.ref sc] below meth c s.heap [] 0 0 (lw_Z below #[Value.ref sc] s) (entryFrame m ([Value.ref sc] : List Value).toArray 4) := by
  obtain ⟨hx, hb, hr, hml, hown, hts, hXs, hbl, hlocks, hgv⟩ := id C0
  have hU : ∀ w ∈ wU, w.before #[Value.ref sc] s = true := fun w9 h9 => hts w9 (wU_tbl w9 h9)
  have S : CallFix p m c cL_law 4 s #[Value.ref sc] wU RL := ⟨hx, hb, hml, hown, hU⟩
  obtain ⟨c0, j0, n0⟩ := u_known (C := RX0) (T := TX0) (N := 6) (n := 6) hU iX0 (hU _ wd_21)
  obtain ⟨c1, j1, n1⟩ := u_known (C := RX1) (T := TX1) (N := 5) (n := 5) hU iX1 (hU _ wd_13)
  obtain ⟨c2, j2, n2⟩ := u_known (C := RX2) (T := TX2) (N := 3) (n := 3) hU iX2 (hU _ wd_17)
  obtain ⟨c3, j3, n3⟩ := u_known (C := RX3) (T := TX3) (N := 1) (n := 1) hU iX3 (hU _ wd_25)
  obtain ⟨c4, j4, n4⟩ := u_known (C := RX4) (T := TX4) (N := 1) (n := 1) hU iX4 (hU _ wd_29)
  obtain ⟨c5, j5, n5⟩ := u_known (C := RX5) (T := TX5) (N := 8) (n := 8) hU iX5 (hU _ wd_1)
  obtain ⟨c6, j6, n6⟩ := u_known (C := RX6) (T := TX6) (N := 10) (n := 10) hU iX6 (hU _ wd_4)
  obtain ⟨D, hKc⟩ : ∃ D : va_G, ∀ (k : Nat) (q : vw_C), vwCl[k]? = some q → u_Kn s q.1 q.2.1 q.2.2 (D.1 k) (D.2 k) := by
    refine ⟨((fun k => if k = 0 then c0 else if k = 1 then c1 else if k = 2 then c2 else if k = 3 then c3 else if k = 4 then c4 else if k = 5 then c5 else c6), (fun k => if k = 0 then j0 else if k = 1 then j1 else if k = 2 then j2 else if k = 3 then j3 else if k = 4 then j4 else if k = 5 then j5 else j6)), ?_⟩
    intro k q hq
    match k, hq with
    | 0, hq => cases hq; exact n0
    | 1, hq => cases hq; exact n1
    | 2, hq => cases hq; exact n2
    | 3, hq => cases hq; exact n3
    | 4, hq => cases hq; exact n4
    | 5, hq => cases hq; exact n5
    | 6, hq => cases hq; exact n6
    | k + 7, hq => simp [vwCl] at hq
  obtain ⟨cI, kI, pI, h1, h2, h3⟩ := Cond.arrayClass_spec (hU _ wd_38)
  have hao : (Cond.arrayOver (.object RX1)).before #[Value.ref sc] s = true := hts _ (List.mem_of_getElem? (i := 96) (by decide +kernel))
  have hao2 : va_AO RX1 s := va_AO.of hao
  obtain ⟨pR, cR, kR, g1, g2, g3, g4, g5⟩ := Cond.arrayOver_spec hao2
  have hT : ∀ (k : Nat) (q : ClassId × FieldType), (zT cI cR)[k]? = some q → ArrOfT s q.1 q.2 ∧ va_RA s q.1 q.2 := by
    intro k q hq
    match k, hq with
    | 0, hq => cases hq; exact ⟨fun n z => ⟨(fun k h => (by cases h)), kI, h2, pI, h3⟩, h1⟩
    | 1, hq => cases hq; exact ⟨fun n z => ⟨(fun k h => (by cases h)), kR, g3, pR, g4⟩, kR, pR, g3, g4, g1, g5⟩
    | k + 2, hq => simp [zT] at hq
  have w0 : va_Nw (.methodLinkNest RX0 29 yX5_isWithin RX5) s := va_Nw.of rfl (hts _ (List.mem_of_getElem? (i := 506) (by decide +kernel)))
  have w1 : va_Nw (.methodLinkNest RX1 116 yX5_isWithin RX5) s := va_Nw.of rfl (hts _ (List.mem_of_getElem? (i := 311) (by decide +kernel)))
  have w2 : va_Nw (.methodLinkNest RX4 41 yX5_isWithin RX5) s := va_Nw.of rfl (hts _ (List.mem_of_getElem? (i := 565) (by decide +kernel)))
  have w3 : va_Nw (.methodLinkNest RX2 17 yX1_init RX5) s := va_Nw.of rfl (hts _ (List.mem_of_getElem? (i := 97) (by decide +kernel)))
  have w4 : va_Nw (.methodLinkNest RX5 11 yX1_init RX5) s := va_Nw.of rfl (hts _ (List.mem_of_getElem? (i := 68) (by decide +kernel)))
  have w5 : va_Nw (.methodLinkNest RX5 25 yX0_init RX5) s := va_Nw.of rfl (hts _ (List.mem_of_getElem? (i := 110) (by decide +kernel)))
  have w6 : va_Nw (.methodLinkNest RX5 32 yX3_init RX5) s := va_Nw.of rfl (hts _ (List.mem_of_getElem? (i := 135) (by decide +kernel)))
  have w7 : va_Nw (.methodLinkNest RX5 39 yX4_init RX5) s := va_Nw.of rfl (hts _ (List.mem_of_getElem? (i := 145) (by decide +kernel)))
  obtain ⟨A, hA⟩ : ∃ A : Nat → Prop, A = fun q => s.heap.size ≤ q := ⟨_, rfl⟩
  have hbA : ¬ A sc := by rw [hA]; exact Nat.not_le.mpr hbl
  have hAl : ∀ q, A q → s.heap.size ≤ q := fun q h => by rw [hA] at h; exact h
  have hV : zV D cI cR A [] s s.heap [] := ⟨⟨fun k q h => by simp at h, ⟨hKc, hT⟩, w0, w1, w2, w3, w4, w5, w6, w7, hao2⟩, ⟨fun i j p q h => by simp at h, fun k q h => by simp at h⟩, va_S.rf, fun q h => by rw [hA]; exact h⟩
  have hl := lv_entry ([.ref sc]) (n := 4) (Nat.le_of_ble_eq_true rfl)
  rw [lg_entry_eq]
  generalize (lg_sl ([.ref sc]) ++ List.replicate (4 - (lg_sl ([.ref sc])).length) Slot.unset).toArray = ls at hl ⊢
  have hl : lv_has ls 4 [(0, .ref sc)] := hl
  refine zz_new (pc := 0) (ci := 5) (fs := [.null, .null, .null, .null, .null, .int (nI 0), .int (nI 0), .int (nI 0)]) S hV iX5 tyX5 tyX5_ok wd_0 wd_1 wd_2 rfl (fun j hj => by rcases (show j = 0 ∨ j = 1 ∨ j = 2 ∨ j = 3 ∨ j = 4 ∨ j = 5 ∨ j = 6 ∨ j = 7 by omega) with rfl | rfl | rfl | rfl | rfl | rfl | rfl | rfl <;> rfl) (Nat.le_of_ble_eq_true rfl) (Nat.le_of_ble_eq_true rfl) dL_law_0 (fun q1 H hV => ?_)
  have hV : zV D cI cR A [(q1, .inr (5, [.null, .null, .null, .null, .null, .int (nI 0), .int (nI 0), .int (nI 0)]))] s H [] := hV
  refine lv_dup (pc := 3) S.1 S.2.1 dL_law_3 rfl ?_
  refine zz_callI (pc := 4) (As := []) (rest := [.ref q1]) (wr := []) S hV (c_X5_init l D cI cR q1 H.size) (zu0 wd_8) 0 rfl wd_2 wd_6 wd_7 rfl q_X5_init.2 ⟨⟨rfl, rfl⟩, Nat.le_of_ble_eq_true rfl, Nat.le_of_ble_eq_true rfl⟩ [0] [] rfl rfl (by decide) (by decide) (by decide) rfl rfl (Nat.le_of_ble_eq_true rfl) hl.1 ⟨Nat.le_of_ble_eq_true rfl, Nat.le_of_ble_eq_true rfl⟩ dL_law_4 (fun w1 H locs hp hV => ?_)
  obtain ⟨dx2, e1x2, e2x2, e3x2, e4x2, hx2, rx2, qax2, qbx2, qcx2, qdx2, qex2, bx2, b1x2, b2x2, b3x2, gx2, g1x2, vx2, v1x2, rfl⟩ := hp
  have hV : zV D cI cR A [(q1, .inr (5, [.ref dx2, .ref hx2, .ref bx2, .ref gx2, .ref vx2, .int (nI 50), .int (nI 400), .int (nI 10)])), (dx2, .inr (1, [.int (nI 0), .ref e1x2, .ref e2x2, .ref e3x2, .ref e4x2])), (e1x2, zA cI 8 (fun _ => 0)), (e2x2, zA cI 16 (fun _ => 0)), (e3x2, zA cI 16 (fun _ => 0)), (e4x2, zA cI 8 (fun _ => 0)), (hx2, .inr (2, [.ref rx2, .int (nI 0), .int (nI 0)])), (rx2, zAR cR 4 (rg qax2)), (qax2 0, .inr (1, [.int (nI ((fun _ => 0) 0)), .ref (qbx2 0), .ref (qcx2 0), .ref (qdx2 0), .ref (qex2 0)])), (qbx2 0, zA cI 8 ((fun _ _ => 0) 0)), (qcx2 0, zA cI 16 ((fun _ _ => 0) 0)), (qdx2 0, zA cI 16 ((fun _ _ => 0) 0)), (qex2 0, zA cI 8 ((fun _ _ => 0) 0)), (qax2 1, .inr (1, [.int (nI ((fun _ => 0) 1)), .ref (qbx2 1), .ref (qcx2 1), .ref (qdx2 1), .ref (qex2 1)])), (qbx2 1, zA cI 8 ((fun _ _ => 0) 1)), (qcx2 1, zA cI 16 ((fun _ _ => 0) 1)), (qdx2 1, zA cI 16 ((fun _ _ => 0) 1)), (qex2 1, zA cI 8 ((fun _ _ => 0) 1)), (qax2 2, .inr (1, [.int (nI ((fun _ => 0) 2)), .ref (qbx2 2), .ref (qcx2 2), .ref (qdx2 2), .ref (qex2 2)])), (qbx2 2, zA cI 8 ((fun _ _ => 0) 2)), (qcx2 2, zA cI 16 ((fun _ _ => 0) 2)), (qdx2 2, zA cI 16 ((fun _ _ => 0) 2)), (qex2 2, zA cI 8 ((fun _ _ => 0) 2)), (qax2 3, .inr (1, [.int (nI ((fun _ => 0) 3)), .ref (qbx2 3), .ref (qcx2 3), .ref (qdx2 3), .ref (qex2 3)])), (qbx2 3, zA cI 8 ((fun _ _ => 0) 3)), (qcx2 3, zA cI 16 ((fun _ _ => 0) 3)), (qdx2 3, zA cI 16 ((fun _ _ => 0) 3)), (qex2 3, zA cI 8 ((fun _ _ => 0) 3)), (bx2, .inr (0, [.ref b1x2, .ref b2x2, .ref b3x2, .int (nI 0), .int (nI 0), .int (nI 0)])), (b1x2, zA cI 272 (fun _ => 0)), (b2x2, zA cI 4096 (fun _ => 0)), (b3x2, zA cI 8 (fun _ => 0)), (gx2, .inr (3, [.ref g1x2])), (g1x2, zA cI 8 (fun _ => 0)), (vx2, .inr (4, [.ref v1x2])), (v1x2, zA cI 8 (fun _ => 0))] s H locs := hV.perm [0, 1, 2, 3, 4, 5, 6, 7, 8, 9, 10, 11, 12, 13, 14, 15, 16, 17, 18, 19, 20, 21, 22, 23, 24, 25, 26, 27, 28, 29, 30, 31, 32, 33, 34, 35] (by decide) rfl
  refine lv_astore_n (pc := 7) (lv' := [(1, .ref q1), (0, .ref sc)]) S.1 S.2.1 dL_law_7 rfl hl (by decide) rfl (fun ls hl => ?_)
  refine zz_new (pc := 8) (ci := 6) (fs := [.null, .null, .int (nI 0), .int (nI 0), .int (nI 0), .int (nI 0), .null, .null, .null, .null]) S hV iX6 tyX6 tyX6_ok wd_3 wd_4 wd_5 rfl (fun j hj => by rcases (show j = 0 ∨ j = 1 ∨ j = 2 ∨ j = 3 ∨ j = 4 ∨ j = 5 ∨ j = 6 ∨ j = 7 ∨ j = 8 ∨ j = 9 by omega) with rfl | rfl | rfl | rfl | rfl | rfl | rfl | rfl | rfl | rfl <;> rfl) (Nat.le_of_ble_eq_true rfl) (Nat.le_of_ble_eq_true rfl) dL_law_8 (fun q3 H hV => ?_)
  have hV : zV D cI cR A [(q1, .inr (5, [.ref dx2, .ref hx2, .ref bx2, .ref gx2, .ref vx2, .int (nI 50), .int (nI 400), .int (nI 10)])), (dx2, .inr (1, [.int (nI 0), .ref e1x2, .ref e2x2, .ref e3x2, .ref e4x2])), (e1x2, zA cI 8 (fun _ => 0)), (e2x2, zA cI 16 (fun _ => 0)), (e3x2, zA cI 16 (fun _ => 0)), (e4x2, zA cI 8 (fun _ => 0)), (hx2, .inr (2, [.ref rx2, .int (nI 0), .int (nI 0)])), (rx2, zAR cR 4 (rg qax2)), (qax2 0, .inr (1, [.int (nI ((fun _ => 0) 0)), .ref (qbx2 0), .ref (qcx2 0), .ref (qdx2 0), .ref (qex2 0)])), (qbx2 0, zA cI 8 ((fun _ _ => 0) 0)), (qcx2 0, zA cI 16 ((fun _ _ => 0) 0)), (qdx2 0, zA cI 16 ((fun _ _ => 0) 0)), (qex2 0, zA cI 8 ((fun _ _ => 0) 0)), (qax2 1, .inr (1, [.int (nI ((fun _ => 0) 1)), .ref (qbx2 1), .ref (qcx2 1), .ref (qdx2 1), .ref (qex2 1)])), (qbx2 1, zA cI 8 ((fun _ _ => 0) 1)), (qcx2 1, zA cI 16 ((fun _ _ => 0) 1)), (qdx2 1, zA cI 16 ((fun _ _ => 0) 1)), (qex2 1, zA cI 8 ((fun _ _ => 0) 1)), (qax2 2, .inr (1, [.int (nI ((fun _ => 0) 2)), .ref (qbx2 2), .ref (qcx2 2), .ref (qdx2 2), .ref (qex2 2)])), (qbx2 2, zA cI 8 ((fun _ _ => 0) 2)), (qcx2 2, zA cI 16 ((fun _ _ => 0) 2)), (qdx2 2, zA cI 16 ((fun _ _ => 0) 2)), (qex2 2, zA cI 8 ((fun _ _ => 0) 2)), (qax2 3, .inr (1, [.int (nI ((fun _ => 0) 3)), .ref (qbx2 3), .ref (qcx2 3), .ref (qdx2 3), .ref (qex2 3)])), (qbx2 3, zA cI 8 ((fun _ _ => 0) 3)), (qcx2 3, zA cI 16 ((fun _ _ => 0) 3)), (qdx2 3, zA cI 16 ((fun _ _ => 0) 3)), (qex2 3, zA cI 8 ((fun _ _ => 0) 3)), (bx2, .inr (0, [.ref b1x2, .ref b2x2, .ref b3x2, .int (nI 0), .int (nI 0), .int (nI 0)])), (b1x2, zA cI 272 (fun _ => 0)), (b2x2, zA cI 4096 (fun _ => 0)), (b3x2, zA cI 8 (fun _ => 0)), (gx2, .inr (3, [.ref g1x2])), (g1x2, zA cI 8 (fun _ => 0)), (vx2, .inr (4, [.ref v1x2])), (v1x2, zA cI 8 (fun _ => 0)), (q3, .inr (6, [.null, .null, .int (nI 0), .int (nI 0), .int (nI 0), .int (nI 0), .null, .null, .null, .null]))] s H locs := hV
  refine lv_dup (pc := 11) S.1 S.2.1 dL_law_11 rfl ?_
  refine zz_callI (pc := 12) (As := []) (rest := [.ref q3]) (wr := [(q1, .inr (5, [.ref dx2, .ref hx2, .ref bx2, .ref gx2, .ref vx2, .int (nI 50), .int (nI 400), .int (nI 10)])), (dx2, .inr (1, [.int (nI 0), .ref e1x2, .ref e2x2, .ref e3x2, .ref e4x2])), (e1x2, zA cI 8 (fun _ => 0)), (e2x2, zA cI 16 (fun _ => 0)), (e3x2, zA cI 16 (fun _ => 0)), (e4x2, zA cI 8 (fun _ => 0)), (hx2, .inr (2, [.ref rx2, .int (nI 0), .int (nI 0)])), (rx2, zAR cR 4 (rg qax2)), (qax2 0, .inr (1, [.int (nI ((fun _ => 0) 0)), .ref (qbx2 0), .ref (qcx2 0), .ref (qdx2 0), .ref (qex2 0)])), (qbx2 0, zA cI 8 ((fun _ _ => 0) 0)), (qcx2 0, zA cI 16 ((fun _ _ => 0) 0)), (qdx2 0, zA cI 16 ((fun _ _ => 0) 0)), (qex2 0, zA cI 8 ((fun _ _ => 0) 0)), (qax2 1, .inr (1, [.int (nI ((fun _ => 0) 1)), .ref (qbx2 1), .ref (qcx2 1), .ref (qdx2 1), .ref (qex2 1)])), (qbx2 1, zA cI 8 ((fun _ _ => 0) 1)), (qcx2 1, zA cI 16 ((fun _ _ => 0) 1)), (qdx2 1, zA cI 16 ((fun _ _ => 0) 1)), (qex2 1, zA cI 8 ((fun _ _ => 0) 1)), (qax2 2, .inr (1, [.int (nI ((fun _ => 0) 2)), .ref (qbx2 2), .ref (qcx2 2), .ref (qdx2 2), .ref (qex2 2)])), (qbx2 2, zA cI 8 ((fun _ _ => 0) 2)), (qcx2 2, zA cI 16 ((fun _ _ => 0) 2)), (qdx2 2, zA cI 16 ((fun _ _ => 0) 2)), (qex2 2, zA cI 8 ((fun _ _ => 0) 2)), (qax2 3, .inr (1, [.int (nI ((fun _ => 0) 3)), .ref (qbx2 3), .ref (qcx2 3), .ref (qdx2 3), .ref (qex2 3)])), (qbx2 3, zA cI 8 ((fun _ _ => 0) 3)), (qcx2 3, zA cI 16 ((fun _ _ => 0) 3)), (qdx2 3, zA cI 16 ((fun _ _ => 0) 3)), (qex2 3, zA cI 8 ((fun _ _ => 0) 3)), (bx2, .inr (0, [.ref b1x2, .ref b2x2, .ref b3x2, .int (nI 0), .int (nI 0), .int (nI 0)])), (b1x2, zA cI 272 (fun _ => 0)), (b2x2, zA cI 4096 (fun _ => 0)), (b3x2, zA cI 8 (fun _ => 0)), (gx2, .inr (3, [.ref g1x2])), (g1x2, zA cI 8 (fun _ => 0)), (vx2, .inr (4, [.ref v1x2])), (v1x2, zA cI 8 (fun _ => 0))]) S hV (c_X6_init l D cI cR q3 H.size) (zu0 wd_65) 0 rfl wd_5 wd_63 wd_64 rfl q_X6_init.2 ⟨⟨rfl, rfl⟩, Nat.le_of_ble_eq_true rfl, Nat.le_of_ble_eq_true rfl⟩ [36] [0, 1, 2, 3, 4, 5, 6, 7, 8, 9, 10, 11, 12, 13, 14, 15, 16, 17, 18, 19, 20, 21, 22, 23, 24, 25, 26, 27, 28, 29, 30, 31, 32, 33, 34, 35] rfl rfl (by decide) (by decide) (by decide) rfl rfl (Nat.le_of_ble_eq_true rfl) hl.1 ⟨Nat.le_of_ble_eq_true rfl, Nat.le_of_ble_eq_true rfl⟩ dL_law_12 (fun w1 H locs hp hV => ?_)
  obtain ⟨a1x4, a2x4, a3x4, a4x4, a5x4, a6x4, rfl⟩ := hp
  have hV : zV D cI cR A [(q1, .inr (5, [.ref dx2, .ref hx2, .ref bx2, .ref gx2, .ref vx2, .int (nI 50), .int (nI 400), .int (nI 10)])), (dx2, .inr (1, [.int (nI 0), .ref e1x2, .ref e2x2, .ref e3x2, .ref e4x2])), (e1x2, zA cI 8 (fun _ => 0)), (e2x2, zA cI 16 (fun _ => 0)), (e3x2, zA cI 16 (fun _ => 0)), (e4x2, zA cI 8 (fun _ => 0)), (hx2, .inr (2, [.ref rx2, .int (nI 0), .int (nI 0)])), (rx2, zAR cR 4 (rg qax2)), (qax2 0, .inr (1, [.int (nI ((fun _ => 0) 0)), .ref (qbx2 0), .ref (qcx2 0), .ref (qdx2 0), .ref (qex2 0)])), (qbx2 0, zA cI 8 ((fun _ _ => 0) 0)), (qcx2 0, zA cI 16 ((fun _ _ => 0) 0)), (qdx2 0, zA cI 16 ((fun _ _ => 0) 0)), (qex2 0, zA cI 8 ((fun _ _ => 0) 0)), (qax2 1, .inr (1, [.int (nI ((fun _ => 0) 1)), .ref (qbx2 1), .ref (qcx2 1), .ref (qdx2 1), .ref (qex2 1)])), (qbx2 1, zA cI 8 ((fun _ _ => 0) 1)), (qcx2 1, zA cI 16 ((fun _ _ => 0) 1)), (qdx2 1, zA cI 16 ((fun _ _ => 0) 1)), (qex2 1, zA cI 8 ((fun _ _ => 0) 1)), (qax2 2, .inr (1, [.int (nI ((fun _ => 0) 2)), .ref (qbx2 2), .ref (qcx2 2), .ref (qdx2 2), .ref (qex2 2)])), (qbx2 2, zA cI 8 ((fun _ _ => 0) 2)), (qcx2 2, zA cI 16 ((fun _ _ => 0) 2)), (qdx2 2, zA cI 16 ((fun _ _ => 0) 2)), (qex2 2, zA cI 8 ((fun _ _ => 0) 2)), (qax2 3, .inr (1, [.int (nI ((fun _ => 0) 3)), .ref (qbx2 3), .ref (qcx2 3), .ref (qdx2 3), .ref (qex2 3)])), (qbx2 3, zA cI 8 ((fun _ _ => 0) 3)), (qcx2 3, zA cI 16 ((fun _ _ => 0) 3)), (qdx2 3, zA cI 16 ((fun _ _ => 0) 3)), (qex2 3, zA cI 8 ((fun _ _ => 0) 3)), (bx2, .inr (0, [.ref b1x2, .ref b2x2, .ref b3x2, .int (nI 0), .int (nI 0), .int (nI 0)])), (b1x2, zA cI 272 (fun _ => 0)), (b2x2, zA cI 4096 (fun _ => 0)), (b3x2, zA cI 8 (fun _ => 0)), (gx2, .inr (3, [.ref g1x2])), (g1x2, zA cI 8 (fun _ => 0)), (vx2, .inr (4, [.ref v1x2])), (v1x2, zA cI 8 (fun _ => 0)), (q3, .inr (6, [.ref a1x4, .ref a2x4, .int (nI 0), .int (nI 50), .int (nI 400), .int (nI 10), .ref a3x4, .ref a4x4, .ref a5x4, .ref a6x4])), (a1x4, zA cI 49 (fun _ => 0)), (a2x4, zA cI 196 (fun _ => 0)), (a3x4, zA cI 4096 (fun _ => 0)), (a4x4, zA cI 8 (fun _ => 0)), (a5x4, zA cI 16 (fun _ => 0)), (a6x4, zA cI 8 (fun _ => 0))] s H locs := hV.perm [0, 1, 2, 3, 4, 5, 6, 7, 8, 9, 10, 11, 12, 13, 14, 15, 16, 17, 18, 19, 20, 21, 22, 23, 24, 25, 26, 27, 28, 29, 30, 31, 32, 33, 34, 35, 36, 37, 38, 39, 40, 41, 42] (by decide) rfl
  refine lv_astore_n (pc := 15) (lv' := [(2, .ref q3), (1, .ref q1), (0, .ref sc)]) S.1 S.2.1 dL_law_15 rfl hl (by decide) rfl (fun ls hl => ?_)
  refine zz_iconst (pc := 16) (v := nI 0) S dL_law_16 rfl ?_
  refine lv_istore_n (pc := 17) (lv' := [(3, .int (nI 0)), (2, .ref q3), (1, .ref q1), (0, .ref sc)]) S.1 S.2.1 dL_law_17 rfl hl (by decide) rfl (fun ls hl => ?_)
  refine W.widen (k := 43) (n := 9063) (Nat.le_of_ble_eq_true rfl) (Nat.le_of_ble_eq_true rfl) ?_
  exact law_loop D cI cR A hL9 C0 hbA hAl q1 q3 (N9 + 7) 0 (by omega) (by omega) H locs ⟨dx2, e1x2, e2x2, e3x2, e4x2, hx2, rx2, qax2, qbx2, qcx2, qdx2, qex2, bx2, b1x2, b2x2, b3x2, gx2, g1x2, vx2, v1x2, a1x4, a2x4, a3x4, a4x4, a5x4, a6x4, 50, 400, 10, 0, fun _ => 0, fun _ => 0, fun _ => 0, fun _ => 0, (fun _ => 0), (fun _ _ => 0), (fun _ _ => 0), (fun _ _ => 0), (fun _ _ => 0), 0, 0, 0, 0, 0, fun _ => 0, fun _ => 0, fun _ => 0, fun _ => 0, fun _ => 0, fun _ => 0, fun _ => 0, fun _ => 0, fun _ => 0, fun _ => 0, fun _ => 0, hV, lIv_0⟩ ls (lv_sub hl [3, 2, 1, 0] rfl)
