set_option maxHeartbeats 4000000 in
set_option maxRecDepth 100000 in
theorem arm_0 {p : Program} {l : Launch} {e : Env} {s : State} {m : MethodId} {below : List Frame} {meth : Method} {c : Code} (D : va_G) (cI cR : ClassId) (A : Nat → Prop) {sc N9 : Nat} {xs : Nat → Int32} (hL9 : N9 ≤ 3072) (C0 : lw_At p s m meth c sc N9 xs) (hbA : ¬ A sc) (z o i : Nat) (hi6 : i + 6 ≤ N9) {H : Heap} {locs : List Loc} (hst0 : lSt D cI cR A s z o H locs) {ls : Array Slot} (hl : lv_has ls 4 [(0, .ref sc), (1, .ref z), (2, .ref o), (3, .int (nI i))]) (K : ∀ (H : Heap) (locs : List Loc), lSt D cI cR A s z o H locs → ∀ ls : Array Slot, lv_has ls 4 [(0, .ref sc), (1, .ref z), (2, .ref o), (3, .int (nI i))] → W p l e room_1 s m #[Value.ref sc] below meth c H locs 43 9063 (lw_Z below #[Value.ref sc] s) (F0 m 737 ls [])) : W p l e room_1 s m #[Value.ref sc] below meth c H locs 43 9063 (lw_Z below #[Value.ref sc] s) (F0 m 156 ls []) := by
  refine lSt_el hst0 ?_
  intro d e1 e2 e3 e4 h r qa qb qc qd qe b b1 b2 b3 g g1 v v1 a1 a2 a3 a4 a5 a6 C V Ac n P X Y L hn9 hP hX hY hL nx dp cc tt kk sg rs cd cm en w hs rt bt nt en2 hV hI
  obtain ⟨hok, hset, hR, hnx, hdp, hbp, hhi⟩ := id hI
  obtain ⟨hx, hb, hr, hml, hown, hts, hXs, hbl, hlocks, hgv⟩ := C0
  have S : CallFix p m c cL_law 4 s #[Value.ref sc] wU RL := ⟨hx, hb, hml, hown, fun w9 h9 => hts w9 (wU_tbl w9 h9)⟩
  obtain ⟨u1, hz1, hs1⟩ := zI_of (xs (i + 1))
  unfold zR at hz1
  obtain ⟨u2, hz2, hs2⟩ := zI_of (xs (i + 2))
  unfold zR at hz2
  obtain ⟨u3, hz3, hs3⟩ := zI_of (xs (i + 3))
  unfold zR at hz3
  obtain ⟨u4, hz4, hs4⟩ := zI_of (xs (i + 4))
  unfold zR at hz4
  obtain ⟨u5, hz5, hs5⟩ := zI_of (xs (i + 5))
  unfold zR at hz5
  by_cases q1 : ((0 ≤ u1 ∧ u1 ≤ 99) ∧ (0 ≤ u2 ∧ u2 ≤ 99) ∧ (0 ≤ u3 ∧ u3 ≤ 99) ∧ (0 ≤ u4 ∧ u4 ≤ 99) ∧ (0 ≤ u5 ∧ u5 ≤ 3) ∧ ¬ (u1 = u3 ∧ u2 = u4))
  · obtain ⟨k1, hk1⟩ : ∃ k9 : Nat, u1 = (k9 : Int) := ⟨u1.toNat, by omega⟩
    subst hk1
    have hs1 : xs (i + 1) = nI k1 := hs1.trans (zI_nI k1)
    obtain ⟨k2, hk2⟩ : ∃ k9 : Nat, u2 = (k9 : Int) := ⟨u2.toNat, by omega⟩
    subst hk2
    have hs2 : xs (i + 2) = nI k2 := hs2.trans (zI_nI k2)
    obtain ⟨k3, hk3⟩ : ∃ k9 : Nat, u3 = (k9 : Int) := ⟨u3.toNat, by omega⟩
    subst hk3
    have hs3 : xs (i + 3) = nI k3 := hs3.trans (zI_nI k3)
    obtain ⟨k4, hk4⟩ : ∃ k9 : Nat, u4 = (k9 : Int) := ⟨u4.toNat, by omega⟩
    subst hk4
    have hs4 : xs (i + 4) = nI k4 := hs4.trans (zI_nI k4)
    obtain ⟨k5, hk5⟩ : ∃ k9 : Nat, u5 = (k9 : Int) := ⟨u5.toNat, by omega⟩
    subst hk5
    have hs5 : xs (i + 5) = nI k5 := hs5.trans (zI_nI k5)
    by_cases q2 : n < 8
    · refine lv_aload_n (pc := 156) S.1 S.2.1 dL_law_156 rfl (lv_at hl 1 rfl) ?_
      refine lv_aload_n (pc := 157) S.1 S.2.1 dL_law_157 rfl (lv_at hl 0 rfl) ?_
      refine lv_iload_n (pc := 158) S.1 S.2.1 dL_law_158 rfl (lv_at hl 3 rfl) ?_
      refine zz_iconst (pc := 159) (v := nI 1) S dL_law_159 rfl ?_
      refine zz_iadd (pc := 160) (v := nI (i + 1)) S dL_law_160 (n_add _ _) ?_
      refine zz_sld (pc := 161) (k := i + 1) S hXs hbl hbA hV.2.2.1 (by omega) (by omega) hs1 dL_law_161 ?_
      refine lv_aload_n (pc := 162) S.1 S.2.1 dL_law_162 rfl (lv_at hl 0 rfl) ?_
      refine lv_iload_n (pc := 163) S.1 S.2.1 dL_law_163 rfl (lv_at hl 3 rfl) ?_
      refine zz_iconst (pc := 164) (v := nI 2) S dL_law_164 rfl ?_
      refine zz_iadd (pc := 165) (v := nI (i + 2)) S dL_law_165 (n_add _ _) ?_
      refine zz_sld (pc := 166) (k := i + 2) S hXs hbl hbA hV.2.2.1 (by omega) (by omega) hs2 dL_law_166 ?_
      refine lv_aload_n (pc := 167) S.1 S.2.1 dL_law_167 rfl (lv_at hl 0 rfl) ?_
      refine lv_iload_n (pc := 168) S.1 S.2.1 dL_law_168 rfl (lv_at hl 3 rfl) ?_
      refine zz_iconst (pc := 169) (v := nI 3) S dL_law_169 rfl ?_
      refine zz_iadd (pc := 170) (v := nI (i + 3)) S dL_law_170 (n_add _ _) ?_
      refine zz_sld (pc := 171) (k := i + 3) S hXs hbl hbA hV.2.2.1 (by omega) (by omega) hs3 dL_law_171 ?_
      refine lv_aload_n (pc := 172) S.1 S.2.1 dL_law_172 rfl (lv_at hl 0 rfl) ?_
      refine lv_iload_n (pc := 173) S.1 S.2.1 dL_law_173 rfl (lv_at hl 3 rfl) ?_
      refine zz_iconst (pc := 174) (v := nI 4) S dL_law_174 rfl ?_
      refine zz_iadd (pc := 175) (v := nI (i + 4)) S dL_law_175 (n_add _ _) ?_
      refine zz_sld (pc := 176) (k := i + 4) S hXs hbl hbA hV.2.2.1 (by omega) (by omega) hs4 dL_law_176 ?_
      refine lv_aload_n (pc := 177) S.1 S.2.1 dL_law_177 rfl (lv_at hl 0 rfl) ?_
      refine lv_iload_n (pc := 178) S.1 S.2.1 dL_law_178 rfl (lv_at hl 3 rfl) ?_
      refine zz_iconst (pc := 179) (v := nI 5) S dL_law_179 rfl ?_
      refine zz_iadd (pc := 180) (v := nI (i + 5)) S dL_law_180 (n_add _ _) ?_
      refine zz_sld (pc := 181) (k := i + 5) S hXs hbl hbA hV.2.2.1 (by omega) (by omega) hs5 dL_law_181 ?_
      refine zz_callM (pc := 182) (As := [.int (nI k1), .int (nI k2), .int (nI k3), .int (nI k4), .int (nI k5)]) (rest := []) (wr := [(g, .inr (3, [.ref g1])), (g1, zA cI 8 cm), (v, .inr (4, [.ref v1])), (v1, zA cI 8 en), (o, .inr (6, [.ref a1, .ref a2, .int (nI dp), .int (nI C), .int (nI V), .int (nI Ac), .ref a3, .ref a4, .ref a5, .ref a6])), (a1, zA cI 49 w), (a2, zA cI 196 hs), (a3, zA cI 4096 rt), (a4, zA cI 8 bt), (a5, zA cI 16 nt), (a6, zA cI 8 en2)]) S hV (c_X5_addStroke_k l D cI cR z h b g v C V Ac d e1 e2 e3 e4 n P X Y L r qa qb qc qd qe hn9 hP hX hY hL nx dp b1 b2 b3 cc tt kk sg rs cd k1 k2 k3 k4 k5 H.size hok hset (by omega) (by omega) (by omega) (by omega)) (zuV wd_79 wd_76 wd_77 wd_78 wd_2) 5 rfl q_X5_addStroke ⟨⟨rfl, rfl⟩, Nat.le_of_ble_eq_true rfl, Nat.le_of_ble_eq_true rfl⟩ [0, 1, 2, 3, 4, 5, 6, 7, 8, 9, 10, 11, 12, 13, 14, 15, 16, 17, 18, 19, 20, 21, 22, 23, 24, 25, 26, 27, 28, 29, 30, 31] [32, 33, 34, 35, 36, 37, 38, 39, 40, 41, 42] rfl rfl (by decide) (by decide) (by decide) 0 rfl rfl rfl rfl rfl (Nat.le_of_ble_eq_true rfl) hl.1 ⟨Nat.le_of_ble_eq_true rfl, Nat.le_of_ble_eq_true rfl⟩ dL_law_182 (fun r1 w1 H locs hp hV => ?_)
      obtain ⟨rfl, rfl⟩ := hp
      have hV : zV D cI cR A [(z, .inr (5, [.ref d, .ref h, .ref b, .ref g, .ref v, .int (nI C), .int (nI V), .int (nI Ac)])), (d, .inr (1, [.int (nI (n + 1)), .ref e1, .ref e2, .ref e3, .ref e4])), (e1, zA cI 8 (va_up P n k5)), (e2, zA cI 16 (va_up (va_up X (2 * n) k1) (2 * n + 1) k3)), (e3, zA cI 16 (va_up (va_up Y (2 * n) k2) (2 * n + 1) k4)), (e4, zA cI 8 (va_up L n (2 * n))), (h, .inr (2, [.ref r, .int (nI ((nx + 1) % 4)), .int (nI (min (dp + 1) 4))])), (r, zAR cR 4 (rg qa)), (qa 0, .inr (1, [.int (nI ((va_up hn9 nx n) 0)), .ref (qb 0), .ref (qc 0), .ref (qd 0), .ref (qe 0)])), (qb 0, zA cI 8 ((va_up hP nx P) 0)), (qc 0, zA cI 16 ((va_up hX nx X) 0)), (qd 0, zA cI 16 ((va_up hY nx Y) 0)), (qe 0, zA cI 8 ((va_up hL nx L) 0)), (qa 1, .inr (1, [.int (nI ((va_up hn9 nx n) 1)), .ref (qb 1), .ref (qc 1), .ref (qd 1), .ref (qe 1)])), (qb 1, zA cI 8 ((va_up hP nx P) 1)), (qc 1, zA cI 16 ((va_up hX nx X) 1)), (qd 1, zA cI 16 ((va_up hY nx Y) 1)), (qe 1, zA cI 8 ((va_up hL nx L) 1)), (qa 2, .inr (1, [.int (nI ((va_up hn9 nx n) 2)), .ref (qb 2), .ref (qc 2), .ref (qd 2), .ref (qe 2)])), (qb 2, zA cI 8 ((va_up hP nx P) 2)), (qc 2, zA cI 16 ((va_up hX nx X) 2)), (qd 2, zA cI 16 ((va_up hY nx Y) 2)), (qe 2, zA cI 8 ((va_up hL nx L) 2)), (qa 3, .inr (1, [.int (nI ((va_up hn9 nx n) 3)), .ref (qb 3), .ref (qc 3), .ref (qd 3), .ref (qe 3)])), (qb 3, zA cI 8 ((va_up hP nx P) 3)), (qc 3, zA cI 16 ((va_up hX nx X) 3)), (qd 3, zA cI 16 ((va_up hY nx Y) 3)), (qe 3, zA cI 8 ((va_up hL nx L) 3)), (b, .inr (0, [.ref b1, .ref b2, .ref b3, .int (nI cc), .int (nI tt), .int (nI 0)])), (b1, zA cI 272 sg), (b2, zA cI 4096 rs), (b3, zA cI 8 cd), (g, .inr (3, [.ref g1])), (g1, zA cI 8 cm), (v, .inr (4, [.ref v1])), (v1, zA cI 8 en), (o, .inr (6, [.ref a1, .ref a2, .int (nI dp), .int (nI C), .int (nI V), .int (nI Ac), .ref a3, .ref a4, .ref a5, .ref a6])), (a1, zA cI 49 w), (a2, zA cI 196 hs), (a3, zA cI 4096 rt), (a4, zA cI 8 bt), (a5, zA cI 16 nt), (a6, zA cI 8 en2)] s H locs := hV.perm [11, 12, 13, 14, 15, 16, 17, 18, 19, 20, 21, 22, 23, 24, 25, 26, 27, 28, 29, 30, 31, 32, 33, 34, 35, 36, 37, 38, 39, 40, 41, 42, 0, 1, 2, 3, 4, 5, 6, 7, 8, 9, 10] (by decide) rfl
      refine lv_aload_n (pc := 185) S.1 S.2.1 dL_law_185 rfl (lv_at hl 2 rfl) ?_
      refine lv_aload_n (pc := 186) S.1 S.2.1 dL_law_186 rfl (lv_at hl 0 rfl) ?_
      refine lv_iload_n (pc := 187) S.1 S.2.1 dL_law_187 rfl (lv_at hl 3 rfl) ?_
      refine zz_iconst (pc := 188) (v := nI 1) S dL_law_188 rfl ?_
      refine zz_iadd (pc := 189) (v := nI (i + 1)) S dL_law_189 (n_add _ _) ?_
      refine zz_sld (pc := 190) (k := i + 1) S hXs hbl hbA hV.2.2.1 (by omega) (by omega) hs1 dL_law_190 ?_
      refine lv_aload_n (pc := 191) S.1 S.2.1 dL_law_191 rfl (lv_at hl 0 rfl) ?_
      refine lv_iload_n (pc := 192) S.1 S.2.1 dL_law_192 rfl (lv_at hl 3 rfl) ?_
      refine zz_iconst (pc := 193) (v := nI 2) S dL_law_193 rfl ?_
      refine zz_iadd (pc := 194) (v := nI (i + 2)) S dL_law_194 (n_add _ _) ?_
      refine zz_sld (pc := 195) (k := i + 2) S hXs hbl hbA hV.2.2.1 (by omega) (by omega) hs2 dL_law_195 ?_
      refine lv_aload_n (pc := 196) S.1 S.2.1 dL_law_196 rfl (lv_at hl 0 rfl) ?_
      refine lv_iload_n (pc := 197) S.1 S.2.1 dL_law_197 rfl (lv_at hl 3 rfl) ?_
      refine zz_iconst (pc := 198) (v := nI 3) S dL_law_198 rfl ?_
      refine zz_iadd (pc := 199) (v := nI (i + 3)) S dL_law_199 (n_add _ _) ?_
      refine zz_sld (pc := 200) (k := i + 3) S hXs hbl hbA hV.2.2.1 (by omega) (by omega) hs3 dL_law_200 ?_
      refine lv_aload_n (pc := 201) S.1 S.2.1 dL_law_201 rfl (lv_at hl 0 rfl) ?_
      refine lv_iload_n (pc := 202) S.1 S.2.1 dL_law_202 rfl (lv_at hl 3 rfl) ?_
      refine zz_iconst (pc := 203) (v := nI 4) S dL_law_203 rfl ?_
      refine zz_iadd (pc := 204) (v := nI (i + 4)) S dL_law_204 (n_add _ _) ?_
      refine zz_sld (pc := 205) (k := i + 4) S hXs hbl hbA hV.2.2.1 (by omega) (by omega) hs4 dL_law_205 ?_
      refine lv_aload_n (pc := 206) S.1 S.2.1 dL_law_206 rfl (lv_at hl 0 rfl) ?_
      refine lv_iload_n (pc := 207) S.1 S.2.1 dL_law_207 rfl (lv_at hl 3 rfl) ?_
      refine zz_iconst (pc := 208) (v := nI 5) S dL_law_208 rfl ?_
      refine zz_iadd (pc := 209) (v := nI (i + 5)) S dL_law_209 (n_add _ _) ?_
      refine zz_sld (pc := 210) (k := i + 5) S hXs hbl hbA hV.2.2.1 (by omega) (by omega) hs5 dL_law_210 ?_
      refine zz_callM (pc := 211) (As := [.int (nI k1), .int (nI k2), .int (nI k3), .int (nI k4), .int (nI k5)]) (rest := [.int (nI n)]) (wr := [(z, .inr (5, [.ref d, .ref h, .ref b, .ref g, .ref v, .int (nI C), .int (nI V), .int (nI Ac)])), (d, .inr (1, [.int (nI (n + 1)), .ref e1, .ref e2, .ref e3, .ref e4])), (e1, zA cI 8 (va_up P n k5)), (e2, zA cI 16 (va_up (va_up X (2 * n) k1) (2 * n + 1) k3)), (e3, zA cI 16 (va_up (va_up Y (2 * n) k2) (2 * n + 1) k4)), (e4, zA cI 8 (va_up L n (2 * n))), (h, .inr (2, [.ref r, .int (nI ((nx + 1) % 4)), .int (nI (min (dp + 1) 4))])), (r, zAR cR 4 (rg qa)), (qa 0, .inr (1, [.int (nI ((va_up hn9 nx n) 0)), .ref (qb 0), .ref (qc 0), .ref (qd 0), .ref (qe 0)])), (qb 0, zA cI 8 ((va_up hP nx P) 0)), (qc 0, zA cI 16 ((va_up hX nx X) 0)), (qd 0, zA cI 16 ((va_up hY nx Y) 0)), (qe 0, zA cI 8 ((va_up hL nx L) 0)), (qa 1, .inr (1, [.int (nI ((va_up hn9 nx n) 1)), .ref (qb 1), .ref (qc 1), .ref (qd 1), .ref (qe 1)])), (qb 1, zA cI 8 ((va_up hP nx P) 1)), (qc 1, zA cI 16 ((va_up hX nx X) 1)), (qd 1, zA cI 16 ((va_up hY nx Y) 1)), (qe 1, zA cI 8 ((va_up hL nx L) 1)), (qa 2, .inr (1, [.int (nI ((va_up hn9 nx n) 2)), .ref (qb 2), .ref (qc 2), .ref (qd 2), .ref (qe 2)])), (qb 2, zA cI 8 ((va_up hP nx P) 2)), (qc 2, zA cI 16 ((va_up hX nx X) 2)), (qd 2, zA cI 16 ((va_up hY nx Y) 2)), (qe 2, zA cI 8 ((va_up hL nx L) 2)), (qa 3, .inr (1, [.int (nI ((va_up hn9 nx n) 3)), .ref (qb 3), .ref (qc 3), .ref (qd 3), .ref (qe 3)])), (qb 3, zA cI 8 ((va_up hP nx P) 3)), (qc 3, zA cI 16 ((va_up hX nx X) 3)), (qd 3, zA cI 16 ((va_up hY nx Y) 3)), (qe 3, zA cI 8 ((va_up hL nx L) 3)), (b, .inr (0, [.ref b1, .ref b2, .ref b3, .int (nI cc), .int (nI tt), .int (nI 0)])), (b1, zA cI 272 sg), (b2, zA cI 4096 rs), (b3, zA cI 8 cd), (g, .inr (3, [.ref g1])), (g1, zA cI 8 cm), (v, .inr (4, [.ref v1])), (v1, zA cI 8 en), (a3, zA cI 4096 rt), (a4, zA cI 8 bt), (a5, zA cI 16 nt), (a6, zA cI 8 en2)]) S hV (c_X6_addStroke_k l D cI cR o a1 a2 a3 a4 a5 a6 dp C V Ac w hs n P X Y L k1 k2 k3 k4 k5 H.size hok.1 hR hset (by omega) (by omega) (by omega)) (zuV wd_132 wd_129 wd_130 wd_131 wd_5) 5 rfl q_X6_addStroke ⟨⟨rfl, rfl⟩, Nat.le_of_ble_eq_true rfl, Nat.le_of_ble_eq_true rfl⟩ [36, 37, 38] [0, 1, 2, 3, 4, 5, 6, 7, 8, 9, 10, 11, 12, 13, 14, 15, 16, 17, 18, 19, 20, 21, 22, 23, 24, 25, 26, 27, 28, 29, 30, 31, 32, 33, 34, 35, 39, 40, 41, 42] rfl rfl (by decide) (by decide) (by decide) 36 rfl rfl rfl rfl rfl (Nat.le_of_ble_eq_true rfl) hl.1 ⟨Nat.le_of_ble_eq_true rfl, Nat.le_of_ble_eq_true rfl⟩ dL_law_211 (fun r1 w1 H locs hp hV => ?_)
      obtain ⟨rfl, rfl⟩ := hp
      have hV : zV D cI cR A [(z, .inr (5, [.ref d, .ref h, .ref b, .ref g, .ref v, .int (nI C), .int (nI V), .int (nI Ac)])), (d, .inr (1, [.int (nI (n + 1)), .ref e1, .ref e2, .ref e3, .ref e4])), (e1, zA cI 8 (va_up P n k5)), (e2, zA cI 16 (va_up (va_up X (2 * n) k1) (2 * n + 1) k3)), (e3, zA cI 16 (va_up (va_up Y (2 * n) k2) (2 * n + 1) k4)), (e4, zA cI 8 (va_up L n (2 * n))), (h, .inr (2, [.ref r, .int (nI ((nx + 1) % 4)), .int (nI (min (dp + 1) 4))])), (r, zAR cR 4 (rg qa)), (qa 0, .inr (1, [.int (nI ((va_up hn9 nx n) 0)), .ref (qb 0), .ref (qc 0), .ref (qd 0), .ref (qe 0)])), (qb 0, zA cI 8 ((va_up hP nx P) 0)), (qc 0, zA cI 16 ((va_up hX nx X) 0)), (qd 0, zA cI 16 ((va_up hY nx Y) 0)), (qe 0, zA cI 8 ((va_up hL nx L) 0)), (qa 1, .inr (1, [.int (nI ((va_up hn9 nx n) 1)), .ref (qb 1), .ref (qc 1), .ref (qd 1), .ref (qe 1)])), (qb 1, zA cI 8 ((va_up hP nx P) 1)), (qc 1, zA cI 16 ((va_up hX nx X) 1)), (qd 1, zA cI 16 ((va_up hY nx Y) 1)), (qe 1, zA cI 8 ((va_up hL nx L) 1)), (qa 2, .inr (1, [.int (nI ((va_up hn9 nx n) 2)), .ref (qb 2), .ref (qc 2), .ref (qd 2), .ref (qe 2)])), (qb 2, zA cI 8 ((va_up hP nx P) 2)), (qc 2, zA cI 16 ((va_up hX nx X) 2)), (qd 2, zA cI 16 ((va_up hY nx Y) 2)), (qe 2, zA cI 8 ((va_up hL nx L) 2)), (qa 3, .inr (1, [.int (nI ((va_up hn9 nx n) 3)), .ref (qb 3), .ref (qc 3), .ref (qd 3), .ref (qe 3)])), (qb 3, zA cI 8 ((va_up hP nx P) 3)), (qc 3, zA cI 16 ((va_up hX nx X) 3)), (qd 3, zA cI 16 ((va_up hY nx Y) 3)), (qe 3, zA cI 8 ((va_up hL nx L) 3)), (b, .inr (0, [.ref b1, .ref b2, .ref b3, .int (nI cc), .int (nI tt), .int (nI 0)])), (b1, zA cI 272 sg), (b2, zA cI 4096 rs), (b3, zA cI 8 cd), (g, .inr (3, [.ref g1])), (g1, zA cI 8 cm), (v, .inr (4, [.ref v1])), (v1, zA cI 8 en), (o, .inr (6, [.ref a1, .ref a2, .int (nI (min (dp + 1) 4)), .int (nI C), .int (nI V), .int (nI Ac), .ref a3, .ref a4, .ref a5, .ref a6])), (a1, zA cI 49 (adw w n k1 k2 k3 k4 k5)), (a2, zA cI 196 (hst hs w dp)), (a3, zA cI 4096 rt), (a4, zA cI 8 bt), (a5, zA cI 16 nt), (a6, zA cI 8 en2)] s H locs := hV.perm [0, 1, 2, 3, 4, 5, 6, 7, 8, 9, 10, 11, 12, 13, 14, 15, 16, 17, 18, 19, 20, 21, 22, 23, 24, 25, 26, 27, 28, 29, 30, 31, 32, 33, 34, 35, 40, 41, 42, 36, 37, 38, 39] (by decide) rfl
      refine lv_icmp_eq (pc := 214) (tgt := 737) S.1 S.2.1 dL_law_214 (by decide) (fun _ => ?_) (fun c9 => absurd (rfl) c9)
      exact K H locs ⟨d, e1, e2, e3, e4, h, r, qa, qb, qc, qd, qe, b, b1, b2, b3, g, g1, v, v1, a1, a2, a3, a4, a5, a6, C, V, Ac, n + 1, va_up P n k5, va_up (va_up X (2 * n) k1) (2 * n + 1) k3, va_up (va_up Y (2 * n) k2) (2 * n + 1) k4, va_up L n (2 * n), va_up hn9 nx n, va_up hP nx P, va_up hX nx X, va_up hY nx Y, va_up hL nx L, (nx + 1) % 4, min (dp + 1) 4, cc, tt, 0, sg, rs, cd, cm, en, adw w n k1 k2 k3 k4 k5, hst hs w dp, rt, bt, nt, en2, hV, ⟨add_ok hok (by omega) (by omega), hset, adw_rl hR (by omega) _ _ _ _ _, Nat.mod_lt _ (by decide), Nat.min_le_right _ _, bp0 hbp _ _ _ _ _, hIv_keep hhi hnx hdp hok hR⟩⟩ ls hl
    · refine lv_aload_n (pc := 156) S.1 S.2.1 dL_law_156 rfl (lv_at hl 1 rfl) ?_
      refine lv_aload_n (pc := 157) S.1 S.2.1 dL_law_157 rfl (lv_at hl 0 rfl) ?_
      refine lv_iload_n (pc := 158) S.1 S.2.1 dL_law_158 rfl (lv_at hl 3 rfl) ?_
      refine zz_iconst (pc := 159) (v := nI 1) S dL_law_159 rfl ?_
      refine zz_iadd (pc := 160) (v := nI (i + 1)) S dL_law_160 (n_add _ _) ?_
      refine zz_sld (pc := 161) (k := i + 1) S hXs hbl hbA hV.2.2.1 (by omega) (by omega) hs1 dL_law_161 ?_
      refine lv_aload_n (pc := 162) S.1 S.2.1 dL_law_162 rfl (lv_at hl 0 rfl) ?_
      refine lv_iload_n (pc := 163) S.1 S.2.1 dL_law_163 rfl (lv_at hl 3 rfl) ?_
      refine zz_iconst (pc := 164) (v := nI 2) S dL_law_164 rfl ?_
      refine zz_iadd (pc := 165) (v := nI (i + 2)) S dL_law_165 (n_add _ _) ?_
      refine zz_sld (pc := 166) (k := i + 2) S hXs hbl hbA hV.2.2.1 (by omega) (by omega) hs2 dL_law_166 ?_
      refine lv_aload_n (pc := 167) S.1 S.2.1 dL_law_167 rfl (lv_at hl 0 rfl) ?_
      refine lv_iload_n (pc := 168) S.1 S.2.1 dL_law_168 rfl (lv_at hl 3 rfl) ?_
      refine zz_iconst (pc := 169) (v := nI 3) S dL_law_169 rfl ?_
      refine zz_iadd (pc := 170) (v := nI (i + 3)) S dL_law_170 (n_add _ _) ?_
      refine zz_sld (pc := 171) (k := i + 3) S hXs hbl hbA hV.2.2.1 (by omega) (by omega) hs3 dL_law_171 ?_
      refine lv_aload_n (pc := 172) S.1 S.2.1 dL_law_172 rfl (lv_at hl 0 rfl) ?_
      refine lv_iload_n (pc := 173) S.1 S.2.1 dL_law_173 rfl (lv_at hl 3 rfl) ?_
      refine zz_iconst (pc := 174) (v := nI 4) S dL_law_174 rfl ?_
      refine zz_iadd (pc := 175) (v := nI (i + 4)) S dL_law_175 (n_add _ _) ?_
      refine zz_sld (pc := 176) (k := i + 4) S hXs hbl hbA hV.2.2.1 (by omega) (by omega) hs4 dL_law_176 ?_
      refine lv_aload_n (pc := 177) S.1 S.2.1 dL_law_177 rfl (lv_at hl 0 rfl) ?_
      refine lv_iload_n (pc := 178) S.1 S.2.1 dL_law_178 rfl (lv_at hl 3 rfl) ?_
      refine zz_iconst (pc := 179) (v := nI 5) S dL_law_179 rfl ?_
      refine zz_iadd (pc := 180) (v := nI (i + 5)) S dL_law_180 (n_add _ _) ?_
      refine zz_sld (pc := 181) (k := i + 5) S hXs hbl hbA hV.2.2.1 (by omega) (by omega) hs5 dL_law_181 ?_
      refine zz_callV (pc := 182) (As := [.int (nI k1), .int (nI k2), .int (nI k3), .int (nI k4), .int (nI k5)]) (rest := []) S (c_X5_addStroke_f l D cI cR z h b g v C V Ac d e1 e2 e3 e4 n P X Y L k1 k2 k3 k4 k5 hok hset (by omega) (by omega)) (zuV wd_79 wd_76 wd_77 wd_78 wd_2) 5 rfl q_X5_addStroke ⟨⟨rfl, rfl⟩, Nat.le_of_ble_eq_true rfl, Nat.le_of_ble_eq_true rfl⟩ hV.1 [0, 1, 2, 3, 4, 5] rfl 0 rfl rfl rfl rfl rfl (Nat.le_of_ble_eq_true rfl) hl.1 ⟨Nat.le_of_ble_eq_true rfl, Nat.le_of_ble_eq_true rfl⟩ dL_law_182 ?_
      refine lv_aload_n (pc := 185) S.1 S.2.1 dL_law_185 rfl (lv_at hl 2 rfl) ?_
      refine lv_aload_n (pc := 186) S.1 S.2.1 dL_law_186 rfl (lv_at hl 0 rfl) ?_
      refine lv_iload_n (pc := 187) S.1 S.2.1 dL_law_187 rfl (lv_at hl 3 rfl) ?_
      refine zz_iconst (pc := 188) (v := nI 1) S dL_law_188 rfl ?_
      refine zz_iadd (pc := 189) (v := nI (i + 1)) S dL_law_189 (n_add _ _) ?_
      refine zz_sld (pc := 190) (k := i + 1) S hXs hbl hbA hV.2.2.1 (by omega) (by omega) hs1 dL_law_190 ?_
      refine lv_aload_n (pc := 191) S.1 S.2.1 dL_law_191 rfl (lv_at hl 0 rfl) ?_
      refine lv_iload_n (pc := 192) S.1 S.2.1 dL_law_192 rfl (lv_at hl 3 rfl) ?_
      refine zz_iconst (pc := 193) (v := nI 2) S dL_law_193 rfl ?_
      refine zz_iadd (pc := 194) (v := nI (i + 2)) S dL_law_194 (n_add _ _) ?_
      refine zz_sld (pc := 195) (k := i + 2) S hXs hbl hbA hV.2.2.1 (by omega) (by omega) hs2 dL_law_195 ?_
      refine lv_aload_n (pc := 196) S.1 S.2.1 dL_law_196 rfl (lv_at hl 0 rfl) ?_
      refine lv_iload_n (pc := 197) S.1 S.2.1 dL_law_197 rfl (lv_at hl 3 rfl) ?_
      refine zz_iconst (pc := 198) (v := nI 3) S dL_law_198 rfl ?_
      refine zz_iadd (pc := 199) (v := nI (i + 3)) S dL_law_199 (n_add _ _) ?_
      refine zz_sld (pc := 200) (k := i + 3) S hXs hbl hbA hV.2.2.1 (by omega) (by omega) hs3 dL_law_200 ?_
      refine lv_aload_n (pc := 201) S.1 S.2.1 dL_law_201 rfl (lv_at hl 0 rfl) ?_
      refine lv_iload_n (pc := 202) S.1 S.2.1 dL_law_202 rfl (lv_at hl 3 rfl) ?_
      refine zz_iconst (pc := 203) (v := nI 4) S dL_law_203 rfl ?_
      refine zz_iadd (pc := 204) (v := nI (i + 4)) S dL_law_204 (n_add _ _) ?_
      refine zz_sld (pc := 205) (k := i + 4) S hXs hbl hbA hV.2.2.1 (by omega) (by omega) hs4 dL_law_205 ?_
      refine lv_aload_n (pc := 206) S.1 S.2.1 dL_law_206 rfl (lv_at hl 0 rfl) ?_
      refine lv_iload_n (pc := 207) S.1 S.2.1 dL_law_207 rfl (lv_at hl 3 rfl) ?_
      refine zz_iconst (pc := 208) (v := nI 5) S dL_law_208 rfl ?_
      refine zz_iadd (pc := 209) (v := nI (i + 5)) S dL_law_209 (n_add _ _) ?_
      refine zz_sld (pc := 210) (k := i + 5) S hXs hbl hbA hV.2.2.1 (by omega) (by omega) hs5 dL_law_210 ?_
      refine zz_callV (pc := 211) (As := [.int (nI k1), .int (nI k2), .int (nI k3), .int (nI k4), .int (nI k5)]) (rest := [.int (zI (-2))]) S (c_X6_addStroke_f l D cI cR o a1 a2 a3 a4 a5 a6 dp C V Ac w n P X Y L k1 k2 k3 k4 k5 hok.1 hR hset (by omega) (by omega)) (zuV wd_132 wd_129 wd_130 wd_131 wd_5) 5 rfl q_X6_addStroke ⟨⟨rfl, rfl⟩, Nat.le_of_ble_eq_true rfl, Nat.le_of_ble_eq_true rfl⟩ hV.1 [36, 37] rfl 36 rfl rfl rfl rfl rfl (Nat.le_of_ble_eq_true rfl) hl.1 ⟨Nat.le_of_ble_eq_true rfl, Nat.le_of_ble_eq_true rfl⟩ dL_law_211 ?_
      refine lv_icmp_eq (pc := 214) (tgt := 737) S.1 S.2.1 dL_law_214 (by decide) (fun _ => ?_) (fun c9 => absurd (rfl) c9)
      exact K H locs ⟨d, e1, e2, e3, e4, h, r, qa, qb, qc, qd, qe, b, b1, b2, b3, g, g1, v, v1, a1, a2, a3, a4, a5, a6, C, V, Ac, n, P, X, Y, L, hn9, hP, hX, hY, hL, nx, dp, cc, tt, kk, sg, rs, cd, cm, en, w, hs, rt, bt, nt, en2, hV, hI⟩ ls hl
  · refine lv_aload_n (pc := 156) S.1 S.2.1 dL_law_156 rfl (lv_at hl 1 rfl) ?_
    refine lv_aload_n (pc := 157) S.1 S.2.1 dL_law_157 rfl (lv_at hl 0 rfl) ?_
    refine lv_iload_n (pc := 158) S.1 S.2.1 dL_law_158 rfl (lv_at hl 3 rfl) ?_
    refine zz_iconst (pc := 159) (v := nI 1) S dL_law_159 rfl ?_
    refine zz_iadd (pc := 160) (v := nI (i + 1)) S dL_law_160 (n_add _ _) ?_
    refine zz_sld (pc := 161) (k := i + 1) S hXs hbl hbA hV.2.2.1 (by omega) (by omega) hs1 dL_law_161 ?_
    refine lv_aload_n (pc := 162) S.1 S.2.1 dL_law_162 rfl (lv_at hl 0 rfl) ?_
    refine lv_iload_n (pc := 163) S.1 S.2.1 dL_law_163 rfl (lv_at hl 3 rfl) ?_
    refine zz_iconst (pc := 164) (v := nI 2) S dL_law_164 rfl ?_
    refine zz_iadd (pc := 165) (v := nI (i + 2)) S dL_law_165 (n_add _ _) ?_
    refine zz_sld (pc := 166) (k := i + 2) S hXs hbl hbA hV.2.2.1 (by omega) (by omega) hs2 dL_law_166 ?_
    refine lv_aload_n (pc := 167) S.1 S.2.1 dL_law_167 rfl (lv_at hl 0 rfl) ?_
    refine lv_iload_n (pc := 168) S.1 S.2.1 dL_law_168 rfl (lv_at hl 3 rfl) ?_
    refine zz_iconst (pc := 169) (v := nI 3) S dL_law_169 rfl ?_
    refine zz_iadd (pc := 170) (v := nI (i + 3)) S dL_law_170 (n_add _ _) ?_
    refine zz_sld (pc := 171) (k := i + 3) S hXs hbl hbA hV.2.2.1 (by omega) (by omega) hs3 dL_law_171 ?_
    refine lv_aload_n (pc := 172) S.1 S.2.1 dL_law_172 rfl (lv_at hl 0 rfl) ?_
    refine lv_iload_n (pc := 173) S.1 S.2.1 dL_law_173 rfl (lv_at hl 3 rfl) ?_
    refine zz_iconst (pc := 174) (v := nI 4) S dL_law_174 rfl ?_
    refine zz_iadd (pc := 175) (v := nI (i + 4)) S dL_law_175 (n_add _ _) ?_
    refine zz_sld (pc := 176) (k := i + 4) S hXs hbl hbA hV.2.2.1 (by omega) (by omega) hs4 dL_law_176 ?_
    refine lv_aload_n (pc := 177) S.1 S.2.1 dL_law_177 rfl (lv_at hl 0 rfl) ?_
    refine lv_iload_n (pc := 178) S.1 S.2.1 dL_law_178 rfl (lv_at hl 3 rfl) ?_
    refine zz_iconst (pc := 179) (v := nI 5) S dL_law_179 rfl ?_
    refine zz_iadd (pc := 180) (v := nI (i + 5)) S dL_law_180 (n_add _ _) ?_
    refine zz_sld (pc := 181) (k := i + 5) S hXs hbl hbA hV.2.2.1 (by omega) (by omega) hs5 dL_law_181 ?_
    refine zz_callV (pc := 182) (As := [.int (zI u1), .int (zI u2), .int (zI u3), .int (zI u4), .int (zI u5)]) (rest := []) S (c_X5_addStroke_e l D cI cR z h b g v C V Ac d e1 e2 e3 e4 n P X Y L u1 u2 u3 u4 u5 hok hset (by unfold zR; omega) (by unfold zR; omega) (by unfold zR; omega) (by unfold zR; omega) (by unfold zR; omega) (by omega)) (zuV wd_79 wd_76 wd_77 wd_78 wd_2) 5 rfl q_X5_addStroke ⟨⟨rfl, rfl⟩, Nat.le_of_ble_eq_true rfl, Nat.le_of_ble_eq_true rfl⟩ hV.1 [0, 1, 2, 3, 4, 5] rfl 0 rfl rfl rfl rfl rfl (Nat.le_of_ble_eq_true rfl) hl.1 ⟨Nat.le_of_ble_eq_true rfl, Nat.le_of_ble_eq_true rfl⟩ dL_law_182 ?_
    refine lv_aload_n (pc := 185) S.1 S.2.1 dL_law_185 rfl (lv_at hl 2 rfl) ?_
    refine lv_aload_n (pc := 186) S.1 S.2.1 dL_law_186 rfl (lv_at hl 0 rfl) ?_
    refine lv_iload_n (pc := 187) S.1 S.2.1 dL_law_187 rfl (lv_at hl 3 rfl) ?_
    refine zz_iconst (pc := 188) (v := nI 1) S dL_law_188 rfl ?_
    refine zz_iadd (pc := 189) (v := nI (i + 1)) S dL_law_189 (n_add _ _) ?_
    refine zz_sld (pc := 190) (k := i + 1) S hXs hbl hbA hV.2.2.1 (by omega) (by omega) hs1 dL_law_190 ?_
    refine lv_aload_n (pc := 191) S.1 S.2.1 dL_law_191 rfl (lv_at hl 0 rfl) ?_
    refine lv_iload_n (pc := 192) S.1 S.2.1 dL_law_192 rfl (lv_at hl 3 rfl) ?_
    refine zz_iconst (pc := 193) (v := nI 2) S dL_law_193 rfl ?_
    refine zz_iadd (pc := 194) (v := nI (i + 2)) S dL_law_194 (n_add _ _) ?_
    refine zz_sld (pc := 195) (k := i + 2) S hXs hbl hbA hV.2.2.1 (by omega) (by omega) hs2 dL_law_195 ?_
    refine lv_aload_n (pc := 196) S.1 S.2.1 dL_law_196 rfl (lv_at hl 0 rfl) ?_
    refine lv_iload_n (pc := 197) S.1 S.2.1 dL_law_197 rfl (lv_at hl 3 rfl) ?_
    refine zz_iconst (pc := 198) (v := nI 3) S dL_law_198 rfl ?_
    refine zz_iadd (pc := 199) (v := nI (i + 3)) S dL_law_199 (n_add _ _) ?_
    refine zz_sld (pc := 200) (k := i + 3) S hXs hbl hbA hV.2.2.1 (by omega) (by omega) hs3 dL_law_200 ?_
    refine lv_aload_n (pc := 201) S.1 S.2.1 dL_law_201 rfl (lv_at hl 0 rfl) ?_
    refine lv_iload_n (pc := 202) S.1 S.2.1 dL_law_202 rfl (lv_at hl 3 rfl) ?_
    refine zz_iconst (pc := 203) (v := nI 4) S dL_law_203 rfl ?_
    refine zz_iadd (pc := 204) (v := nI (i + 4)) S dL_law_204 (n_add _ _) ?_
    refine zz_sld (pc := 205) (k := i + 4) S hXs hbl hbA hV.2.2.1 (by omega) (by omega) hs4 dL_law_205 ?_
    refine lv_aload_n (pc := 206) S.1 S.2.1 dL_law_206 rfl (lv_at hl 0 rfl) ?_
    refine lv_iload_n (pc := 207) S.1 S.2.1 dL_law_207 rfl (lv_at hl 3 rfl) ?_
    refine zz_iconst (pc := 208) (v := nI 5) S dL_law_208 rfl ?_
    refine zz_iadd (pc := 209) (v := nI (i + 5)) S dL_law_209 (n_add _ _) ?_
    refine zz_sld (pc := 210) (k := i + 5) S hXs hbl hbA hV.2.2.1 (by omega) (by omega) hs5 dL_law_210 ?_
    refine zz_callV (pc := 211) (As := [.int (zI u1), .int (zI u2), .int (zI u3), .int (zI u4), .int (zI u5)]) (rest := [.int (zI (-1))]) S (c_X6_addStroke_e l D cI cR o a1 a2 a3 a4 a5 a6 dp C V Ac w n P X Y L u1 u2 u3 u4 u5 hok.1 hR hset (by unfold zR; omega) (by unfold zR; omega) (by unfold zR; omega) (by unfold zR; omega) (by unfold zR; omega) (by omega)) (zuV wd_132 wd_129 wd_130 wd_131 wd_5) 5 rfl q_X6_addStroke ⟨⟨rfl, rfl⟩, Nat.le_of_ble_eq_true rfl, Nat.le_of_ble_eq_true rfl⟩ hV.1 [36, 37] rfl 36 rfl rfl rfl rfl rfl (Nat.le_of_ble_eq_true rfl) hl.1 ⟨Nat.le_of_ble_eq_true rfl, Nat.le_of_ble_eq_true rfl⟩ dL_law_211 ?_
    refine lv_icmp_eq (pc := 214) (tgt := 737) S.1 S.2.1 dL_law_214 (by decide) (fun _ => ?_) (fun c9 => absurd (rfl) c9)
    exact K H locs ⟨d, e1, e2, e3, e4, h, r, qa, qb, qc, qd, qe, b, b1, b2, b3, g, g1, v, v1, a1, a2, a3, a4, a5, a6, C, V, Ac, n, P, X, Y, L, hn9, hP, hX, hY, hL, nx, dp, cc, tt, kk, sg, rs, cd, cm, en, w, hs, rt, bt, nt, en2, hV, hI⟩ ls hl
set_option maxHeartbeats 4000000 in
set_option maxRecDepth 100000 in
theorem arm_1 {p : Program} {l : Launch} {e : Env} {s : State} {m : MethodId} {below : List Frame} {meth : Method} {c : Code} (D : va_G) (cI cR : ClassId) (A : Nat → Prop) {sc N9 : Nat} {xs : Nat → Int32} (hL9 : N9 ≤ 3072) (C0 : lw_At p s m meth c sc N9 xs) (hbA : ¬ A sc) (z o i : Nat) (hi6 : i + 6 ≤ N9) {H : Heap} {locs : List Loc} (hst0 : lSt D cI cR A s z o H locs) {ls : Array Slot} (hl : lv_has ls 4 [(0, .ref sc), (1, .ref z), (2, .ref o), (3, .int (nI i))]) (K : ∀ (H : Heap) (locs : List Loc), lSt D cI cR A s z o H locs → ∀ ls : Array Slot, lv_has ls 4 [(0, .ref sc), (1, .ref z), (2, .ref o), (3, .int (nI i))] → W p l e room_1 s m #[Value.ref sc] below meth c H locs 43 9063 (lw_Z below #[Value.ref sc] s) (F0 m 737 ls [])) : W p l e room_1 s m #[Value.ref sc] below meth c H locs 43 9063 (lw_Z below #[Value.ref sc] s) (F0 m 219 ls []) := by
  refine lSt_el hst0 ?_
  intro d e1 e2 e3 e4 h r qa qb qc qd qe b b1 b2 b3 g g1 v v1 a1 a2 a3 a4 a5 a6 C V Ac n P X Y L hn9 hP hX hY hL nx dp cc tt kk sg rs cd cm en w hs rt bt nt en2 hV hI
  obtain ⟨hok, hset, hR, hnx, hdp, hbp, hhi⟩ := id hI
  obtain ⟨hx, hb, hr, hml, hown, hts, hXs, hbl, hlocks, hgv⟩ := C0
  have S : CallFix p m c cL_law 4 s #[Value.ref sc] wU RL := ⟨hx, hb, hml, hown, fun w9 h9 => hts w9 (wU_tbl w9 h9)⟩
  obtain ⟨u1, hz1, hs1⟩ := zI_of (xs (i + 1))
  unfold zR at hz1
  by_cases q1 : 0 ≤ u1 ∧ u1 < (n : Int)
  · obtain ⟨k1, hk1⟩ : ∃ k9 : Nat, u1 = (k9 : Int) := ⟨u1.toNat, by omega⟩
    subst hk1
    have hs1 : xs (i + 1) = nI k1 := hs1.trans (zI_nI k1)
    have ha9 : k1 < n := by omega
    refine lv_aload_n (pc := 219) S.1 S.2.1 dL_law_219 rfl (lv_at hl 1 rfl) ?_
    refine lv_aload_n (pc := 220) S.1 S.2.1 dL_law_220 rfl (lv_at hl 0 rfl) ?_
    refine lv_iload_n (pc := 221) S.1 S.2.1 dL_law_221 rfl (lv_at hl 3 rfl) ?_
    refine zz_iconst (pc := 222) (v := nI 1) S dL_law_222 rfl ?_
    refine zz_iadd (pc := 223) (v := nI (i + 1)) S dL_law_223 (n_add _ _) ?_
    refine zz_sld (pc := 224) (k := i + 1) S hXs hbl hbA hV.2.2.1 (by omega) (by omega) hs1 dL_law_224 ?_
    refine zz_callM (pc := 225) (As := [.int (nI k1)]) (rest := []) (wr := [(g, .inr (3, [.ref g1])), (g1, zA cI 8 cm), (v, .inr (4, [.ref v1])), (v1, zA cI 8 en), (o, .inr (6, [.ref a1, .ref a2, .int (nI dp), .int (nI C), .int (nI V), .int (nI Ac), .ref a3, .ref a4, .ref a5, .ref a6])), (a1, zA cI 49 w), (a2, zA cI 196 hs), (a3, zA cI 4096 rt), (a4, zA cI 8 bt), (a5, zA cI 16 nt), (a6, zA cI 8 en2)]) S hV (c_X5_removeStroke_k l D cI cR z h b g v C V Ac d e1 e2 e3 e4 n P X Y L r qa qb qc qd qe hn9 hP hX hY hL nx dp b1 b2 b3 cc tt kk sg rs cd k1 H.size hok hset (by omega) (by omega) (by omega)) (zuV wd_144 wd_141 wd_142 wd_143 wd_2) 1 rfl q_X5_removeStroke ⟨⟨rfl, rfl⟩, Nat.le_of_ble_eq_true rfl, Nat.le_of_ble_eq_true rfl⟩ [0, 1, 2, 3, 4, 5, 6, 7, 8, 9, 10, 11, 12, 13, 14, 15, 16, 17, 18, 19, 20, 21, 22, 23, 24, 25, 26, 27, 28, 29, 30, 31] [32, 33, 34, 35, 36, 37, 38, 39, 40, 41, 42] rfl rfl (by decide) (by decide) (by decide) 0 rfl rfl rfl rfl rfl (Nat.le_of_ble_eq_true rfl) hl.1 ⟨Nat.le_of_ble_eq_true rfl, Nat.le_of_ble_eq_true rfl⟩ dL_law_225 (fun r1 w1 H locs hp hV => ?_)
    obtain ⟨rfl, rfl⟩ := hp
    have hV : zV D cI cR A [(z, .inr (5, [.ref d, .ref h, .ref b, .ref g, .ref v, .int (nI C), .int (nI V), .int (nI Ac)])), (d, .inr (1, [.int (nI (n - 1)), .ref e1, .ref e2, .ref e3, .ref e4])), (e1, zA cI 8 (shl P 1 k1 (n - 1))), (e2, zA cI 16 (shl X 2 (2 * k1) (2 * n - 2))), (e3, zA cI 16 (shl Y 2 (2 * k1) (2 * n - 2))), (e4, zA cI 8 (dpl L k1 (pos n L k1) n)), (h, .inr (2, [.ref r, .int (nI ((nx + 1) % 4)), .int (nI (min (dp + 1) 4))])), (r, zAR cR 4 (rg qa)), (qa 0, .inr (1, [.int (nI ((va_up hn9 nx n) 0)), .ref (qb 0), .ref (qc 0), .ref (qd 0), .ref (qe 0)])), (qb 0, zA cI 8 ((va_up hP nx P) 0)), (qc 0, zA cI 16 ((va_up hX nx X) 0)), (qd 0, zA cI 16 ((va_up hY nx Y) 0)), (qe 0, zA cI 8 ((va_up hL nx L) 0)), (qa 1, .inr (1, [.int (nI ((va_up hn9 nx n) 1)), .ref (qb 1), .ref (qc 1), .ref (qd 1), .ref (qe 1)])), (qb 1, zA cI 8 ((va_up hP nx P) 1)), (qc 1, zA cI 16 ((va_up hX nx X) 1)), (qd 1, zA cI 16 ((va_up hY nx Y) 1)), (qe 1, zA cI 8 ((va_up hL nx L) 1)), (qa 2, .inr (1, [.int (nI ((va_up hn9 nx n) 2)), .ref (qb 2), .ref (qc 2), .ref (qd 2), .ref (qe 2)])), (qb 2, zA cI 8 ((va_up hP nx P) 2)), (qc 2, zA cI 16 ((va_up hX nx X) 2)), (qd 2, zA cI 16 ((va_up hY nx Y) 2)), (qe 2, zA cI 8 ((va_up hL nx L) 2)), (qa 3, .inr (1, [.int (nI ((va_up hn9 nx n) 3)), .ref (qb 3), .ref (qc 3), .ref (qd 3), .ref (qe 3)])), (qb 3, zA cI 8 ((va_up hP nx P) 3)), (qc 3, zA cI 16 ((va_up hX nx X) 3)), (qd 3, zA cI 16 ((va_up hY nx Y) 3)), (qe 3, zA cI 8 ((va_up hL nx L) 3)), (b, .inr (0, [.ref b1, .ref b2, .ref b3, .int (nI cc), .int (nI tt), .int (nI 0)])), (b1, zA cI 272 sg), (b2, zA cI 4096 rs), (b3, zA cI 8 cd), (g, .inr (3, [.ref g1])), (g1, zA cI 8 cm), (v, .inr (4, [.ref v1])), (v1, zA cI 8 en), (o, .inr (6, [.ref a1, .ref a2, .int (nI dp), .int (nI C), .int (nI V), .int (nI Ac), .ref a3, .ref a4, .ref a5, .ref a6])), (a1, zA cI 49 w), (a2, zA cI 196 hs), (a3, zA cI 4096 rt), (a4, zA cI 8 bt), (a5, zA cI 16 nt), (a6, zA cI 8 en2)] s H locs := hV.perm [11, 12, 13, 14, 15, 16, 17, 18, 19, 20, 21, 22, 23, 24, 25, 26, 27, 28, 29, 30, 31, 32, 33, 34, 35, 36, 37, 38, 39, 40, 41, 42, 0, 1, 2, 3, 4, 5, 6, 7, 8, 9, 10] (by decide) rfl
    refine lv_aload_n (pc := 228) S.1 S.2.1 dL_law_228 rfl (lv_at hl 2 rfl) ?_
    refine lv_aload_n (pc := 229) S.1 S.2.1 dL_law_229 rfl (lv_at hl 0 rfl) ?_
    refine lv_iload_n (pc := 230) S.1 S.2.1 dL_law_230 rfl (lv_at hl 3 rfl) ?_
    refine zz_iconst (pc := 231) (v := nI 1) S dL_law_231 rfl ?_
    refine zz_iadd (pc := 232) (v := nI (i + 1)) S dL_law_232 (n_add _ _) ?_
    refine zz_sld (pc := 233) (k := i + 1) S hXs hbl hbA hV.2.2.1 (by omega) (by omega) hs1 dL_law_233 ?_
    refine zz_callM (pc := 234) (As := [.int (nI k1)]) (rest := [.int (nI (n - 1))]) (wr := [(z, .inr (5, [.ref d, .ref h, .ref b, .ref g, .ref v, .int (nI C), .int (nI V), .int (nI Ac)])), (d, .inr (1, [.int (nI (n - 1)), .ref e1, .ref e2, .ref e3, .ref e4])), (e1, zA cI 8 (shl P 1 k1 (n - 1))), (e2, zA cI 16 (shl X 2 (2 * k1) (2 * n - 2))), (e3, zA cI 16 (shl Y 2 (2 * k1) (2 * n - 2))), (e4, zA cI 8 (dpl L k1 (pos n L k1) n)), (h, .inr (2, [.ref r, .int (nI ((nx + 1) % 4)), .int (nI (min (dp + 1) 4))])), (r, zAR cR 4 (rg qa)), (qa 0, .inr (1, [.int (nI ((va_up hn9 nx n) 0)), .ref (qb 0), .ref (qc 0), .ref (qd 0), .ref (qe 0)])), (qb 0, zA cI 8 ((va_up hP nx P) 0)), (qc 0, zA cI 16 ((va_up hX nx X) 0)), (qd 0, zA cI 16 ((va_up hY nx Y) 0)), (qe 0, zA cI 8 ((va_up hL nx L) 0)), (qa 1, .inr (1, [.int (nI ((va_up hn9 nx n) 1)), .ref (qb 1), .ref (qc 1), .ref (qd 1), .ref (qe 1)])), (qb 1, zA cI 8 ((va_up hP nx P) 1)), (qc 1, zA cI 16 ((va_up hX nx X) 1)), (qd 1, zA cI 16 ((va_up hY nx Y) 1)), (qe 1, zA cI 8 ((va_up hL nx L) 1)), (qa 2, .inr (1, [.int (nI ((va_up hn9 nx n) 2)), .ref (qb 2), .ref (qc 2), .ref (qd 2), .ref (qe 2)])), (qb 2, zA cI 8 ((va_up hP nx P) 2)), (qc 2, zA cI 16 ((va_up hX nx X) 2)), (qd 2, zA cI 16 ((va_up hY nx Y) 2)), (qe 2, zA cI 8 ((va_up hL nx L) 2)), (qa 3, .inr (1, [.int (nI ((va_up hn9 nx n) 3)), .ref (qb 3), .ref (qc 3), .ref (qd 3), .ref (qe 3)])), (qb 3, zA cI 8 ((va_up hP nx P) 3)), (qc 3, zA cI 16 ((va_up hX nx X) 3)), (qd 3, zA cI 16 ((va_up hY nx Y) 3)), (qe 3, zA cI 8 ((va_up hL nx L) 3)), (b, .inr (0, [.ref b1, .ref b2, .ref b3, .int (nI cc), .int (nI tt), .int (nI 0)])), (b1, zA cI 272 sg), (b2, zA cI 4096 rs), (b3, zA cI 8 cd), (g, .inr (3, [.ref g1])), (g1, zA cI 8 cm), (v, .inr (4, [.ref v1])), (v1, zA cI 8 en), (a3, zA cI 4096 rt), (a4, zA cI 8 bt), (a5, zA cI 16 nt), (a6, zA cI 8 en2)]) S hV (c_X6_removeStroke_k l D cI cR o a1 a2 a3 a4 a5 a6 dp C V Ac w hs n P X Y L k1 H.size hok hR hset (by omega) (by omega)) (zuV wd_161 wd_158 wd_159 wd_160 wd_5) 1 rfl q_X6_removeStroke ⟨⟨rfl, rfl⟩, Nat.le_of_ble_eq_true rfl, Nat.le_of_ble_eq_true rfl⟩ [36, 37, 38] [0, 1, 2, 3, 4, 5, 6, 7, 8, 9, 10, 11, 12, 13, 14, 15, 16, 17, 18, 19, 20, 21, 22, 23, 24, 25, 26, 27, 28, 29, 30, 31, 32, 33, 34, 35, 39, 40, 41, 42] rfl rfl (by decide) (by decide) (by decide) 36 rfl rfl rfl rfl rfl (Nat.le_of_ble_eq_true rfl) hl.1 ⟨Nat.le_of_ble_eq_true rfl, Nat.le_of_ble_eq_true rfl⟩ dL_law_234 (fun r1 w1 H locs hp hV => ?_)
    obtain ⟨rfl, rfl⟩ := hp
    have hV : zV D cI cR A [(z, .inr (5, [.ref d, .ref h, .ref b, .ref g, .ref v, .int (nI C), .int (nI V), .int (nI Ac)])), (d, .inr (1, [.int (nI (n - 1)), .ref e1, .ref e2, .ref e3, .ref e4])), (e1, zA cI 8 (shl P 1 k1 (n - 1))), (e2, zA cI 16 (shl X 2 (2 * k1) (2 * n - 2))), (e3, zA cI 16 (shl Y 2 (2 * k1) (2 * n - 2))), (e4, zA cI 8 (dpl L k1 (pos n L k1) n)), (h, .inr (2, [.ref r, .int (nI ((nx + 1) % 4)), .int (nI (min (dp + 1) 4))])), (r, zAR cR 4 (rg qa)), (qa 0, .inr (1, [.int (nI ((va_up hn9 nx n) 0)), .ref (qb 0), .ref (qc 0), .ref (qd 0), .ref (qe 0)])), (qb 0, zA cI 8 ((va_up hP nx P) 0)), (qc 0, zA cI 16 ((va_up hX nx X) 0)), (qd 0, zA cI 16 ((va_up hY nx Y) 0)), (qe 0, zA cI 8 ((va_up hL nx L) 0)), (qa 1, .inr (1, [.int (nI ((va_up hn9 nx n) 1)), .ref (qb 1), .ref (qc 1), .ref (qd 1), .ref (qe 1)])), (qb 1, zA cI 8 ((va_up hP nx P) 1)), (qc 1, zA cI 16 ((va_up hX nx X) 1)), (qd 1, zA cI 16 ((va_up hY nx Y) 1)), (qe 1, zA cI 8 ((va_up hL nx L) 1)), (qa 2, .inr (1, [.int (nI ((va_up hn9 nx n) 2)), .ref (qb 2), .ref (qc 2), .ref (qd 2), .ref (qe 2)])), (qb 2, zA cI 8 ((va_up hP nx P) 2)), (qc 2, zA cI 16 ((va_up hX nx X) 2)), (qd 2, zA cI 16 ((va_up hY nx Y) 2)), (qe 2, zA cI 8 ((va_up hL nx L) 2)), (qa 3, .inr (1, [.int (nI ((va_up hn9 nx n) 3)), .ref (qb 3), .ref (qc 3), .ref (qd 3), .ref (qe 3)])), (qb 3, zA cI 8 ((va_up hP nx P) 3)), (qc 3, zA cI 16 ((va_up hX nx X) 3)), (qd 3, zA cI 16 ((va_up hY nx Y) 3)), (qe 3, zA cI 8 ((va_up hL nx L) 3)), (b, .inr (0, [.ref b1, .ref b2, .ref b3, .int (nI cc), .int (nI tt), .int (nI 0)])), (b1, zA cI 272 sg), (b2, zA cI 4096 rs), (b3, zA cI 8 cd), (g, .inr (3, [.ref g1])), (g1, zA cI 8 cm), (v, .inr (4, [.ref v1])), (v1, zA cI 8 en), (o, .inr (6, [.ref a1, .ref a2, .int (nI (min (dp + 1) 4)), .int (nI C), .int (nI V), .int (nI Ac), .ref a3, .ref a4, .ref a5, .ref a6])), (a1, zA cI 49 (rmw w n k1 (pos n L k1))), (a2, zA cI 196 (hst hs w dp)), (a3, zA cI 4096 rt), (a4, zA cI 8 bt), (a5, zA cI 16 nt), (a6, zA cI 8 en2)] s H locs := hV.perm [0, 1, 2, 3, 4, 5, 6, 7, 8, 9, 10, 11, 12, 13, 14, 15, 16, 17, 18, 19, 20, 21, 22, 23, 24, 25, 26, 27, 28, 29, 30, 31, 32, 33, 34, 35, 40, 41, 42, 36, 37, 38, 39] (by decide) rfl
    refine lv_icmp_eq (pc := 237) (tgt := 737) S.1 S.2.1 dL_law_237 (by decide) (fun _ => ?_) (fun c9 => absurd (rfl) c9)
    exact K H locs ⟨d, e1, e2, e3, e4, h, r, qa, qb, qc, qd, qe, b, b1, b2, b3, g, g1, v, v1, a1, a2, a3, a4, a5, a6, C, V, Ac, n - 1, shl P 1 k1 (n - 1), shl X 2 (2 * k1) (2 * n - 2), shl Y 2 (2 * k1) (2 * n - 2), dpl L k1 (pos n L k1) n, va_up hn9 nx n, va_up hP nx P, va_up hX nx X, va_up hY nx Y, va_up hL nx L, (nx + 1) % 4, min (dp + 1) 4, cc, tt, 0, sg, rs, cd, cm, en, rmw w n k1 (pos n L k1), hst hs w dp, rt, bt, nt, en2, hV, ⟨(show zOk _ _ _ _ _ from drp_ok (d := (n, P, X, Y, L)) hok ha9), hset, rm_rl hR hok.1.1 ha9 (pos_ok hok ha9).1, Nat.mod_lt _ (by decide), Nat.min_le_right _ _, bp0 hbp _ _ _ _ _, hIv_keep hhi hnx hdp hok hR⟩⟩ ls hl
  · refine lv_aload_n (pc := 219) S.1 S.2.1 dL_law_219 rfl (lv_at hl 1 rfl) ?_
    refine lv_aload_n (pc := 220) S.1 S.2.1 dL_law_220 rfl (lv_at hl 0 rfl) ?_
    refine lv_iload_n (pc := 221) S.1 S.2.1 dL_law_221 rfl (lv_at hl 3 rfl) ?_
    refine zz_iconst (pc := 222) (v := nI 1) S dL_law_222 rfl ?_
    refine zz_iadd (pc := 223) (v := nI (i + 1)) S dL_law_223 (n_add _ _) ?_
    refine zz_sld (pc := 224) (k := i + 1) S hXs hbl hbA hV.2.2.1 (by omega) (by omega) hs1 dL_law_224 ?_
    refine zz_callV (pc := 225) (As := [.int (zI u1)]) (rest := []) S (c_X5_removeStroke_e l D cI cR z h b g v C V Ac d e1 e2 e3 e4 n P X Y L u1 hok hset (by unfold zR; omega) (by omega)) (zuV wd_144 wd_141 wd_142 wd_143 wd_2) 1 rfl q_X5_removeStroke ⟨⟨rfl, rfl⟩, Nat.le_of_ble_eq_true rfl, Nat.le_of_ble_eq_true rfl⟩ hV.1 [0, 1, 2, 3, 4, 5] rfl 0 rfl rfl rfl rfl rfl (Nat.le_of_ble_eq_true rfl) hl.1 ⟨Nat.le_of_ble_eq_true rfl, Nat.le_of_ble_eq_true rfl⟩ dL_law_225 ?_
    refine lv_aload_n (pc := 228) S.1 S.2.1 dL_law_228 rfl (lv_at hl 2 rfl) ?_
    refine lv_aload_n (pc := 229) S.1 S.2.1 dL_law_229 rfl (lv_at hl 0 rfl) ?_
    refine lv_iload_n (pc := 230) S.1 S.2.1 dL_law_230 rfl (lv_at hl 3 rfl) ?_
    refine zz_iconst (pc := 231) (v := nI 1) S dL_law_231 rfl ?_
    refine zz_iadd (pc := 232) (v := nI (i + 1)) S dL_law_232 (n_add _ _) ?_
    refine zz_sld (pc := 233) (k := i + 1) S hXs hbl hbA hV.2.2.1 (by omega) (by omega) hs1 dL_law_233 ?_
    refine zz_callV (pc := 234) (As := [.int (zI u1)]) (rest := [.int (zI (-1))]) S (c_X6_removeStroke_e l D cI cR o a1 a2 a3 a4 a5 a6 dp C V Ac w n P X Y L u1 hok.1 hR hset (by unfold zR; omega) (by omega)) (zuV wd_161 wd_158 wd_159 wd_160 wd_5) 1 rfl q_X6_removeStroke ⟨⟨rfl, rfl⟩, Nat.le_of_ble_eq_true rfl, Nat.le_of_ble_eq_true rfl⟩ hV.1 [36, 37] rfl 36 rfl rfl rfl rfl rfl (Nat.le_of_ble_eq_true rfl) hl.1 ⟨Nat.le_of_ble_eq_true rfl, Nat.le_of_ble_eq_true rfl⟩ dL_law_234 ?_
    refine lv_icmp_eq (pc := 237) (tgt := 737) S.1 S.2.1 dL_law_237 (by decide) (fun _ => ?_) (fun c9 => absurd (rfl) c9)
    exact K H locs ⟨d, e1, e2, e3, e4, h, r, qa, qb, qc, qd, qe, b, b1, b2, b3, g, g1, v, v1, a1, a2, a3, a4, a5, a6, C, V, Ac, n, P, X, Y, L, hn9, hP, hX, hY, hL, nx, dp, cc, tt, kk, sg, rs, cd, cm, en, w, hs, rt, bt, nt, en2, hV, hI⟩ ls hl
set_option maxHeartbeats 4000000 in
set_option maxRecDepth 100000 in
theorem arm_2 {p : Program} {l : Launch} {e : Env} {s : State} {m : MethodId} {below : List Frame} {meth : Method} {c : Code} (D : va_G) (cI cR : ClassId) (A : Nat → Prop) {sc N9 : Nat} {xs : Nat → Int32} (hL9 : N9 ≤ 3072) (C0 : lw_At p s m meth c sc N9 xs) (hbA : ¬ A sc) (z o i : Nat) (hi6 : i + 6 ≤ N9) {H : Heap} {locs : List Loc} (hst0 : lSt D cI cR A s z o H locs) {ls : Array Slot} (hl : lv_has ls 4 [(0, .ref sc), (1, .ref z), (2, .ref o), (3, .int (nI i))]) (K : ∀ (H : Heap) (locs : List Loc), lSt D cI cR A s z o H locs → ∀ ls : Array Slot, lv_has ls 4 [(0, .ref sc), (1, .ref z), (2, .ref o), (3, .int (nI i))] → W p l e room_1 s m #[Value.ref sc] below meth c H locs 43 9063 (lw_Z below #[Value.ref sc] s) (F0 m 737 ls [])) : W p l e room_1 s m #[Value.ref sc] below meth c H locs 43 9063 (lw_Z below #[Value.ref sc] s) (F0 m 242 ls []) := by
  refine lSt_el hst0 ?_
  intro d e1 e2 e3 e4 h r qa qb qc qd qe b b1 b2 b3 g g1 v v1 a1 a2 a3 a4 a5 a6 C V Ac n P X Y L hn9 hP hX hY hL nx dp cc tt kk sg rs cd cm en w hs rt bt nt en2 hV hI
  obtain ⟨hok, hset, hR, hnx, hdp, hbp, hhi⟩ := id hI
  obtain ⟨hx, hb, hr, hml, hown, hts, hXs, hbl, hlocks, hgv⟩ := C0
  have S : CallFix p m c cL_law 4 s #[Value.ref sc] wU RL := ⟨hx, hb, hml, hown, fun w9 h9 => hts w9 (wU_tbl w9 h9)⟩
  refine lv_aload_n (pc := 242) S.1 S.2.1 dL_law_242 rfl (lv_at hl 1 rfl) ?_
  refine zz_callV (pc := 243) (As := []) (rest := []) S (c_X5_strokeCount l D cI cR z h b g v C V Ac d e1 e2 e3 e4 n P X Y L hok hset) (zuV wd_173 wd_170 wd_171 wd_172 wd_2) 0 rfl q_X5_strokeCount ⟨⟨rfl, rfl⟩, Nat.le_of_ble_eq_true rfl, Nat.le_of_ble_eq_true rfl⟩ hV.1 [0, 1, 2, 3, 4, 5] rfl 0 rfl rfl rfl rfl rfl (Nat.le_of_ble_eq_true rfl) hl.1 ⟨Nat.le_of_ble_eq_true rfl, Nat.le_of_ble_eq_true rfl⟩ dL_law_243 ?_
  refine lv_aload_n (pc := 246) S.1 S.2.1 dL_law_246 rfl (lv_at hl 2 rfl) ?_
  refine zz_callV (pc := 247) (As := []) (rest := [.int (nI n)]) S (c_X6_strokeCount l D cI cR o a1 a2 a3 a4 a5 a6 dp C V Ac w n P X Y L hok.1 hR hset) (zuV wd_177 wd_174 wd_175 wd_176 wd_5) 0 rfl q_X6_strokeCount ⟨⟨rfl, rfl⟩, Nat.le_of_ble_eq_true rfl, Nat.le_of_ble_eq_true rfl⟩ hV.1 [36, 37] rfl 36 rfl rfl rfl rfl rfl (Nat.le_of_ble_eq_true rfl) hl.1 ⟨Nat.le_of_ble_eq_true rfl, Nat.le_of_ble_eq_true rfl⟩ dL_law_247 ?_
  refine lv_icmp_eq (pc := 250) (tgt := 737) S.1 S.2.1 dL_law_250 (by decide) (fun _ => ?_) (fun c9 => absurd (rfl) c9)
  exact K H locs ⟨d, e1, e2, e3, e4, h, r, qa, qb, qc, qd, qe, b, b1, b2, b3, g, g1, v, v1, a1, a2, a3, a4, a5, a6, C, V, Ac, n, P, X, Y, L, hn9, hP, hX, hY, hL, nx, dp, cc, tt, kk, sg, rs, cd, cm, en, w, hs, rt, bt, nt, en2, hV, hI⟩ ls hl
set_option maxHeartbeats 4000000 in
set_option maxRecDepth 100000 in
theorem arm_3 {p : Program} {l : Launch} {e : Env} {s : State} {m : MethodId} {below : List Frame} {meth : Method} {c : Code} (D : va_G) (cI cR : ClassId) (A : Nat → Prop) {sc N9 : Nat} {xs : Nat → Int32} (hL9 : N9 ≤ 3072) (C0 : lw_At p s m meth c sc N9 xs) (hbA : ¬ A sc) (z o i : Nat) (hi6 : i + 6 ≤ N9) {H : Heap} {locs : List Loc} (hst0 : lSt D cI cR A s z o H locs) {ls : Array Slot} (hl : lv_has ls 4 [(0, .ref sc), (1, .ref z), (2, .ref o), (3, .int (nI i))]) (K : ∀ (H : Heap) (locs : List Loc), lSt D cI cR A s z o H locs → ∀ ls : Array Slot, lv_has ls 4 [(0, .ref sc), (1, .ref z), (2, .ref o), (3, .int (nI i))] → W p l e room_1 s m #[Value.ref sc] below meth c H locs 43 9063 (lw_Z below #[Value.ref sc] s) (F0 m 737 ls [])) : W p l e room_1 s m #[Value.ref sc] below meth c H locs 43 9063 (lw_Z below #[Value.ref sc] s) (F0 m 255 ls []) := by
  refine lSt_el hst0 ?_
  intro d e1 e2 e3 e4 h r qa qb qc qd qe b b1 b2 b3 g g1 v v1 a1 a2 a3 a4 a5 a6 C V Ac n P X Y L hn9 hP hX hY hL nx dp cc tt kk sg rs cd cm en w hs rt bt nt en2 hV hI
  obtain ⟨hok, hset, hR, hnx, hdp, hbp, hhi⟩ := id hI
  obtain ⟨hx, hb, hr, hml, hown, hts, hXs, hbl, hlocks, hgv⟩ := C0
  have S : CallFix p m c cL_law 4 s #[Value.ref sc] wU RL := ⟨hx, hb, hml, hown, fun w9 h9 => hts w9 (wU_tbl w9 h9)⟩
  obtain ⟨u1, hz1, hs1⟩ := zI_of (xs (i + 1))
  unfold zR at hz1
  refine lv_aload_n (pc := 255) S.1 S.2.1 dL_law_255 rfl (lv_at hl 1 rfl) ?_
  refine lv_aload_n (pc := 256) S.1 S.2.1 dL_law_256 rfl (lv_at hl 0 rfl) ?_
  refine lv_iload_n (pc := 257) S.1 S.2.1 dL_law_257 rfl (lv_at hl 3 rfl) ?_
  refine zz_iconst (pc := 258) (v := nI 1) S dL_law_258 rfl ?_
  refine zz_iadd (pc := 259) (v := nI (i + 1)) S dL_law_259 (n_add _ _) ?_
  refine zz_sld (pc := 260) (k := i + 1) S hXs hbl hbA hV.2.2.1 (by omega) (by omega) hs1 dL_law_260 ?_
  refine zz_callV (pc := 261) (As := [.int (zI u1)]) (rest := []) S (c_X5_penOf l D cI cR z h b g v C V Ac d e1 e2 e3 e4 n P X Y L u1 hok hset (by unfold zR; omega)) (zuV wd_181 wd_178 wd_179 wd_180 wd_2) 1 rfl q_X5_penOf ⟨⟨rfl, rfl⟩, Nat.le_of_ble_eq_true rfl, Nat.le_of_ble_eq_true rfl⟩ hV.1 [0, 1, 2, 3, 4, 5] rfl 0 rfl rfl rfl rfl rfl (Nat.le_of_ble_eq_true rfl) hl.1 ⟨Nat.le_of_ble_eq_true rfl, Nat.le_of_ble_eq_true rfl⟩ dL_law_261 ?_
  refine lv_aload_n (pc := 264) S.1 S.2.1 dL_law_264 rfl (lv_at hl 2 rfl) ?_
  refine lv_aload_n (pc := 265) S.1 S.2.1 dL_law_265 rfl (lv_at hl 0 rfl) ?_
  refine lv_iload_n (pc := 266) S.1 S.2.1 dL_law_266 rfl (lv_at hl 3 rfl) ?_
  refine zz_iconst (pc := 267) (v := nI 1) S dL_law_267 rfl ?_
  refine zz_iadd (pc := 268) (v := nI (i + 1)) S dL_law_268 (n_add _ _) ?_
  refine zz_sld (pc := 269) (k := i + 1) S hXs hbl hbA hV.2.2.1 (by omega) (by omega) hs1 dL_law_269 ?_
  refine zz_callV (pc := 270) (As := [.int (zI u1)]) (rest := [.int (zI (an_penOf n P u1))]) S (c_X6_penOf l D cI cR o a1 a2 a3 a4 a5 a6 dp C V Ac w n P X Y L u1 hok.1 hR hset (by unfold zR; omega)) (zuV wd_189 wd_186 wd_187 wd_188 wd_5) 1 rfl q_X6_penOf ⟨⟨rfl, rfl⟩, Nat.le_of_ble_eq_true rfl, Nat.le_of_ble_eq_true rfl⟩ hV.1 [36, 37] rfl 36 rfl rfl rfl rfl rfl (Nat.le_of_ble_eq_true rfl) hl.1 ⟨Nat.le_of_ble_eq_true rfl, Nat.le_of_ble_eq_true rfl⟩ dL_law_270 ?_
  refine lv_icmp_eq (pc := 273) (tgt := 737) S.1 S.2.1 dL_law_273 (by decide) (fun _ => ?_) (fun c9 => absurd (rfl) c9)
  exact K H locs ⟨d, e1, e2, e3, e4, h, r, qa, qb, qc, qd, qe, b, b1, b2, b3, g, g1, v, v1, a1, a2, a3, a4, a5, a6, C, V, Ac, n, P, X, Y, L, hn9, hP, hX, hY, hL, nx, dp, cc, tt, kk, sg, rs, cd, cm, en, w, hs, rt, bt, nt, en2, hV, hI⟩ ls hl
set_option maxHeartbeats 4000000 in
set_option maxRecDepth 100000 in
theorem arm_4 {p : Program} {l : Launch} {e : Env} {s : State} {m : MethodId} {below : List Frame} {meth : Method} {c : Code} (D : va_G) (cI cR : ClassId) (A : Nat → Prop) {sc N9 : Nat} {xs : Nat → Int32} (hL9 : N9 ≤ 3072) (C0 : lw_At p s m meth c sc N9 xs) (hbA : ¬ A sc) (z o i : Nat) (hi6 : i + 6 ≤ N9) {H : Heap} {locs : List Loc} (hst0 : lSt D cI cR A s z o H locs) {ls : Array Slot} (hl : lv_has ls 4 [(0, .ref sc), (1, .ref z), (2, .ref o), (3, .int (nI i))]) (K : ∀ (H : Heap) (locs : List Loc), lSt D cI cR A s z o H locs → ∀ ls : Array Slot, lv_has ls 4 [(0, .ref sc), (1, .ref z), (2, .ref o), (3, .int (nI i))] → W p l e room_1 s m #[Value.ref sc] below meth c H locs 43 9063 (lw_Z below #[Value.ref sc] s) (F0 m 737 ls [])) : W p l e room_1 s m #[Value.ref sc] below meth c H locs 43 9063 (lw_Z below #[Value.ref sc] s) (F0 m 278 ls []) := by
  refine lSt_el hst0 ?_
  intro d e1 e2 e3 e4 h r qa qb qc qd qe b b1 b2 b3 g g1 v v1 a1 a2 a3 a4 a5 a6 C V Ac n P X Y L hn9 hP hX hY hL nx dp cc tt kk sg rs cd cm en w hs rt bt nt en2 hV hI
  obtain ⟨hok, hset, hR, hnx, hdp, hbp, hhi⟩ := id hI
  obtain ⟨hx, hb, hr, hml, hown, hts, hXs, hbl, hlocks, hgv⟩ := C0
  have S : CallFix p m c cL_law 4 s #[Value.ref sc] wU RL := ⟨hx, hb, hml, hown, fun w9 h9 => hts w9 (wU_tbl w9 h9)⟩
  obtain ⟨u1, hz1, hs1⟩ := zI_of (xs (i + 1))
  unfold zR at hz1
  refine lv_aload_n (pc := 278) S.1 S.2.1 dL_law_278 rfl (lv_at hl 1 rfl) ?_
  refine lv_aload_n (pc := 279) S.1 S.2.1 dL_law_279 rfl (lv_at hl 0 rfl) ?_
  refine lv_iload_n (pc := 280) S.1 S.2.1 dL_law_280 rfl (lv_at hl 3 rfl) ?_
  refine zz_iconst (pc := 281) (v := nI 1) S dL_law_281 rfl ?_
  refine zz_iadd (pc := 282) (v := nI (i + 1)) S dL_law_282 (n_add _ _) ?_
  refine zz_sld (pc := 283) (k := i + 1) S hXs hbl hbA hV.2.2.1 (by omega) (by omega) hs1 dL_law_283 ?_
  refine zz_callV (pc := 284) (As := [.int (zI u1)]) (rest := []) S (c_X5_alikeTo l D cI cR z h b g v C V Ac d e1 e2 e3 e4 n P X Y L u1 hok hset (by unfold zR; omega)) (zuV wd_197 wd_194 wd_195 wd_196 wd_2) 1 rfl q_X5_alikeTo ⟨⟨rfl, rfl⟩, Nat.le_of_ble_eq_true rfl, Nat.le_of_ble_eq_true rfl⟩ hV.1 [0, 1, 2, 3, 4, 5] rfl 0 rfl rfl rfl rfl rfl (Nat.le_of_ble_eq_true rfl) hl.1 ⟨Nat.le_of_ble_eq_true rfl, Nat.le_of_ble_eq_true rfl⟩ dL_law_284 ?_
  refine lv_aload_n (pc := 287) S.1 S.2.1 dL_law_287 rfl (lv_at hl 2 rfl) ?_
  refine lv_aload_n (pc := 288) S.1 S.2.1 dL_law_288 rfl (lv_at hl 0 rfl) ?_
  refine lv_iload_n (pc := 289) S.1 S.2.1 dL_law_289 rfl (lv_at hl 3 rfl) ?_
  refine zz_iconst (pc := 290) (v := nI 1) S dL_law_290 rfl ?_
  refine zz_iadd (pc := 291) (v := nI (i + 1)) S dL_law_291 (n_add _ _) ?_
  refine zz_sld (pc := 292) (k := i + 1) S hXs hbl hbA hV.2.2.1 (by omega) (by omega) hs1 dL_law_292 ?_
  refine zz_callV (pc := 293) (As := [.int (zI u1)]) (rest := [.int (zI (an_alike n P X Y u1))]) S (c_X6_alikeTo l D cI cR o a1 a2 a3 a4 a5 a6 dp C V Ac w n P X Y L u1 hok.1 hR hset (by unfold zR; omega)) (zuV wd_226 wd_223 wd_224 wd_225 wd_5) 1 rfl q_X6_alikeTo ⟨⟨rfl, rfl⟩, Nat.le_of_ble_eq_true rfl, Nat.le_of_ble_eq_true rfl⟩ hV.1 [36, 37] rfl 36 rfl rfl rfl rfl rfl (Nat.le_of_ble_eq_true rfl) hl.1 ⟨Nat.le_of_ble_eq_true rfl, Nat.le_of_ble_eq_true rfl⟩ dL_law_293 ?_
  refine lv_icmp_eq (pc := 296) (tgt := 737) S.1 S.2.1 dL_law_296 (by decide) (fun _ => ?_) (fun c9 => absurd (rfl) c9)
  exact K H locs ⟨d, e1, e2, e3, e4, h, r, qa, qb, qc, qd, qe, b, b1, b2, b3, g, g1, v, v1, a1, a2, a3, a4, a5, a6, C, V, Ac, n, P, X, Y, L, hn9, hP, hX, hY, hL, nx, dp, cc, tt, kk, sg, rs, cd, cm, en, w, hs, rt, bt, nt, en2, hV, hI⟩ ls hl
set_option maxHeartbeats 4000000 in
set_option maxRecDepth 100000 in
theorem arm_5 {p : Program} {l : Launch} {e : Env} {s : State} {m : MethodId} {below : List Frame} {meth : Method} {c : Code} (D : va_G) (cI cR : ClassId) (A : Nat → Prop) {sc N9 : Nat} {xs : Nat → Int32} (hL9 : N9 ≤ 3072) (C0 : lw_At p s m meth c sc N9 xs) (hbA : ¬ A sc) (z o i : Nat) (hi6 : i + 6 ≤ N9) {H : Heap} {locs : List Loc} (hst0 : lSt D cI cR A s z o H locs) {ls : Array Slot} (hl : lv_has ls 4 [(0, .ref sc), (1, .ref z), (2, .ref o), (3, .int (nI i))]) (K : ∀ (H : Heap) (locs : List Loc), lSt D cI cR A s z o H locs → ∀ ls : Array Slot, lv_has ls 4 [(0, .ref sc), (1, .ref z), (2, .ref o), (3, .int (nI i))] → W p l e room_1 s m #[Value.ref sc] below meth c H locs 43 9063 (lw_Z below #[Value.ref sc] s) (F0 m 737 ls [])) : W p l e room_1 s m #[Value.ref sc] below meth c H locs 43 9063 (lw_Z below #[Value.ref sc] s) (F0 m 301 ls []) := by
  refine lSt_el hst0 ?_
  intro d e1 e2 e3 e4 h r qa qb qc qd qe b b1 b2 b3 g g1 v v1 a1 a2 a3 a4 a5 a6 C V Ac n P X Y L hn9 hP hX hY hL nx dp cc tt kk sg rs cd cm en w hs rt bt nt en2 hV hI
  obtain ⟨hok, hset, hR, hnx, hdp, hbp, hhi⟩ := id hI
  obtain ⟨hx, hb, hr, hml, hown, hts, hXs, hbl, hlocks, hgv⟩ := C0
  have S : CallFix p m c cL_law 4 s #[Value.ref sc] wU RL := ⟨hx, hb, hml, hown, fun w9 h9 => hts w9 (wU_tbl w9 h9)⟩
  obtain ⟨u1, hz1, hs1⟩ := zI_of (xs (i + 1))
  unfold zR at hz1
  refine lv_aload_n (pc := 301) S.1 S.2.1 dL_law_301 rfl (lv_at hl 1 rfl) ?_
  refine lv_aload_n (pc := 302) S.1 S.2.1 dL_law_302 rfl (lv_at hl 0 rfl) ?_
  refine lv_iload_n (pc := 303) S.1 S.2.1 dL_law_303 rfl (lv_at hl 3 rfl) ?_
  refine zz_iconst (pc := 304) (v := nI 1) S dL_law_304 rfl ?_
  refine zz_iadd (pc := 305) (v := nI (i + 1)) S dL_law_305 (n_add _ _) ?_
  refine zz_sld (pc := 306) (k := i + 1) S hXs hbl hbA hV.2.2.1 (by omega) (by omega) hs1 dL_law_306 ?_
  refine zz_callV (pc := 307) (As := [.int (zI u1)]) (rest := []) S (c_X5_coveredBy l D cI cR z h b g v C V Ac d e1 e2 e3 e4 n P X Y L u1 hok hset (by unfold zR; omega)) (zuV wd_234 wd_231 wd_232 wd_233 wd_2) 1 rfl q_X5_coveredBy ⟨⟨rfl, rfl⟩, Nat.le_of_ble_eq_true rfl, Nat.le_of_ble_eq_true rfl⟩ hV.1 [0, 1, 2, 3, 4, 5] rfl 0 rfl rfl rfl rfl rfl (Nat.le_of_ble_eq_true rfl) hl.1 ⟨Nat.le_of_ble_eq_true rfl, Nat.le_of_ble_eq_true rfl⟩ dL_law_307 ?_
  refine lv_aload_n (pc := 310) S.1 S.2.1 dL_law_310 rfl (lv_at hl 2 rfl) ?_
  refine lv_aload_n (pc := 311) S.1 S.2.1 dL_law_311 rfl (lv_at hl 0 rfl) ?_
  refine lv_iload_n (pc := 312) S.1 S.2.1 dL_law_312 rfl (lv_at hl 3 rfl) ?_
  refine zz_iconst (pc := 313) (v := nI 1) S dL_law_313 rfl ?_
  refine zz_iadd (pc := 314) (v := nI (i + 1)) S dL_law_314 (n_add _ _) ?_
  refine zz_sld (pc := 315) (k := i + 1) S hXs hbl hbA hV.2.2.1 (by omega) (by omega) hs1 dL_law_315 ?_
  refine zz_callV (pc := 316) (As := [.int (zI u1)]) (rest := [.int (zI (an_cover n P X Y u1))]) S (c_X6_coveredBy l D cI cR o a1 a2 a3 a4 a5 a6 dp C V Ac w n P X Y L u1 hok.1 hR hset (by unfold zR; omega)) (zuV wd_262 wd_259 wd_260 wd_261 wd_5) 1 rfl q_X6_coveredBy ⟨⟨rfl, rfl⟩, Nat.le_of_ble_eq_true rfl, Nat.le_of_ble_eq_true rfl⟩ hV.1 [36, 37] rfl 36 rfl rfl rfl rfl rfl (Nat.le_of_ble_eq_true rfl) hl.1 ⟨Nat.le_of_ble_eq_true rfl, Nat.le_of_ble_eq_true rfl⟩ dL_law_316 ?_
  refine lv_icmp_eq (pc := 319) (tgt := 737) S.1 S.2.1 dL_law_319 (by decide) (fun _ => ?_) (fun c9 => absurd (rfl) c9)
  exact K H locs ⟨d, e1, e2, e3, e4, h, r, qa, qb, qc, qd, qe, b, b1, b2, b3, g, g1, v, v1, a1, a2, a3, a4, a5, a6, C, V, Ac, n, P, X, Y, L, hn9, hP, hX, hY, hL, nx, dp, cc, tt, kk, sg, rs, cd, cm, en, w, hs, rt, bt, nt, en2, hV, hI⟩ ls hl
set_option maxHeartbeats 4000000 in
set_option maxRecDepth 100000 in
theorem arm_6 {p : Program} {l : Launch} {e : Env} {s : State} {m : MethodId} {below : List Frame} {meth : Method} {c : Code} (D : va_G) (cI cR : ClassId) (A : Nat → Prop) {sc N9 : Nat} {xs : Nat → Int32} (hL9 : N9 ≤ 3072) (C0 : lw_At p s m meth c sc N9 xs) (hbA : ¬ A sc) (z o i : Nat) (hi6 : i + 6 ≤ N9) {H : Heap} {locs : List Loc} (hst0 : lSt D cI cR A s z o H locs) {ls : Array Slot} (hl : lv_has ls 4 [(0, .ref sc), (1, .ref z), (2, .ref o), (3, .int (nI i))]) (K : ∀ (H : Heap) (locs : List Loc), lSt D cI cR A s z o H locs → ∀ ls : Array Slot, lv_has ls 4 [(0, .ref sc), (1, .ref z), (2, .ref o), (3, .int (nI i))] → W p l e room_1 s m #[Value.ref sc] below meth c H locs 43 9063 (lw_Z below #[Value.ref sc] s) (F0 m 737 ls [])) : W p l e room_1 s m #[Value.ref sc] below meth c H locs 43 9063 (lw_Z below #[Value.ref sc] s) (F0 m 324 ls []) := by
  refine lSt_el hst0 ?_
  intro d e1 e2 e3 e4 h r qa qb qc qd qe b b1 b2 b3 g g1 v v1 a1 a2 a3 a4 a5 a6 C V Ac n P X Y L hn9 hP hX hY hL nx dp cc tt kk sg rs cd cm en w hs rt bt nt en2 hV hI
  obtain ⟨hok, hset, hR, hnx, hdp, hbp, hhi⟩ := id hI
  obtain ⟨hx, hb, hr, hml, hown, hts, hXs, hbl, hlocks, hgv⟩ := C0
  have S : CallFix p m c cL_law 4 s #[Value.ref sc] wU RL := ⟨hx, hb, hml, hown, fun w9 h9 => hts w9 (wU_tbl w9 h9)⟩
  refine lv_aload_n (pc := 324) S.1 S.2.1 dL_law_324 rfl (lv_at hl 1 rfl) ?_
  refine zz_callM (pc := 325) (As := []) (rest := []) (wr := [(g, .inr (3, [.ref g1])), (g1, zA cI 8 cm), (v, .inr (4, [.ref v1])), (v1, zA cI 8 en), (o, .inr (6, [.ref a1, .ref a2, .int (nI dp), .int (nI C), .int (nI V), .int (nI Ac), .ref a3, .ref a4, .ref a5, .ref a6])), (a1, zA cI 49 w), (a2, zA cI 196 hs), (a3, zA cI 4096 rt), (a4, zA cI 8 bt), (a5, zA cI 16 nt), (a6, zA cI 8 en2)]) S hV (c_X5_removeDuplicates l D cI cR z h b g v C V Ac d e1 e2 e3 e4 n P X Y L r qa qb qc qd qe hn9 hP hX hY hL nx dp b1 b2 b3 cc tt kk sg rs cd H.size hok hset (by omega) (by omega)) (zuV wd_273 wd_270 wd_271 wd_272 wd_2) 0 rfl q_X5_removeDuplicates ⟨⟨rfl, rfl⟩, Nat.le_of_ble_eq_true rfl, Nat.le_of_ble_eq_true rfl⟩ [0, 1, 2, 3, 4, 5, 6, 7, 8, 9, 10, 11, 12, 13, 14, 15, 16, 17, 18, 19, 20, 21, 22, 23, 24, 25, 26, 27, 28, 29, 30, 31] [32, 33, 34, 35, 36, 37, 38, 39, 40, 41, 42] rfl rfl (by decide) (by decide) (by decide) 0 rfl rfl rfl rfl rfl (Nat.le_of_ble_eq_true rfl) hl.1 ⟨Nat.le_of_ble_eq_true rfl, Nat.le_of_ble_eq_true rfl⟩ dL_law_325 (fun r1 w1 H locs hp hV => ?_)
  obtain ⟨n5x1, P5x1, X5x1, Y5x1, L5x1, q5x1, ⟨rfl, rfl⟩, hddx1, hok5x1⟩ := hp
  have hV : zV D cI cR A [(z, .inr (5, [.ref d, .ref h, .ref b, .ref g, .ref v, .int (nI C), .int (nI V), .int (nI Ac)])), (d, .inr (1, [.int (nI n5x1), .ref e1, .ref e2, .ref e3, .ref e4])), (e1, zA cI 8 P5x1), (e2, zA cI 16 X5x1), (e3, zA cI 16 Y5x1), (e4, zA cI 8 L5x1), (h, .inr (2, [.ref r, .int (nI ((nx + 1) % 4)), .int (nI (min (dp + 1) 4))])), (r, zAR cR 4 (rg qa)), (qa 0, .inr (1, [.int (nI ((va_up hn9 nx n) 0)), .ref (qb 0), .ref (qc 0), .ref (qd 0), .ref (qe 0)])), (qb 0, zA cI 8 ((va_up hP nx P) 0)), (qc 0, zA cI 16 ((va_up hX nx X) 0)), (qd 0, zA cI 16 ((va_up hY nx Y) 0)), (qe 0, zA cI 8 ((va_up hL nx L) 0)), (qa 1, .inr (1, [.int (nI ((va_up hn9 nx n) 1)), .ref (qb 1), .ref (qc 1), .ref (qd 1), .ref (qe 1)])), (qb 1, zA cI 8 ((va_up hP nx P) 1)), (qc 1, zA cI 16 ((va_up hX nx X) 1)), (qd 1, zA cI 16 ((va_up hY nx Y) 1)), (qe 1, zA cI 8 ((va_up hL nx L) 1)), (qa 2, .inr (1, [.int (nI ((va_up hn9 nx n) 2)), .ref (qb 2), .ref (qc 2), .ref (qd 2), .ref (qe 2)])), (qb 2, zA cI 8 ((va_up hP nx P) 2)), (qc 2, zA cI 16 ((va_up hX nx X) 2)), (qd 2, zA cI 16 ((va_up hY nx Y) 2)), (qe 2, zA cI 8 ((va_up hL nx L) 2)), (qa 3, .inr (1, [.int (nI ((va_up hn9 nx n) 3)), .ref (qb 3), .ref (qc 3), .ref (qd 3), .ref (qe 3)])), (qb 3, zA cI 8 ((va_up hP nx P) 3)), (qc 3, zA cI 16 ((va_up hX nx X) 3)), (qd 3, zA cI 16 ((va_up hY nx Y) 3)), (qe 3, zA cI 8 ((va_up hL nx L) 3)), (b, .inr (0, [.ref b1, .ref b2, .ref b3, .int (nI cc), .int (nI tt), .int (nI 0)])), (b1, zA cI 272 sg), (b2, zA cI 4096 rs), (b3, zA cI 8 cd), (g, .inr (3, [.ref g1])), (g1, zA cI 8 cm), (v, .inr (4, [.ref v1])), (v1, zA cI 8 en), (o, .inr (6, [.ref a1, .ref a2, .int (nI dp), .int (nI C), .int (nI V), .int (nI Ac), .ref a3, .ref a4, .ref a5, .ref a6])), (a1, zA cI 49 w), (a2, zA cI 196 hs), (a3, zA cI 4096 rt), (a4, zA cI 8 bt), (a5, zA cI 16 nt), (a6, zA cI 8 en2)] s H locs := hV.perm [11, 12, 13, 14, 15, 16, 17, 18, 19, 20, 21, 22, 23, 24, 25, 26, 27, 28, 29, 30, 31, 32, 33, 34, 35, 36, 37, 38, 39, 40, 41, 42, 0, 1, 2, 3, 4, 5, 6, 7, 8, 9, 10] (by decide) rfl
  refine lv_aload_n (pc := 328) S.1 S.2.1 dL_law_328 rfl (lv_at hl 2 rfl) ?_
  refine zz_callM (pc := 329) (As := []) (rest := [.int (nI q5x1)]) (wr := [(z, .inr (5, [.ref d, .ref h, .ref b, .ref g, .ref v, .int (nI C), .int (nI V), .int (nI Ac)])), (d, .inr (1, [.int (nI n5x1), .ref e1, .ref e2, .ref e3, .ref e4])), (e1, zA cI 8 P5x1), (e2, zA cI 16 X5x1), (e3, zA cI 16 Y5x1), (e4, zA cI 8 L5x1), (h, .inr (2, [.ref r, .int (nI ((nx + 1) % 4)), .int (nI (min (dp + 1) 4))])), (r, zAR cR 4 (rg qa)), (qa 0, .inr (1, [.int (nI ((va_up hn9 nx n) 0)), .ref (qb 0), .ref (qc 0), .ref (qd 0), .ref (qe 0)])), (qb 0, zA cI 8 ((va_up hP nx P) 0)), (qc 0, zA cI 16 ((va_up hX nx X) 0)), (qd 0, zA cI 16 ((va_up hY nx Y) 0)), (qe 0, zA cI 8 ((va_up hL nx L) 0)), (qa 1, .inr (1, [.int (nI ((va_up hn9 nx n) 1)), .ref (qb 1), .ref (qc 1), .ref (qd 1), .ref (qe 1)])), (qb 1, zA cI 8 ((va_up hP nx P) 1)), (qc 1, zA cI 16 ((va_up hX nx X) 1)), (qd 1, zA cI 16 ((va_up hY nx Y) 1)), (qe 1, zA cI 8 ((va_up hL nx L) 1)), (qa 2, .inr (1, [.int (nI ((va_up hn9 nx n) 2)), .ref (qb 2), .ref (qc 2), .ref (qd 2), .ref (qe 2)])), (qb 2, zA cI 8 ((va_up hP nx P) 2)), (qc 2, zA cI 16 ((va_up hX nx X) 2)), (qd 2, zA cI 16 ((va_up hY nx Y) 2)), (qe 2, zA cI 8 ((va_up hL nx L) 2)), (qa 3, .inr (1, [.int (nI ((va_up hn9 nx n) 3)), .ref (qb 3), .ref (qc 3), .ref (qd 3), .ref (qe 3)])), (qb 3, zA cI 8 ((va_up hP nx P) 3)), (qc 3, zA cI 16 ((va_up hX nx X) 3)), (qd 3, zA cI 16 ((va_up hY nx Y) 3)), (qe 3, zA cI 8 ((va_up hL nx L) 3)), (b, .inr (0, [.ref b1, .ref b2, .ref b3, .int (nI cc), .int (nI tt), .int (nI 0)])), (b1, zA cI 272 sg), (b2, zA cI 4096 rs), (b3, zA cI 8 cd), (g, .inr (3, [.ref g1])), (g1, zA cI 8 cm), (v, .inr (4, [.ref v1])), (v1, zA cI 8 en), (a3, zA cI 4096 rt), (a4, zA cI 8 bt), (a5, zA cI 16 nt), (a6, zA cI 8 en2)]) S hV (c_X6_removeDuplicates l D cI cR o a1 a2 a3 a4 a5 a6 dp C V Ac w hs n P X Y L H.size hok hR hset (by omega)) (zuV wd_283 wd_280 wd_281 wd_282 wd_5) 0 rfl q_X6_removeDuplicates ⟨⟨rfl, rfl⟩, Nat.le_of_ble_eq_true rfl, Nat.le_of_ble_eq_true rfl⟩ [36, 37, 38] [0, 1, 2, 3, 4, 5, 6, 7, 8, 9, 10, 11, 12, 13, 14, 15, 16, 17, 18, 19, 20, 21, 22, 23, 24, 25, 26, 27, 28, 29, 30, 31, 32, 33, 34, 35, 39, 40, 41, 42] rfl rfl (by decide) (by decide) (by decide) 36 rfl rfl rfl rfl rfl (Nat.le_of_ble_eq_true rfl) hl.1 ⟨Nat.le_of_ble_eq_true rfl, Nat.le_of_ble_eq_true rfl⟩ dL_law_329 (fun r1 w1 H locs hp hV => ?_)
  obtain ⟨n5x2, P5x2, X5x2, Y5x2, L5x2, w5x2, q5x2, ⟨rfl, rfl⟩, hddx2, hR5x2⟩ := hp
  have hV : zV D cI cR A [(z, .inr (5, [.ref d, .ref h, .ref b, .ref g, .ref v, .int (nI C), .int (nI V), .int (nI Ac)])), (d, .inr (1, [.int (nI n5x1), .ref e1, .ref e2, .ref e3, .ref e4])), (e1, zA cI 8 P5x1), (e2, zA cI 16 X5x1), (e3, zA cI 16 Y5x1), (e4, zA cI 8 L5x1), (h, .inr (2, [.ref r, .int (nI ((nx + 1) % 4)), .int (nI (min (dp + 1) 4))])), (r, zAR cR 4 (rg qa)), (qa 0, .inr (1, [.int (nI ((va_up hn9 nx n) 0)), .ref (qb 0), .ref (qc 0), .ref (qd 0), .ref (qe 0)])), (qb 0, zA cI 8 ((va_up hP nx P) 0)), (qc 0, zA cI 16 ((va_up hX nx X) 0)), (qd 0, zA cI 16 ((va_up hY nx Y) 0)), (qe 0, zA cI 8 ((va_up hL nx L) 0)), (qa 1, .inr (1, [.int (nI ((va_up hn9 nx n) 1)), .ref (qb 1), .ref (qc 1), .ref (qd 1), .ref (qe 1)])), (qb 1, zA cI 8 ((va_up hP nx P) 1)), (qc 1, zA cI 16 ((va_up hX nx X) 1)), (qd 1, zA cI 16 ((va_up hY nx Y) 1)), (qe 1, zA cI 8 ((va_up hL nx L) 1)), (qa 2, .inr (1, [.int (nI ((va_up hn9 nx n) 2)), .ref (qb 2), .ref (qc 2), .ref (qd 2), .ref (qe 2)])), (qb 2, zA cI 8 ((va_up hP nx P) 2)), (qc 2, zA cI 16 ((va_up hX nx X) 2)), (qd 2, zA cI 16 ((va_up hY nx Y) 2)), (qe 2, zA cI 8 ((va_up hL nx L) 2)), (qa 3, .inr (1, [.int (nI ((va_up hn9 nx n) 3)), .ref (qb 3), .ref (qc 3), .ref (qd 3), .ref (qe 3)])), (qb 3, zA cI 8 ((va_up hP nx P) 3)), (qc 3, zA cI 16 ((va_up hX nx X) 3)), (qd 3, zA cI 16 ((va_up hY nx Y) 3)), (qe 3, zA cI 8 ((va_up hL nx L) 3)), (b, .inr (0, [.ref b1, .ref b2, .ref b3, .int (nI cc), .int (nI tt), .int (nI 0)])), (b1, zA cI 272 sg), (b2, zA cI 4096 rs), (b3, zA cI 8 cd), (g, .inr (3, [.ref g1])), (g1, zA cI 8 cm), (v, .inr (4, [.ref v1])), (v1, zA cI 8 en), (o, .inr (6, [.ref a1, .ref a2, .int (nI (min (dp + 1) 4)), .int (nI C), .int (nI V), .int (nI Ac), .ref a3, .ref a4, .ref a5, .ref a6])), (a1, zA cI 49 w5x2), (a2, zA cI 196 (hst hs w dp)), (a3, zA cI 4096 rt), (a4, zA cI 8 bt), (a5, zA cI 16 nt), (a6, zA cI 8 en2)] s H locs := hV.perm [0, 1, 2, 3, 4, 5, 6, 7, 8, 9, 10, 11, 12, 13, 14, 15, 16, 17, 18, 19, 20, 21, 22, 23, 24, 25, 26, 27, 28, 29, 30, 31, 32, 33, 34, 35, 40, 41, 42, 36, 37, 38, 39] (by decide) rfl
  refine lv_icmp_eq (pc := 332) (tgt := 737) S.1 S.2.1 dL_law_332 (by decide) (fun _ => ?_) (fun c9 => absurd (by have q9 := hddx1.symm.trans hddx2; simp only [Prod.mk.injEq] at q9; exact congrArg nI q9.2) c9)
  have q9 := hddx1.symm.trans hddx2
  simp only [Prod.mk.injEq] at q9
  obtain ⟨⟨f1, f2, f3, f4, f5⟩, f6⟩ := q9
  rw [← f1, ← f2, ← f3, ← f4, ← f5] at hR5x2
  exact K H locs ⟨d, e1, e2, e3, e4, h, r, qa, qb, qc, qd, qe, b, b1, b2, b3, g, g1, v, v1, a1, a2, a3, a4, a5, a6, C, V, Ac, n5x1, P5x1, X5x1, Y5x1, L5x1, va_up hn9 nx n, va_up hP nx P, va_up hX nx X, va_up hY nx Y, va_up hL nx L, (nx + 1) % 4, min (dp + 1) 4, cc, tt, 0, sg, rs, cd, cm, en, w5x2, hst hs w dp, rt, bt, nt, en2, hV, ⟨hok5x1, hset, hR5x2, Nat.mod_lt _ (by decide), Nat.min_le_right _ _, bp0 hbp _ _ _ _ _, hIv_keep hhi hnx hdp hok hR⟩⟩ ls hl
