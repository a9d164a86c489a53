-- ===== the law: the two histories =====
def slt (nx dp j : Nat) : Nat := (nx + 4 - dp + j) % 4
theorem zRl_cg {w w2 : Nat → Nat} {n : Nat} {P X Y L : Nat → Nat} (h : zRl w n P X Y L) (hn : n ≤ 8) (e : ∀ i, i < 49 → w2 i = w i) : zRl w2 n P X Y L := by
  refine ⟨(e 48 (by omega)).trans h.1, fun c hc => ⟨(e _ (by unfold bg; omega)).trans (h.2.1 c hc).1, (e _ (by unfold bg; omega)).trans (h.2.1 c hc).2⟩, fun s hs => (e _ (by omega)).trans (h.2.2.1 s hs), fun k hk => (e _ (by omega)).trans (h.2.2.2 k hk)⟩
/-- the class's ring of drawings and the reference's row of rows tell the same past -/
def hIv (nx dp : Nat) (hn9 : Nat → Nat) (hP hX hY hL : Nat → Nat → Nat) (hs : Nat → Nat) : Prop := ∀ j, j < dp → zOk (hn9 (slt nx dp j)) (hP (slt nx dp j)) (hX (slt nx dp j)) (hY (slt nx dp j)) (hL (slt nx dp j)) ∧ zRl (fun i => hs (49 * j + i)) (hn9 (slt nx dp j)) (hP (slt nx dp j)) (hX (slt nx dp j)) (hY (slt nx dp j)) (hL (slt nx dp j))
theorem hst_top {hs w : Nat → Nat} {dp j i : Nat} (hj : (if dp = 4 then 3 else dp) = j) (hi : i < 49) : hst hs w dp (49 * j + i) = w i := by
  unfold hst hcp
  rw [hj, if_pos (by omega), show 49 * j + i - 49 * j = i by omega]
theorem hst_low {hs w : Nat → Nat} {dp j i : Nat} (hj : j < (if dp = 4 then 3 else dp)) (hd : dp ≤ 4) (hi : i < 49) : hst hs w dp (49 * j + i) = hs (49 * (if dp = 4 then j + 1 else j) + i) := by
  unfold hst hcp
  rw [if_neg (by omega)]
  by_cases q : dp = 4
  · rw [if_pos q] at hj
    rw [if_pos q, if_pos q]
    unfold shl
    rw [if_pos (by omega), show 49 * j + i + 49 = 49 * (j + 1) + i by omega]
  · rw [if_neg q, if_neg q]
theorem hIv_keep {nx dp n : Nat} {hn9 : Nat → Nat} {hP hX hY hL : Nat → Nat → Nat} {hs w P X Y L : Nat → Nat} (h : hIv nx dp hn9 hP hX hY hL hs) (hnx : nx < 4) (hdp : dp ≤ 4) (hok : zOk n P X Y L) (hR : zRl w n P X Y L) : hIv ((nx + 1) % 4) (min (dp + 1) 4) (va_up hn9 nx n) (va_up hP nx P) (va_up hX nx X) (va_up hY nx Y) (va_up hL nx L) (hst hs w dp) := by
  intro j hj
  by_cases ht : (if dp = 4 then 3 else dp) = j
  · have e : slt ((nx + 1) % 4) (min (dp + 1) 4) j = nx := by
      unfold slt
      split at ht <;> omega
    have u : ∀ (α : Type) (f : Nat → α) (v : α), va_up f nx v nx = v := fun α f v => if_pos rfl
    rw [e, u, u, u, u, u]
    exact ⟨hok, zRl_cg hR hok.1.1 (fun i hi => hst_top ht hi)⟩
  · have hl : j < (if dp = 4 then 3 else dp) := by split at ht <;> split <;> omega
    have hj0 : (if dp = 4 then j + 1 else j) < dp := by
      split at hl
      · split <;> omega
      · split <;> omega
    have e : slt ((nx + 1) % 4) (min (dp + 1) 4) j = slt nx dp (if dp = 4 then j + 1 else j) := by
      unfold slt
      split at hl <;> split <;> omega
    have ne : ¬ slt nx dp (if dp = 4 then j + 1 else j) = nx := by
      unfold slt
      split at hl <;> split <;> omega
    have u : ∀ (α : Type) (f : Nat → α) (v : α), va_up f nx v (slt nx dp (if dp = 4 then j + 1 else j)) = f (slt nx dp (if dp = 4 then j + 1 else j)) := fun α f v => if_neg ne
    have h1 := h _ hj0
    rw [e, u, u, u, u, u]
    exact ⟨h1.1, zRl_cg h1.2 h1.1.1.1 (fun i hi => hst_low hl hdp hi)⟩
theorem hIv_undo {nx dp : Nat} {hn9 : Nat → Nat} {hP hX hY hL : Nat → Nat → Nat} {hs : Nat → Nat} (h : hIv nx dp hn9 hP hX hY hL hs) (hnx : nx < 4) (hdp : 1 ≤ dp ∧ dp ≤ 4) : zOk (hn9 ((nx + 3) % 4)) (hP ((nx + 3) % 4)) (hX ((nx + 3) % 4)) (hY ((nx + 3) % 4)) (hL ((nx + 3) % 4)) ∧ zRl (fun j => hs (49 * (dp - 1) + j)) (hn9 ((nx + 3) % 4)) (hP ((nx + 3) % 4)) (hX ((nx + 3) % 4)) (hY ((nx + 3) % 4)) (hL ((nx + 3) % 4)) ∧ hIv ((nx + 3) % 4) (dp - 1) hn9 hP hX hY hL hs := by
  have h1 := h (dp - 1) (by omega)
  have e : slt nx dp (dp - 1) = (nx + 3) % 4 := by unfold slt; omega
  rw [e] at h1
  refine ⟨h1.1, h1.2, fun j hj => ?_⟩
  have e2 : slt ((nx + 3) % 4) (dp - 1) j = slt nx dp j := by unfold slt; omega
  rw [e2]
  exact h j (by omega)
def lIv (C : Nat) (V : Nat) (Ac : Nat) (n : Nat) (P : Nat → Nat) (X : Nat → Nat) (Y : Nat → Nat) (L : Nat → Nat) (hn9 : Nat → Nat) (hP : Nat → Nat → Nat) (hX : Nat → Nat → Nat) (hY : Nat → Nat → Nat) (hL : Nat → Nat → Nat) (nx : Nat) (dp : Nat) (tt : Nat) (kk : Nat) (sg : Nat → Nat) (rs : Nat → Nat) (cd : Nat → Nat) (w : Nat → Nat) (hs : Nat → Nat) : Prop := zOk n P X Y L ∧ zSt C V Ac ∧ zRl w n P X Y L ∧ nx < 4 ∧ dp ≤ 4 ∧ bpI P X Y C n sg rs cd tt kk ∧ hIv nx dp hn9 hP hX hY hL hs
/-- what holds at the head of the law's loop: the class's objects and the reference's tell of one drawing -/
def lSt (D : va_G) (cI cR : ClassId) (A : Nat → Prop) (s : State) (z o : Nat) (H : Heap) (locs : List Loc) : Prop := ∃ (d : Nat) (e1 : Nat) (e2 : Nat) (e3 : Nat) (e4 : Nat) (h : Nat) (r : Nat) (qa : Nat → Nat) (qb : Nat → Nat) (qc : Nat → Nat) (qd : Nat → Nat) (qe : Nat → Nat) (b : Nat) (b1 : Nat) (b2 : Nat) (b3 : Nat) (g : Nat) (g1 : Nat) (v : Nat) (v1 : Nat) (a1 : Nat) (a2 : Nat) (a3 : Nat) (a4 : Nat) (a5 : Nat) (a6 : Nat) (C : Nat) (V : Nat) (Ac : Nat) (n : Nat) (P : Nat → Nat) (X : Nat → Nat) (Y : Nat → Nat) (L : Nat → Nat) (hn9 : Nat → Nat) (hP : Nat → Nat → Nat) (hX : Nat → Nat → Nat) (hY : Nat → Nat → Nat) (hL : Nat → Nat → Nat) (nx : Nat) (dp : Nat) (cc : Nat) (tt : Nat) (kk : Nat) (sg : Nat → Nat) (rs : Nat → Nat) (cd : Nat → Nat) (cm : Nat → Nat) (en : Nat → Nat) (w : Nat → Nat) (hs : Nat → Nat) (rt : Nat → Nat) (bt : Nat → Nat) (nt : Nat → Nat) (en2 : Nat → Nat), zV D cI cR A [(z, .inr (5, [.ref d, .ref h, .ref b, .ref g, .ref v, .int (nI C), .int (nI V), .int (nI Ac)])), (d, .inr (1, [.int (nI n), .ref e1, .ref e2, .ref e3, .ref e4])), (e1, zA cI 8 P), (e2, zA cI 16 X), (e3, zA cI 16 Y), (e4, zA cI 8 L), (h, .inr (2, [.ref r, .int (nI nx), .int (nI dp)])), (r, zAR cR 4 (rg qa)), (qa 0, .inr (1, [.int (nI (hn9 0)), .ref (qb 0), .ref (qc 0), .ref (qd 0), .ref (qe 0)])), (qb 0, zA cI 8 (hP 0)), (qc 0, zA cI 16 (hX 0)), (qd 0, zA cI 16 (hY 0)), (qe 0, zA cI 8 (hL 0)), (qa 1, .inr (1, [.int (nI (hn9 1)), .ref (qb 1), .ref (qc 1), .ref (qd 1), .ref (qe 1)])), (qb 1, zA cI 8 (hP 1)), (qc 1, zA cI 16 (hX 1)), (qd 1, zA cI 16 (hY 1)), (qe 1, zA cI 8 (hL 1)), (qa 2, .inr (1, [.int (nI (hn9 2)), .ref (qb 2), .ref (qc 2), .ref (qd 2), .ref (qe 2)])), (qb 2, zA cI 8 (hP 2)), (qc 2, zA cI 16 (hX 2)), (qd 2, zA cI 16 (hY 2)), (qe 2, zA cI 8 (hL 2)), (qa 3, .inr (1, [.int (nI (hn9 3)), .ref (qb 3), .ref (qc 3), .ref (qd 3), .ref (qe 3)])), (qb 3, zA cI 8 (hP 3)), (qc 3, zA cI 16 (hX 3)), (qd 3, zA cI 16 (hY 3)), (qe 3, zA cI 8 (hL 3)), (b, .inr (0, [.ref b1, .ref b2, .ref b3, .int (nI cc), .int (nI tt), .int (nI kk)])), (b1, zA cI 272 sg), (b2, zA cI 4096 rs), (b3, zA cI 8 cd), (g, .inr (3, [.ref g1])), (g1, zA cI 8 cm), (v, .inr (4, [.ref v1])), (v1, zA cI 8 en), (o, .inr (6, [.ref a1, .ref a2, .int (nI dp), .int (nI C), .int (nI V), .int (nI Ac), .ref a3, .ref a4, .ref a5, .ref a6])), (a1, zA cI 49 w), (a2, zA cI 196 hs), (a3, zA cI 4096 rt), (a4, zA cI 8 bt), (a5, zA cI 16 nt), (a6, zA cI 8 en2)] s H locs ∧ lIv C V Ac n P X Y L hn9 hP hX hY hL nx dp tt kk sg rs cd w hs
set_option maxHeartbeats 4000000 in
set_option maxRecDepth 100000 in
theorem lSt_el {D : va_G} {cI cR : ClassId} {A : Nat → Prop} {s : State} {z o : Nat} {H : Heap} {locs : List Loc} {G : Prop} (h0 : lSt D cI cR A s z o H locs) (k0 : ∀ (d : Nat) (e1 : Nat) (e2 : Nat) (e3 : Nat) (e4 : Nat) (h : Nat) (r : Nat) (qa : Nat → Nat) (qb : Nat → Nat) (qc : Nat → Nat) (qd : Nat → Nat) (qe : Nat → Nat) (b : Nat) (b1 : Nat) (b2 : Nat) (b3 : Nat) (g : Nat) (g1 : Nat) (v : Nat) (v1 : Nat) (a1 : Nat) (a2 : Nat) (a3 : Nat) (a4 : Nat) (a5 : Nat) (a6 : Nat) (C : Nat) (V : Nat) (Ac : Nat) (n : Nat) (P : Nat → Nat) (X : Nat → Nat) (Y : Nat → Nat) (L : Nat → Nat) (hn9 : Nat → Nat) (hP : Nat → Nat → Nat) (hX : Nat → Nat → Nat) (hY : Nat → Nat → Nat) (hL : Nat → Nat → Nat) (nx : Nat) (dp : Nat) (cc : Nat) (tt : Nat) (kk : Nat) (sg : Nat → Nat) (rs : Nat → Nat) (cd : Nat → Nat) (cm : Nat → Nat) (en : Nat → Nat) (w : Nat → Nat) (hs : Nat → Nat) (rt : Nat → Nat) (bt : Nat → Nat) (nt : Nat → Nat) (en2 : Nat → Nat), zV D cI cR A [(z, .inr (5, [.ref d, .ref h, .ref b, .ref g, .ref v, .int (nI C), .int (nI V), .int (nI Ac)])), (d, .inr (1, [.int (nI n), .ref e1, .ref e2, .ref e3, .ref e4])), (e1, zA cI 8 P), (e2, zA cI 16 X), (e3, zA cI 16 Y), (e4, zA cI 8 L), (h, .inr (2, [.ref r, .int (nI nx), .int (nI dp)])), (r, zAR cR 4 (rg qa)), (qa 0, .inr (1, [.int (nI (hn9 0)), .ref (qb 0), .ref (qc 0), .ref (qd 0), .ref (qe 0)])), (qb 0, zA cI 8 (hP 0)), (qc 0, zA cI 16 (hX 0)), (qd 0, zA cI 16 (hY 0)), (qe 0, zA cI 8 (hL 0)), (qa 1, .inr (1, [.int (nI (hn9 1)), .ref (qb 1), .ref (qc 1), .ref (qd 1), .ref (qe 1)])), (qb 1, zA cI 8 (hP 1)), (qc 1, zA cI 16 (hX 1)), (qd 1, zA cI 16 (hY 1)), (qe 1, zA cI 8 (hL 1)), (qa 2, .inr (1, [.int (nI (hn9 2)), .ref (qb 2), .ref (qc 2), .ref (qd 2), .ref (qe 2)])), (qb 2, zA cI 8 (hP 2)), (qc 2, zA cI 16 (hX 2)), (qd 2, zA cI 16 (hY 2)), (qe 2, zA cI 8 (hL 2)), (qa 3, .inr (1, [.int (nI (hn9 3)), .ref (qb 3), .ref (qc 3), .ref (qd 3), .ref (qe 3)])), (qb 3, zA cI 8 (hP 3)), (qc 3, zA cI 16 (hX 3)), (qd 3, zA cI 16 (hY 3)), (qe 3, zA cI 8 (hL 3)), (b, .inr (0, [.ref b1, .ref b2, .ref b3, .int (nI cc), .int (nI tt), .int (nI kk)])), (b1, zA cI 272 sg), (b2, zA cI 4096 rs), (b3, zA cI 8 cd), (g, .inr (3, [.ref g1])), (g1, zA cI 8 cm), (v, .inr (4, [.ref v1])), (v1, zA cI 8 en), (o, .inr (6, [.ref a1, .ref a2, .int (nI dp), .int (nI C), .int (nI V), .int (nI Ac), .ref a3, .ref a4, .ref a5, .ref a6])), (a1, zA cI 49 w), (a2, zA cI 196 hs), (a3, zA cI 4096 rt), (a4, zA cI 8 bt), (a5, zA cI 16 nt), (a6, zA cI 8 en2)] s H locs → lIv C V Ac n P X Y L hn9 hP hX hY hL nx dp tt kk sg rs cd w hs → G) : G := by
  exact (h0.elim fun d y1 => (y1.elim fun e1 y2 => (y2.elim fun e2 y3 => (y3.elim fun e3 y4 => (y4.elim fun e4 y5 => (y5.elim fun h y6 => (y6.elim fun r y7 => (y7.elim fun qa y8 => (y8.elim fun qb y9 => (y9.elim fun qc y10 => (y10.elim fun qd y11 => (y11.elim fun qe y12 => (y12.elim fun b y13 => (y13.elim fun b1 y14 => (y14.elim fun b2 y15 => (y15.elim fun b3 y16 => (y16.elim fun g y17 => (y17.elim fun g1 y18 => (y18.elim fun v y19 => (y19.elim fun v1 y20 => (y20.elim fun a1 y21 => (y21.elim fun a2 y22 => (y22.elim fun a3 y23 => (y23.elim fun a4 y24 => (y24.elim fun a5 y25 => (y25.elim fun a6 y26 => (y26.elim fun C y27 => (y27.elim fun V y28 => (y28.elim fun Ac y29 => (y29.elim fun n y30 => (y30.elim fun P y31 => (y31.elim fun X y32 => (y32.elim fun Y y33 => (y33.elim fun L y34 => (y34.elim fun hn9 y35 => (y35.elim fun hP y36 => (y36.elim fun hX y37 => (y37.elim fun hY y38 => (y38.elim fun hL y39 => (y39.elim fun nx y40 => (y40.elim fun dp y41 => (y41.elim fun cc y42 => (y42.elim fun tt y43 => (y43.elim fun kk y44 => (y44.elim fun sg y45 => (y45.elim fun rs y46 => (y46.elim fun cd y47 => (y47.elim fun cm y48 => (y48.elim fun en y49 => (y49.elim fun w y50 => (y50.elim fun hs y51 => (y51.elim fun rt y52 => (y52.elim fun bt y53 => (y53.elim fun nt y54 => (y54.elim fun en2 y55 => k0 d e1 e2 e3 e4 h r qa qb qc qd qe b b1 b2 b3 g g1 v v1 a1 a2 a3 a4 a5 a6 C V Ac n P X Y L hn9 hP hX hY hL nx dp cc tt kk sg rs cd cm en w hs rt bt nt en2 y55.1 y55.2)))))))))))))))))))))))))))))))))))))))))))))))))))))))
section ZL
variable {p : Program} {l : Launch} {e : Env} {R : Room} {s : State} {m : MethodId} {args : Array Value} {below : List Frame} {meth : Method} {c : Code} {H : Heap} {locs : List Loc} {cells slots : Nat} {Q : State → Prop}
variable {cc : ByteArray} {nL : Nat} {Ts : List Cond} {own : String} {pc : Nat} {ls : Array Slot} {rest : List Value} {A : Nat → Prop}
/-- a number of the script -/
theorem zz_sld (S : CallFix p m c cc nL s args Ts own) {sc N9 k : Nat} {xs : Nat → Int32} {v : Int32} (hXs : va_X sc N9 xs s s.heap) (hbl : sc < s.heap.size) (hbA : ¬ A sc) (hS : va_S A s.heap H locs) (hk : k < N9) (hN : N9 < 2147483648) (hv : xs k = v) (hdg : decode cc pc = .ok (.iaload, 1))
    (kk : W p l e R s m args below meth c H locs cells slots Q (F0 m (pc + 1) ls (.int v :: rest))) : W p l e R s m args below meth c H locs cells slots Q (F0 m pc ls (.int (nI k) :: .ref sc :: rest)) := by
  refine va_sld S.1 S.2.1 hXs hbl hbA hS (n_in hk hN) hdg ?_
  rw [n_toNat (by omega), hv]
  exact kk
end ZL
