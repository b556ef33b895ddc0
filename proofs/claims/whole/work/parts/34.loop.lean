theorem bcase (v : Bool) : v = true ∨ v = false := by cases v <;> simp
theorem lo_n3 : ∀ n, n < 1537 → (Int32.ofNat n - 3).toInt = (n : Int) - 3 := by decide +kernel
theorem lo_n0 : ∀ n, n < 1537 → (nI n).toInt = (n : Int) := by decide +kernel
theorem lo_hd {L i : Nat} (hL : L ≤ 1536) (hi : i ≤ 1536) : Int32.ofNat L - 3 < nI i ↔ ¬ i + 3 ≤ L := by
  rw [Int32.lt_iff_toInt_lt, lo_n3 L (by omega), lo_n0 i (by omega)]; omega
theorem lo_sw (v : Int32) : (∃ k, k < 22 ∧ v = nI k) ∨ (v.toInt < 0 ∨ 21 < v.toInt) := by
  rcases bcase (decide (0 ≤ v) && decide (v ≤ nI 21)) with h | h
  · obtain ⟨n, -, h2, h3⟩ := rgi 0 21 (by decide) (by decide) h
    exact Or.inl ⟨n, by omega, h3⟩
  · exact Or.inr (rot 21 (by omega) h)
section LOD
variable {p : Program} {l : Launch} {e : Env} {s : State} {m : MethodId} {args : Array Value} {below : List Frame} {meth : Method} {c : Code} {Q : State → Prop} {D : va_G} {cI cZ cL : ClassId} {A : Nat → Prop} {b L : Nat} {xs : Nat → Int32} {x0 a0 a1 a2 a3 a4 b0 b1 d0 d1 e1 e2 m0 m1 m2 m3 m4 m5 o1 : Nat} {H : Heap} {locs : List Loc} {cells slots : Nat} {ls : Array Slot} {i : Nat}
set_option maxHeartbeats 4000000 in
theorem lo_0 (C : LC p l s m args c D cI cZ cL A b L xs) (G : LG D cI cZ cL A s.heap x0 a0 a1 a2 a3 a4 b0 b1 d0 d1 e1 e2 m0 m1 m2 m3 m4 m5 o1 H locs) (hi : i + 2 < L) (hl : lv_has ls 9 [(0, .ref b), (1, .ref x0), (2, .ref m0), (3, .ref o1), (4, .int (nI i))]) (hc1 : cells + 1 ≤ room_1.cells) (hs1 : slots + 6 ≤ room_1.slots)
    (kk : ∀ (H1 : Heap) (locs1 : List Loc) (ls1 : Array Slot), LG D cI cZ cL A s.heap x0 a0 a1 a2 a3 a4 b0 b1 d0 d1 e1 e2 m0 m1 m2 m3 m4 m5 o1 H1 locs1 → lv_has ls1 9 [(0, .ref b), (1, .ref x0), (2, .ref m0), (3, .ref o1), (4, .int (nI i))] → W p l e room_1 s m args below meth c H1 locs1 (cells + 1) (slots + 6) Q (F0 m 1124 ls1 [])) : W p l e room_1 s m args below meth c H locs cells slots Q (F0 m 140 ls []) := by
  obtain ⟨gs, gp, gl, gk, fh, fo, fc, fs, fn, fl, fk, fx, hz, mv, kn, od, sz6, ln, tu, rf, th, hs, ov, hCU, hST, hSL, hln, hP, hD, hS⟩ := G
  rcases bcase (decide (0 ≤ xs (i + 1)) && decide (xs (i + 1) ≤ 35)) with c1 | c1
  · obtain ⟨q, -, hq0, ev1⟩ := rgi 0 35 (by decide) (by decide) c1
    have hq : q < 36 := by omega
    by_cases hre : pRe fo fh hz mv q = 0
    · exact lo_0_ok C hCU hST hSL hln hP hD hS hi hl hc1 hs1 hq ev1 hre kk
    · exact lo_0_ref C hCU hST hSL hln hP hD hS hi hl hc1 hs1 hq ev1 hre kk
  · exact lo_0_bad C hCU hST hSL hln hP hD hS hi hl hc1 hs1 c1 kk

set_option maxHeartbeats 4000000 in
theorem lo_1 (C : LC p l s m args c D cI cZ cL A b L xs) (G : LG D cI cZ cL A s.heap x0 a0 a1 a2 a3 a4 b0 b1 d0 d1 e1 e2 m0 m1 m2 m3 m4 m5 o1 H locs) (hi : i + 2 < L) (hl : lv_has ls 9 [(0, .ref b), (1, .ref x0), (2, .ref m0), (3, .ref o1), (4, .int (nI i))]) (hc1 : cells + 1 ≤ room_1.cells) (hs1 : slots + 6 ≤ room_1.slots)
    (kk : ∀ (H1 : Heap) (locs1 : List Loc) (ls1 : Array Slot), LG D cI cZ cL A s.heap x0 a0 a1 a2 a3 a4 b0 b1 d0 d1 e1 e2 m0 m1 m2 m3 m4 m5 o1 H1 locs1 → lv_has ls1 9 [(0, .ref b), (1, .ref x0), (2, .ref m0), (3, .ref o1), (4, .int (nI i))] → W p l e room_1 s m args below meth c H1 locs1 (cells + 1) (slots + 6) Q (F0 m 1124 ls1 [])) : W p l e room_1 s m args below meth c H locs cells slots Q (F0 m 196 ls []) := by
  obtain ⟨gs, gp, gl, gk, fh, fo, fc, fs, fn, fl, fk, fx, hz, mv, kn, od, sz6, ln, tu, rf, th, hs, ov, hCU, hST, hSL, hln, hP, hD, hS⟩ := G
  exact lo_1_ok C hCU hST hSL hln hP hD hS hi hl hc1 hs1 kk

set_option maxHeartbeats 4000000 in
theorem lo_2 (C : LC p l s m args c D cI cZ cL A b L xs) (G : LG D cI cZ cL A s.heap x0 a0 a1 a2 a3 a4 b0 b1 d0 d1 e1 e2 m0 m1 m2 m3 m4 m5 o1 H locs) (hi : i + 2 < L) (hl : lv_has ls 9 [(0, .ref b), (1, .ref x0), (2, .ref m0), (3, .ref o1), (4, .int (nI i))]) (hc1 : cells + 1 ≤ room_1.cells) (hs1 : slots + 6 ≤ room_1.slots)
    (kk : ∀ (H1 : Heap) (locs1 : List Loc) (ls1 : Array Slot), LG D cI cZ cL A s.heap x0 a0 a1 a2 a3 a4 b0 b1 d0 d1 e1 e2 m0 m1 m2 m3 m4 m5 o1 H1 locs1 → lv_has ls1 9 [(0, .ref b), (1, .ref x0), (2, .ref m0), (3, .ref o1), (4, .int (nI i))] → W p l e room_1 s m args below meth c H1 locs1 (cells + 1) (slots + 6) Q (F0 m 1124 ls1 [])) : W p l e room_1 s m args below meth c H locs cells slots Q (F0 m 209 ls []) := by
  obtain ⟨gs, gp, gl, gk, fh, fo, fc, fs, fn, fl, fk, fx, hz, mv, kn, od, sz6, ln, tu, rf, th, hs, ov, hCU, hST, hSL, hln, hP, hD, hS⟩ := G
  rcases bcase (decide (0 ≤ xs (i + 1)) && decide (xs (i + 1) ≤ 35)) with c1 | c1
  · obtain ⟨q, -, hq0, ev1⟩ := rgi 0 35 (by decide) (by decide) c1
    have hq : q < 36 := by omega
    rcases bcase (decide (0 ≤ xs (i + 2)) && decide (xs (i + 2) ≤ 9)) with c2 | c2
    · obtain ⟨cr, -, hcr0, ev2⟩ := rgi 0 9 (by decide) (by decide) c2
      have hcr : cr < 10 := by omega
      exact lo_2_ok C hCU hST hSL hln hP hD hS hi hl hc1 hs1 hq ev1 hcr ev2 kk
    · exact lo_2_out C hCU hST hSL hln hP hD hS hi hl hc1 hs1 hq ev1 c2 kk
  · exact lo_2_bad C hCU hST hSL hln hP hD hS hi hl hc1 hs1 c1 kk

set_option maxHeartbeats 4000000 in
theorem lo_3 (C : LC p l s m args c D cI cZ cL A b L xs) (G : LG D cI cZ cL A s.heap x0 a0 a1 a2 a3 a4 b0 b1 d0 d1 e1 e2 m0 m1 m2 m3 m4 m5 o1 H locs) (hi : i + 2 < L) (hl : lv_has ls 9 [(0, .ref b), (1, .ref x0), (2, .ref m0), (3, .ref o1), (4, .int (nI i))]) (hc1 : cells + 1 ≤ room_1.cells) (hs1 : slots + 6 ≤ room_1.slots)
    (kk : ∀ (H1 : Heap) (locs1 : List Loc) (ls1 : Array Slot), LG D cI cZ cL A s.heap x0 a0 a1 a2 a3 a4 b0 b1 d0 d1 e1 e2 m0 m1 m2 m3 m4 m5 o1 H1 locs1 → lv_has ls1 9 [(0, .ref b), (1, .ref x0), (2, .ref m0), (3, .ref o1), (4, .int (nI i))] → W p l e room_1 s m args below meth c H1 locs1 (cells + 1) (slots + 6) Q (F0 m 1124 ls1 [])) : W p l e room_1 s m args below meth c H locs cells slots Q (F0 m 277 ls []) := by
  obtain ⟨gs, gp, gl, gk, fh, fo, fc, fs, fn, fl, fk, fx, hz, mv, kn, od, sz6, ln, tu, rf, th, hs, ov, hCU, hST, hSL, hln, hP, hD, hS⟩ := G
  rcases bcase (decide (0 ≤ xs (i + 1)) && decide (xs (i + 1) ≤ 35)) with c1 | c1
  · obtain ⟨q, -, hq0, ev1⟩ := rgi 0 35 (by decide) (by decide) c1
    have hq : q < 36 := by omega
    exact lo_3_ok C hCU hST hSL hln hP hD hS hi hl hc1 hs1 hq ev1 kk
  · exact lo_3_bad C hCU hST hSL hln hP hD hS hi hl hc1 hs1 c1 kk

set_option maxHeartbeats 4000000 in
theorem lo_4 (C : LC p l s m args c D cI cZ cL A b L xs) (G : LG D cI cZ cL A s.heap x0 a0 a1 a2 a3 a4 b0 b1 d0 d1 e1 e2 m0 m1 m2 m3 m4 m5 o1 H locs) (hi : i + 2 < L) (hl : lv_has ls 9 [(0, .ref b), (1, .ref x0), (2, .ref m0), (3, .ref o1), (4, .int (nI i))]) (hc1 : cells + 1 ≤ room_1.cells) (hs1 : slots + 6 ≤ room_1.slots)
    (kk : ∀ (H1 : Heap) (locs1 : List Loc) (ls1 : Array Slot), LG D cI cZ cL A s.heap x0 a0 a1 a2 a3 a4 b0 b1 d0 d1 e1 e2 m0 m1 m2 m3 m4 m5 o1 H1 locs1 → lv_has ls1 9 [(0, .ref b), (1, .ref x0), (2, .ref m0), (3, .ref o1), (4, .int (nI i))] → W p l e room_1 s m args below meth c H1 locs1 (cells + 1) (slots + 6) Q (F0 m 1124 ls1 [])) : W p l e room_1 s m args below meth c H locs cells slots Q (F0 m 333 ls []) := by
  obtain ⟨gs, gp, gl, gk, fh, fo, fc, fs, fn, fl, fk, fx, hz, mv, kn, od, sz6, ln, tu, rf, th, hs, ov, hCU, hST, hSL, hln, hP, hD, hS⟩ := G
  rcases bcase (decide (0 ≤ xs (i + 1)) && decide (xs (i + 1) ≤ 11)) with c1 | c1
  · obtain ⟨hu, -, hhu0, ev1⟩ := rgi 0 11 (by decide) (by decide) c1
    have hhu : hu < 12 := by omega
    exact lo_4_ok C hCU hST hSL hln hP hD hS hi hl hc1 hs1 hhu ev1 kk
  · exact lo_4_out C hCU hST hSL hln hP hD hS hi hl hc1 hs1 c1 kk

set_option maxHeartbeats 4000000 in
theorem lo_5 (C : LC p l s m args c D cI cZ cL A b L xs) (G : LG D cI cZ cL A s.heap x0 a0 a1 a2 a3 a4 b0 b1 d0 d1 e1 e2 m0 m1 m2 m3 m4 m5 o1 H locs) (hi : i + 2 < L) (hl : lv_has ls 9 [(0, .ref b), (1, .ref x0), (2, .ref m0), (3, .ref o1), (4, .int (nI i))]) (hc1 : cells + 1 ≤ room_1.cells) (hs1 : slots + 6 ≤ room_1.slots)
    (kk : ∀ (H1 : Heap) (locs1 : List Loc) (ls1 : Array Slot), LG D cI cZ cL A s.heap x0 a0 a1 a2 a3 a4 b0 b1 d0 d1 e1 e2 m0 m1 m2 m3 m4 m5 o1 H1 locs1 → lv_has ls1 9 [(0, .ref b), (1, .ref x0), (2, .ref m0), (3, .ref o1), (4, .int (nI i))] → W p l e room_1 s m args below meth c H1 locs1 (cells + 1) (slots + 6) Q (F0 m 1124 ls1 [])) : W p l e room_1 s m args below meth c H locs cells slots Q (F0 m 389 ls []) := by
  obtain ⟨gs, gp, gl, gk, fh, fo, fc, fs, fn, fl, fk, fx, hz, mv, kn, od, sz6, ln, tu, rf, th, hs, ov, hCU, hST, hSL, hln, hP, hD, hS⟩ := G
  rcases bcase (decide (33 ≤ xs (i + 1)) && decide (xs (i + 1) ≤ 126)) with c1 | c1
  · by_cases hfu : ln < 60
    · exact lo_5_ok C hCU hST hSL hln hP hD hS hi hl hc1 hs1 c1 hfu kk
    · exact lo_5_full C hCU hST hSL hln hP hD hS hi hl hc1 hs1 c1 (by omega) kk
  · exact lo_5_out C hCU hST hSL hln hP hD hS hi hl hc1 hs1 c1 kk

set_option maxHeartbeats 4000000 in
theorem lo_6 (C : LC p l s m args c D cI cZ cL A b L xs) (G : LG D cI cZ cL A s.heap x0 a0 a1 a2 a3 a4 b0 b1 d0 d1 e1 e2 m0 m1 m2 m3 m4 m5 o1 H locs) (hi : i + 2 < L) (hl : lv_has ls 9 [(0, .ref b), (1, .ref x0), (2, .ref m0), (3, .ref o1), (4, .int (nI i))]) (hc1 : cells + 1 ≤ room_1.cells) (hs1 : slots + 6 ≤ room_1.slots)
    (kk : ∀ (H1 : Heap) (locs1 : List Loc) (ls1 : Array Slot), LG D cI cZ cL A s.heap x0 a0 a1 a2 a3 a4 b0 b1 d0 d1 e1 e2 m0 m1 m2 m3 m4 m5 o1 H1 locs1 → lv_has ls1 9 [(0, .ref b), (1, .ref x0), (2, .ref m0), (3, .ref o1), (4, .int (nI i))] → W p l e room_1 s m args below meth c H1 locs1 (cells + 1) (slots + 6) Q (F0 m 1124 ls1 [])) : W p l e room_1 s m args below meth c H locs cells slots Q (F0 m 445 ls []) := by
  obtain ⟨gs, gp, gl, gk, fh, fo, fc, fs, fn, fl, fk, fx, hz, mv, kn, od, sz6, ln, tu, rf, th, hs, ov, hCU, hST, hSL, hln, hP, hD, hS⟩ := G
  exact lo_6_ok C hCU hST hSL hln hP hD hS hi hl hc1 hs1 kk

set_option maxHeartbeats 4000000 in
theorem lo_7 (C : LC p l s m args c D cI cZ cL A b L xs) (G : LG D cI cZ cL A s.heap x0 a0 a1 a2 a3 a4 b0 b1 d0 d1 e1 e2 m0 m1 m2 m3 m4 m5 o1 H locs) (hi : i + 2 < L) (hl : lv_has ls 9 [(0, .ref b), (1, .ref x0), (2, .ref m0), (3, .ref o1), (4, .int (nI i))]) (hc1 : cells + 1 ≤ room_1.cells) (hs1 : slots + 6 ≤ room_1.slots)
    (kk : ∀ (H1 : Heap) (locs1 : List Loc) (ls1 : Array Slot), LG D cI cZ cL A s.heap x0 a0 a1 a2 a3 a4 b0 b1 d0 d1 e1 e2 m0 m1 m2 m3 m4 m5 o1 H1 locs1 → lv_has ls1 9 [(0, .ref b), (1, .ref x0), (2, .ref m0), (3, .ref o1), (4, .int (nI i))] → W p l e room_1 s m args below meth c H1 locs1 (cells + 1) (slots + 6) Q (F0 m 1124 ls1 [])) : W p l e room_1 s m args below meth c H locs cells slots Q (F0 m 458 ls []) := by
  obtain ⟨gs, gp, gl, gk, fh, fo, fc, fs, fn, fl, fk, fx, hz, mv, kn, od, sz6, ln, tu, rf, th, hs, ov, hCU, hST, hSL, hln, hP, hD, hS⟩ := G
  exact lo_7_ok C hCU hST hSL hln hP hD hS hi hl hc1 hs1 kk

set_option maxHeartbeats 4000000 in
theorem lo_8 (C : LC p l s m args c D cI cZ cL A b L xs) (G : LG D cI cZ cL A s.heap x0 a0 a1 a2 a3 a4 b0 b1 d0 d1 e1 e2 m0 m1 m2 m3 m4 m5 o1 H locs) (hi : i + 2 < L) (hl : lv_has ls 9 [(0, .ref b), (1, .ref x0), (2, .ref m0), (3, .ref o1), (4, .int (nI i))]) (hc1 : cells + 1 ≤ room_1.cells) (hs1 : slots + 6 ≤ room_1.slots)
    (kk : ∀ (H1 : Heap) (locs1 : List Loc) (ls1 : Array Slot), LG D cI cZ cL A s.heap x0 a0 a1 a2 a3 a4 b0 b1 d0 d1 e1 e2 m0 m1 m2 m3 m4 m5 o1 H1 locs1 → lv_has ls1 9 [(0, .ref b), (1, .ref x0), (2, .ref m0), (3, .ref o1), (4, .int (nI i))] → W p l e room_1 s m args below meth c H1 locs1 (cells + 1) (slots + 6) Q (F0 m 1124 ls1 [])) : W p l e room_1 s m args below meth c H locs cells slots Q (F0 m 471 ls []) := by
  obtain ⟨gs, gp, gl, gk, fh, fo, fc, fs, fn, fl, fk, fx, hz, mv, kn, od, sz6, ln, tu, rf, th, hs, ov, hCU, hST, hSL, hln, hP, hD, hS⟩ := G
  rcases bcase (pWh fx ln) with c1 | c1
  · exact lo_8_ok C hCU hST hSL hln hP hD hS hi hl hc1 hs1 c1 kk
  · exact lo_8_bad C hCU hST hSL hln hP hD hS hi hl hc1 hs1 c1 kk

set_option maxHeartbeats 4000000 in
theorem lo_9 (C : LC p l s m args c D cI cZ cL A b L xs) (G : LG D cI cZ cL A s.heap x0 a0 a1 a2 a3 a4 b0 b1 d0 d1 e1 e2 m0 m1 m2 m3 m4 m5 o1 H locs) (hi : i + 2 < L) (hl : lv_has ls 9 [(0, .ref b), (1, .ref x0), (2, .ref m0), (3, .ref o1), (4, .int (nI i))]) (hc1 : cells + 1 ≤ room_1.cells) (hs1 : slots + 6 ≤ room_1.slots)
    (kk : ∀ (H1 : Heap) (locs1 : List Loc) (ls1 : Array Slot), LG D cI cZ cL A s.heap x0 a0 a1 a2 a3 a4 b0 b1 d0 d1 e1 e2 m0 m1 m2 m3 m4 m5 o1 H1 locs1 → lv_has ls1 9 [(0, .ref b), (1, .ref x0), (2, .ref m0), (3, .ref o1), (4, .int (nI i))] → W p l e room_1 s m args below meth c H1 locs1 (cells + 1) (slots + 6) Q (F0 m 1124 ls1 [])) : W p l e room_1 s m args below meth c H locs cells slots Q (F0 m 515 ls []) := by
  obtain ⟨gs, gp, gl, gk, fh, fo, fc, fs, fn, fl, fk, fx, hz, mv, kn, od, sz6, ln, tu, rf, th, hs, ov, hCU, hST, hSL, hln, hP, hD, hS⟩ := G
  rcases bcase (decide (0 ≤ xs (i + 1)) && decide (xs (i + 1) ≤ 1)) with c1 | c1
  · obtain ⟨sl, -, hsl0, ev1⟩ := rgi 0 1 (by decide) (by decide) c1
    have hsl : sl < 2 := by omega
    exact lo_9_ok C hCU hST hSL hln hP hD hS hi hl hc1 hs1 hsl ev1 kk
  · exact lo_9_out C hCU hST hSL hln hP hD hS hi hl hc1 hs1 c1 kk

set_option maxHeartbeats 4000000 in
theorem lo_10 (C : LC p l s m args c D cI cZ cL A b L xs) (G : LG D cI cZ cL A s.heap x0 a0 a1 a2 a3 a4 b0 b1 d0 d1 e1 e2 m0 m1 m2 m3 m4 m5 o1 H locs) (hi : i + 2 < L) (hl : lv_has ls 9 [(0, .ref b), (1, .ref x0), (2, .ref m0), (3, .ref o1), (4, .int (nI i))]) (hc1 : cells + 1 ≤ room_1.cells) (hs1 : slots + 6 ≤ room_1.slots)
    (kk : ∀ (H1 : Heap) (locs1 : List Loc) (ls1 : Array Slot), LG D cI cZ cL A s.heap x0 a0 a1 a2 a3 a4 b0 b1 d0 d1 e1 e2 m0 m1 m2 m3 m4 m5 o1 H1 locs1 → lv_has ls1 9 [(0, .ref b), (1, .ref x0), (2, .ref m0), (3, .ref o1), (4, .int (nI i))] → W p l e room_1 s m args below meth c H1 locs1 (cells + 1) (slots + 6) Q (F0 m 1124 ls1 [])) : W p l e room_1 s m args below meth c H locs cells slots Q (F0 m 571 ls []) := by
  obtain ⟨gs, gp, gl, gk, fh, fo, fc, fs, fn, fl, fk, fx, hz, mv, kn, od, sz6, ln, tu, rf, th, hs, ov, hCU, hST, hSL, hln, hP, hD, hS⟩ := G
  rcases bcase (decide (0 ≤ xs (i + 1)) && decide (xs (i + 1) ≤ 1)) with c1 | c1
  · obtain ⟨sl, -, hsl0, ev1⟩ := rgi 0 1 (by decide) (by decide) c1
    have hsl : sl < 2 := by omega
    by_cases hgk : fk sl = 0
    · exact lo_10_none C hCU hST hSL hln hP hD hS hi hl hc1 hs1 hsl ev1 hgk kk
    · obtain ⟨hz2, mv2, hh2, hm2, hCU2⟩ := SV_rd (gs := gs) (fh := fh) (fo := fo) (fc := fc) (fs := fs) ((hSL sl hsl).2 hgk)
      exact lo_10_ok C hCU hST hSL hln hP hD hS hi hl hc1 hs1 hsl ev1 hgk hh2 hm2 hCU2 kk
  · exact lo_10_out C hCU hST hSL hln hP hD hS hi hl hc1 hs1 c1 kk

set_option maxHeartbeats 4000000 in
theorem lo_11 (C : LC p l s m args c D cI cZ cL A b L xs) (G : LG D cI cZ cL A s.heap x0 a0 a1 a2 a3 a4 b0 b1 d0 d1 e1 e2 m0 m1 m2 m3 m4 m5 o1 H locs) (hi : i + 2 < L) (hl : lv_has ls 9 [(0, .ref b), (1, .ref x0), (2, .ref m0), (3, .ref o1), (4, .int (nI i))]) (hc1 : cells + 1 ≤ room_1.cells) (hs1 : slots + 6 ≤ room_1.slots)
    (kk : ∀ (H1 : Heap) (locs1 : List Loc) (ls1 : Array Slot), LG D cI cZ cL A s.heap x0 a0 a1 a2 a3 a4 b0 b1 d0 d1 e1 e2 m0 m1 m2 m3 m4 m5 o1 H1 locs1 → lv_has ls1 9 [(0, .ref b), (1, .ref x0), (2, .ref m0), (3, .ref o1), (4, .int (nI i))] → W p l e room_1 s m args below meth c H1 locs1 (cells + 1) (slots + 6) Q (F0 m 1124 ls1 [])) : W p l e room_1 s m args below meth c H locs cells slots Q (F0 m 627 ls []) := by
  obtain ⟨gs, gp, gl, gk, fh, fo, fc, fs, fn, fl, fk, fx, hz, mv, kn, od, sz6, ln, tu, rf, th, hs, ov, hCU, hST, hSL, hln, hP, hD, hS⟩ := G
  obtain rfl : kn = sz6 := hST.1
  by_cases h06 : kn = 0
  · exact lo_11_none C hCU hST hSL hln hP hD hS hi hl hc1 hs1 h06 kk
  · obtain ⟨hz2, mv2, hh2, hm2, hCU2⟩ := SV_rd (gs := gs) (fh := fh) (fo := fo) (fc := fc) (fs := fs) (hST.2.2.2 (kn - 1) (by omega))
    exact lo_11_ok C hCU hST hSL hln hP hD hS hi hl hc1 hs1 (by omega) hh2 hm2 hCU2 kk

set_option maxHeartbeats 4000000 in
theorem lo_12 (C : LC p l s m args c D cI cZ cL A b L xs) (G : LG D cI cZ cL A s.heap x0 a0 a1 a2 a3 a4 b0 b1 d0 d1 e1 e2 m0 m1 m2 m3 m4 m5 o1 H locs) (hi : i + 2 < L) (hl : lv_has ls 9 [(0, .ref b), (1, .ref x0), (2, .ref m0), (3, .ref o1), (4, .int (nI i))]) (hc1 : cells + 1 ≤ room_1.cells) (hs1 : slots + 6 ≤ room_1.slots)
    (kk : ∀ (H1 : Heap) (locs1 : List Loc) (ls1 : Array Slot), LG D cI cZ cL A s.heap x0 a0 a1 a2 a3 a4 b0 b1 d0 d1 e1 e2 m0 m1 m2 m3 m4 m5 o1 H1 locs1 → lv_has ls1 9 [(0, .ref b), (1, .ref x0), (2, .ref m0), (3, .ref o1), (4, .int (nI i))] → W p l e room_1 s m args below meth c H1 locs1 (cells + 1) (slots + 6) Q (F0 m 1124 ls1 [])) : W p l e room_1 s m args below meth c H locs cells slots Q (F0 m 671 ls []) := by
  obtain ⟨gs, gp, gl, gk, fh, fo, fc, fs, fn, fl, fk, fx, hz, mv, kn, od, sz6, ln, tu, rf, th, hs, ov, hCU, hST, hSL, hln, hP, hD, hS⟩ := G
  rcases bcase (decide (0 ≤ xs (i + 1)) && decide (xs (i + 1) ≤ 35)) with c1 | c1
  · obtain ⟨q, -, hq0, ev1⟩ := rgi 0 35 (by decide) (by decide) c1
    have hq : q < 36 := by omega
    rcases bcase (decide (0 ≤ xs (i + 2)) && decide (xs (i + 2) ≤ 7)) with c2 | c2
    · obtain ⟨wh, -, hwh0, ev2⟩ := rgi 0 7 (by decide) (by decide) c2
      have hwh : wh < 8 := by omega
      exact lo_12_ok C hCU hST hSL hln hP hD hS hi hl hc1 hs1 hq ev1 hwh ev2 kk
    · exact lo_12_out C hCU hST hSL hln hP hD hS hi hl hc1 hs1 hq ev1 c2 kk
  · exact lo_12_bad C hCU hST hSL hln hP hD hS hi hl hc1 hs1 c1 kk

set_option maxHeartbeats 4000000 in
theorem lo_13 (C : LC p l s m args c D cI cZ cL A b L xs) (G : LG D cI cZ cL A s.heap x0 a0 a1 a2 a3 a4 b0 b1 d0 d1 e1 e2 m0 m1 m2 m3 m4 m5 o1 H locs) (hi : i + 2 < L) (hl : lv_has ls 9 [(0, .ref b), (1, .ref x0), (2, .ref m0), (3, .ref o1), (4, .int (nI i))]) (hc1 : cells + 1 ≤ room_1.cells) (hs1 : slots + 6 ≤ room_1.slots)
    (kk : ∀ (H1 : Heap) (locs1 : List Loc) (ls1 : Array Slot), LG D cI cZ cL A s.heap x0 a0 a1 a2 a3 a4 b0 b1 d0 d1 e1 e2 m0 m1 m2 m3 m4 m5 o1 H1 locs1 → lv_has ls1 9 [(0, .ref b), (1, .ref x0), (2, .ref m0), (3, .ref o1), (4, .int (nI i))] → W p l e room_1 s m args below meth c H1 locs1 (cells + 1) (slots + 6) Q (F0 m 1124 ls1 [])) : W p l e room_1 s m args below meth c H locs cells slots Q (F0 m 739 ls []) := by
  obtain ⟨gs, gp, gl, gk, fh, fo, fc, fs, fn, fl, fk, fx, hz, mv, kn, od, sz6, ln, tu, rf, th, hs, ov, hCU, hST, hSL, hln, hP, hD, hS⟩ := G
  rcases bcase (decide (0 ≤ xs (i + 1)) && decide (xs (i + 1) ≤ 1)) with c1 | c1
  · obtain ⟨pl, -, hpl0, ev1⟩ := rgi 0 1 (by decide) (by decide) c1
    have hpl : pl < 2 := by omega
    rcases bcase (decide (0 ≤ xs (i + 2)) && decide (xs (i + 2) ≤ 5)) with c2 | c2
    · obtain ⟨wh, -, hwh0, ev2⟩ := rgi 0 5 (by decide) (by decide) c2
      have hwh : wh < 6 := by omega
      exact lo_13_ok C hCU hST hSL hln hP hD hS hi hl hc1 hs1 hpl ev1 hwh ev2 kk
    · exact lo_13_out C hCU hST hSL hln hP hD hS hi hl hc1 hs1 hpl ev1 c2 kk
  · exact lo_13_bad C hCU hST hSL hln hP hD hS hi hl hc1 hs1 c1 kk

set_option maxHeartbeats 4000000 in
theorem lo_14 (C : LC p l s m args c D cI cZ cL A b L xs) (G : LG D cI cZ cL A s.heap x0 a0 a1 a2 a3 a4 b0 b1 d0 d1 e1 e2 m0 m1 m2 m3 m4 m5 o1 H locs) (hi : i + 2 < L) (hl : lv_has ls 9 [(0, .ref b), (1, .ref x0), (2, .ref m0), (3, .ref o1), (4, .int (nI i))]) (hc1 : cells + 1 ≤ room_1.cells) (hs1 : slots + 6 ≤ room_1.slots)
    (kk : ∀ (H1 : Heap) (locs1 : List Loc) (ls1 : Array Slot), LG D cI cZ cL A s.heap x0 a0 a1 a2 a3 a4 b0 b1 d0 d1 e1 e2 m0 m1 m2 m3 m4 m5 o1 H1 locs1 → lv_has ls1 9 [(0, .ref b), (1, .ref x0), (2, .ref m0), (3, .ref o1), (4, .int (nI i))] → W p l e room_1 s m args below meth c H1 locs1 (cells + 1) (slots + 6) Q (F0 m 1124 ls1 [])) : W p l e room_1 s m args below meth c H locs cells slots Q (F0 m 807 ls []) := by
  obtain ⟨gs, gp, gl, gk, fh, fo, fc, fs, fn, fl, fk, fx, hz, mv, kn, od, sz6, ln, tu, rf, th, hs, ov, hCU, hST, hSL, hln, hP, hD, hS⟩ := G
  rcases bcase (decide (0 ≤ xs (i + 1)) && decide (xs (i + 1) ≤ 9)) with c1 | c1
  · obtain ⟨wh, -, hwh0, ev1⟩ := rgi 0 9 (by decide) (by decide) c1
    have hwh : wh < 10 := by omega
    exact lo_14_ok C hCU hST hSL hln hP hD hS hi hl hc1 hs1 hwh ev1 kk
  · exact lo_14_out C hCU hST hSL hln hP hD hS hi hl hc1 hs1 c1 kk

set_option maxHeartbeats 4000000 in
theorem lo_15 (C : LC p l s m args c D cI cZ cL A b L xs) (G : LG D cI cZ cL A s.heap x0 a0 a1 a2 a3 a4 b0 b1 d0 d1 e1 e2 m0 m1 m2 m3 m4 m5 o1 H locs) (hi : i + 2 < L) (hl : lv_has ls 9 [(0, .ref b), (1, .ref x0), (2, .ref m0), (3, .ref o1), (4, .int (nI i))]) (hc1 : cells + 1 ≤ room_1.cells) (hs1 : slots + 6 ≤ room_1.slots)
    (kk : ∀ (H1 : Heap) (locs1 : List Loc) (ls1 : Array Slot), LG D cI cZ cL A s.heap x0 a0 a1 a2 a3 a4 b0 b1 d0 d1 e1 e2 m0 m1 m2 m3 m4 m5 o1 H1 locs1 → lv_has ls1 9 [(0, .ref b), (1, .ref x0), (2, .ref m0), (3, .ref o1), (4, .int (nI i))] → W p l e room_1 s m args below meth c H1 locs1 (cells + 1) (slots + 6) Q (F0 m 1124 ls1 [])) : W p l e room_1 s m args below meth c H locs cells slots Q (F0 m 863 ls []) := by
  obtain ⟨gs, gp, gl, gk, fh, fo, fc, fs, fn, fl, fk, fx, hz, mv, kn, od, sz6, ln, tu, rf, th, hs, ov, hCU, hST, hSL, hln, hP, hD, hS⟩ := G
  rcases bcase (decide (0 ≤ xs (i + 1)) && decide (xs (i + 1) ≤ 35)) with c1 | c1
  · obtain ⟨q, -, hq0, ev1⟩ := rgi 0 35 (by decide) (by decide) c1
    have hq : q < 36 := by omega
    exact lo_15_ok C hCU hST hSL hln hP hD hS hi hl hc1 hs1 hq ev1 kk
  · exact lo_15_bad C hCU hST hSL hln hP hD hS hi hl hc1 hs1 c1 kk

set_option maxHeartbeats 4000000 in
theorem lo_16 (C : LC p l s m args c D cI cZ cL A b L xs) (G : LG D cI cZ cL A s.heap x0 a0 a1 a2 a3 a4 b0 b1 d0 d1 e1 e2 m0 m1 m2 m3 m4 m5 o1 H locs) (hi : i + 2 < L) (hl : lv_has ls 9 [(0, .ref b), (1, .ref x0), (2, .ref m0), (3, .ref o1), (4, .int (nI i))]) (hc1 : cells + 1 ≤ room_1.cells) (hs1 : slots + 6 ≤ room_1.slots)
    (kk : ∀ (H1 : Heap) (locs1 : List Loc) (ls1 : Array Slot), LG D cI cZ cL A s.heap x0 a0 a1 a2 a3 a4 b0 b1 d0 d1 e1 e2 m0 m1 m2 m3 m4 m5 o1 H1 locs1 → lv_has ls1 9 [(0, .ref b), (1, .ref x0), (2, .ref m0), (3, .ref o1), (4, .int (nI i))] → W p l e room_1 s m args below meth c H1 locs1 (cells + 1) (slots + 6) Q (F0 m 1124 ls1 [])) : W p l e room_1 s m args below meth c H locs cells slots Q (F0 m 919 ls []) := by
  obtain ⟨gs, gp, gl, gk, fh, fo, fc, fs, fn, fl, fk, fx, hz, mv, kn, od, sz6, ln, tu, rf, th, hs, ov, hCU, hST, hSL, hln, hP, hD, hS⟩ := G
  rcases bcase (decide (0 ≤ xs (i + 1)) && decide (xs (i + 1) ≤ 35)) with c1 | c1
  · obtain ⟨q, -, hq0, ev1⟩ := rgi 0 35 (by decide) (by decide) c1
    have hq : q < 36 := by omega
    exact lo_16_ok C hCU hST hSL hln hP hD hS hi hl hc1 hs1 hq ev1 kk
  · exact lo_16_bad C hCU hST hSL hln hP hD hS hi hl hc1 hs1 c1 kk

set_option maxHeartbeats 4000000 in
theorem lo_17 (C : LC p l s m args c D cI cZ cL A b L xs) (G : LG D cI cZ cL A s.heap x0 a0 a1 a2 a3 a4 b0 b1 d0 d1 e1 e2 m0 m1 m2 m3 m4 m5 o1 H locs) (hi : i + 2 < L) (hl : lv_has ls 9 [(0, .ref b), (1, .ref x0), (2, .ref m0), (3, .ref o1), (4, .int (nI i))]) (hc1 : cells + 1 ≤ room_1.cells) (hs1 : slots + 6 ≤ room_1.slots)
    (kk : ∀ (H1 : Heap) (locs1 : List Loc) (ls1 : Array Slot), LG D cI cZ cL A s.heap x0 a0 a1 a2 a3 a4 b0 b1 d0 d1 e1 e2 m0 m1 m2 m3 m4 m5 o1 H1 locs1 → lv_has ls1 9 [(0, .ref b), (1, .ref x0), (2, .ref m0), (3, .ref o1), (4, .int (nI i))] → W p l e room_1 s m args below meth c H1 locs1 (cells + 1) (slots + 6) Q (F0 m 1124 ls1 [])) : W p l e room_1 s m args below meth c H locs cells slots Q (F0 m 975 ls []) := by
  obtain ⟨gs, gp, gl, gk, fh, fo, fc, fs, fn, fl, fk, fx, hz, mv, kn, od, sz6, ln, tu, rf, th, hs, ov, hCU, hST, hSL, hln, hP, hD, hS⟩ := G
  exact lo_17_ok C hCU hST hSL hln hP hD hS hi hl hc1 hs1 kk

set_option maxHeartbeats 4000000 in
theorem lo_18 (C : LC p l s m args c D cI cZ cL A b L xs) (G : LG D cI cZ cL A s.heap x0 a0 a1 a2 a3 a4 b0 b1 d0 d1 e1 e2 m0 m1 m2 m3 m4 m5 o1 H locs) (hi : i + 2 < L) (hl : lv_has ls 9 [(0, .ref b), (1, .ref x0), (2, .ref m0), (3, .ref o1), (4, .int (nI i))]) (hc1 : cells + 1 ≤ room_1.cells) (hs1 : slots + 6 ≤ room_1.slots)
    (kk : ∀ (H1 : Heap) (locs1 : List Loc) (ls1 : Array Slot), LG D cI cZ cL A s.heap x0 a0 a1 a2 a3 a4 b0 b1 d0 d1 e1 e2 m0 m1 m2 m3 m4 m5 o1 H1 locs1 → lv_has ls1 9 [(0, .ref b), (1, .ref x0), (2, .ref m0), (3, .ref o1), (4, .int (nI i))] → W p l e room_1 s m args below meth c H1 locs1 (cells + 1) (slots + 6) Q (F0 m 1124 ls1 [])) : W p l e room_1 s m args below meth c H locs cells slots Q (F0 m 988 ls []) := by
  obtain ⟨gs, gp, gl, gk, fh, fo, fc, fs, fn, fl, fk, fx, hz, mv, kn, od, sz6, ln, tu, rf, th, hs, ov, hCU, hST, hSL, hln, hP, hD, hS⟩ := G
  rcases bcase ((decide (0 ≤ xs (i + 1)) && decide (xs (i + 1) ≤ 35)) && (decide (0 ≤ xs (i + 2)) && decide (xs (i + 2) ≤ 35))) with c0 | c0
  · obtain ⟨c1, c2⟩ := (Bool.and_eq_true _ _).mp c0
    obtain ⟨f, -, hf0, ev1⟩ := rgi 0 35 (by decide) (by decide) c1
    obtain ⟨q, -, hq0, ev2⟩ := rgi 0 35 (by decide) (by decide) c2
    have hf : f < 36 := by omega
    have hq : q < 36 := by omega
    exact lo_18_ok C hCU hST hSL hln hP hD hS hi hl hc1 hs1 hf ev1 hq ev2 kk
  · exact lo_18_bad C hCU hST hSL hln hP hD hS hi hl hc1 hs1 c0 kk

set_option maxHeartbeats 4000000 in
theorem lo_19 (C : LC p l s m args c D cI cZ cL A b L xs) (G : LG D cI cZ cL A s.heap x0 a0 a1 a2 a3 a4 b0 b1 d0 d1 e1 e2 m0 m1 m2 m3 m4 m5 o1 H locs) (hi : i + 2 < L) (hl : lv_has ls 9 [(0, .ref b), (1, .ref x0), (2, .ref m0), (3, .ref o1), (4, .int (nI i))]) (hc1 : cells + 1 ≤ room_1.cells) (hs1 : slots + 6 ≤ room_1.slots)
    (kk : ∀ (H1 : Heap) (locs1 : List Loc) (ls1 : Array Slot), LG D cI cZ cL A s.heap x0 a0 a1 a2 a3 a4 b0 b1 d0 d1 e1 e2 m0 m1 m2 m3 m4 m5 o1 H1 locs1 → lv_has ls1 9 [(0, .ref b), (1, .ref x0), (2, .ref m0), (3, .ref o1), (4, .int (nI i))] → W p l e room_1 s m args below meth c H1 locs1 (cells + 1) (slots + 6) Q (F0 m 1124 ls1 [])) : W p l e room_1 s m args below meth c H locs cells slots Q (F0 m 1056 ls []) := by
  obtain ⟨gs, gp, gl, gk, fh, fo, fc, fs, fn, fl, fk, fx, hz, mv, kn, od, sz6, ln, tu, rf, th, hs, ov, hCU, hST, hSL, hln, hP, hD, hS⟩ := G
  exact lo_19_ok C hCU hST hSL hln hP hD hS hi hl hc1 hs1 kk

set_option maxHeartbeats 4000000 in
theorem lo_20 (C : LC p l s m args c D cI cZ cL A b L xs) (G : LG D cI cZ cL A s.heap x0 a0 a1 a2 a3 a4 b0 b1 d0 d1 e1 e2 m0 m1 m2 m3 m4 m5 o1 H locs) (hi : i + 2 < L) (hl : lv_has ls 9 [(0, .ref b), (1, .ref x0), (2, .ref m0), (3, .ref o1), (4, .int (nI i))]) (hc1 : cells + 1 ≤ room_1.cells) (hs1 : slots + 6 ≤ room_1.slots)
    (kk : ∀ (H1 : Heap) (locs1 : List Loc) (ls1 : Array Slot), LG D cI cZ cL A s.heap x0 a0 a1 a2 a3 a4 b0 b1 d0 d1 e1 e2 m0 m1 m2 m3 m4 m5 o1 H1 locs1 → lv_has ls1 9 [(0, .ref b), (1, .ref x0), (2, .ref m0), (3, .ref o1), (4, .int (nI i))] → W p l e room_1 s m args below meth c H1 locs1 (cells + 1) (slots + 6) Q (F0 m 1124 ls1 [])) : W p l e room_1 s m args below meth c H locs cells slots Q (F0 m 1069 ls []) := by
  obtain ⟨gs, gp, gl, gk, fh, fo, fc, fs, fn, fl, fk, fx, hz, mv, kn, od, sz6, ln, tu, rf, th, hs, ov, hCU, hST, hSL, hln, hP, hD, hS⟩ := G
  exact lo_20_ok C hCU hST hSL hln hP hD hS hi hl hc1 hs1 kk

set_option maxHeartbeats 4000000 in
theorem lo_21 (C : LC p l s m args c D cI cZ cL A b L xs) (G : LG D cI cZ cL A s.heap x0 a0 a1 a2 a3 a4 b0 b1 d0 d1 e1 e2 m0 m1 m2 m3 m4 m5 o1 H locs) (hi : i + 2 < L) (hl : lv_has ls 9 [(0, .ref b), (1, .ref x0), (2, .ref m0), (3, .ref o1), (4, .int (nI i))]) (hc1 : cells + 1 ≤ room_1.cells) (hs1 : slots + 6 ≤ room_1.slots)
    (kk : ∀ (H1 : Heap) (locs1 : List Loc) (ls1 : Array Slot), LG D cI cZ cL A s.heap x0 a0 a1 a2 a3 a4 b0 b1 d0 d1 e1 e2 m0 m1 m2 m3 m4 m5 o1 H1 locs1 → lv_has ls1 9 [(0, .ref b), (1, .ref x0), (2, .ref m0), (3, .ref o1), (4, .int (nI i))] → W p l e room_1 s m args below meth c H1 locs1 (cells + 1) (slots + 6) Q (F0 m 1124 ls1 [])) : W p l e room_1 s m args below meth c H locs cells slots Q (F0 m 1110 ls []) := by
  obtain ⟨gs, gp, gl, gk, fh, fo, fc, fs, fn, fl, fk, fx, hz, mv, kn, od, sz6, ln, tu, rf, th, hs, ov, hCU, hST, hSL, hln, hP, hD, hS⟩ := G
  exact lo_21_ok C hCU hST hSL hln hP hD hS hi hl hc1 hs1 kk

set_option maxHeartbeats 4000000 in
set_option maxRecDepth 100000 in
theorem lo_all (C : LC p l s m args c D cI cZ cL A b L xs) (hE : ∀ (H1 : Heap) (locs1 : List Loc) (ls1 : Array Slot) (k n : Nat), va_S A s.heap H1 locs1 → k ≤ room_1.cells → n ≤ room_1.slots → W p l e room_1 s m args below meth c H1 locs1 k n Q (F0 m 1130 ls1 [])) :
    ∀ (n i cells slots : Nat) (H : Heap) (locs : List Loc) (ls : Array Slot), L ≤ i + 3 * n + 2 → i ≤ 1536 → cells + n ≤ room_1.cells → slots + 6 * n ≤ room_1.slots → LG D cI cZ cL A s.heap x0 a0 a1 a2 a3 a4 b0 b1 d0 d1 e1 e2 m0 m1 m2 m3 m4 m5 o1 H locs → lv_has ls 9 [(0, .ref b), (1, .ref x0), (2, .ref m0), (3, .ref o1), (4, .int (nI i))] → W p l e room_1 s m args below meth c H locs cells slots Q (F0 m 23 ls []) := by
  intro n
  induction n with
  | zero =>
    intro i cells slots H locs ls hn hi3 hcn hsn G hl
    obtain ⟨hx, hb, hml, hown, hts, hK, hN, hXN, hUS, hNC, hX, hbl, hbA, hL, hA, hlt⟩ := id C
    have hS : va_S A s.heap H locs := by obtain ⟨_, _, _, _, _, _, _, _, _, _, _, _, _, _, _, _, _, _, _, _, _, _, _, -, -, -, -, -, -, hS⟩ := G; exact hS
    refine lv_iload hx hb dL_law_23 (lv_at hl 4 rfl) ?_
    refine lv_aload_n hx hb dL_law_25 rfl (lv_at hl 0 rfl) ?_
    refine va_slen hx hb hX hbl hbA hS dL_law_26 ?_
    refine lv_iconst (v := 3) hx hb dL_law_27 (by decide) ?_
    refine z_isub (v := ((Int32.ofNat L) - 3)) hx hb dL_law_28 (rfl) ?_
    refine z_icmp_gt (tgt := 1130) (P := ¬ i + 3 ≤ L) hx hb dL_law_29 (by decide) (lo_hd hL hi3) (fun c29 => ?_) (fun c29 => (show False by omega).elim)
    exact hE _ _ _ _ _ hS (by omega) (by omega)
  | succ n ih =>
    intro i cells slots H locs ls hn hi3 hcn hsn G hl
    obtain ⟨hx, hb, hml, hown, hts, hK, hN, hXN, hUS, hNC, hX, hbl, hbA, hL, hA, hlt⟩ := id C
    have hS : va_S A s.heap H locs := by obtain ⟨_, _, _, _, _, _, _, _, _, _, _, _, _, _, _, _, _, _, _, _, _, _, _, -, -, -, -, -, -, hS⟩ := G; exact hS
    refine lv_iload hx hb dL_law_23 (lv_at hl 4 rfl) ?_
    refine lv_aload_n hx hb dL_law_25 rfl (lv_at hl 0 rfl) ?_
    refine va_slen hx hb hX hbl hbA hS dL_law_26 ?_
    refine lv_iconst (v := 3) hx hb dL_law_27 (by decide) ?_
    refine z_isub (v := ((Int32.ofNat L) - 3)) hx hb dL_law_28 (rfl) ?_
    refine z_icmp_gt (tgt := 1130) (P := ¬ i + 3 ≤ L) hx hb dL_law_29 (by decide) (lo_hd hL hi3) (fun c29 => ?_) (fun c29 => ?_)
    · exact hE _ _ _ _ _ hS (by omega) (by omega)
    have hi2 : i + 2 < L := by omega
    have hc1 : cells + 1 ≤ room_1.cells := by omega
    have hs1 : slots + 6 ≤ room_1.slots := by omega
    have kk : ∀ (H1 : Heap) (locs1 : List Loc) (ls1 : Array Slot), LG D cI cZ cL A s.heap x0 a0 a1 a2 a3 a4 b0 b1 d0 d1 e1 e2 m0 m1 m2 m3 m4 m5 o1 H1 locs1 → lv_has ls1 9 [(0, .ref b), (1, .ref x0), (2, .ref m0), (3, .ref o1), (4, .int (nI i))] → W p l e room_1 s m args below meth c H1 locs1 (cells + 1) (slots + 6) Q (F0 m 1124 ls1 []) := by
      intro H1 locs1 ls1 G1 hl1
      refine lv_iinc (v := nI (i + 3)) (lv' := [(4, .int (nI (i + 3))), (0, .ref b), (1, .ref x0), (2, .ref m0), (3, .ref o1)]) hx hb dL_law_1124 hl1 (k := 4) rfl (nI_add i 3) (by decide) rfl (fun ls2 hl2 => ?_)
      refine lv_goto (tgt := 23) hx hb dL_law_1127 (by decide) ?_
      exact ih (i + 3) _ _ _ _ _ (by omega) (by omega) (by omega) (by omega) G1 (lv_sub hl2 [1, 2, 3, 4, 0] rfl)
    refine lv_aload_n hx hb dL_law_32 rfl (lv_at hl 0 rfl) ?_
    refine lv_iload hx hb dL_law_33 (lv_at hl 4 rfl) ?_
    refine z_sld hx hb hX hbl hbA hS (k := i) (rfl) (by omega) (by omega) dL_law_35 ?_
    refine lv_bipush (v := 31) hx hb dL_law_36 (by decide) ?_
    refine z_iand (v := ((xs i) &&& 31)) hx hb dL_law_38 (rfl) ?_
    rcases lo_sw (xs i &&& 31) with ⟨k, hk, ek⟩ | hk
    · rcases (show k = 0 ∨ k = 1 ∨ k = 2 ∨ k = 3 ∨ k = 4 ∨ k = 5 ∨ k = 6 ∨ k = 7 ∨ k = 8 ∨ k = 9 ∨ k = 10 ∨ k = 11 ∨ k = 12 ∨ k = 13 ∨ k = 14 ∨ k = 15 ∨ k = 16 ∨ k = 17 ∨ k = 18 ∨ k = 19 ∨ k = 20 ∨ k = 21 by omega) with rfl | rfl | rfl | rfl | rfl | rfl | rfl | rfl | rfl | rfl | rfl | rfl | rfl | rfl | rfl | rfl | rfl | rfl | rfl | rfl | rfl | rfl
      · refine z_top (y := nI 0) ek ?_
        refine lv_tableIn (off := 101) (tgt := 140) hx hb dL_law_39 (by decide) (by decide) rfl (by decide) ?_
        exact lo_0 C G hi2 hl hc1 hs1 kk
      · refine z_top (y := nI 1) ek ?_
        refine lv_tableIn (off := 157) (tgt := 196) hx hb dL_law_39 (by decide) (by decide) rfl (by decide) ?_
        exact lo_1 C G hi2 hl hc1 hs1 kk
      · refine z_top (y := nI 2) ek ?_
        refine lv_tableIn (off := 170) (tgt := 209) hx hb dL_law_39 (by decide) (by decide) rfl (by decide) ?_
        exact lo_2 C G hi2 hl hc1 hs1 kk
      · refine z_top (y := nI 3) ek ?_
        refine lv_tableIn (off := 238) (tgt := 277) hx hb dL_law_39 (by decide) (by decide) rfl (by decide) ?_
        exact lo_3 C G hi2 hl hc1 hs1 kk
      · refine z_top (y := nI 4) ek ?_
        refine lv_tableIn (off := 294) (tgt := 333) hx hb dL_law_39 (by decide) (by decide) rfl (by decide) ?_
        exact lo_4 C G hi2 hl hc1 hs1 kk
      · refine z_top (y := nI 5) ek ?_
        refine lv_tableIn (off := 350) (tgt := 389) hx hb dL_law_39 (by decide) (by decide) rfl (by decide) ?_
        exact lo_5 C G hi2 hl hc1 hs1 kk
      · refine z_top (y := nI 6) ek ?_
        refine lv_tableIn (off := 406) (tgt := 445) hx hb dL_law_39 (by decide) (by decide) rfl (by decide) ?_
        exact lo_6 C G hi2 hl hc1 hs1 kk
      · refine z_top (y := nI 7) ek ?_
        refine lv_tableIn (off := 419) (tgt := 458) hx hb dL_law_39 (by decide) (by decide) rfl (by decide) ?_
        exact lo_7 C G hi2 hl hc1 hs1 kk
      · refine z_top (y := nI 8) ek ?_
        refine lv_tableIn (off := 432) (tgt := 471) hx hb dL_law_39 (by decide) (by decide) rfl (by decide) ?_
        exact lo_8 C G hi2 hl hc1 hs1 kk
      · refine z_top (y := nI 9) ek ?_
        refine lv_tableIn (off := 476) (tgt := 515) hx hb dL_law_39 (by decide) (by decide) rfl (by decide) ?_
        exact lo_9 C G hi2 hl hc1 hs1 kk
      · refine z_top (y := nI 10) ek ?_
        refine lv_tableIn (off := 532) (tgt := 571) hx hb dL_law_39 (by decide) (by decide) rfl (by decide) ?_
        exact lo_10 C G hi2 hl hc1 hs1 kk
      · refine z_top (y := nI 11) ek ?_
        refine lv_tableIn (off := 588) (tgt := 627) hx hb dL_law_39 (by decide) (by decide) rfl (by decide) ?_
        exact lo_11 C G hi2 hl hc1 hs1 kk
      · refine z_top (y := nI 12) ek ?_
        refine lv_tableIn (off := 632) (tgt := 671) hx hb dL_law_39 (by decide) (by decide) rfl (by decide) ?_
        exact lo_12 C G hi2 hl hc1 hs1 kk
      · refine z_top (y := nI 13) ek ?_
        refine lv_tableIn (off := 700) (tgt := 739) hx hb dL_law_39 (by decide) (by decide) rfl (by decide) ?_
        exact lo_13 C G hi2 hl hc1 hs1 kk
      · refine z_top (y := nI 14) ek ?_
        refine lv_tableIn (off := 768) (tgt := 807) hx hb dL_law_39 (by decide) (by decide) rfl (by decide) ?_
        exact lo_14 C G hi2 hl hc1 hs1 kk
      · refine z_top (y := nI 15) ek ?_
        refine lv_tableIn (off := 824) (tgt := 863) hx hb dL_law_39 (by decide) (by decide) rfl (by decide) ?_
        exact lo_15 C G hi2 hl hc1 hs1 kk
      · refine z_top (y := nI 16) ek ?_
        refine lv_tableIn (off := 880) (tgt := 919) hx hb dL_law_39 (by decide) (by decide) rfl (by decide) ?_
        exact lo_16 C G hi2 hl hc1 hs1 kk
      · refine z_top (y := nI 17) ek ?_
        refine lv_tableIn (off := 936) (tgt := 975) hx hb dL_law_39 (by decide) (by decide) rfl (by decide) ?_
        exact lo_17 C G hi2 hl hc1 hs1 kk
      · refine z_top (y := nI 18) ek ?_
        refine lv_tableIn (off := 949) (tgt := 988) hx hb dL_law_39 (by decide) (by decide) rfl (by decide) ?_
        exact lo_18 C G hi2 hl hc1 hs1 kk
      · refine z_top (y := nI 19) ek ?_
        refine lv_tableIn (off := 1017) (tgt := 1056) hx hb dL_law_39 (by decide) (by decide) rfl (by decide) ?_
        exact lo_19 C G hi2 hl hc1 hs1 kk
      · refine z_top (y := nI 20) ek ?_
        refine lv_tableIn (off := 1030) (tgt := 1069) hx hb dL_law_39 (by decide) (by decide) rfl (by decide) ?_
        exact lo_20 C G hi2 hl hc1 hs1 kk
      · refine z_top (y := nI 21) ek ?_
        refine lv_tableIn (off := 1071) (tgt := 1110) hx hb dL_law_39 (by decide) (by decide) rfl (by decide) ?_
        exact lo_21 C G hi2 hl hc1 hs1 kk
    · refine lv_tableOut (tgt := 1124) hx hb dL_law_39 hk (by decide) ?_
      refine W.widen (k := cells + 1) (n := slots + 6) (by omega) (by omega) ?_
      exact kk _ _ _ G hl
end LOD
