set_option maxHeartbeats 4000000 in
set_option maxRecDepth 100000 in
/-- a cell of the script -/
theorem c_L_cell (l : Launch) (b : Nat) (L : Nat) (xs : Nat → Int32) (k : Nat) (hL : L ≤ 260) (hk : k < 1000) : Met l yL_cell wsL_cell ({ frames := 0, cells := 0, slots := 0, locals := 0 }) (va_Pc [.ref b, .int (nI k)] (zS b L xs)) (zQi (pCe L xs k)) 0 0 (fun _ => False) := by
  refine Met.ofW (cc := cL_cell) (maxL := 2) (ret := (some .int)) (by decide) rfl ?_
  intro p e s m args below meth c s₁ B hml hv
  obtain ⟨rfl, hX, hbl⟩ := hv
  have hx := B.exec
  have hb := B.bytes
  have hr := B.returns
  have hts := atoms_spec (ws := wsL_cell) B.pre
  have hown : s.vm.findClass RL = some m.cls := findClass_of_methodNamed B.named
  have hlocks := B.notSynchronized
  have hl := lv_entry ([.ref b, .int (nI k)]) (n := 2) (Nat.le_of_ble_eq_true rfl)
  rw [lg_entry_eq]
  generalize (lg_sl ([.ref b, .int (nI k)]) ++ List.replicate (2 - (lg_sl ([.ref b, .int (nI k)])).length) Slot.unset).toArray = ls at hl ⊢
  have hl : lv_has ls 2 [(0, .ref b), (1, .int (nI k))] := hl
  refine lv_iload_n hx hb dL_cell_0 rfl (lv_at hl 1 rfl) ?_
  refine lv_aload_n hx hb dL_cell_1 rfl (lv_at hl 0 rfl) ?_
  refine va_slen (A := fun _ => False) hx hb hX hbl (fun h => h) va_S.rf dL_cell_2 ?_
  refine z_top (y := nI L) rfl ?_
  refine z_icmp_ge (tgt := 12) (P := L ≤ k) hx hb dL_cell_3 (by decide) (nI_leI (a := L) (b := k) (by omega) (by omega)) (fun c3 => ?_) (fun c3 => ?_)
  · skip
    refine lv_sipush (v := 7919) hx hb dL_cell_12 (by decide) ?_
    refine lv_iload_n hx hb dL_cell_15 rfl (lv_at hl 1 rfl) ?_
    refine lv_iconst (v := 3) hx hb dL_cell_16 (by decide) ?_
    refine z_iadd (v := nI (k + 3)) hx hb dL_cell_17 (nI_add (k) (3)) ?_
    refine z_imul (v := nI (7919 * (k + 3))) hx hb dL_cell_18 (pk_mul (7919) ((k + 3))) ?_
    refine lv_iload_n hx hb dL_cell_19 rfl (lv_at hl 1 rfl) ?_
    refine lv_bipush (v := 11) hx hb dL_cell_20 (by decide) ?_
    refine z_iadd (v := nI (k + 11)) hx hb dL_cell_22 (nI_add (k) (11)) ?_
    refine z_imul (v := nI ((7919 * (k + 3)) * (k + 11))) hx hb dL_cell_23 (pk_mul ((7919 * (k + 3))) ((k + 11))) ?_
    exact z_iret hx hb hr hlocks dL_cell_24 (by first | (rw [pCe, if_pos (by omega)]; done) | (rw [pCe, if_neg (by omega)]; done))
  · skip
    refine lv_aload_n hx hb dL_cell_6 rfl (lv_at hl 0 rfl) ?_
    refine lv_iload_n hx hb dL_cell_7 rfl (lv_at hl 1 rfl) ?_
    refine z_sld (A := fun _ => False) hx hb hX hbl (fun h => h) va_S.rf k rfl (by omega) (by omega) dL_cell_8 ?_
    refine lv_goto (tgt := 24) hx hb dL_cell_9 (by decide) ?_
    exact z_iret hx hb hr hlocks dL_cell_24 (by first | (rw [pCe, if_pos (by omega)]; done) | (rw [pCe, if_neg (by omega)]; done))

set_option maxHeartbeats 4000000 in
set_option maxRecDepth 100000 in
/-- a low part -/
theorem c_L_low (l : Launch) (v : Int32) (n : Nat) (hn0 : 0 < n) (hn1 : n < 100) : Met l yL_low wsL_low ({ frames := 0, cells := 0, slots := 0, locals := 0 }) (va_Pc [.int v, .int (nI n)] (fun _ => True)) (zQi (nI (lw v n))) 0 0 (fun _ => False) := by
  refine Met.ofW (cc := cL_low) (maxL := 2) (ret := (some .int)) (by decide) rfl ?_
  intro p e s m args below meth c s₁ B hml hv
  obtain ⟨rfl, -⟩ := hv
  have hx := B.exec
  have hb := B.bytes
  have hr := B.returns
  have hts := atoms_spec (ws := wsL_low) B.pre
  have hown : s.vm.findClass RL = some m.cls := findClass_of_methodNamed B.named
  have hlocks := B.notSynchronized
  have hl := lv_entry ([.int v, .int (nI n)]) (n := 2) (Nat.le_of_ble_eq_true rfl)
  rw [lg_entry_eq]
  generalize (lg_sl ([.int v, .int (nI n)]) ++ List.replicate (2 - (lg_sl ([.int v, .int (nI n)])).length) Slot.unset).toArray = ls at hl ⊢
  have hl : lv_has ls 2 [(0, .int v), (1, .int (nI n))] := hl
  refine lv_iload_n hx hb dL_low_0 rfl (lv_at hl 0 rfl) ?_
  refine lv_ldc (v := 2147483647) hx hb hown (hts (.constant RL 7 2147483647) (by decide +kernel)) dL_low_1 ?_
  refine z_iand (v := (v &&& 2147483647)) hx hb dL_low_3 (rfl) ?_
  refine lv_iload_n hx hb dL_low_4 rfl (lv_at hl 1 rfl) ?_
  refine z_irem (v := nI (lw v n)) hx hb dL_low_5 (nI_ne0 hn0 (by omega)) (lw_ok v hn0 hn1) ?_
  exact z_iret hx hb hr hlocks dL_low_6 (rfl)

set_option maxHeartbeats 4000000 in
set_option maxRecDepth 100000 in
/-- both ways to tell what is dark; the pairs; the counts -/
theorem c_L_isField (l : Launch) (D : va_G) (cI cZ cL : ClassId) (x0 : Nat) (e1 : Nat) (e2 : Nat) (fl : Nat → Int32) (fk : Nat → Int32) (a0 : Nat) (a1 : Nat) (a2 : Nat) (a3 : Nat) (a4 : Nat) (fh : Nat → Int32) (fo : Nat → Int32) (fc : Nat → Int32) (fs : Nat → Int32) (hz : Nat) (mv : Nat) (tu : Int32) (rf : Int32) (b0 : Nat) (b1 : Nat) (fx : Nat → Int32) (d0 : Nat) (d1 : Nat) (fn : Nat → Int32) (od : Nat) (sz6 : Nat) (hJ : JJ fh fo fc hz mv od sz6) : Met l yL_isField wsL_isField ({ frames := 4, cells := 0, slots := 0, locals := 95 }) (va_Pc [.ref x0] (zWn D cI cZ cL [(x0, .inr (3, [.ref a0, .ref b0, .ref d0, .ref e1, .ref e2])), (a0, .inr (0, [.ref a1, .ref a2, .ref a3, .ref a4, .int (nI hz), .int (nI mv), .int tu, .int rf])), (a1, .inl (cI, 36, .inl fh)), (a2, .inl (cI, 36, .inl fo)), (a3, .inl (cI, 36, .inl fc)), (a4, .inl (cI, 2, .inl fs)), (b0, .inr (1, [.ref b1, .int (nI 0)])), (b1, .inl (cI, 60, .inl fx)), (d0, .inr (2, [.ref d1, .int (nI od), .int (nI sz6)])), (d1, .inl (cI, 684, .inl fn)), (e1, .inl (cI, 228, .inl fl)), (e2, .inl (cZ, 2, .inl fk))])) (zQi 1) 0 0 (fun _ => False) := by
  refine Met.ofW (cc := cL_isField) (maxL := 16) (ret := (some .boolean)) (by decide) rfl ?_
  intro p e s m args below meth c s₁ B hml hv
  obtain ⟨rfl, ⟨hP, hK⟩, hN⟩ := hv
  have hx := B.exec
  have hb := B.bytes
  have hr := B.returns
  have hts := atoms_spec (ws := wsL_isField) B.pre
  have hown : s.vm.findClass RL = some m.cls := findClass_of_methodNamed B.named
  have hlocks := B.notSynchronized
  have hl := lv_entry ([.ref x0]) (n := 16) (Nat.le_of_ble_eq_true rfl)
  rw [lg_entry_eq]
  generalize (lg_sl ([.ref x0]) ++ List.replicate (16 - (lg_sl ([.ref x0])).length) Slot.unset).toArray = ls at hl ⊢
  have hl : lv_has ls 16 [(0, .ref x0)] := hl
  obtain ⟨hI, hC, hhz, hmv, hod, hs6⟩ := id hJ
  refine lv_aload_n hx hb dL_isField_0 rfl (lv_at hl 0 rfl) ?_
  refine lv_iconst (v := 0) hx hb dL_isField_1 (by decide) ?_
  refine z_ci (va_runV (As := [.int 0]) (rest := []) ⟨hx, hb, hml, hown, hts⟩ (c_X4_count_ok l D cI cZ cL (x0 := x0) (e1 := e1) (e2 := e2) (fl := fl) (fk := fk) (a0 := a0) (a1 := a1) (a2 := a2) (a3 := a3) (a4 := a4) (fh := fh) (fo := fo) (fc := fc) (fs := fs) (hz := hz) (mv := mv) (tu := tu) (rf := rf) (b0 := b0) (b1 := b1) (fx := fx) (ln := 0) (d0 := d0) (d1 := d1) (fn := fn) (od := od) (sz6 := sz6) (wh := 0) (hwh := by omega) (hhz := by omega)) (cwV 1 hts gL_isField_X4_count rfl rfl rfl (by decide +kernel) ⟨Nat.le_of_ble_eq_true rfl, Nat.le_of_ble_eq_true rfl⟩) (z_preVn hN hK (hP.sub [0, 1, 2, 3, 4, 5, 6, 7, 8, 9, 10, 11] rfl) 0 3 rfl rfl) rfl rfl hl.1 rfl (lv_room (Nat.le_of_ble_eq_true rfl)) dL_isField_2 ⟨Nat.le_of_ble_eq_true rfl, Nat.le_of_ble_eq_true rfl⟩) ?_
  refine z_top (y := nI hz) (rfl) ?_
  refine lv_istore_n (lv' := [(1, .int (nI hz)), (0, .ref x0)]) hx hb dL_isField_5 rfl hl (by decide) rfl (fun ls hl => ?_)
  refine lv_iconst (v := 0) hx hb dL_isField_6 (by decide) ?_
  refine lv_istore_n (lv' := [(2, .int 0), (1, .int (nI hz)), (0, .ref x0)]) hx hb dL_isField_7 rfl hl (by decide) rfl (fun ls hl => ?_)
  refine lv_iconst (v := 0) hx hb dL_isField_8 (by decide) ?_
  refine lv_istore_n (lv' := [(3, .int 0), (2, .int 0), (1, .int (nI hz)), (0, .ref x0)]) hx hb dL_isField_9 rfl hl (by decide) rfl (fun ls hl => ?_)
  refine lv_iconst (v := 0) hx hb dL_isField_10 (by decide) ?_
  refine lv_istore (lv' := [(4, .int 0), (3, .int 0), (2, .int 0), (1, .int (nI hz)), (0, .ref x0)]) hx hb dL_isField_11 hl (by decide) rfl (fun ls hl => ?_)
  refine lv_iconst (v := 0) hx hb dL_isField_13 (by decide) ?_
  refine lv_istore (lv' := [(5, .int 0), (4, .int 0), (3, .int 0), (2, .int 0), (1, .int (nI hz)), (0, .ref x0)]) hx hb dL_isField_14 hl (by decide) rfl (fun ls hl => ?_)
  refine lv_iconst (v := 0) hx hb dL_isField_16 (by decide) ?_
  refine lv_istore (lv' := [(6, .int 0), (5, .int 0), (4, .int 0), (3, .int 0), (2, .int 0), (1, .int (nI hz)), (0, .ref x0)]) hx hb dL_isField_17 hl (by decide) rfl (fun ls hl => ?_)
  refine z_join (pc2 := 41) (st2 := [.int (nI (pSt hz))]) ?_ (fun J19 => ?_)
  · skip
    refine lv_istore (lv' := [(7, .int (nI (pSt hz))), (6, .int 0), (5, .int 0), (4, .int 0), (3, .int 0), (2, .int 0), (1, .int (nI hz)), (0, .ref x0)]) hx hb dL_isField_41 hl (by decide) rfl (fun ls hl => ?_)
    refine lv_iconst (v := 0) hx hb dL_isField_43 (by decide) ?_
    refine lv_istore (lv' := [(8, .int 0), (7, .int (nI (pSt hz))), (6, .int 0), (5, .int 0), (4, .int 0), (3, .int 0), (2, .int 0), (1, .int (nI hz)), (0, .ref x0)]) hx hb dL_isField_44 hl (by decide) rfl (fun ls hl => ?_)
    refine z_up (N := 36) (i0 := 0) (fun i ls => ∃ xd : Int32, xd = sm (fun k => zb (pDk fh k hz)) i ∧ ∃ xs1 : Int32, xs1 = sm (fun k => nI (pSn fh k hz)) i ∧ ∃ xb : Int32, xb = sm (fun k => nI (pBn fh k hz)) i ∧ ∃ xt : Int32, xt = sm (fun k => zb (!decide (fh k = 0))) i ∧ ∃ xc : Int32, xc = sm fc i ∧ lv_has ls 16 [(0, .ref x0), (1, .int (nI hz)), (2, .int xd), (3, .int xs1), (4, .int xb), (5, .int xt), (6, .int xc), (7, .int (nI (pSt hz))), (8, .int (nI i))]) (by omega) (⟨_, rfl, _, rfl, _, rfl, _, rfl, _, rfl, lv_sub hl [8, 7, 6, 5, 4, 3, 2, 1, 0] rfl⟩) (fun i ls hi46 hI ih46 => ?_)
    obtain ⟨xd, exd, xs1, exs1, xb, exb, xt, ext, xc, exc, hl⟩ := hI
    refine lv_iload hx hb dL_isField_46 (lv_at hl 8 rfl) ?_
    refine lv_bipush (v := 36) hx hb dL_isField_48 (by decide) ?_
    refine z_icmp_ge (tgt := 335) (P := 36 ≤ i) hx hb dL_isField_50 (by decide) (nI_leI (a := 36) (b := i) (by omega) (by omega)) (fun c50 => ?_) (fun c50 => ?_)
    · skip
      obtain rfl : i = 36 := by omega
      have hxd : xd = nI (pDn fh hz) := by rw [exd, sm_zb]; rfl
      have hDn := pDn_le fh hz
      have hxt : xt = nI (pOw fo 0 + pOw fo 1) := by rw [ext, sm_zb, ow_tw hI]
      refine lv_aload_n hx hb dL_isField_335 rfl (lv_at hl 0 rfl) ?_
      refine lv_iconst (v := 1) hx hb dL_isField_336 (by decide) ?_
      refine z_ci (va_runV (As := [.int 1]) (rest := []) ⟨hx, hb, hml, hown, hts⟩ (c_X4_count_ok l D cI cZ cL (x0 := x0) (e1 := e1) (e2 := e2) (fl := fl) (fk := fk) (a0 := a0) (a1 := a1) (a2 := a2) (a3 := a3) (a4 := a4) (fh := fh) (fo := fo) (fc := fc) (fs := fs) (hz := hz) (mv := mv) (tu := tu) (rf := rf) (b0 := b0) (b1 := b1) (fx := fx) (ln := 0) (d0 := d0) (d1 := d1) (fn := fn) (od := od) (sz6 := sz6) (wh := 1) (hwh := by omega) (hhz := by omega)) (cwV 1 hts gL_isField_X4_count rfl rfl rfl (by decide +kernel) ⟨Nat.le_of_ble_eq_true rfl, Nat.le_of_ble_eq_true rfl⟩) (z_preVn hN hK (hP.sub [0, 1, 2, 3, 4, 5, 6, 7, 8, 9, 10, 11] rfl) 0 3 rfl rfl) rfl rfl hl.1 rfl (lv_room (Nat.le_of_ble_eq_true rfl)) dL_isField_337 ⟨Nat.le_of_ble_eq_true rfl, Nat.le_of_ble_eq_true rfl⟩) ?_
      refine z_top (y := nI (hz / 3)) (rfl) ?_
      refine lv_iload_n hx hb dL_isField_340 rfl (lv_at hl 1 rfl) ?_
      refine lv_iconst (v := 3) hx hb dL_isField_341 (by decide) ?_
      refine z_idiv (v := nI (hz / 3)) hx hb dL_isField_342 (by decide) (pk_div (a := hz) (d := 3) (by omega) (by omega) (by omega)) ?_
      refine z_icmp_ne (tgt := 429) (P := True) hx hb dL_isField_343 (by decide) (iff_of_true (rfl) trivial) (fun c343 => (show False from c343 trivial).elim) (fun c343 => ?_)
      refine lv_aload_n hx hb dL_isField_346 rfl (lv_at hl 0 rfl) ?_
      refine lv_iconst (v := 2) hx hb dL_isField_347 (by decide) ?_
      refine z_ci (va_runV (As := [.int 2]) (rest := []) ⟨hx, hb, hml, hown, hts⟩ (c_X4_count_ok l D cI cZ cL (x0 := x0) (e1 := e1) (e2 := e2) (fl := fl) (fk := fk) (a0 := a0) (a1 := a1) (a2 := a2) (a3 := a3) (a4 := a4) (fh := fh) (fo := fo) (fc := fc) (fs := fs) (hz := hz) (mv := mv) (tu := tu) (rf := rf) (b0 := b0) (b1 := b1) (fx := fx) (ln := 0) (d0 := d0) (d1 := d1) (fn := fn) (od := od) (sz6 := sz6) (wh := 2) (hwh := by omega) (hhz := by omega)) (cwV 1 hts gL_isField_X4_count rfl rfl rfl (by decide +kernel) ⟨Nat.le_of_ble_eq_true rfl, Nat.le_of_ble_eq_true rfl⟩) (z_preVn hN hK (hP.sub [0, 1, 2, 3, 4, 5, 6, 7, 8, 9, 10, 11] rfl) 0 3 rfl rfl) rfl rfl hl.1 rfl (lv_room (Nat.le_of_ble_eq_true rfl)) dL_isField_348 ⟨Nat.le_of_ble_eq_true rfl, Nat.le_of_ble_eq_true rfl⟩) ?_
      refine z_top (y := nI (pSt hz)) (rfl) ?_
      refine lv_iload hx hb dL_isField_351 (lv_at hl 7 rfl) ?_
      refine z_icmp_ne (tgt := 429) (P := True) hx hb dL_isField_353 (by decide) (iff_of_true (rfl) trivial) (fun c353 => (show False from c353 trivial).elim) (fun c353 => ?_)
      refine lv_aload_n hx hb dL_isField_356 rfl (lv_at hl 0 rfl) ?_
      refine lv_iconst (v := 5) hx hb dL_isField_357 (by decide) ?_
      refine z_ci (va_runV (As := [.int 5]) (rest := []) ⟨hx, hb, hml, hown, hts⟩ (c_X4_count_ok l D cI cZ cL (x0 := x0) (e1 := e1) (e2 := e2) (fl := fl) (fk := fk) (a0 := a0) (a1 := a1) (a2 := a2) (a3 := a3) (a4 := a4) (fh := fh) (fo := fo) (fc := fc) (fs := fs) (hz := hz) (mv := mv) (tu := tu) (rf := rf) (b0 := b0) (b1 := b1) (fx := fx) (ln := 0) (d0 := d0) (d1 := d1) (fn := fn) (od := od) (sz6 := sz6) (wh := 5) (hwh := by omega) (hhz := by omega)) (cwV 1 hts gL_isField_X4_count rfl rfl rfl (by decide +kernel) ⟨Nat.le_of_ble_eq_true rfl, Nat.le_of_ble_eq_true rfl⟩) (z_preVn hN hK (hP.sub [0, 1, 2, 3, 4, 5, 6, 7, 8, 9, 10, 11] rfl) 0 3 rfl rfl) rfl rfl hl.1 rfl (lv_room (Nat.le_of_ble_eq_true rfl)) dL_isField_358 ⟨Nat.le_of_ble_eq_true rfl, Nat.le_of_ble_eq_true rfl⟩) ?_
      refine z_top (y := nI (pDn fh hz)) (rfl) ?_
      refine lv_iload_n hx hb dL_isField_361 rfl (lv_at hl 2 rfl) ?_
      refine z_icmp_ne (tgt := 429) (P := True) hx hb dL_isField_362 (by decide) (iff_of_true (hxd.symm) trivial) (fun c362 => (show False from c362 trivial).elim) (fun c362 => ?_)
      refine lv_iload_n hx hb dL_isField_365 rfl (lv_at hl 3 rfl) ?_
      refine lv_iload hx hb dL_isField_366 (lv_at hl 4 rfl) ?_
      refine z_icmp_ne (tgt := 429) (P := True) hx hb dL_isField_368 (by decide) (iff_of_true (by rw [exs1, exb]; exact sum_eq fh hhz) trivial) (fun c368 => (show False from c368 trivial).elim) (fun c368 => ?_)
      refine lv_aload_n hx hb dL_isField_371 rfl (lv_at hl 0 rfl) ?_
      refine lv_bipush (v := 6) hx hb dL_isField_372 (by decide) ?_
      refine z_ci (va_runV (As := [.int 6]) (rest := []) ⟨hx, hb, hml, hown, hts⟩ (c_X4_count_ok l D cI cZ cL (x0 := x0) (e1 := e1) (e2 := e2) (fl := fl) (fk := fk) (a0 := a0) (a1 := a1) (a2 := a2) (a3 := a3) (a4 := a4) (fh := fh) (fo := fo) (fc := fc) (fs := fs) (hz := hz) (mv := mv) (tu := tu) (rf := rf) (b0 := b0) (b1 := b1) (fx := fx) (ln := 0) (d0 := d0) (d1 := d1) (fn := fn) (od := od) (sz6 := sz6) (wh := 6) (hwh := by omega) (hhz := by omega)) (cwV 1 hts gL_isField_X4_count rfl rfl rfl (by decide +kernel) ⟨Nat.le_of_ble_eq_true rfl, Nat.le_of_ble_eq_true rfl⟩) (z_preVn hN hK (hP.sub [0, 1, 2, 3, 4, 5, 6, 7, 8, 9, 10, 11] rfl) 0 3 rfl rfl) rfl rfl hl.1 rfl (lv_room (Nat.le_of_ble_eq_true rfl)) dL_isField_374 ⟨Nat.le_of_ble_eq_true rfl, Nat.le_of_ble_eq_true rfl⟩) ?_
      refine z_top (y := nI (pOw fo 0 + pOw fo 1)) (rfl) ?_
      refine lv_iload hx hb dL_isField_377 (lv_at hl 5 rfl) ?_
      refine z_icmp_ne (tgt := 429) (P := True) hx hb dL_isField_379 (by decide) (iff_of_true (hxt.symm) trivial) (fun c379 => (show False from c379 trivial).elim) (fun c379 => ?_)
      refine lv_aload_n hx hb dL_isField_382 rfl (lv_at hl 0 rfl) ?_
      refine lv_bipush (v := 7) hx hb dL_isField_383 (by decide) ?_
      refine z_ci (va_runV (As := [.int 7]) (rest := []) ⟨hx, hb, hml, hown, hts⟩ (c_X4_count_ok l D cI cZ cL (x0 := x0) (e1 := e1) (e2 := e2) (fl := fl) (fk := fk) (a0 := a0) (a1 := a1) (a2 := a2) (a3 := a3) (a4 := a4) (fh := fh) (fo := fo) (fc := fc) (fs := fs) (hz := hz) (mv := mv) (tu := tu) (rf := rf) (b0 := b0) (b1 := b1) (fx := fx) (ln := 0) (d0 := d0) (d1 := d1) (fn := fn) (od := od) (sz6 := sz6) (wh := 7) (hwh := by omega) (hhz := by omega)) (cwV 1 hts gL_isField_X4_count rfl rfl rfl (by decide +kernel) ⟨Nat.le_of_ble_eq_true rfl, Nat.le_of_ble_eq_true rfl⟩) (z_preVn hN hK (hP.sub [0, 1, 2, 3, 4, 5, 6, 7, 8, 9, 10, 11] rfl) 0 3 rfl rfl) rfl rfl hl.1 rfl (lv_room (Nat.le_of_ble_eq_true rfl)) dL_isField_385 ⟨Nat.le_of_ble_eq_true rfl, Nat.le_of_ble_eq_true rfl⟩) ?_
      refine z_top (y := (pCt fc)) (rfl) ?_
      refine lv_iload hx hb dL_isField_388 (lv_at hl 6 rfl) ?_
      refine z_icmp_ne (tgt := 429) (P := True) hx hb dL_isField_390 (by decide) (iff_of_true (exc.symm) trivial) (fun c390 => (show False from c390 trivial).elim) (fun c390 => ?_)
      refine lv_aload_n hx hb dL_isField_393 rfl (lv_at hl 0 rfl) ?_
      refine z_cd (va_runV (As := []) (rest := []) ⟨hx, hb, hml, hown, hts⟩ (c_X4_darkShare_ok l D cI cZ cL (x0 := x0) (e1 := e1) (e2 := e2) (fl := fl) (fk := fk) (a0 := a0) (a1 := a1) (a2 := a2) (a3 := a3) (a4 := a4) (fh := fh) (fo := fo) (fc := fc) (fs := fs) (hz := hz) (mv := mv) (tu := tu) (rf := rf) (b0 := b0) (b1 := b1) (fx := fx) (ln := 0) (d0 := d0) (d1 := d1) (fn := fn) (od := od) (sz6 := sz6) (hhz := by omega)) (cwV 0 hts gL_isField_X4_darkShare rfl rfl rfl (by decide +kernel) ⟨Nat.le_of_ble_eq_true rfl, Nat.le_of_ble_eq_true rfl⟩) (z_preVn hN hK (hP.sub [0, 1, 2, 3, 4, 5, 6, 7, 8, 9, 10, 11] rfl) 0 3 rfl rfl) rfl rfl hl.1 rfl (lv_room (Nat.le_of_ble_eq_true rfl)) dL_isField_394 ⟨Nat.le_of_ble_eq_true rfl, Nat.le_of_ble_eq_true rfl⟩) ?_
      refine lv_iload_n hx hb dL_isField_397 rfl (lv_at hl 2 rfl) ?_
      refine z_top (y := nI (pDn fh hz)) (hxd) ?_
      refine lv_i2d hx hb dL_isField_398 ?_
      refine lv_ldc2d (v := 4630263366890291200) hx hb hown (hts (.constantDouble RL 25 4630263366890291200) (by decide +kernel)) dL_isField_399 ?_
      refine lv_ddiv hx hb dL_isField_402 (pFq_4 (pDn fh hz) (by omega)) ?_
      refine lv_dcmp hx hb dL_isField_403 ?_
      refine z_if_ne (tgt := 429) (P := True) hx hb dL_isField_404 (by decide) (iff_of_true (pFq_5 (pDn fh hz) (by omega)) trivial) (fun c404 => (show False from c404 trivial).elim) (fun c404 => ?_)
      refine lv_aload_n hx hb dL_isField_407 rfl (lv_at hl 0 rfl) ?_
      refine lv_iconst (v := 0) hx hb dL_isField_408 (by decide) ?_
      refine lv_iconst (v := 1) hx hb dL_isField_409 (by decide) ?_
      refine z_ci (va_runV (As := [.int 0, .int 1]) (rest := []) ⟨hx, hb, hml, hown, hts⟩ (c_X4_playerOf_ok l D cI cZ cL (x0 := x0) (e1 := e1) (e2 := e2) (fl := fl) (fk := fk) (a0 := a0) (a1 := a1) (a2 := a2) (a3 := a3) (a4 := a4) (fh := fh) (fo := fo) (fc := fc) (fs := fs) (hz := hz) (mv := mv) (tu := tu) (rf := rf) (b0 := b0) (b1 := b1) (fx := fx) (ln := 0) (d0 := d0) (d1 := d1) (fn := fn) (od := od) (sz6 := sz6) (pl := 0) (wh := 1) (hpl := by omega) (hwh := by omega) (hhz := by omega)) (cwV 2 hts gL_isField_X4_playerOf rfl rfl rfl (by decide +kernel) ⟨Nat.le_of_ble_eq_true rfl, Nat.le_of_ble_eq_true rfl⟩) (z_preVn hN hK (hP.sub [0, 1, 2, 3, 4, 5, 6, 7, 8, 9, 10, 11] rfl) 0 3 rfl rfl) rfl rfl hl.1 rfl (lv_room (Nat.le_of_ble_eq_true rfl)) dL_isField_410 ⟨Nat.le_of_ble_eq_true rfl, Nat.le_of_ble_eq_true rfl⟩) ?_
      refine z_top (y := nI (pOw fo 0)) (rfl) ?_
      refine lv_aload_n hx hb dL_isField_413 rfl (lv_at hl 0 rfl) ?_
      refine lv_iconst (v := 1) hx hb dL_isField_414 (by decide) ?_
      refine lv_iconst (v := 1) hx hb dL_isField_415 (by decide) ?_
      refine z_ci (va_runV (As := [.int 1, .int 1]) (rest := [.int (nI (pOw fo 0))]) ⟨hx, hb, hml, hown, hts⟩ (c_X4_playerOf_ok l D cI cZ cL (x0 := x0) (e1 := e1) (e2 := e2) (fl := fl) (fk := fk) (a0 := a0) (a1 := a1) (a2 := a2) (a3 := a3) (a4 := a4) (fh := fh) (fo := fo) (fc := fc) (fs := fs) (hz := hz) (mv := mv) (tu := tu) (rf := rf) (b0 := b0) (b1 := b1) (fx := fx) (ln := 0) (d0 := d0) (d1 := d1) (fn := fn) (od := od) (sz6 := sz6) (pl := 1) (wh := 1) (hpl := by omega) (hwh := by omega) (hhz := by omega)) (cwV 2 hts gL_isField_X4_playerOf rfl rfl rfl (by decide +kernel) ⟨Nat.le_of_ble_eq_true rfl, Nat.le_of_ble_eq_true rfl⟩) (z_preVn hN hK (hP.sub [0, 1, 2, 3, 4, 5, 6, 7, 8, 9, 10, 11] rfl) 0 3 rfl rfl) rfl rfl hl.1 rfl (lv_room (Nat.le_of_ble_eq_true rfl)) dL_isField_416 ⟨Nat.le_of_ble_eq_true rfl, Nat.le_of_ble_eq_true rfl⟩) ?_
      refine z_top (y := nI (pOw fo 1)) (rfl) ?_
      refine z_iadd (v := nI ((pOw fo 0) + (pOw fo 1))) hx hb dL_isField_419 (nI_add ((pOw fo 0)) ((pOw fo 1))) ?_
      refine lv_iload hx hb dL_isField_420 (lv_at hl 5 rfl) ?_
      refine z_icmp_ne (tgt := 429) (P := True) hx hb dL_isField_422 (by decide) (iff_of_true (hxt.symm) trivial) (fun c422 => (show False from c422 trivial).elim) (fun c422 => ?_)
      refine lv_iconst (v := 1) hx hb dL_isField_425 (by decide) ?_
      refine lv_goto (tgt := 430) hx hb dL_isField_426 (by decide) ?_
      exact z_zret1 hx hb hr hlocks dL_isField_430 (rfl)
    · skip
      have hq : i < 36 := by omega
      obtain ⟨hn, hn9, ehn, ho1, ho2, ho3, ho4⟩ := II_w hI hq
      have hSn := pSn_le (fh := fh) hq hhz
      have hOm := ow_x ho4 hmv
      have hsd := sn_dk (fh := fh) (q := i) (hz := hz)
      have hsf := sn_f (fh := fh) (q := i) (hz := hz)
      have h9 : fh i = 9 ↔ hn = 9 := by rw [ehn]; exact nI_eq (b := 9) (by omega) (by omega)
      have hz0 : fh i = 0 ↔ hn = 0 := by rw [ehn]; exact nI_eq (b := 0) (by omega) (by omega)
      refine lv_aload_n hx hb dL_isField_53 rfl (lv_at hl 0 rfl) ?_
      refine lv_iload hx hb dL_isField_54 (lv_at hl 8 rfl) ?_
      refine lv_iconst (v := 0) hx hb dL_isField_56 (by decide) ?_
      refine z_ci (va_runV (As := [.int (nI i), .int 0]) (rest := []) ⟨hx, hb, hml, hown, hts⟩ (c_X4_squareOf_ok l D cI cZ cL (x0 := x0) (e1 := e1) (e2 := e2) (fl := fl) (fk := fk) (a0 := a0) (a1 := a1) (a2 := a2) (a3 := a3) (a4 := a4) (fh := fh) (fo := fo) (fc := fc) (fs := fs) (hz := hz) (mv := mv) (tu := tu) (rf := rf) (b0 := b0) (b1 := b1) (fx := fx) (ln := 0) (d0 := d0) (d1 := d1) (fn := fn) (od := od) (sz6 := sz6) (q := i) (wh := 0) (hq := by omega) (hwh := by omega) (hhz := by omega)) (cwV 2 hts gL_isField_X4_squareOf rfl rfl rfl (by decide +kernel) ⟨Nat.le_of_ble_eq_true rfl, Nat.le_of_ble_eq_true rfl⟩) (z_preVn hN hK (hP.sub [0, 1, 2, 3, 4, 5, 6, 7, 8, 9, 10, 11] rfl) 0 3 rfl rfl) rfl rfl hl.1 rfl (lv_room (Nat.le_of_ble_eq_true rfl)) dL_isField_57 ⟨Nat.le_of_ble_eq_true rfl, Nat.le_of_ble_eq_true rfl⟩) ?_
      refine z_top (y := nI hn) (ehn) ?_
      refine lv_istore (lv' := [(9, .int (nI hn)), (0, .ref x0), (1, .int (nI hz)), (2, .int xd), (3, .int xs1), (4, .int xb), (5, .int xt), (6, .int xc), (7, .int (nI (pSt hz))), (8, .int (nI i))]) hx hb dL_isField_60 hl (by decide) rfl (fun ls hl => ?_)
      refine lv_aload_n hx hb dL_isField_62 rfl (lv_at hl 1 rfl) ?_
      refine lv_iload hx hb dL_isField_63 (lv_at hl 9 rfl) ?_
      refine lv_iconst (v := 1) hx hb dL_isField_65 (by decide) ?_
      refine z_ci (va_runV (As := [.int (nI i), .int 1]) (rest := []) ⟨hx, hb, hml, hown, hts⟩ (c_X4_squareOf_ok l D cI cZ cL (x0 := x0) (e1 := e1) (e2 := e2) (fl := fl) (fk := fk) (a0 := a0) (a1 := a1) (a2 := a2) (a3 := a3) (a4 := a4) (fh := fh) (fo := fo) (fc := fc) (fs := fs) (hz := hz) (mv := mv) (tu := tu) (rf := rf) (b0 := b0) (b1 := b1) (fx := fx) (ln := 0) (d0 := d0) (d1 := d1) (fn := fn) (od := od) (sz6 := sz6) (q := i) (wh := 1) (hq := by omega) (hwh := by omega) (hhz := by omega)) (cwV 2 hts gL_isField_X4_squareOf rfl rfl rfl (by decide +kernel) ⟨Nat.le_of_ble_eq_true rfl, Nat.le_of_ble_eq_true rfl⟩) (z_preVn hN hK (hP.sub [0, 1, 2, 3, 4, 5, 6, 7, 8, 9, 10, 11] rfl) 0 3 rfl rfl) rfl rfl hl.1 rfl (lv_room (Nat.le_of_ble_eq_true rfl)) dL_isField_66 ⟨Nat.le_of_ble_eq_true rfl, Nat.le_of_ble_eq_true rfl⟩) ?_
      refine z_top (y := (fo i)) (rfl) ?_
      refine lv_istore (lv' := [(10, .int (fo i)), (9, .int (nI hn)), (0, .ref x0), (1, .int (nI hz)), (2, .int xd), (3, .int xs1), (4, .int xb), (5, .int xt), (6, .int xc), (7, .int (nI (pSt hz))), (8, .int (nI i))]) hx hb dL_isField_69 hl (by decide) rfl (fun ls hl => ?_)
      refine lv_aload_n hx hb dL_isField_71 rfl (lv_at hl 2 rfl) ?_
      refine lv_iload hx hb dL_isField_72 (lv_at hl 10 rfl) ?_
      refine lv_iconst (v := 3) hx hb dL_isField_74 (by decide) ?_
      refine z_ci (va_runV (As := [.int (nI i), .int 3]) (rest := []) ⟨hx, hb, hml, hown, hts⟩ (c_X4_squareOf_ok l D cI cZ cL (x0 := x0) (e1 := e1) (e2 := e2) (fl := fl) (fk := fk) (a0 := a0) (a1 := a1) (a2 := a2) (a3 := a3) (a4 := a4) (fh := fh) (fo := fo) (fc := fc) (fs := fs) (hz := hz) (mv := mv) (tu := tu) (rf := rf) (b0 := b0) (b1 := b1) (fx := fx) (ln := 0) (d0 := d0) (d1 := d1) (fn := fn) (od := od) (sz6 := sz6) (q := i) (wh := 3) (hq := by omega) (hwh := by omega) (hhz := by omega)) (cwV 2 hts gL_isField_X4_squareOf rfl rfl rfl (by decide +kernel) ⟨Nat.le_of_ble_eq_true rfl, Nat.le_of_ble_eq_true rfl⟩) (z_preVn hN hK (hP.sub [0, 1, 2, 3, 4, 5, 6, 7, 8, 9, 10, 11] rfl) 0 3 rfl rfl) rfl rfl hl.1 rfl (lv_room (Nat.le_of_ble_eq_true rfl)) dL_isField_75 ⟨Nat.le_of_ble_eq_true rfl, Nat.le_of_ble_eq_true rfl⟩) ?_
      refine z_top (y := zb (pDk fh i hz)) (rfl) ?_
      refine lv_istore (lv' := [(11, .int (zb (pDk fh i hz))), (10, .int (fo i)), (9, .int (nI hn)), (0, .ref x0), (1, .int (nI hz)), (2, .int xd), (3, .int xs1), (4, .int xb), (5, .int xt), (6, .int xc), (7, .int (nI (pSt hz))), (8, .int (nI i))]) hx hb dL_isField_78 hl (by decide) rfl (fun ls hl => ?_)
      refine lv_aload_n hx hb dL_isField_80 rfl (lv_at hl 3 rfl) ?_
      refine lv_iload hx hb dL_isField_81 (lv_at hl 11 rfl) ?_
      refine lv_iconst (v := 5) hx hb dL_isField_83 (by decide) ?_
      refine z_ci (va_runV (As := [.int (nI i), .int 5]) (rest := []) ⟨hx, hb, hml, hown, hts⟩ (c_X4_squareOf_ok l D cI cZ cL (x0 := x0) (e1 := e1) (e2 := e2) (fl := fl) (fk := fk) (a0 := a0) (a1 := a1) (a2 := a2) (a3 := a3) (a4 := a4) (fh := fh) (fo := fo) (fc := fc) (fs := fs) (hz := hz) (mv := mv) (tu := tu) (rf := rf) (b0 := b0) (b1 := b1) (fx := fx) (ln := 0) (d0 := d0) (d1 := d1) (fn := fn) (od := od) (sz6 := sz6) (q := i) (wh := 5) (hq := by omega) (hwh := by omega) (hhz := by omega)) (cwV 2 hts gL_isField_X4_squareOf rfl rfl rfl (by decide +kernel) ⟨Nat.le_of_ble_eq_true rfl, Nat.le_of_ble_eq_true rfl⟩) (z_preVn hN hK (hP.sub [0, 1, 2, 3, 4, 5, 6, 7, 8, 9, 10, 11] rfl) 0 3 rfl rfl) rfl rfl hl.1 rfl (lv_room (Nat.le_of_ble_eq_true rfl)) dL_isField_84 ⟨Nat.le_of_ble_eq_true rfl, Nat.le_of_ble_eq_true rfl⟩) ?_
      refine z_top (y := nI (pSn fh i hz)) (congrArg nI (pSn_T hI hq hhz).symm) ?_
      refine lv_istore (lv' := [(12, .int (nI (pSn fh i hz))), (11, .int (zb (pDk fh i hz))), (10, .int (fo i)), (9, .int (nI hn)), (0, .ref x0), (1, .int (nI hz)), (2, .int xd), (3, .int xs1), (4, .int xb), (5, .int xt), (6, .int xc), (7, .int (nI (pSt hz))), (8, .int (nI i))]) hx hb dL_isField_87 hl (by decide) rfl (fun ls hl => ?_)
      refine lv_iload hx hb dL_isField_89 (lv_at hl 3 rfl) ?_
      refine z_if_lt (tgt := 211) (P := hn < 0) hx hb dL_isField_91 (by decide) (nI_ltI (a := hn) (b := 0) (by omega) (by omega)) (fun c91 => (show False from absurd c91 (by omega)).elim) (fun c91 => ?_)
      refine lv_iload hx hb dL_isField_94 (lv_at hl 3 rfl) ?_
      refine lv_bipush (v := 10) hx hb dL_isField_96 (by decide) ?_
      refine z_icmp_ge (tgt := 211) (P := 10 ≤ hn) hx hb dL_isField_98 (by decide) (nI_leI (a := 10) (b := hn) (by omega) (by omega)) (fun c98 => (show False from absurd c98 (by omega)).elim) (fun c98 => ?_)
      refine z_join (pc2 := 112) (st2 := [.int (zb (decide (hn = 0)))]) ?_ (fun J101 => ?_)
      · skip
        refine z_join (pc2 := 122) (st2 := [.int (zb (decide (hn = 0))), .int (zb (decide (hn = 0)))]) ?_ (fun J112 => ?_)
        · skip
          refine z_icmp_ne (tgt := 211) (P := True) hx hb dL_isField_122 (by decide) (iff_of_true (rfl) trivial) (fun c122 => (show False from c122 trivial).elim) (fun c122 => ?_)
          refine lv_iload hx hb dL_isField_125 (lv_at hl 2 rfl) ?_
          refine lv_iconst (v := 2) hx hb dL_isField_127 (by decide) ?_
          refine z_icmp_ge (tgt := 211) (P := 2 ≤ (fo i)) hx hb dL_isField_128 (by decide) (Iff.rfl) (fun c128 => (show False from ho2 c128).elim) (fun c128 => ?_)
          refine lv_iload hx hb dL_isField_131 (lv_at hl 1 rfl) ?_
          refine lv_aload_n hx hb dL_isField_133 rfl (lv_at hl 4 rfl) ?_
          refine lv_iload hx hb dL_isField_134 (lv_at hl 12 rfl) ?_
          refine lv_iconst (v := 4) hx hb dL_isField_136 (by decide) ?_
          refine z_ci (va_runV (As := [.int (nI i), .int 4]) (rest := [.int (zb (pDk fh i hz))]) ⟨hx, hb, hml, hown, hts⟩ (c_X4_squareOf_ok l D cI cZ cL (x0 := x0) (e1 := e1) (e2 := e2) (fl := fl) (fk := fk) (a0 := a0) (a1 := a1) (a2 := a2) (a3 := a3) (a4 := a4) (fh := fh) (fo := fo) (fc := fc) (fs := fs) (hz := hz) (mv := mv) (tu := tu) (rf := rf) (b0 := b0) (b1 := b1) (fx := fx) (ln := 0) (d0 := d0) (d1 := d1) (fn := fn) (od := od) (sz6 := sz6) (q := i) (wh := 4) (hq := by omega) (hwh := by omega) (hhz := by omega)) (cwV 2 hts gL_isField_X4_squareOf rfl rfl rfl (by decide +kernel) ⟨Nat.le_of_ble_eq_true rfl, Nat.le_of_ble_eq_true rfl⟩) (z_preVn hN hK (hP.sub [0, 1, 2, 3, 4, 5, 6, 7, 8, 9, 10, 11] rfl) 0 3 rfl rfl) rfl rfl hl.1 rfl (lv_room (Nat.le_of_ble_eq_true rfl)) dL_isField_137 ⟨Nat.le_of_ble_eq_true rfl, Nat.le_of_ble_eq_true rfl⟩) ?_
          refine z_top (y := zb (pDs fh i hz)) (rfl) ?_
          refine z_icmp_ne (tgt := 211) (P := True) hx hb dL_isField_140 (by decide) (iff_of_true (zb_ca (ds_dk hI hq hhz).symm) trivial) (fun c140 => (show False from c140 trivial).elim) (fun c140 => ?_)
          refine z_join (pc2 := 153) (st2 := [.int (zb (pDk fh i hz))]) ?_ (fun J143 => ?_)
          · skip
            refine z_join (pc2 := 164) (st2 := [.int (zb (pDk fh i hz)), .int (zb (pDk fh i hz))]) ?_ (fun J153 => ?_)
            · skip
              refine z_icmp_ne (tgt := 211) (P := True) hx hb dL_isField_164 (by decide) (iff_of_true (rfl) trivial) (fun c164 => (show False from c164 trivial).elim) (fun c164 => ?_)
              refine lv_iload hx hb dL_isField_167 (lv_at hl 0 rfl) ?_
              refine lv_bipush (v := 6) hx hb dL_isField_169 (by decide) ?_
              refine z_icmp_ge (tgt := 211) (P := 6 ≤ (pSn fh i hz)) hx hb dL_isField_171 (by decide) (nI_leI (a := 6) (b := (pSn fh i hz)) (by omega) (by omega)) (fun c171 => (show False from absurd c171 (by omega)).elim) (fun c171 => ?_)
              refine lv_aload_n hx hb dL_isField_174 rfl (lv_at hl 4 rfl) ?_
              refine lv_iload hx hb dL_isField_175 (lv_at hl 12 rfl) ?_
              refine lv_bipush (v := 7) hx hb dL_isField_177 (by decide) ?_
              refine z_ci (va_runV (As := [.int (nI i), .int 7]) (rest := []) ⟨hx, hb, hml, hown, hts⟩ (c_X4_squareOf_ok l D cI cZ cL (x0 := x0) (e1 := e1) (e2 := e2) (fl := fl) (fk := fk) (a0 := a0) (a1 := a1) (a2 := a2) (a3 := a3) (a4 := a4) (fh := fh) (fo := fo) (fc := fc) (fs := fs) (hz := hz) (mv := mv) (tu := tu) (rf := rf) (b0 := b0) (b1 := b1) (fx := fx) (ln := 0) (d0 := d0) (d1 := d1) (fn := fn) (od := od) (sz6 := sz6) (q := i) (wh := 7) (hq := by omega) (hwh := by omega) (hhz := by omega)) (cwV 2 hts gL_isField_X4_squareOf rfl rfl rfl (by decide +kernel) ⟨Nat.le_of_ble_eq_true rfl, Nat.le_of_ble_eq_true rfl⟩) (z_preVn hN hK (hP.sub [0, 1, 2, 3, 4, 5, 6, 7, 8, 9, 10, 11] rfl) 0 3 rfl rfl) rfl rfl hl.1 rfl (lv_room (Nat.le_of_ble_eq_true rfl)) dL_isField_179 ⟨Nat.le_of_ble_eq_true rfl, Nat.le_of_ble_eq_true rfl⟩) ?_
              refine z_top (y := (pMk fh i)) (rfl) ?_
              refine lv_iload_n hx hb dL_isField_182 rfl (lv_at hl 5 rfl) ?_
              refine lv_ishr hx hb dL_isField_183 ?_
              refine lv_iconst (v := 1) hx hb dL_isField_184 (by decide) ?_
              refine z_iand (v := (((pMk fh i) >>> ((nI hz) &&& 31)) &&& 1)) hx hb dL_isField_185 (rfl) ?_
              refine lv_iload hx hb dL_isField_186 (lv_at hl 1 rfl) ?_
              refine z_icmp_ne (tgt := 211) (P := True) hx hb dL_isField_188 (by decide) (iff_of_true (mk_bit fh i hhz) trivial) (fun c188 => (show False from c188 trivial).elim) (fun c188 => ?_)
              refine z_join (pc2 := 212) (st2 := [.int 1]) ?_ (fun J191 => ?_)
              · skip
                refine lv_istore (lv' := [(13, .int 1), (12, .int (nI (pSn fh i hz))), (11, .int (zb (pDk fh i hz))), (10, .int (fo i)), (9, .int (nI hn)), (0, .ref x0), (1, .int (nI hz)), (2, .int xd), (3, .int xs1), (4, .int xb), (5, .int xt), (6, .int xc), (7, .int (nI (pSt hz))), (8, .int (nI i))]) hx hb dL_isField_212 hl (by decide) rfl (fun ls hl => ?_)
                refine lv_aload_n hx hb dL_isField_214 rfl (lv_at hl 5 rfl) ?_
                refine lv_iconst (v := 3) hx hb dL_isField_215 (by decide) ?_
                refine z_ci (va_runV (As := [.int 3]) (rest := []) ⟨hx, hb, hml, hown, hts⟩ (c_X4_count_ok l D cI cZ cL (x0 := x0) (e1 := e1) (e2 := e2) (fl := fl) (fk := fk) (a0 := a0) (a1 := a1) (a2 := a2) (a3 := a3) (a4 := a4) (fh := fh) (fo := fo) (fc := fc) (fs := fs) (hz := hz) (mv := mv) (tu := tu) (rf := rf) (b0 := b0) (b1 := b1) (fx := fx) (ln := 0) (d0 := d0) (d1 := d1) (fn := fn) (od := od) (sz6 := sz6) (wh := 3) (hwh := by omega) (hhz := by omega)) (cwV 1 hts gL_isField_X4_count rfl rfl rfl (by decide +kernel) ⟨Nat.le_of_ble_eq_true rfl, Nat.le_of_ble_eq_true rfl⟩) (z_preVn hN hK (hP.sub [0, 1, 2, 3, 4, 5, 6, 7, 8, 9, 10, 11] rfl) 0 3 rfl rfl) rfl rfl hl.1 rfl (lv_room (Nat.le_of_ble_eq_true rfl)) dL_isField_216 ⟨Nat.le_of_ble_eq_true rfl, Nat.le_of_ble_eq_true rfl⟩) ?_
                refine z_top (y := nI mv) (rfl) ?_
                refine lv_istore (lv' := [(14, .int (nI mv)), (13, .int 1), (12, .int (nI (pSn fh i hz))), (11, .int (zb (pDk fh i hz))), (10, .int (fo i)), (9, .int (nI hn)), (0, .ref x0), (1, .int (nI hz)), (2, .int xd), (3, .int xs1), (4, .int xb), (5, .int xt), (6, .int xc), (7, .int (nI (pSt hz))), (8, .int (nI i))]) hx hb dL_isField_219 hl (by decide) rfl (fun ls hl => ?_)
                refine z_join (pc2 := 259) (st2 := [.int (nI (pRe fo fh hz mv i))]) ?_ (fun J221 => ?_)
                · skip
                  refine lv_istore (lv' := [(15, .int (nI (pRe fo fh hz mv i))), (14, .int (nI mv)), (13, .int 1), (12, .int (nI (pSn fh i hz))), (11, .int (zb (pDk fh i hz))), (10, .int (fo i)), (9, .int (nI hn)), (0, .ref x0), (1, .int (nI hz)), (2, .int xd), (3, .int xs1), (4, .int xb), (5, .int xt), (6, .int xc), (7, .int (nI (pSt hz))), (8, .int (nI i))]) hx hb dL_isField_259 hl (by decide) rfl (fun ls hl => ?_)
                  refine lv_iload hx hb dL_isField_261 (lv_at hl 2 rfl) ?_
                  refine z_if_eq (tgt := 277) (P := False) hx hb dL_isField_263 (by decide) (by decide) (fun c263 => (show False from c263).elim) (fun c263 => ?_)
                  refine lv_aload_n hx hb dL_isField_266 rfl (lv_at hl 7 rfl) ?_
                  refine lv_iload hx hb dL_isField_267 (lv_at hl 15 rfl) ?_
                  refine z_ci (va_runV (As := [.int (nI i)]) (rest := []) ⟨hx, hb, hml, hown, hts⟩ (c_X4_whyNot_ok l D cI cZ cL (x0 := x0) (e1 := e1) (e2 := e2) (fl := fl) (fk := fk) (a0 := a0) (a1 := a1) (a2 := a2) (a3 := a3) (a4 := a4) (fh := fh) (fo := fo) (fc := fc) (fs := fs) (hz := hz) (mv := mv) (tu := tu) (rf := rf) (b0 := b0) (b1 := b1) (fx := fx) (ln := 0) (d0 := d0) (d1 := d1) (fn := fn) (od := od) (sz6 := sz6) (q := i) (hq := by omega) (hhz := by omega) (hmv := by omega)) (cwV 1 hts gL_isField_X4_whyNot rfl rfl rfl (by decide +kernel) ⟨Nat.le_of_ble_eq_true rfl, Nat.le_of_ble_eq_true rfl⟩) (z_preVn hN hK (hP.sub [0, 1, 2, 3, 4, 5, 6, 7, 8, 9, 10, 11] rfl) 0 3 rfl rfl) rfl rfl hl.1 rfl (lv_room (Nat.le_of_ble_eq_true rfl)) dL_isField_269 ⟨Nat.le_of_ble_eq_true rfl, Nat.le_of_ble_eq_true rfl⟩) ?_
                  refine lv_iload hx hb dL_isField_272 (lv_at hl 0 rfl) ?_
                  refine z_icmp_eq (tgt := 279) (P := True) hx hb dL_isField_274 (by decide) (iff_of_true (rfl) trivial) (fun c274 => ?_) (fun c274 => (show False from c274 trivial).elim)
                  refine lv_iload_n hx hb dL_isField_279 rfl (lv_at hl 9 rfl) ?_
                  refine lv_iload hx hb dL_isField_280 (lv_at hl 4 rfl) ?_
                  refine z_iadd (v := (xd + (zb (pDk fh i hz)))) hx hb dL_isField_282 (rfl) ?_
                  refine lv_istore_n (lv' := [(2, .int (xd + (zb (pDk fh i hz)))), (15, .int (nI (pRe fo fh hz mv i))), (14, .int (nI mv)), (13, .int 1), (12, .int (nI (pSn fh i hz))), (11, .int (zb (pDk fh i hz))), (10, .int (fo i)), (9, .int (nI hn)), (0, .ref x0), (1, .int (nI hz)), (3, .int xs1), (4, .int xb), (5, .int xt), (6, .int xc), (7, .int (nI (pSt hz))), (8, .int (nI i))]) hx hb dL_isField_283 rfl hl (by decide) rfl (fun ls hl => ?_)
                  refine lv_iload_n hx hb dL_isField_284 rfl (lv_at hl 10 rfl) ?_
                  refine lv_iload hx hb dL_isField_285 (lv_at hl 4 rfl) ?_
                  refine z_iadd (v := (xs1 + (nI (pSn fh i hz)))) hx hb dL_isField_287 (rfl) ?_
                  refine lv_istore_n (lv' := [(3, .int (xs1 + (nI (pSn fh i hz)))), (2, .int (xd + (zb (pDk fh i hz)))), (15, .int (nI (pRe fo fh hz mv i))), (14, .int (nI mv)), (13, .int 1), (12, .int (nI (pSn fh i hz))), (11, .int (zb (pDk fh i hz))), (10, .int (fo i)), (9, .int (nI hn)), (0, .ref x0), (1, .int (nI hz)), (4, .int xb), (5, .int xt), (6, .int xc), (7, .int (nI (pSt hz))), (8, .int (nI i))]) hx hb dL_isField_288 rfl hl (by decide) rfl (fun ls hl => ?_)
                  refine lv_iload hx hb dL_isField_289 (lv_at hl 11 rfl) ?_
                  refine lv_aload_n hx hb dL_isField_291 rfl (lv_at hl 9 rfl) ?_
                  refine lv_iload hx hb dL_isField_292 (lv_at hl 15 rfl) ?_
                  refine lv_bipush (v := 6) hx hb dL_isField_294 (by decide) ?_
                  refine z_ci (va_runV (As := [.int (nI i), .int 6]) (rest := [.int xb]) ⟨hx, hb, hml, hown, hts⟩ (c_X4_squareOf_ok l D cI cZ cL (x0 := x0) (e1 := e1) (e2 := e2) (fl := fl) (fk := fk) (a0 := a0) (a1 := a1) (a2 := a2) (a3 := a3) (a4 := a4) (fh := fh) (fo := fo) (fc := fc) (fs := fs) (hz := hz) (mv := mv) (tu := tu) (rf := rf) (b0 := b0) (b1 := b1) (fx := fx) (ln := 0) (d0 := d0) (d1 := d1) (fn := fn) (od := od) (sz6 := sz6) (q := i) (wh := 6) (hq := by omega) (hwh := by omega) (hhz := by omega)) (cwV 2 hts gL_isField_X4_squareOf rfl rfl rfl (by decide +kernel) ⟨Nat.le_of_ble_eq_true rfl, Nat.le_of_ble_eq_true rfl⟩) (z_preVn hN hK (hP.sub [0, 1, 2, 3, 4, 5, 6, 7, 8, 9, 10, 11] rfl) 0 3 rfl rfl) rfl rfl hl.1 rfl (lv_room (Nat.le_of_ble_eq_true rfl)) dL_isField_296 ⟨Nat.le_of_ble_eq_true rfl, Nat.le_of_ble_eq_true rfl⟩) ?_
                  refine z_top (y := nI (pBn fh i hz)) (rfl) ?_
                  refine z_iadd (v := (xb + (nI (pBn fh i hz)))) hx hb dL_isField_299 (rfl) ?_
                  refine lv_istore (lv' := [(4, .int (xb + (nI (pBn fh i hz)))), (3, .int (xs1 + (nI (pSn fh i hz)))), (2, .int (xd + (zb (pDk fh i hz)))), (15, .int (nI (pRe fo fh hz mv i))), (14, .int (nI mv)), (13, .int 1), (12, .int (nI (pSn fh i hz))), (11, .int (zb (pDk fh i hz))), (10, .int (fo i)), (9, .int (nI hn)), (0, .ref x0), (1, .int (nI hz)), (5, .int xt), (6, .int xc), (7, .int (nI (pSt hz))), (8, .int (nI i))]) hx hb dL_isField_300 hl (by decide) rfl (fun ls hl => ?_)
                  refine lv_iload hx hb dL_isField_302 (lv_at hl 12 rfl) ?_
                  refine z_join (pc2 := 314) (st2 := [.int (zb (!decide (fh i = 0))), .int xt]) ?_ (fun J304 => ?_)
                  · skip
                    refine z_iadd (v := (xt + (zb (!decide (fh i = 0))))) hx hb dL_isField_314 (rfl) ?_
                    refine lv_istore (lv' := [(5, .int (xt + (zb (!decide (fh i = 0))))), (4, .int (xb + (nI (pBn fh i hz)))), (3, .int (xs1 + (nI (pSn fh i hz)))), (2, .int (xd + (zb (pDk fh i hz)))), (15, .int (nI (pRe fo fh hz mv i))), (14, .int (nI mv)), (13, .int 1), (12, .int (nI (pSn fh i hz))), (11, .int (zb (pDk fh i hz))), (10, .int (fo i)), (9, .int (nI hn)), (0, .ref x0), (1, .int (nI hz)), (6, .int xc), (7, .int (nI (pSt hz))), (8, .int (nI i))]) hx hb dL_isField_315 hl (by decide) rfl (fun ls hl => ?_)
                    refine lv_iload hx hb dL_isField_317 (lv_at hl 13 rfl) ?_
                    refine lv_aload_n hx hb dL_isField_319 rfl (lv_at hl 11 rfl) ?_
                    refine lv_iload hx hb dL_isField_320 (lv_at hl 15 rfl) ?_
                    refine lv_iconst (v := 2) hx hb dL_isField_322 (by decide) ?_
                    refine z_ci (va_runV (As := [.int (nI i), .int 2]) (rest := [.int xc]) ⟨hx, hb, hml, hown, hts⟩ (c_X4_squareOf_ok l D cI cZ cL (x0 := x0) (e1 := e1) (e2 := e2) (fl := fl) (fk := fk) (a0 := a0) (a1 := a1) (a2 := a2) (a3 := a3) (a4 := a4) (fh := fh) (fo := fo) (fc := fc) (fs := fs) (hz := hz) (mv := mv) (tu := tu) (rf := rf) (b0 := b0) (b1 := b1) (fx := fx) (ln := 0) (d0 := d0) (d1 := d1) (fn := fn) (od := od) (sz6 := sz6) (q := i) (wh := 2) (hq := by omega) (hwh := by omega) (hhz := by omega)) (cwV 2 hts gL_isField_X4_squareOf rfl rfl rfl (by decide +kernel) ⟨Nat.le_of_ble_eq_true rfl, Nat.le_of_ble_eq_true rfl⟩) (z_preVn hN hK (hP.sub [0, 1, 2, 3, 4, 5, 6, 7, 8, 9, 10, 11] rfl) 0 3 rfl rfl) rfl rfl hl.1 rfl (lv_room (Nat.le_of_ble_eq_true rfl)) dL_isField_323 ⟨Nat.le_of_ble_eq_true rfl, Nat.le_of_ble_eq_true rfl⟩) ?_
                    refine z_top (y := (fc i)) (rfl) ?_
                    refine z_iadd (v := (xc + (fc i))) hx hb dL_isField_326 (rfl) ?_
                    refine lv_istore (lv' := [(6, .int (xc + (fc i))), (5, .int (xt + (zb (!decide (fh i = 0))))), (4, .int (xb + (nI (pBn fh i hz)))), (3, .int (xs1 + (nI (pSn fh i hz)))), (2, .int (xd + (zb (pDk fh i hz)))), (15, .int (nI (pRe fo fh hz mv i))), (14, .int (nI mv)), (13, .int 1), (12, .int (nI (pSn fh i hz))), (11, .int (zb (pDk fh i hz))), (10, .int (fo i)), (9, .int (nI hn)), (0, .ref x0), (1, .int (nI hz)), (7, .int (nI (pSt hz))), (8, .int (nI i))]) hx hb dL_isField_327 hl (by decide) rfl (fun ls hl => ?_)
                    refine lv_iinc (v := nI (i + 1)) (lv' := [(8, .int (nI (i + 1))), (6, .int (xc + (fc i))), (5, .int (xt + (zb (!decide (fh i = 0))))), (4, .int (xb + (nI (pBn fh i hz)))), (3, .int (xs1 + (nI (pSn fh i hz)))), (2, .int (xd + (zb (pDk fh i hz)))), (15, .int (nI (pRe fo fh hz mv i))), (14, .int (nI mv)), (13, .int 1), (12, .int (nI (pSn fh i hz))), (11, .int (zb (pDk fh i hz))), (10, .int (fo i)), (9, .int (nI hn)), (0, .ref x0), (1, .int (nI hz)), (7, .int (nI (pSt hz)))]) hx hb dL_isField_329 hl (k := 15) rfl (nI_1 (i)) (by decide) rfl (fun ls hl => ?_)
                    refine lv_goto (tgt := 46) hx hb dL_isField_332 (by decide) ?_
                    exact ih46 (by omega) _ (⟨_, by rw [exd]; rfl, _, by rw [exs1]; rfl, _, by rw [exb]; rfl, _, by rw [ext]; rfl, _, by rw [exc]; rfl, lv_sub hl [13, 14, 5, 4, 3, 2, 1, 15, 0] rfl⟩)
                  · skip
                    refine lv_iload hx hb dL_isField_304 (lv_at hl 9 rfl) ?_
                    refine z_if_le (tgt := 313) (P := hn ≤ 0) hx hb dL_isField_306 (by decide) (nI_leI (a := hn) (b := 0) (by omega) (by omega)) (fun c306 => ?_) (fun c306 => ?_)
                    · skip
                      refine lv_iconst (v := 0) hx hb dL_isField_313 (by decide) ?_
                      exact z_top (by first | (rw [decide_eq_true (hz0.mpr (by omega))]; rfl) | (rw [decide_eq_false (fun z => c306 (by have := hz0.mp z; omega))]; rfl)) J304
                    · skip
                      refine lv_iconst (v := 1) hx hb dL_isField_309 (by decide) ?_
                      refine lv_goto (tgt := 314) hx hb dL_isField_310 (by decide) ?_
                      exact z_top (by first | (rw [decide_eq_true (hz0.mpr (by omega))]; rfl) | (rw [decide_eq_false (fun z => c306 (by have := hz0.mp z; omega))]; rfl)) J304
                · skip
                  refine lv_iload hx hb dL_isField_221 (lv_at hl 4 rfl) ?_
                  refine z_if_lt (tgt := 237) (P := (fo i) = -1) hx hb dL_isField_223 (by decide) (ho3) (fun c223 => ?_) (fun c223 => ?_)
                  · skip
                    refine lv_iload hx hb dL_isField_237 (lv_at hl 5 rfl) ?_
                    refine lv_bipush (v := 9) hx hb dL_isField_239 (by decide) ?_
                    refine z_icmp_ne (tgt := 248) (P := hn = 9) hx hb dL_isField_241 (by decide) (nI_eq (a := hn) (b := 9) (by omega) (by omega)) (fun c241 => ?_) (fun c241 => ?_)
                    · skip
                      refine lv_iload hx hb dL_isField_248 (lv_at hl 3 rfl) ?_
                      refine lv_iconst (v := 1) hx hb dL_isField_250 (by decide) ?_
                      refine z_icmp_ne (tgt := 258) (P := (pDk fh i hz) = true) hx hb dL_isField_251 (by decide) (zb_e1) (fun c251 => ?_) (fun c251 => ?_)
                      · skip
                        refine lv_iconst (v := 0) hx hb dL_isField_258 (by decide) ?_
                        exact z_top (by unfold pRe; first | (rw [if_pos (hOm.mpr ⟨c223, c230⟩)]; rfl) | (have hno : ¬ fo i = nI (1 - mv) := (by first | exact fun z => (hOm.mp z).1 c223 | exact fun z => (hOm.mp z).2 c230); first | (rw [if_neg hno, if_pos (h9.mpr c241)]; rfl) | (rw [if_neg hno, if_neg (fun z => c241 (h9.mp z)), if_pos c251]; rfl) | (rw [if_neg hno, if_neg (fun z => c241 (h9.mp z)), if_neg c251]; rfl))) J221
                      · skip
                        refine lv_iconst (v := 3) hx hb dL_isField_254 (by decide) ?_
                        refine lv_goto (tgt := 259) hx hb dL_isField_255 (by decide) ?_
                        exact z_top (by unfold pRe; first | (rw [if_pos (hOm.mpr ⟨c223, c230⟩)]; rfl) | (have hno : ¬ fo i = nI (1 - mv) := (by first | exact fun z => (hOm.mp z).1 c223 | exact fun z => (hOm.mp z).2 c230); first | (rw [if_neg hno, if_pos (h9.mpr c241)]; rfl) | (rw [if_neg hno, if_neg (fun z => c241 (h9.mp z)), if_pos c251]; rfl) | (rw [if_neg hno, if_neg (fun z => c241 (h9.mp z)), if_neg c251]; rfl))) J221
                    · skip
                      refine lv_iconst (v := 2) hx hb dL_isField_244 (by decide) ?_
                      refine lv_goto (tgt := 259) hx hb dL_isField_245 (by decide) ?_
                      exact z_top (by unfold pRe; first | (rw [if_pos (hOm.mpr ⟨c223, c230⟩)]; rfl) | (have hno : ¬ fo i = nI (1 - mv) := (by first | exact fun z => (hOm.mp z).1 c223 | exact fun z => (hOm.mp z).2 c230); first | (rw [if_neg hno, if_pos (h9.mpr c241)]; rfl) | (rw [if_neg hno, if_neg (fun z => c241 (h9.mp z)), if_pos c251]; rfl) | (rw [if_neg hno, if_neg (fun z => c241 (h9.mp z)), if_neg c251]; rfl))) J221
                  · skip
                    refine lv_iload hx hb dL_isField_226 (lv_at hl 4 rfl) ?_
                    refine lv_iload hx hb dL_isField_228 (lv_at hl 0 rfl) ?_
                    refine z_icmp_eq (tgt := 237) (P := (fo i) = (nI mv)) hx hb dL_isField_230 (by decide) (Iff.rfl) (fun c230 => ?_) (fun c230 => ?_)
                    · skip
                      refine lv_iload hx hb dL_isField_237 (lv_at hl 5 rfl) ?_
                      refine lv_bipush (v := 9) hx hb dL_isField_239 (by decide) ?_
                      refine z_icmp_ne (tgt := 248) (P := hn = 9) hx hb dL_isField_241 (by decide) (nI_eq (a := hn) (b := 9) (by omega) (by omega)) (fun c241 => ?_) (fun c241 => ?_)
                      · skip
                        refine lv_iload hx hb dL_isField_248 (lv_at hl 3 rfl) ?_
                        refine lv_iconst (v := 1) hx hb dL_isField_250 (by decide) ?_
                        refine z_icmp_ne (tgt := 258) (P := (pDk fh i hz) = true) hx hb dL_isField_251 (by decide) (zb_e1) (fun c251 => ?_) (fun c251 => ?_)
                        · skip
                          refine lv_iconst (v := 0) hx hb dL_isField_258 (by decide) ?_
                          exact z_top (by unfold pRe; first | (rw [if_pos (hOm.mpr ⟨c223, c230⟩)]; rfl) | (have hno : ¬ fo i = nI (1 - mv) := (by first | exact fun z => (hOm.mp z).1 c223 | exact fun z => (hOm.mp z).2 c230); first | (rw [if_neg hno, if_pos (h9.mpr c241)]; rfl) | (rw [if_neg hno, if_neg (fun z => c241 (h9.mp z)), if_pos c251]; rfl) | (rw [if_neg hno, if_neg (fun z => c241 (h9.mp z)), if_neg c251]; rfl))) J221
                        · skip
                          refine lv_iconst (v := 3) hx hb dL_isField_254 (by decide) ?_
                          refine lv_goto (tgt := 259) hx hb dL_isField_255 (by decide) ?_
                          exact z_top (by unfold pRe; first | (rw [if_pos (hOm.mpr ⟨c223, c230⟩)]; rfl) | (have hno : ¬ fo i = nI (1 - mv) := (by first | exact fun z => (hOm.mp z).1 c223 | exact fun z => (hOm.mp z).2 c230); first | (rw [if_neg hno, if_pos (h9.mpr c241)]; rfl) | (rw [if_neg hno, if_neg (fun z => c241 (h9.mp z)), if_pos c251]; rfl) | (rw [if_neg hno, if_neg (fun z => c241 (h9.mp z)), if_neg c251]; rfl))) J221
                      · skip
                        refine lv_iconst (v := 2) hx hb dL_isField_244 (by decide) ?_
                        refine lv_goto (tgt := 259) hx hb dL_isField_245 (by decide) ?_
                        exact z_top (by unfold pRe; first | (rw [if_pos (hOm.mpr ⟨c223, c230⟩)]; rfl) | (have hno : ¬ fo i = nI (1 - mv) := (by first | exact fun z => (hOm.mp z).1 c223 | exact fun z => (hOm.mp z).2 c230); first | (rw [if_neg hno, if_pos (h9.mpr c241)]; rfl) | (rw [if_neg hno, if_neg (fun z => c241 (h9.mp z)), if_pos c251]; rfl) | (rw [if_neg hno, if_neg (fun z => c241 (h9.mp z)), if_neg c251]; rfl))) J221
                    · skip
                      refine lv_iconst (v := 1) hx hb dL_isField_233 (by decide) ?_
                      refine lv_goto (tgt := 259) hx hb dL_isField_234 (by decide) ?_
                      exact z_top (by unfold pRe; first | (rw [if_pos (hOm.mpr ⟨c223, c230⟩)]; rfl) | (have hno : ¬ fo i = nI (1 - mv) := (by first | exact fun z => (hOm.mp z).1 c223 | exact fun z => (hOm.mp z).2 c230); first | (rw [if_neg hno, if_pos (h9.mpr c241)]; rfl) | (rw [if_neg hno, if_neg (fun z => c241 (h9.mp z)), if_pos c251]; rfl) | (rw [if_neg hno, if_neg (fun z => c241 (h9.mp z)), if_neg c251]; rfl))) J221
              · skip
                refine lv_iload hx hb dL_isField_191 (lv_at hl 3 rfl) ?_
                refine z_if_gt (tgt := 207) (P := 0 < hn) hx hb dL_isField_193 (by decide) (nI_ltI (a := 0) (b := hn) (by omega) (by omega)) (fun c193 => ?_) (fun c193 => ?_)
                · skip
                  refine lv_iconst (v := 1) hx hb dL_isField_207 (by decide) ?_
                  refine lv_goto (tgt := 212) hx hb dL_isField_208 (by decide) ?_
                  exact z_top (rfl) J191
                · skip
                  refine lv_aload_n hx hb dL_isField_196 rfl (lv_at hl 4 rfl) ?_
                  refine lv_iload hx hb dL_isField_197 (lv_at hl 12 rfl) ?_
                  refine lv_bipush (v := 6) hx hb dL_isField_199 (by decide) ?_
                  refine z_ci (va_runV (As := [.int (nI i), .int 6]) (rest := []) ⟨hx, hb, hml, hown, hts⟩ (c_X4_squareOf_ok l D cI cZ cL (x0 := x0) (e1 := e1) (e2 := e2) (fl := fl) (fk := fk) (a0 := a0) (a1 := a1) (a2 := a2) (a3 := a3) (a4 := a4) (fh := fh) (fo := fo) (fc := fc) (fs := fs) (hz := hz) (mv := mv) (tu := tu) (rf := rf) (b0 := b0) (b1 := b1) (fx := fx) (ln := 0) (d0 := d0) (d1 := d1) (fn := fn) (od := od) (sz6 := sz6) (q := i) (wh := 6) (hq := by omega) (hwh := by omega) (hhz := by omega)) (cwV 2 hts gL_isField_X4_squareOf rfl rfl rfl (by decide +kernel) ⟨Nat.le_of_ble_eq_true rfl, Nat.le_of_ble_eq_true rfl⟩) (z_preVn hN hK (hP.sub [0, 1, 2, 3, 4, 5, 6, 7, 8, 9, 10, 11] rfl) 0 3 rfl rfl) rfl rfl hl.1 rfl (lv_room (Nat.le_of_ble_eq_true rfl)) dL_isField_201 ⟨Nat.le_of_ble_eq_true rfl, Nat.le_of_ble_eq_true rfl⟩) ?_
                  refine z_top (y := nI (pBn fh i hz)) (rfl) ?_
                  refine z_if_ne (tgt := 211) (P := True) hx hb dL_isField_204 (by decide) (iff_of_true (by rw [pBn_0 hI hq hhz (hz0.mpr (by omega))]; rfl) trivial) (fun c204 => (show False from c204 trivial).elim) (fun c204 => ?_)
                  refine lv_iconst (v := 1) hx hb dL_isField_207 (by decide) ?_
                  refine lv_goto (tgt := 212) hx hb dL_isField_208 (by decide) ?_
                  exact z_top (rfl) J191
            · skip
              refine lv_iload hx hb dL_isField_153 (lv_at hl 1 rfl) ?_
              refine lv_iconst (v := 1) hx hb dL_isField_155 (by decide) ?_
              refine z_icmp_ne (tgt := 163) (P := (pDk fh i hz) = true) hx hb dL_isField_156 (by decide) (zb_e1) (fun c156 => ?_) (fun c156 => ?_)
              · skip
                refine lv_iconst (v := 0) hx hb dL_isField_163 (by decide) ?_
                exact z_top (by first | (rw [c156]; rfl) | (rw [Bool.eq_false_iff.mpr c156]; rfl)) J153
              · skip
                refine lv_iconst (v := 1) hx hb dL_isField_159 (by decide) ?_
                refine lv_goto (tgt := 164) hx hb dL_isField_160 (by decide) ?_
                exact z_top (by first | (rw [c156]; rfl) | (rw [Bool.eq_false_iff.mpr c156]; rfl)) J153
          · skip
            refine lv_iload hx hb dL_isField_143 (lv_at hl 0 rfl) ?_
            refine z_if_le (tgt := 152) (P := (pSn fh i hz) ≤ 0) hx hb dL_isField_145 (by decide) (nI_leI (a := (pSn fh i hz)) (b := 0) (by omega) (by omega)) (fun c145 => ?_) (fun c145 => ?_)
            · skip
              refine lv_iconst (v := 0) hx hb dL_isField_152 (by decide) ?_
              exact z_top (by first | (rw [hsd.mp (by omega)]; rfl) | (rw [hsf (by omega)]; rfl)) J143
            · skip
              refine lv_iconst (v := 1) hx hb dL_isField_148 (by decide) ?_
              refine lv_goto (tgt := 153) hx hb dL_isField_149 (by decide) ?_
              exact z_top (by first | (rw [hsd.mp (by omega)]; rfl) | (rw [hsf (by omega)]; rfl)) J143
        · skip
          refine lv_iload hx hb dL_isField_112 (lv_at hl 3 rfl) ?_
          refine z_if_ne (tgt := 121) (P := hn = 0) hx hb dL_isField_114 (by decide) (nI_eq (a := hn) (b := 0) (by omega) (by omega)) (fun c114 => ?_) (fun c114 => ?_)
          · skip
            refine lv_iconst (v := 0) hx hb dL_isField_121 (by decide) ?_
            exact z_top (by first | (rw [decide_eq_true c114]; rfl) | (rw [decide_eq_false c114]; rfl)) J112
          · skip
            refine lv_iconst (v := 1) hx hb dL_isField_117 (by decide) ?_
            refine lv_goto (tgt := 122) hx hb dL_isField_118 (by decide) ?_
            exact z_top (by first | (rw [decide_eq_true c114]; rfl) | (rw [decide_eq_false c114]; rfl)) J112
      · skip
        refine lv_iload hx hb dL_isField_101 (lv_at hl 2 rfl) ?_
        refine lv_iconst (v := (-1)) hx hb dL_isField_103 (by decide) ?_
        refine z_icmp_ne (tgt := 111) (P := (fo i) = (-1)) hx hb dL_isField_104 (by decide) (Iff.rfl) (fun c104 => ?_) (fun c104 => ?_)
        · skip
          refine lv_iconst (v := 0) hx hb dL_isField_111 (by decide) ?_
          exact z_top (by first | (rw [decide_eq_true (ho1.mp c104)]; rfl) | (rw [decide_eq_false (fun z => c104 (ho1.mpr z))]; rfl)) J101
        · skip
          refine lv_iconst (v := 1) hx hb dL_isField_107 (by decide) ?_
          refine lv_goto (tgt := 112) hx hb dL_isField_108 (by decide) ?_
          exact z_top (by first | (rw [decide_eq_true (ho1.mp c104)]; rfl) | (rw [decide_eq_false (fun z => c104 (ho1.mpr z))]; rfl)) J101
  · skip
    refine lv_iload_n hx hb dL_isField_19 rfl (lv_at hl 5 rfl) ?_
    refine lv_iconst (v := 3) hx hb dL_isField_20 (by decide) ?_
    refine z_irem (v := nI (hz % 3)) hx hb dL_isField_21 (by decide) (pk_rem (a := hz) (d := 3) (by omega) (by omega) (by omega)) ?_
    refine z_if_ne (tgt := 29) (P := (hz % 3) = 0) hx hb dL_isField_22 (by decide) (nI_eq (a := (hz % 3)) (b := 0) (by omega) (by omega)) (fun c22 => ?_) (fun c22 => ?_)
    · skip
      refine lv_iload_n hx hb dL_isField_29 rfl (lv_at hl 5 rfl) ?_
      refine lv_iconst (v := 3) hx hb dL_isField_30 (by decide) ?_
      refine z_irem (v := nI (hz % 3)) hx hb dL_isField_31 (by decide) (pk_rem (a := hz) (d := 3) (by omega) (by omega) (by omega)) ?_
      refine lv_iconst (v := 1) hx hb dL_isField_32 (by decide) ?_
      refine z_icmp_ne (tgt := 40) (P := (hz % 3) = 1) hx hb dL_isField_33 (by decide) (nI_eq (a := (hz % 3)) (b := 1) (by omega) (by omega)) (fun c33 => ?_) (fun c33 => ?_)
      · skip
        refine lv_iconst (v := 2) hx hb dL_isField_40 (by decide) ?_
        exact z_top (by unfold pSt; first | (rw [if_pos c22]; rfl) | (rw [if_neg c22, if_pos c33]; rfl) | (rw [if_neg c22, if_neg c33]; rfl)) J19
      · skip
        refine lv_iconst (v := 3) hx hb dL_isField_36 (by decide) ?_
        refine lv_goto (tgt := 41) hx hb dL_isField_37 (by decide) ?_
        exact z_top (by unfold pSt; first | (rw [if_pos c22]; rfl) | (rw [if_neg c22, if_pos c33]; rfl) | (rw [if_neg c22, if_neg c33]; rfl)) J19
    · skip
      refine lv_iconst (v := 1) hx hb dL_isField_25 (by decide) ?_
      refine lv_goto (tgt := 41) hx hb dL_isField_26 (by decide) ?_
      exact z_top (by unfold pSt; first | (rw [if_pos c22]; rfl) | (rw [if_neg c22, if_pos c33]; rfl) | (rw [if_neg c22, if_neg c33]; rfl)) J19

set_option maxHeartbeats 4000000 in
set_option maxRecDepth 100000 in
/-- what the players have -/
theorem c_L_arePlayers (l : Launch) (D : va_G) (cI cZ cL : ClassId) (x0 : Nat) (e1 : Nat) (e2 : Nat) (fl : Nat → Int32) (fk : Nat → Int32) (a0 : Nat) (a1 : Nat) (a2 : Nat) (a3 : Nat) (a4 : Nat) (fh : Nat → Int32) (fo : Nat → Int32) (fc : Nat → Int32) (fs : Nat → Int32) (hz : Nat) (mv : Nat) (tu : Int32) (rf : Int32) (b0 : Nat) (b1 : Nat) (fx : Nat → Int32) (d0 : Nat) (d1 : Nat) (fn : Nat → Int32) (od : Nat) (sz6 : Nat) (hJ : JJ fh fo fc hz mv od sz6) : Met l yL_arePlayers wsL_arePlayers ({ frames := 4, cells := 0, slots := 0, locals := 95 }) (va_Pc [.ref x0] (zWn D cI cZ cL [(x0, .inr (3, [.ref a0, .ref b0, .ref d0, .ref e1, .ref e2])), (a0, .inr (0, [.ref a1, .ref a2, .ref a3, .ref a4, .int (nI hz), .int (nI mv), .int tu, .int rf])), (a1, .inl (cI, 36, .inl fh)), (a2, .inl (cI, 36, .inl fo)), (a3, .inl (cI, 36, .inl fc)), (a4, .inl (cI, 2, .inl fs)), (b0, .inr (1, [.ref b1, .int (nI 0)])), (b1, .inl (cI, 60, .inl fx)), (d0, .inr (2, [.ref d1, .int (nI od), .int (nI sz6)])), (d1, .inl (cI, 684, .inl fn)), (e1, .inl (cI, 228, .inl fl)), (e2, .inl (cZ, 2, .inl fk))])) (zQi 1) 0 0 (fun _ => False) := by
  refine Met.ofW (cc := cL_arePlayers) (maxL := 10) (ret := (some .boolean)) (by decide) rfl ?_
  intro p e s m args below meth c s₁ B hml hv
  obtain ⟨rfl, ⟨hP, hK⟩, hN⟩ := hv
  have hx := B.exec
  have hb := B.bytes
  have hr := B.returns
  have hts := atoms_spec (ws := wsL_arePlayers) B.pre
  have hown : s.vm.findClass RL = some m.cls := findClass_of_methodNamed B.named
  have hlocks := B.notSynchronized
  have hl := lv_entry ([.ref x0]) (n := 10) (Nat.le_of_ble_eq_true rfl)
  rw [lg_entry_eq]
  generalize (lg_sl ([.ref x0]) ++ List.replicate (10 - (lg_sl ([.ref x0])).length) Slot.unset).toArray = ls at hl ⊢
  have hl : lv_has ls 10 [(0, .ref x0)] := hl
  obtain ⟨hI, hC, hhz, hmv, hod, hs6⟩ := id hJ
  refine lv_iconst (v := 0) hx hb dL_arePlayers_0 (by decide) ?_
  refine lv_istore_n (lv' := [(1, .int 0), (0, .ref x0)]) hx hb dL_arePlayers_1 rfl hl (by decide) rfl (fun ls hl => ?_)
  refine z_up (N := 2) (i0 := 0) (fun pl ls => lv_has ls 10 [(0, .ref x0), (1, .int (nI pl))]) (by omega) (lv_sub hl [1, 0] rfl) (fun pl ls hi2 hI ih2 => ?_)
  have hl : lv_has ls 10 [(0, .ref x0), (1, .int (nI pl))] := hI
  refine lv_iload_n hx hb dL_arePlayers_2 rfl (lv_at hl 1 rfl) ?_
  refine lv_iconst (v := 2) hx hb dL_arePlayers_3 (by decide) ?_
  refine z_icmp_ge (tgt := 248) (P := 2 ≤ pl) hx hb dL_arePlayers_4 (by decide) (nI_leI (a := 2) (b := pl) (by omega) (by omega)) (fun c4 => ?_) (fun c4 => ?_)
  · skip
    obtain rfl : pl = 2 := by omega
    refine lv_iconst (v := 1) hx hb dL_arePlayers_248 (by decide) ?_
    exact z_zret1 hx hb hr hlocks dL_arePlayers_249 (rfl)
  · skip
    refine lv_iconst (v := 0) hx hb dL_arePlayers_7 (by decide) ?_
    refine lv_istore_n (lv' := [(2, .int 0), (0, .ref x0), (1, .int (nI pl))]) hx hb dL_arePlayers_8 rfl hl (by decide) rfl (fun ls hl => ?_)
    refine lv_iconst (v := 0) hx hb dL_arePlayers_9 (by decide) ?_
    refine lv_istore_n (lv' := [(3, .int 0), (2, .int 0), (0, .ref x0), (1, .int (nI pl))]) hx hb dL_arePlayers_10 rfl hl (by decide) rfl (fun ls hl => ?_)
    refine lv_iconst (v := 0) hx hb dL_arePlayers_11 (by decide) ?_
    refine lv_istore (lv' := [(4, .int 0), (3, .int 0), (2, .int 0), (0, .ref x0), (1, .int (nI pl))]) hx hb dL_arePlayers_12 hl (by decide) rfl (fun ls hl => ?_)
    refine lv_iconst (v := 0) hx hb dL_arePlayers_14 (by decide) ?_
    refine lv_istore (lv' := [(5, .int 0), (4, .int 0), (3, .int 0), (2, .int 0), (0, .ref x0), (1, .int (nI pl))]) hx hb dL_arePlayers_15 hl (by decide) rfl (fun ls hl => ?_)
    refine lv_iconst (v := 0) hx hb dL_arePlayers_17 (by decide) ?_
    refine lv_istore (lv' := [(6, .int 0), (5, .int 0), (4, .int 0), (3, .int 0), (2, .int 0), (0, .ref x0), (1, .int (nI pl))]) hx hb dL_arePlayers_18 hl (by decide) rfl (fun ls hl => ?_)
    refine lv_iconst (v := 0) hx hb dL_arePlayers_20 (by decide) ?_
    refine lv_istore (lv' := [(7, .int 0), (6, .int 0), (5, .int 0), (4, .int 0), (3, .int 0), (2, .int 0), (0, .ref x0), (1, .int (nI pl))]) hx hb dL_arePlayers_21 hl (by decide) rfl (fun ls hl => ?_)
    refine z_up (N := 36) (i0 := 0) (fun i ls => ∃ xt : Int32, xt = sm (fun k => zb (decide (fo k = nI pl))) i ∧ ∃ xh : Int32, xh = sm (fun k => if fo k = nI pl then fh k else 0) i ∧ ∃ xd : Int32, xd = sm (fun k => zb (decide (fo k = nI pl) && pDk fh k hz)) i ∧ ∃ xp : Int32, xp = sm (fun k => if fo k = nI pl ∧ pDk fh k hz = false then fc k else 0) i ∧ ∃ xo : Int32, xo = sm (fun k => zb (decide (fo k = nI (1 - pl)) && pDk fh k hz)) i ∧ lv_has ls 10 [(0, .ref x0), (1, .int (nI pl)), (2, .int xt), (3, .int xh), (4, .int xd), (5, .int xp), (6, .int xo), (7, .int (nI i))]) (by omega) (⟨_, rfl, _, rfl, _, rfl, _, rfl, _, rfl, lv_sub hl [6, 7, 5, 4, 3, 2, 1, 0] rfl⟩) (fun i ls hi23 hI ih23 => ?_)
    obtain ⟨xt, ext, xh, exh, xd, exd, xp, exp, xo, exo, hl⟩ := hI
    refine lv_iload hx hb dL_arePlayers_23 (lv_at hl 7 rfl) ?_
    refine lv_bipush (v := 36) hx hb dL_arePlayers_25 (by decide) ?_
    refine z_icmp_ge (tgt := 178) (P := 36 ≤ i) hx hb dL_arePlayers_27 (by decide) (nI_leI (a := 36) (b := i) (by omega) (by omega)) (fun c27 => ?_) (fun c27 => ?_)
    · skip
      obtain rfl : i = 36 := by omega
      refine lv_aload_n hx hb dL_arePlayers_178 rfl (lv_at hl 0 rfl) ?_
      refine lv_iload_n hx hb dL_arePlayers_179 rfl (lv_at hl 1 rfl) ?_
      refine lv_iconst (v := 1) hx hb dL_arePlayers_180 (by decide) ?_
      refine z_ci (va_runV (As := [.int (nI pl), .int 1]) (rest := []) ⟨hx, hb, hml, hown, hts⟩ (c_X4_playerOf_ok l D cI cZ cL (x0 := x0) (e1 := e1) (e2 := e2) (fl := fl) (fk := fk) (a0 := a0) (a1 := a1) (a2 := a2) (a3 := a3) (a4 := a4) (fh := fh) (fo := fo) (fc := fc) (fs := fs) (hz := hz) (mv := mv) (tu := tu) (rf := rf) (b0 := b0) (b1 := b1) (fx := fx) (ln := 0) (d0 := d0) (d1 := d1) (fn := fn) (od := od) (sz6 := sz6) (pl := pl) (wh := 1) (hpl := by omega) (hwh := by omega) (hhz := by omega)) (cwV 2 hts gL_arePlayers_X4_playerOf rfl rfl rfl (by decide +kernel) ⟨Nat.le_of_ble_eq_true rfl, Nat.le_of_ble_eq_true rfl⟩) (z_preVn hN hK (hP.sub [0, 1, 2, 3, 4, 5, 6, 7, 8, 9, 10, 11] rfl) 0 3 rfl rfl) rfl rfl hl.1 rfl (lv_room (Nat.le_of_ble_eq_true rfl)) dL_arePlayers_181 ⟨Nat.le_of_ble_eq_true rfl, Nat.le_of_ble_eq_true rfl⟩) ?_
      refine z_top (y := nI (pOw fo pl)) (rfl) ?_
      refine lv_iload_n hx hb dL_arePlayers_184 rfl (lv_at hl 2 rfl) ?_
      refine z_icmp_ne (tgt := 240) (P := True) hx hb dL_arePlayers_185 (by decide) (iff_of_true (by rw [ext, sm_zb]; rfl) trivial) (fun c185 => (show False from c185 trivial).elim) (fun c185 => ?_)
      refine lv_aload_n hx hb dL_arePlayers_188 rfl (lv_at hl 0 rfl) ?_
      refine lv_iload_n hx hb dL_arePlayers_189 rfl (lv_at hl 1 rfl) ?_
      refine lv_iconst (v := 2) hx hb dL_arePlayers_190 (by decide) ?_
      refine z_ci (va_runV (As := [.int (nI pl), .int 2]) (rest := []) ⟨hx, hb, hml, hown, hts⟩ (c_X4_playerOf_ok l D cI cZ cL (x0 := x0) (e1 := e1) (e2 := e2) (fl := fl) (fk := fk) (a0 := a0) (a1 := a1) (a2 := a2) (a3 := a3) (a4 := a4) (fh := fh) (fo := fo) (fc := fc) (fs := fs) (hz := hz) (mv := mv) (tu := tu) (rf := rf) (b0 := b0) (b1 := b1) (fx := fx) (ln := 0) (d0 := d0) (d1 := d1) (fn := fn) (od := od) (sz6 := sz6) (pl := pl) (wh := 2) (hpl := by omega) (hwh := by omega) (hhz := by omega)) (cwV 2 hts gL_arePlayers_X4_playerOf rfl rfl rfl (by decide +kernel) ⟨Nat.le_of_ble_eq_true rfl, Nat.le_of_ble_eq_true rfl⟩) (z_preVn hN hK (hP.sub [0, 1, 2, 3, 4, 5, 6, 7, 8, 9, 10, 11] rfl) 0 3 rfl rfl) rfl rfl hl.1 rfl (lv_room (Nat.le_of_ble_eq_true rfl)) dL_arePlayers_191 ⟨Nat.le_of_ble_eq_true rfl, Nat.le_of_ble_eq_true rfl⟩) ?_
      refine z_top (y := (pHs fo fh pl)) (rfl) ?_
      refine lv_iload_n hx hb dL_arePlayers_194 rfl (lv_at hl 3 rfl) ?_
      refine z_icmp_ne (tgt := 240) (P := True) hx hb dL_arePlayers_195 (by decide) (iff_of_true (exh.symm) trivial) (fun c195 => (show False from c195 trivial).elim) (fun c195 => ?_)
      refine lv_aload_n hx hb dL_arePlayers_198 rfl (lv_at hl 0 rfl) ?_
      refine lv_iload_n hx hb dL_arePlayers_199 rfl (lv_at hl 1 rfl) ?_
      refine lv_iconst (v := 3) hx hb dL_arePlayers_200 (by decide) ?_
      refine z_ci (va_runV (As := [.int (nI pl), .int 3]) (rest := []) ⟨hx, hb, hml, hown, hts⟩ (c_X4_playerOf_ok l D cI cZ cL (x0 := x0) (e1 := e1) (e2 := e2) (fl := fl) (fk := fk) (a0 := a0) (a1 := a1) (a2 := a2) (a3 := a3) (a4 := a4) (fh := fh) (fo := fo) (fc := fc) (fs := fs) (hz := hz) (mv := mv) (tu := tu) (rf := rf) (b0 := b0) (b1 := b1) (fx := fx) (ln := 0) (d0 := d0) (d1 := d1) (fn := fn) (od := od) (sz6 := sz6) (pl := pl) (wh := 3) (hpl := by omega) (hwh := by omega) (hhz := by omega)) (cwV 2 hts gL_arePlayers_X4_playerOf rfl rfl rfl (by decide +kernel) ⟨Nat.le_of_ble_eq_true rfl, Nat.le_of_ble_eq_true rfl⟩) (z_preVn hN hK (hP.sub [0, 1, 2, 3, 4, 5, 6, 7, 8, 9, 10, 11] rfl) 0 3 rfl rfl) rfl rfl hl.1 rfl (lv_room (Nat.le_of_ble_eq_true rfl)) dL_arePlayers_201 ⟨Nat.le_of_ble_eq_true rfl, Nat.le_of_ble_eq_true rfl⟩) ?_
      refine z_top (y := nI (pOd fo fh hz pl)) (rfl) ?_
      refine lv_iload hx hb dL_arePlayers_204 (lv_at hl 4 rfl) ?_
      refine z_icmp_ne (tgt := 240) (P := True) hx hb dL_arePlayers_206 (by decide) (iff_of_true (by rw [exd, sm_zb]; rfl) trivial) (fun c206 => (show False from c206 trivial).elim) (fun c206 => ?_)
      refine lv_aload_n hx hb dL_arePlayers_209 rfl (lv_at hl 0 rfl) ?_
      refine lv_iload_n hx hb dL_arePlayers_210 rfl (lv_at hl 1 rfl) ?_
      refine lv_iconst (v := 4) hx hb dL_arePlayers_211 (by decide) ?_
      refine z_ci (va_runV (As := [.int (nI pl), .int 4]) (rest := []) ⟨hx, hb, hml, hown, hts⟩ (c_X4_playerOf_ok l D cI cZ cL (x0 := x0) (e1 := e1) (e2 := e2) (fl := fl) (fk := fk) (a0 := a0) (a1 := a1) (a2 := a2) (a3 := a3) (a4 := a4) (fh := fh) (fo := fo) (fc := fc) (fs := fs) (hz := hz) (mv := mv) (tu := tu) (rf := rf) (b0 := b0) (b1 := b1) (fx := fx) (ln := 0) (d0 := d0) (d1 := d1) (fn := fn) (od := od) (sz6 := sz6) (pl := pl) (wh := 4) (hpl := by omega) (hwh := by omega) (hhz := by omega)) (cwV 2 hts gL_arePlayers_X4_playerOf rfl rfl rfl (by decide +kernel) ⟨Nat.le_of_ble_eq_true rfl, Nat.le_of_ble_eq_true rfl⟩) (z_preVn hN hK (hP.sub [0, 1, 2, 3, 4, 5, 6, 7, 8, 9, 10, 11] rfl) 0 3 rfl rfl) rfl rfl hl.1 rfl (lv_room (Nat.le_of_ble_eq_true rfl)) dL_arePlayers_212 ⟨Nat.le_of_ble_eq_true rfl, Nat.le_of_ble_eq_true rfl⟩) ?_
      refine z_top (y := (pPy fo fh fc hz pl)) (rfl) ?_
      refine lv_iload hx hb dL_arePlayers_215 (lv_at hl 5 rfl) ?_
      refine z_icmp_ne (tgt := 240) (P := True) hx hb dL_arePlayers_217 (by decide) (iff_of_true (exp.symm) trivial) (fun c217 => (show False from c217 trivial).elim) (fun c217 => ?_)
      refine lv_aload_n hx hb dL_arePlayers_220 rfl (lv_at hl 0 rfl) ?_
      refine lv_iload_n hx hb dL_arePlayers_221 rfl (lv_at hl 1 rfl) ?_
      refine lv_iconst (v := 5) hx hb dL_arePlayers_222 (by decide) ?_
      refine z_ci (va_runV (As := [.int (nI pl), .int 5]) (rest := []) ⟨hx, hb, hml, hown, hts⟩ (c_X4_playerOf_ok l D cI cZ cL (x0 := x0) (e1 := e1) (e2 := e2) (fl := fl) (fk := fk) (a0 := a0) (a1 := a1) (a2 := a2) (a3 := a3) (a4 := a4) (fh := fh) (fo := fo) (fc := fc) (fs := fs) (hz := hz) (mv := mv) (tu := tu) (rf := rf) (b0 := b0) (b1 := b1) (fx := fx) (ln := 0) (d0 := d0) (d1 := d1) (fn := fn) (od := od) (sz6 := sz6) (pl := pl) (wh := 5) (hpl := by omega) (hwh := by omega) (hhz := by omega)) (cwV 2 hts gL_arePlayers_X4_playerOf rfl rfl rfl (by decide +kernel) ⟨Nat.le_of_ble_eq_true rfl, Nat.le_of_ble_eq_true rfl⟩) (z_preVn hN hK (hP.sub [0, 1, 2, 3, 4, 5, 6, 7, 8, 9, 10, 11] rfl) 0 3 rfl rfl) rfl rfl hl.1 rfl (lv_room (Nat.le_of_ble_eq_true rfl)) dL_arePlayers_223 ⟨Nat.le_of_ble_eq_true rfl, Nat.le_of_ble_eq_true rfl⟩) ?_
      refine z_top (y := nI (pRv fo fh hz pl)) (rfl) ?_
      refine lv_iload hx hb dL_arePlayers_226 (lv_at hl 6 rfl) ?_
      have hRv := rv_le fo fh hz pl
      have hRw := cn_le (fun k => decide (fo k = nI (1 - pl)) && pDk fh k hz) 36
      refine z_icmp_gt (tgt := 240) (P := False) hx hb dL_arePlayers_228 (by decide) (iff_of_false (by rw [exo, sm_zb, nI_ltI (by omega) (by omega)]; omega) id) (fun c228 => (show False from c228).elim) (fun c228 => ?_)
      refine lv_aload_n hx hb dL_arePlayers_231 rfl (lv_at hl 0 rfl) ?_
      refine lv_iload_n hx hb dL_arePlayers_232 rfl (lv_at hl 1 rfl) ?_
      refine lv_iconst (v := 5) hx hb dL_arePlayers_233 (by decide) ?_
      refine z_ci (va_runV (As := [.int (nI pl), .int 5]) (rest := []) ⟨hx, hb, hml, hown, hts⟩ (c_X4_playerOf_ok l D cI cZ cL (x0 := x0) (e1 := e1) (e2 := e2) (fl := fl) (fk := fk) (a0 := a0) (a1 := a1) (a2 := a2) (a3 := a3) (a4 := a4) (fh := fh) (fo := fo) (fc := fc) (fs := fs) (hz := hz) (mv := mv) (tu := tu) (rf := rf) (b0 := b0) (b1 := b1) (fx := fx) (ln := 0) (d0 := d0) (d1 := d1) (fn := fn) (od := od) (sz6 := sz6) (pl := pl) (wh := 5) (hpl := by omega) (hwh := by omega) (hhz := by omega)) (cwV 2 hts gL_arePlayers_X4_playerOf rfl rfl rfl (by decide +kernel) ⟨Nat.le_of_ble_eq_true rfl, Nat.le_of_ble_eq_true rfl⟩) (z_preVn hN hK (hP.sub [0, 1, 2, 3, 4, 5, 6, 7, 8, 9, 10, 11] rfl) 0 3 rfl rfl) rfl rfl hl.1 rfl (lv_room (Nat.le_of_ble_eq_true rfl)) dL_arePlayers_234 ⟨Nat.le_of_ble_eq_true rfl, Nat.le_of_ble_eq_true rfl⟩) ?_
      refine z_top (y := nI (pRv fo fh hz pl)) (rfl) ?_
      refine z_if_ge (tgt := 242) (P := 0 ≤ (pRv fo fh hz pl)) hx hb dL_arePlayers_237 (by decide) (nI_leI (a := 0) (b := (pRv fo fh hz pl)) (by omega) (by omega)) (fun c237 => ?_) (fun c237 => (show False from c237 (by omega)).elim)
      refine lv_iinc (v := nI (pl + 1)) (lv' := [(1, .int (nI (pl + 1))), (0, .ref x0), (2, .int xt), (3, .int xh), (4, .int xd), (5, .int xp), (6, .int xo), (7, .int (nI 36))]) hx hb dL_arePlayers_242 hl (k := 1) rfl (nI_1 (pl)) (by decide) rfl (fun ls hl => ?_)
      refine lv_goto (tgt := 2) hx hb dL_arePlayers_245 (by decide) ?_
      exact ih2 (by omega) _ (lv_sub hl [1, 0] rfl)
    · skip
      have hq : i < 36 := by omega
      refine z_join (pc2 := 46) (st2 := [.int (zb (decide (fo i = nI pl)))]) ?_ (fun J30 => ?_)
      · skip
        refine lv_istore (lv' := [(8, .int (zb (decide (fo i = nI pl)))), (0, .ref x0), (1, .int (nI pl)), (2, .int xt), (3, .int xh), (4, .int xd), (5, .int xp), (6, .int xo), (7, .int (nI i))]) hx hb dL_arePlayers_46 hl (by decide) rfl (fun ls hl => ?_)
        refine z_join (pc2 := 64) (st2 := [.int (zb (pDk fh i hz))]) ?_ (fun J48 => ?_)
        · skip
          refine lv_istore (lv' := [(9, .int (zb (pDk fh i hz))), (8, .int (zb (decide (fo i = nI pl)))), (0, .ref x0), (1, .int (nI pl)), (2, .int xt), (3, .int xh), (4, .int xd), (5, .int xp), (6, .int xo), (7, .int (nI i))]) hx hb dL_arePlayers_64 hl (by decide) rfl (fun ls hl => ?_)
          refine lv_iload_n hx hb dL_arePlayers_66 rfl (lv_at hl 4 rfl) ?_
          refine z_join (pc2 := 77) (st2 := [.int (zb (decide (fo i = nI pl))), .int xt]) ?_ (fun J67 => ?_)
          · skip
            refine z_iadd (v := (xt + (zb (decide (fo i = nI pl))))) hx hb dL_arePlayers_77 (rfl) ?_
            refine lv_istore_n (lv' := [(2, .int (xt + (zb (decide (fo i = nI pl))))), (9, .int (zb (pDk fh i hz))), (8, .int (zb (decide (fo i = nI pl)))), (0, .ref x0), (1, .int (nI pl)), (3, .int xh), (4, .int xd), (5, .int xp), (6, .int xo), (7, .int (nI i))]) hx hb dL_arePlayers_78 rfl hl (by decide) rfl (fun ls hl => ?_)
            refine lv_iload_n hx hb dL_arePlayers_79 rfl (lv_at hl 5 rfl) ?_
            refine z_join (pc2 := 96) (st2 := [.int (if fo i = nI pl then fh i else 0), .int xh]) ?_ (fun J80 => ?_)
            · skip
              refine z_iadd (v := (xh + (if fo i = nI pl then fh i else 0))) hx hb dL_arePlayers_96 (rfl) ?_
              refine lv_istore_n (lv' := [(3, .int (xh + (if fo i = nI pl then fh i else 0))), (2, .int (xt + (zb (decide (fo i = nI pl))))), (9, .int (zb (pDk fh i hz))), (8, .int (zb (decide (fo i = nI pl)))), (0, .ref x0), (1, .int (nI pl)), (4, .int xd), (5, .int xp), (6, .int xo), (7, .int (nI i))]) hx hb dL_arePlayers_97 rfl hl (by decide) rfl (fun ls hl => ?_)
              refine lv_iload hx hb dL_arePlayers_98 (lv_at hl 6 rfl) ?_
              refine z_join (pc2 := 115) (st2 := [.int (zb (decide (fo i = nI pl) && pDk fh i hz)), .int xd]) ?_ (fun J100 => ?_)
              · skip
                refine z_iadd (v := (xd + (zb (decide (fo i = nI pl) && pDk fh i hz)))) hx hb dL_arePlayers_115 (rfl) ?_
                refine lv_istore (lv' := [(4, .int (xd + (zb (decide (fo i = nI pl) && pDk fh i hz)))), (3, .int (xh + (if fo i = nI pl then fh i else 0))), (2, .int (xt + (zb (decide (fo i = nI pl))))), (9, .int (zb (pDk fh i hz))), (8, .int (zb (decide (fo i = nI pl)))), (0, .ref x0), (1, .int (nI pl)), (5, .int xp), (6, .int xo), (7, .int (nI i))]) hx hb dL_arePlayers_116 hl (by decide) rfl (fun ls hl => ?_)
                refine lv_iload hx hb dL_arePlayers_118 (lv_at hl 7 rfl) ?_
                refine z_join (pc2 := 141) (st2 := [.int (if fo i = nI pl ∧ pDk fh i hz = false then fc i else 0), .int xp]) ?_ (fun J120 => ?_)
                · skip
                  refine z_iadd (v := (xp + (if fo i = nI pl ∧ pDk fh i hz = false then fc i else 0))) hx hb dL_arePlayers_141 (rfl) ?_
                  refine lv_istore (lv' := [(5, .int (xp + (if fo i = nI pl ∧ pDk fh i hz = false then fc i else 0))), (4, .int (xd + (zb (decide (fo i = nI pl) && pDk fh i hz)))), (3, .int (xh + (if fo i = nI pl then fh i else 0))), (2, .int (xt + (zb (decide (fo i = nI pl))))), (9, .int (zb (pDk fh i hz))), (8, .int (zb (decide (fo i = nI pl)))), (0, .ref x0), (1, .int (nI pl)), (6, .int xo), (7, .int (nI i))]) hx hb dL_arePlayers_142 hl (by decide) rfl (fun ls hl => ?_)
                  refine lv_iload hx hb dL_arePlayers_144 (lv_at hl 8 rfl) ?_
                  refine z_join (pc2 := 169) (st2 := [.int (zb (decide (fo i = nI (1 - pl)) && pDk fh i hz)), .int xo]) ?_ (fun J146 => ?_)
                  · skip
                    refine z_iadd (v := (xo + (zb (decide (fo i = nI (1 - pl)) && pDk fh i hz)))) hx hb dL_arePlayers_169 (rfl) ?_
                    refine lv_istore (lv' := [(6, .int (xo + (zb (decide (fo i = nI (1 - pl)) && pDk fh i hz)))), (5, .int (xp + (if fo i = nI pl ∧ pDk fh i hz = false then fc i else 0))), (4, .int (xd + (zb (decide (fo i = nI pl) && pDk fh i hz)))), (3, .int (xh + (if fo i = nI pl then fh i else 0))), (2, .int (xt + (zb (decide (fo i = nI pl))))), (9, .int (zb (pDk fh i hz))), (8, .int (zb (decide (fo i = nI pl)))), (0, .ref x0), (1, .int (nI pl)), (7, .int (nI i))]) hx hb dL_arePlayers_170 hl (by decide) rfl (fun ls hl => ?_)
                    refine lv_iinc (v := nI (i + 1)) (lv' := [(7, .int (nI (i + 1))), (6, .int (xo + (zb (decide (fo i = nI (1 - pl)) && pDk fh i hz)))), (5, .int (xp + (if fo i = nI pl ∧ pDk fh i hz = false then fc i else 0))), (4, .int (xd + (zb (decide (fo i = nI pl) && pDk fh i hz)))), (3, .int (xh + (if fo i = nI pl then fh i else 0))), (2, .int (xt + (zb (decide (fo i = nI pl))))), (9, .int (zb (pDk fh i hz))), (8, .int (zb (decide (fo i = nI pl)))), (0, .ref x0), (1, .int (nI pl))]) hx hb dL_arePlayers_172 hl (k := 9) rfl (nI_1 (i)) (by decide) rfl (fun ls hl => ?_)
                    refine lv_goto (tgt := 23) hx hb dL_arePlayers_175 (by decide) ?_
                    exact ih23 (by omega) _ (⟨_, by rw [ext]; rfl, _, by rw [exh]; rfl, _, by rw [exd]; rfl, _, by rw [exp]; rfl, _, by rw [exo]; rfl, lv_sub hl [8, 9, 5, 4, 3, 2, 1, 0] rfl⟩)
                  · skip
                    refine lv_aload_n hx hb dL_arePlayers_146 rfl (lv_at hl 6 rfl) ?_
                    refine lv_iload hx hb dL_arePlayers_147 (lv_at hl 9 rfl) ?_
                    refine lv_iconst (v := 1) hx hb dL_arePlayers_149 (by decide) ?_
                    refine z_ci (va_runV (As := [.int (nI i), .int 1]) (rest := [.int xo]) ⟨hx, hb, hml, hown, hts⟩ (c_X4_squareOf_ok l D cI cZ cL (x0 := x0) (e1 := e1) (e2 := e2) (fl := fl) (fk := fk) (a0 := a0) (a1 := a1) (a2 := a2) (a3 := a3) (a4 := a4) (fh := fh) (fo := fo) (fc := fc) (fs := fs) (hz := hz) (mv := mv) (tu := tu) (rf := rf) (b0 := b0) (b1 := b1) (fx := fx) (ln := 0) (d0 := d0) (d1 := d1) (fn := fn) (od := od) (sz6 := sz6) (q := i) (wh := 1) (hq := by omega) (hwh := by omega) (hhz := by omega)) (cwV 2 hts gL_arePlayers_X4_squareOf rfl rfl rfl (by decide +kernel) ⟨Nat.le_of_ble_eq_true rfl, Nat.le_of_ble_eq_true rfl⟩) (z_preVn hN hK (hP.sub [0, 1, 2, 3, 4, 5, 6, 7, 8, 9, 10, 11] rfl) 0 3 rfl rfl) rfl rfl hl.1 rfl (lv_room (Nat.le_of_ble_eq_true rfl)) dL_arePlayers_150 ⟨Nat.le_of_ble_eq_true rfl, Nat.le_of_ble_eq_true rfl⟩) ?_
                    refine z_top (y := (fo i)) (rfl) ?_
                    refine lv_iconst (v := 1) hx hb dL_arePlayers_153 (by decide) ?_
                    refine lv_iload_n hx hb dL_arePlayers_154 rfl (lv_at hl 7 rfl) ?_
                    refine z_isub (v := nI (1 - pl)) hx hb dL_arePlayers_155 (pk_sub (a := 1) (b := pl) (by omega)) ?_
                    refine z_icmp_ne (tgt := 168) (P := (fo i) = (nI (1 - pl))) hx hb dL_arePlayers_156 (by decide) (Iff.rfl) (fun c156 => ?_) (fun c156 => ?_)
                    · skip
                      refine lv_iconst (v := 0) hx hb dL_arePlayers_168 (by decide) ?_
                      exact z_top (by first | (rw [decide_eq_false c156]; rfl) | (rw [c161, Bool.and_false]; rfl) | (rw [decide_eq_true c156, b_nf c161]; rfl)) J146
                    · skip
                      refine lv_iload hx hb dL_arePlayers_159 (lv_at hl 4 rfl) ?_
                      refine z_if_eq (tgt := 168) (P := (pDk fh i hz) = false) hx hb dL_arePlayers_161 (by decide) (zb_eq0) (fun c161 => ?_) (fun c161 => ?_)
                      · skip
                        refine lv_iconst (v := 0) hx hb dL_arePlayers_168 (by decide) ?_
                        exact z_top (by first | (rw [decide_eq_false c156]; rfl) | (rw [c161, Bool.and_false]; rfl) | (rw [decide_eq_true c156, b_nf c161]; rfl)) J146
                      · skip
                        refine lv_iconst (v := 1) hx hb dL_arePlayers_164 (by decide) ?_
                        refine lv_goto (tgt := 169) hx hb dL_arePlayers_165 (by decide) ?_
                        exact z_top (by first | (rw [decide_eq_false c156]; rfl) | (rw [c161, Bool.and_false]; rfl) | (rw [decide_eq_true c156, b_nf c161]; rfl)) J146
                · skip
                  refine lv_iload hx hb dL_arePlayers_120 (lv_at hl 4 rfl) ?_
                  refine z_if_eq (tgt := 140) (P := (decide (fo i = nI pl)) = false) hx hb dL_arePlayers_122 (by decide) (zb_eq0) (fun c122 => ?_) (fun c122 => ?_)
                  · skip
                    refine lv_iconst (v := 0) hx hb dL_arePlayers_140 (by decide) ?_
                    exact z_top (by first | (rw [if_neg (fun z => of_decide_eq_false c122 z.1)]; done) | (rw [if_pos ⟨of_decide_eq_true (b_nf c122), c127⟩]; done) | (rw [if_neg (fun z => c127 z.2)]; done)) J120
                  · skip
                    refine lv_iload hx hb dL_arePlayers_125 (lv_at hl 3 rfl) ?_
                    refine z_if_ne (tgt := 140) (P := (pDk fh i hz) = false) hx hb dL_arePlayers_127 (by decide) (zb_eq0) (fun c127 => ?_) (fun c127 => ?_)
                    · skip
                      refine lv_iconst (v := 0) hx hb dL_arePlayers_140 (by decide) ?_
                      exact z_top (by first | (rw [if_neg (fun z => of_decide_eq_false c122 z.1)]; done) | (rw [if_pos ⟨of_decide_eq_true (b_nf c122), c127⟩]; done) | (rw [if_neg (fun z => c127 z.2)]; done)) J120
                    · skip
                      refine lv_aload_n hx hb dL_arePlayers_130 rfl (lv_at hl 5 rfl) ?_
                      refine lv_iload hx hb dL_arePlayers_131 (lv_at hl 9 rfl) ?_
                      refine lv_iconst (v := 2) hx hb dL_arePlayers_133 (by decide) ?_
                      refine z_ci (va_runV (As := [.int (nI i), .int 2]) (rest := [.int xp]) ⟨hx, hb, hml, hown, hts⟩ (c_X4_squareOf_ok l D cI cZ cL (x0 := x0) (e1 := e1) (e2 := e2) (fl := fl) (fk := fk) (a0 := a0) (a1 := a1) (a2 := a2) (a3 := a3) (a4 := a4) (fh := fh) (fo := fo) (fc := fc) (fs := fs) (hz := hz) (mv := mv) (tu := tu) (rf := rf) (b0 := b0) (b1 := b1) (fx := fx) (ln := 0) (d0 := d0) (d1 := d1) (fn := fn) (od := od) (sz6 := sz6) (q := i) (wh := 2) (hq := by omega) (hwh := by omega) (hhz := by omega)) (cwV 2 hts gL_arePlayers_X4_squareOf rfl rfl rfl (by decide +kernel) ⟨Nat.le_of_ble_eq_true rfl, Nat.le_of_ble_eq_true rfl⟩) (z_preVn hN hK (hP.sub [0, 1, 2, 3, 4, 5, 6, 7, 8, 9, 10, 11] rfl) 0 3 rfl rfl) rfl rfl hl.1 rfl (lv_room (Nat.le_of_ble_eq_true rfl)) dL_arePlayers_134 ⟨Nat.le_of_ble_eq_true rfl, Nat.le_of_ble_eq_true rfl⟩) ?_
                      refine z_top (y := (fc i)) (rfl) ?_
                      refine lv_goto (tgt := 141) hx hb dL_arePlayers_137 (by decide) ?_
                      exact z_top (by first | (rw [if_neg (fun z => of_decide_eq_false c122 z.1)]; done) | (rw [if_pos ⟨of_decide_eq_true (b_nf c122), c127⟩]; done) | (rw [if_neg (fun z => c127 z.2)]; done)) J120
              · skip
                refine lv_iload hx hb dL_arePlayers_100 (lv_at hl 3 rfl) ?_
                refine z_if_eq (tgt := 114) (P := (decide (fo i = nI pl)) = false) hx hb dL_arePlayers_102 (by decide) (zb_eq0) (fun c102 => ?_) (fun c102 => ?_)
                · skip
                  refine lv_iconst (v := 0) hx hb dL_arePlayers_114 (by decide) ?_
                  exact z_top (by first | (rw [c102]; rfl) | (rw [c107, Bool.and_false]; rfl) | (rw [b_nf c102, b_nf c107]; rfl)) J100
                · skip
                  refine lv_iload hx hb dL_arePlayers_105 (lv_at hl 2 rfl) ?_
                  refine z_if_eq (tgt := 114) (P := (pDk fh i hz) = false) hx hb dL_arePlayers_107 (by decide) (zb_eq0) (fun c107 => ?_) (fun c107 => ?_)
                  · skip
                    refine lv_iconst (v := 0) hx hb dL_arePlayers_114 (by decide) ?_
                    exact z_top (by first | (rw [c102]; rfl) | (rw [c107, Bool.and_false]; rfl) | (rw [b_nf c102, b_nf c107]; rfl)) J100
                  · skip
                    refine lv_iconst (v := 1) hx hb dL_arePlayers_110 (by decide) ?_
                    refine lv_goto (tgt := 115) hx hb dL_arePlayers_111 (by decide) ?_
                    exact z_top (by first | (rw [c102]; rfl) | (rw [c107, Bool.and_false]; rfl) | (rw [b_nf c102, b_nf c107]; rfl)) J100
            · skip
              refine lv_iload hx hb dL_arePlayers_80 (lv_at hl 2 rfl) ?_
              refine z_if_eq (tgt := 95) (P := (decide (fo i = nI pl)) = false) hx hb dL_arePlayers_82 (by decide) (zb_eq0) (fun c82 => ?_) (fun c82 => ?_)
              · skip
                refine lv_iconst (v := 0) hx hb dL_arePlayers_95 (by decide) ?_
                exact z_top (by first | (rw [if_pos (of_decide_eq_true (b_nf c82))]; done) | (rw [if_neg (of_decide_eq_false c82)]; done)) J80
              · skip
                refine lv_aload_n hx hb dL_arePlayers_85 rfl (lv_at hl 3 rfl) ?_
                refine lv_iload hx hb dL_arePlayers_86 (lv_at hl 9 rfl) ?_
                refine lv_iconst (v := 0) hx hb dL_arePlayers_88 (by decide) ?_
                refine z_ci (va_runV (As := [.int (nI i), .int 0]) (rest := [.int xh]) ⟨hx, hb, hml, hown, hts⟩ (c_X4_squareOf_ok l D cI cZ cL (x0 := x0) (e1 := e1) (e2 := e2) (fl := fl) (fk := fk) (a0 := a0) (a1 := a1) (a2 := a2) (a3 := a3) (a4 := a4) (fh := fh) (fo := fo) (fc := fc) (fs := fs) (hz := hz) (mv := mv) (tu := tu) (rf := rf) (b0 := b0) (b1 := b1) (fx := fx) (ln := 0) (d0 := d0) (d1 := d1) (fn := fn) (od := od) (sz6 := sz6) (q := i) (wh := 0) (hq := by omega) (hwh := by omega) (hhz := by omega)) (cwV 2 hts gL_arePlayers_X4_squareOf rfl rfl rfl (by decide +kernel) ⟨Nat.le_of_ble_eq_true rfl, Nat.le_of_ble_eq_true rfl⟩) (z_preVn hN hK (hP.sub [0, 1, 2, 3, 4, 5, 6, 7, 8, 9, 10, 11] rfl) 0 3 rfl rfl) rfl rfl hl.1 rfl (lv_room (Nat.le_of_ble_eq_true rfl)) dL_arePlayers_89 ⟨Nat.le_of_ble_eq_true rfl, Nat.le_of_ble_eq_true rfl⟩) ?_
                refine z_top (y := (fh i)) (rfl) ?_
                refine lv_goto (tgt := 96) hx hb dL_arePlayers_92 (by decide) ?_
                exact z_top (by first | (rw [if_pos (of_decide_eq_true (b_nf c82))]; done) | (rw [if_neg (of_decide_eq_false c82)]; done)) J80
          · skip
            refine lv_iload hx hb dL_arePlayers_67 (lv_at hl 1 rfl) ?_
            refine z_if_eq (tgt := 76) (P := (decide (fo i = nI pl)) = false) hx hb dL_arePlayers_69 (by decide) (zb_eq0) (fun c69 => ?_) (fun c69 => ?_)
            · skip
              refine lv_iconst (v := 0) hx hb dL_arePlayers_76 (by decide) ?_
              exact z_top (by first | (rw [c69]; rfl) | (rw [b_nf c69]; rfl)) J67
            · skip
              refine lv_iconst (v := 1) hx hb dL_arePlayers_72 (by decide) ?_
              refine lv_goto (tgt := 77) hx hb dL_arePlayers_73 (by decide) ?_
              exact z_top (by first | (rw [c69]; rfl) | (rw [b_nf c69]; rfl)) J67
        · skip
          refine lv_aload_n hx hb dL_arePlayers_48 rfl (lv_at hl 1 rfl) ?_
          refine lv_iload hx hb dL_arePlayers_49 (lv_at hl 8 rfl) ?_
          refine lv_iconst (v := 3) hx hb dL_arePlayers_51 (by decide) ?_
          refine z_ci (va_runV (As := [.int (nI i), .int 3]) (rest := []) ⟨hx, hb, hml, hown, hts⟩ (c_X4_squareOf_ok l D cI cZ cL (x0 := x0) (e1 := e1) (e2 := e2) (fl := fl) (fk := fk) (a0 := a0) (a1 := a1) (a2 := a2) (a3 := a3) (a4 := a4) (fh := fh) (fo := fo) (fc := fc) (fs := fs) (hz := hz) (mv := mv) (tu := tu) (rf := rf) (b0 := b0) (b1 := b1) (fx := fx) (ln := 0) (d0 := d0) (d1 := d1) (fn := fn) (od := od) (sz6 := sz6) (q := i) (wh := 3) (hq := by omega) (hwh := by omega) (hhz := by omega)) (cwV 2 hts gL_arePlayers_X4_squareOf rfl rfl rfl (by decide +kernel) ⟨Nat.le_of_ble_eq_true rfl, Nat.le_of_ble_eq_true rfl⟩) (z_preVn hN hK (hP.sub [0, 1, 2, 3, 4, 5, 6, 7, 8, 9, 10, 11] rfl) 0 3 rfl rfl) rfl rfl hl.1 rfl (lv_room (Nat.le_of_ble_eq_true rfl)) dL_arePlayers_52 ⟨Nat.le_of_ble_eq_true rfl, Nat.le_of_ble_eq_true rfl⟩) ?_
          refine z_top (y := zb (pDk fh i hz)) (rfl) ?_
          refine lv_iconst (v := 1) hx hb dL_arePlayers_55 (by decide) ?_
          refine z_icmp_ne (tgt := 63) (P := (pDk fh i hz) = true) hx hb dL_arePlayers_56 (by decide) (zb_e1) (fun c56 => ?_) (fun c56 => ?_)
          · skip
            refine lv_iconst (v := 0) hx hb dL_arePlayers_63 (by decide) ?_
            exact z_top (by first | (rw [c56]; rfl) | (rw [Bool.eq_false_iff.mpr c56]; rfl)) J48
          · skip
            refine lv_iconst (v := 1) hx hb dL_arePlayers_59 (by decide) ?_
            refine lv_goto (tgt := 64) hx hb dL_arePlayers_60 (by decide) ?_
            exact z_top (by first | (rw [c56]; rfl) | (rw [Bool.eq_false_iff.mpr c56]; rfl)) J48
      · skip
        refine lv_aload_n hx hb dL_arePlayers_30 rfl (lv_at hl 0 rfl) ?_
        refine lv_iload hx hb dL_arePlayers_31 (lv_at hl 7 rfl) ?_
        refine lv_iconst (v := 1) hx hb dL_arePlayers_33 (by decide) ?_
        refine z_ci (va_runV (As := [.int (nI i), .int 1]) (rest := []) ⟨hx, hb, hml, hown, hts⟩ (c_X4_squareOf_ok l D cI cZ cL (x0 := x0) (e1 := e1) (e2 := e2) (fl := fl) (fk := fk) (a0 := a0) (a1 := a1) (a2 := a2) (a3 := a3) (a4 := a4) (fh := fh) (fo := fo) (fc := fc) (fs := fs) (hz := hz) (mv := mv) (tu := tu) (rf := rf) (b0 := b0) (b1 := b1) (fx := fx) (ln := 0) (d0 := d0) (d1 := d1) (fn := fn) (od := od) (sz6 := sz6) (q := i) (wh := 1) (hq := by omega) (hwh := by omega) (hhz := by omega)) (cwV 2 hts gL_arePlayers_X4_squareOf rfl rfl rfl (by decide +kernel) ⟨Nat.le_of_ble_eq_true rfl, Nat.le_of_ble_eq_true rfl⟩) (z_preVn hN hK (hP.sub [0, 1, 2, 3, 4, 5, 6, 7, 8, 9, 10, 11] rfl) 0 3 rfl rfl) rfl rfl hl.1 rfl (lv_room (Nat.le_of_ble_eq_true rfl)) dL_arePlayers_34 ⟨Nat.le_of_ble_eq_true rfl, Nat.le_of_ble_eq_true rfl⟩) ?_
        refine z_top (y := (fo i)) (rfl) ?_
        refine lv_iload_n hx hb dL_arePlayers_37 rfl (lv_at hl 1 rfl) ?_
        refine z_icmp_ne (tgt := 45) (P := (fo i) = (nI pl)) hx hb dL_arePlayers_38 (by decide) (Iff.rfl) (fun c38 => ?_) (fun c38 => ?_)
        · skip
          refine lv_iconst (v := 0) hx hb dL_arePlayers_45 (by decide) ?_
          exact z_top (by first | (rw [decide_eq_true c38]; rfl) | (rw [decide_eq_false c38]; rfl)) J30
        · skip
          refine lv_iconst (v := 1) hx hb dL_arePlayers_41 (by decide) ?_
          refine lv_goto (tgt := 46) hx hb dL_arePlayers_42 (by decide) ?_
          exact z_top (by first | (rw [decide_eq_true c38]; rfl) | (rw [decide_eq_false c38]; rfl)) J30
