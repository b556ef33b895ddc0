set_option maxHeartbeats 4000000 in
set_option maxRecDepth 100000 in
/-- the best square, the darkest hour -/
theorem c_L_isBest (l : Launch) (D : va_G) (cI cZ cL : ClassId) (sz : Nat) (x0 : Nat) (e1 : Nat) (e2 : Nat) (fl : Nat → Int32) (fk : Nat → Int32) (a0 : Nat) (a1 : Nat) (a2 : Nat) (a3 : Nat) (a4 : Nat) (fh : Nat → Int32) (fo : Nat → Int32) (fc : Nat → Int32) (fs : Nat → Int32) (hz : Nat) (mv : Nat) (tu : Int32) (rf : Int32) (b0 : Nat) (b1 : Nat) (fx : Nat → Int32) (d0 : Nat) (d1 : Nat) (fn : Nat → Int32) (od : Nat) (sz6 : Nat) (hJ : JJ fh fo fc hz mv od sz6) : Met l yL_isBest wsL_isBest ({ frames := 5, cells := 0, slots := 0, locals := 119 }) (va_Pc [.ref x0] (zMn D cI cZ cL [(x0, .inr (3, [.ref a0, .ref b0, .ref d0, .ref e1, .ref e2])), (a0, .inr (0, [.ref a1, .ref a2, .ref a3, .ref a4, .int (nI hz), .int (nI mv), .int tu, .int rf])), (a1, .inl (cI, 36, .inl fh)), (a2, .inl (cI, 36, .inl fo)), (a3, .inl (cI, 36, .inl fc)), (a4, .inl (cI, 2, .inl fs)), (b0, .inr (1, [.ref b1, .int (nI 0)])), (b1, .inl (cI, 60, .inl fx)), (d0, .inr (2, [.ref d1, .int (nI od), .int (nI sz6)])), (d1, .inl (cI, 684, .inl fn)), (e1, .inl (cI, 228, .inl fl)), (e2, .inl (cZ, 2, .inl fk))] sz)) (zQe D [(x0, .inr (3, [.ref a0, .ref b0, .ref d0, .ref e1, .ref e2])), (a0, .inr (0, [.ref a1, .ref a2, .ref a3, .ref a4, .int (nI hz), .int (nI mv), .int tu, .int rf])), (a1, .inl (cI, 36, .inl fh)), (a2, .inl (cI, 36, .inl fo)), (a3, .inl (cI, 36, .inl fc)), (a4, .inl (cI, 2, .inl fs)), (b0, .inr (1, [.ref b1, .int (nI 0)])), (b1, .inl (cI, 60, .inl fx)), (d0, .inr (2, [.ref d1, .int (nI od), .int (nI sz6)])), (d1, .inl (cI, 684, .inl fn)), (e1, .inl (cI, 228, .inl fl)), (e2, .inl (cZ, 2, .inl fk))] (EE cI cZ x0 a0 a1 a2 a3 a4 b0 b1 d0 d1 e1 e2) sz) 0 0 (va_A [(x0, .inr (3, [.ref a0, .ref b0, .ref d0, .ref e1, .ref e2])), (a0, .inr (0, [.ref a1, .ref a2, .ref a3, .ref a4, .int (nI hz), .int (nI mv), .int tu, .int rf])), (a1, .inl (cI, 36, .inl fh)), (a2, .inl (cI, 36, .inl fo)), (a3, .inl (cI, 36, .inl fc)), (a4, .inl (cI, 2, .inl fs)), (b0, .inr (1, [.ref b1, .int (nI 0)])), (b1, .inl (cI, 60, .inl fx)), (d0, .inr (2, [.ref d1, .int (nI od), .int (nI sz6)])), (d1, .inl (cI, 684, .inl fn)), (e1, .inl (cI, 228, .inl fl)), (e2, .inl (cZ, 2, .inl fk))] sz) := by
  refine Met.ofW (cc := cL_isBest) (maxL := 11) (ret := (some .boolean)) (by decide) rfl ?_
  intro p e s m args below meth c s₁ B hml hv
  obtain ⟨rfl, hsz, ⟨⟨hP, hK⟩, hN⟩, hD0⟩ := hv
  have hx := B.exec
  have hb := B.bytes
  have hr := B.returns
  have hts := atoms_spec (ws := wsL_isBest) B.pre
  have hown : s.vm.findClass RL = some m.cls := findClass_of_methodNamed B.named
  have hlocks := B.notSynchronized
  subst hsz
  have hD := hD0.self (sz := s.heap.size)
  generalize hAe : va_A [(x0, .inr (3, [.ref a0, .ref b0, .ref d0, .ref e1, .ref e2])), (a0, .inr (0, [.ref a1, .ref a2, .ref a3, .ref a4, .int (nI hz), .int (nI mv), .int tu, .int rf])), (a1, .inl (cI, 36, .inl fh)), (a2, .inl (cI, 36, .inl fo)), (a3, .inl (cI, 36, .inl fc)), (a4, .inl (cI, 2, .inl fs)), (b0, .inr (1, [.ref b1, .int (nI 0)])), (b1, .inl (cI, 60, .inl fx)), (d0, .inr (2, [.ref d1, .int (nI od), .int (nI sz6)])), (d1, .inl (cI, 684, .inl fn)), (e1, .inl (cI, 228, .inl fl)), (e2, .inl (cZ, 2, .inl fk))] s.heap.size = A at hD ⊢
  have hA : ∀ q : Nat, s.heap.size ≤ q → A q := fun q h => by rw [← hAe]; exact Or.inr h
  have hS : va_S A s.heap s.heap [] := va_S.rf
  have hl := lv_entry ([.ref x0]) (n := 11) (Nat.le_of_ble_eq_true rfl)
  rw [lg_entry_eq]
  generalize (lg_sl ([.ref x0]) ++ List.replicate (11 - (lg_sl ([.ref x0])).length) Slot.unset).toArray = ls at hl ⊢
  have hl : lv_has ls 11 [(0, .ref x0)] := hl
  obtain ⟨hI, hC, hhz, hmv, hod, hs6⟩ := id hJ
  refine lv_aload_n hx hb dL_isBest_0 rfl (lv_at hl 0 rfl) ?_
  refine z_cmi (wr := []) (ws' := [(x0, .inr (3, [.ref a0, .ref b0, .ref d0, .ref e1, .ref e2])), (a0, .inr (0, [.ref a1, .ref a2, .ref a3, .ref a4, .int (nI hz), .int (nI mv), .int tu, .int rf])), (a1, .inl (cI, 36, .inl fh)), (a2, .inl (cI, 36, .inl fo)), (a3, .inl (cI, 36, .inl fc)), (a4, .inl (cI, 2, .inl fs)), (b0, .inr (1, [.ref b1, .int (nI 0)])), (b1, .inl (cI, 60, .inl fx)), (d0, .inr (2, [.ref d1, .int (nI od), .int (nI sz6)])), (d1, .inl (cI, 684, .inl fn)), (e1, .inl (cI, 228, .inl fl)), (e2, .inl (cZ, 2, .inl fk))]) (va_runV (As := []) (rest := []) ⟨hx, hb, hml, hown, hts⟩ (c_X4_bestSquare_ok l D cI cZ cL _ (x0 := x0) (e1 := e1) (e2 := e2) (fl := fl) (fk := fk) (a0 := a0) (a1 := a1) (a2 := a2) (a3 := a3) (a4 := a4) (fh := fh) (fo := fo) (fc := fc) (fs := fs) (hz := hz) (mv := mv) (tu := tu) (rf := rf) (b0 := b0) (b1 := b1) (fx := fx) (ln := 0) (d0 := d0) (d1 := d1) (fn := fn) (od := od) (sz6 := sz6) (hhz := by omega) (hmv := by omega)) (cwV 0 hts gL_isBest_X4_bestSquare rfl rfl rfl (by decide +kernel) ⟨Nat.le_of_ble_eq_true rfl, Nat.le_of_ble_eq_true rfl⟩) (z_preMVn hN hK (hP.sub [0, 1, 2, 3, 4, 5, 6, 7, 8, 9, 10, 11] rfl) (hD.sub [0, 1, 2, 3, 4, 5, 6, 7, 8, 9, 10, 11] (by decide) rfl) 0 3 rfl rfl) rfl rfl hl.1 rfl (lv_room (Nat.le_of_ble_eq_true rfl)) dL_isBest_1 ⟨Nat.le_of_ble_eq_true rfl, Nat.le_of_ble_eq_true rfl⟩) hP hD hS hA [0, 1, 2, 3, 4, 5, 6, 7, 8, 9, 10, 11] [] [0, 1, 2, 3, 4, 5, 6, 7, 8, 9, 10, 11] rfl rfl (by decide) (by decide) rfl rfl (by decide) (fun H locs hP hD hS => ?_)
  refine lv_istore_n (lv' := [(1, .int (be (cWo fo fh fc hz mv) 36)), (0, .ref x0)]) hx hb dL_isBest_4 rfl hl (by decide) rfl (fun ls hl => ?_)
  refine lv_iconst (v := (-1)) hx hb dL_isBest_5 (by decide) ?_
  refine lv_istore_n (lv' := [(2, .int (-1)), (1, .int (be (cWo fo fh fc hz mv) 36)), (0, .ref x0)]) hx hb dL_isBest_6 rfl hl (by decide) rfl (fun ls hl => ?_)
  refine lv_sipush (v := (-999)) hx hb dL_isBest_7 (by decide) ?_
  refine lv_istore_n (lv' := [(3, .int (-999)), (2, .int (-1)), (1, .int (be (cWo fo fh fc hz mv) 36)), (0, .ref x0)]) hx hb dL_isBest_10 rfl hl (by decide) rfl (fun ls hl => ?_)
  refine lv_iconst (v := 0) hx hb dL_isBest_11 (by decide) ?_
  refine lv_istore (lv' := [(4, .int 0), (3, .int (-999)), (2, .int (-1)), (1, .int (be (cWo fo fh fc hz mv) 36)), (0, .ref x0)]) hx hb dL_isBest_12 hl (by decide) rfl (fun ls hl => ?_)
  refine z_upH (N := 36) (i0 := 0) (fun i H locs ls => ∃ xb : Int32, xb = be (cWo fo fh fc hz mv) i ∧ ∃ xq : Int32, xq = mo (cWo fo fh fc hz mv) i ∧ va_P D vwCl [(x0, .inr (3, [.ref a0, .ref b0, .ref d0, .ref e1, .ref e2])), (a0, .inr (0, [.ref a1, .ref a2, .ref a3, .ref a4, .int (nI hz), .int (nI mv), .int tu, .int rf])), (a1, .inl (cI, 36, .inl fh)), (a2, .inl (cI, 36, .inl fo)), (a3, .inl (cI, 36, .inl fc)), (a4, .inl (cI, 2, .inl fs)), (b0, .inr (1, [.ref b1, .int (nI 0)])), (b1, .inl (cI, 60, .inl fx)), (d0, .inr (2, [.ref d1, .int (nI od), .int (nI sz6)])), (d1, .inl (cI, 684, .inl fn)), (e1, .inl (cI, 228, .inl fl)), (e2, .inl (cZ, 2, .inl fk))] H ∧ va_D A [(x0, .inr (3, [.ref a0, .ref b0, .ref d0, .ref e1, .ref e2])), (a0, .inr (0, [.ref a1, .ref a2, .ref a3, .ref a4, .int (nI hz), .int (nI mv), .int tu, .int rf])), (a1, .inl (cI, 36, .inl fh)), (a2, .inl (cI, 36, .inl fo)), (a3, .inl (cI, 36, .inl fc)), (a4, .inl (cI, 2, .inl fs)), (b0, .inr (1, [.ref b1, .int (nI 0)])), (b1, .inl (cI, 60, .inl fx)), (d0, .inr (2, [.ref d1, .int (nI od), .int (nI sz6)])), (d1, .inl (cI, 684, .inl fn)), (e1, .inl (cI, 228, .inl fl)), (e2, .inl (cZ, 2, .inl fk))] ∧ va_S A s.heap H locs ∧ lv_has ls 11 [(0, .ref x0), (1, .int (be (cWo fo fh fc hz mv) 36)), (2, .int xb), (3, .int xq), (4, .int (nI i))]) (by omega) (⟨_, rfl, _, rfl, hP, hD, hS, lv_sub hl [4, 3, 2, 1, 0] rfl⟩) (fun i H locs ls hi14 hI ih14 => ?_)
  obtain ⟨xb, exb, xq, exq, hP, hD, hS, hl⟩ := hI
  refine lv_iload hx hb dL_isBest_14 (lv_at hl 4 rfl) ?_
  refine lv_bipush (v := 36) hx hb dL_isBest_16 (by decide) ?_
  refine z_icmp_ge (tgt := 93) (P := 36 ≤ i) hx hb dL_isBest_18 (by decide) (nI_leI (a := 36) (b := i) (by omega) (by omega)) (fun c18 => ?_) (fun c18 => ?_)
  · skip
    obtain rfl : i = 36 := by omega
    refine lv_iconst (v := 0) hx hb dL_isBest_93 (by decide) ?_
    refine lv_istore (lv' := [(4, .int 0), (0, .ref x0), (1, .int (be (cWo fo fh fc hz mv) 36)), (2, .int xb), (3, .int xq)]) hx hb dL_isBest_94 hl (by decide) rfl (fun ls hl => ?_)
    refine lv_iconst (v := 0) hx hb dL_isBest_96 (by decide) ?_
    refine lv_istore (lv' := [(5, .int 0), (4, .int 0), (0, .ref x0), (1, .int (be (cWo fo fh fc hz mv) 36)), (2, .int xb), (3, .int xq)]) hx hb dL_isBest_97 hl (by decide) rfl (fun ls hl => ?_)
    refine lv_aload_n hx hb dL_isBest_99 rfl (lv_at hl 2 rfl) ?_
    refine lv_iconst (v := 0) hx hb dL_isBest_100 (by decide) ?_
    refine z_ci (va_runV (As := [.int 0]) (rest := []) ⟨hx, hb, hml, hown, hts⟩ (c_X4_count_ok l D cI cZ cL (x0 := x0) (e1 := e1) (e2 := e2) (fl := fl) (fk := fk) (a0 := a0) (a1 := a1) (a2 := a2) (a3 := a3) (a4 := a4) (fh := fh) (fo := fo) (fc := fc) (fs := fs) (hz := hz) (mv := mv) (tu := tu) (rf := rf) (b0 := b0) (b1 := b1) (fx := fx) (ln := 0) (d0 := d0) (d1 := d1) (fn := fn) (od := od) (sz6 := sz6) (wh := 0) (hwh := by omega) (hhz := by omega)) (cwV 1 hts gL_isBest_X4_count rfl rfl rfl (by decide +kernel) ⟨Nat.le_of_ble_eq_true rfl, Nat.le_of_ble_eq_true rfl⟩) (z_preVn hN hK (hP.sub [0, 1, 2, 3, 4, 5, 6, 7, 8, 9, 10, 11] rfl) 0 3 rfl rfl) rfl rfl hl.1 rfl (lv_room (Nat.le_of_ble_eq_true rfl)) dL_isBest_101 ⟨Nat.le_of_ble_eq_true rfl, Nat.le_of_ble_eq_true rfl⟩) ?_
    refine z_top (y := nI hz) (rfl) ?_
    refine lv_istore (lv' := [(6, .int (nI hz)), (5, .int 0), (4, .int 0), (0, .ref x0), (1, .int (be (cWo fo fh fc hz mv) 36)), (2, .int xb), (3, .int xq)]) hx hb dL_isBest_104 hl (by decide) rfl (fun ls hl => ?_)
    refine lv_iconst (v := 0) hx hb dL_isBest_106 (by decide) ?_
    refine lv_istore (lv' := [(7, .int 0), (6, .int (nI hz)), (5, .int 0), (4, .int 0), (0, .ref x0), (1, .int (be (cWo fo fh fc hz mv) 36)), (2, .int xb), (3, .int xq)]) hx hb dL_isBest_107 hl (by decide) rfl (fun ls hl => ?_)
    have hW9 : ([(x0, .inr (3, [.ref a0, .ref b0, .ref d0, .ref e1, .ref e2])), (a0, .inr (0, [.ref a1, .ref a2, .ref a3, .ref a4, .int (nI hz), .int (nI mv), .int tu, .int rf])), (a1, .inl (cI, 36, .inl fh)), (a2, .inl (cI, 36, .inl fo)), (a3, .inl (cI, 36, .inl fc)), (a4, .inl (cI, 2, .inl fs)), (b0, .inr (1, [.ref b1, .int (nI 0)])), (b1, .inl (cI, 60, .inl fx)), (d0, .inr (2, [.ref d1, .int (nI od), .int (nI sz6)])), (d1, .inl (cI, 684, .inl fn)), (e1, .inl (cI, 228, .inl fl)), (e2, .inl (cZ, 2, .inl fk))] : va_W) = [(x0, .inr (3, [.ref a0, .ref b0, .ref d0, .ref e1, .ref e2])), (a0, .inr (0, [.ref a1, .ref a2, .ref a3, .ref a4, .int (nI (pHi hz 0)), .int (nI mv), .int tu, .int rf])), (a1, .inl (cI, 36, .inl fh)), (a2, .inl (cI, 36, .inl fo)), (a3, .inl (cI, 36, .inl fc)), (a4, .inl (cI, 2, .inl fs)), (b0, .inr (1, [.ref b1, .int (nI 0)])), (b1, .inl (cI, 60, .inl fx)), (d0, .inr (2, [.ref d1, .int (nI od), .int (nI sz6)])), (d1, .inl (cI, 684, .inl fn)), (e1, .inl (cI, 228, .inl fl)), (e2, .inl (cZ, 2, .inl fk))] := rfl
    rw [hW9] at hP hD
    refine z_upH (N := 12) (i0 := 0) (fun w H locs ls => ∃ dk : Nat, dk = bm (pDn fh) w ∧ ∃ hr1 : Nat, hr1 = bh (pDn fh) w ∧ ∃ fnx : Nat → Int32, True ∧ ∃ odx : Nat, odx < 6 ∧ ∃ szx : Nat, szx < 7 ∧ va_P D vwCl [(x0, .inr (3, [.ref a0, .ref b0, .ref d0, .ref e1, .ref e2])), (a0, .inr (0, [.ref a1, .ref a2, .ref a3, .ref a4, .int (nI (pHi hz w)), .int (nI mv), .int tu, .int rf])), (a1, .inl (cI, 36, .inl fh)), (a2, .inl (cI, 36, .inl fo)), (a3, .inl (cI, 36, .inl fc)), (a4, .inl (cI, 2, .inl fs)), (b0, .inr (1, [.ref b1, .int (nI 0)])), (b1, .inl (cI, 60, .inl fx)), (d0, .inr (2, [.ref d1, .int (nI odx), .int (nI szx)])), (d1, .inl (cI, 684, .inl fnx)), (e1, .inl (cI, 228, .inl fl)), (e2, .inl (cZ, 2, .inl fk))] H ∧ va_D A [(x0, .inr (3, [.ref a0, .ref b0, .ref d0, .ref e1, .ref e2])), (a0, .inr (0, [.ref a1, .ref a2, .ref a3, .ref a4, .int (nI (pHi hz w)), .int (nI mv), .int tu, .int rf])), (a1, .inl (cI, 36, .inl fh)), (a2, .inl (cI, 36, .inl fo)), (a3, .inl (cI, 36, .inl fc)), (a4, .inl (cI, 2, .inl fs)), (b0, .inr (1, [.ref b1, .int (nI 0)])), (b1, .inl (cI, 60, .inl fx)), (d0, .inr (2, [.ref d1, .int (nI odx), .int (nI szx)])), (d1, .inl (cI, 684, .inl fnx)), (e1, .inl (cI, 228, .inl fl)), (e2, .inl (cZ, 2, .inl fk))] ∧ va_S A s.heap H locs ∧ lv_has ls 11 [(0, .ref x0), (1, .int (be (cWo fo fh fc hz mv) 36)), (2, .int xb), (4, .int (nI dk)), (5, .int (nI hr1)), (6, .int (nI hz)), (7, .int (nI w))]) (by omega) (⟨_, rfl, _, rfl, _, trivial, _, hod, _, hs6, hP, hD, hS, lv_sub hl [4, 5, 6, 3, 2, 1, 0] rfl⟩) (fun w H locs ls hi109 hI ih109 => ?_)
    obtain ⟨dk, edk, hr1, ehr1, fnx, efnx, odx, eodx, szx, eszx, hP, hD, hS, hl⟩ := hI
    refine lv_iload hx hb dL_isBest_109 (lv_at hl 6 rfl) ?_
    refine lv_bipush (v := 12) hx hb dL_isBest_111 (by decide) ?_
    refine z_icmp_ge (tgt := 215) (P := 12 ≤ w) hx hb dL_isBest_113 (by decide) (nI_leI (a := 12) (b := w) (by omega) (by omega)) (fun c113 => ?_) (fun c113 => ?_)
    · skip
      obtain rfl : w = 12 := by omega
      refine lv_iload_n hx hb dL_isBest_215 rfl (lv_at hl 1 rfl) ?_
      refine lv_iload_n hx hb dL_isBest_216 rfl (lv_at hl 2 rfl) ?_
      refine z_icmp_ne (tgt := 244) (P := True) hx hb dL_isBest_217 (by decide) (iff_of_true (exb.symm) trivial) (fun c217 => (show False from c217 trivial).elim) (fun c217 => ?_)
      refine lv_aload_n hx hb dL_isBest_220 rfl (lv_at hl 0 rfl) ?_
      refine z_ci (va_runV (As := []) (rest := []) ⟨hx, hb, hml, hown, hts⟩ (c_X4_darkestHour_ok l D cI cZ cL (x0 := x0) (e1 := e1) (e2 := e2) (fl := fl) (fk := fk) (a0 := a0) (a1 := a1) (a2 := a2) (a3 := a3) (a4 := a4) (fh := fh) (fo := fo) (fc := fc) (fs := fs) (hz := (pHi hz 12)) (mv := mv) (tu := tu) (rf := rf) (b0 := b0) (b1 := b1) (fx := fx) (ln := 0) (d0 := d0) (d1 := d1) (fn := fnx) (od := odx) (sz6 := szx)) (cwV 0 hts gL_isBest_X4_darkestHour rfl rfl rfl (by decide +kernel) ⟨Nat.le_of_ble_eq_true rfl, Nat.le_of_ble_eq_true rfl⟩) (z_preVn hN hK (hP.sub [0, 1, 2, 3, 4, 5, 6, 7, 8, 9, 10, 11] rfl) 0 3 rfl rfl) rfl rfl hl.1 rfl (lv_room (Nat.le_of_ble_eq_true rfl)) dL_isBest_221 ⟨Nat.le_of_ble_eq_true rfl, Nat.le_of_ble_eq_true rfl⟩) ?_
      refine lv_iload hx hb dL_isBest_224 (lv_at hl 4 rfl) ?_
      refine z_icmp_ne (tgt := 244) (P := True) hx hb dL_isBest_226 (by decide) (iff_of_true (by rw [ehr1, (bh_bd (pDn fh) 12).1]) trivial) (fun c226 => (show False from c226 trivial).elim) (fun c226 => ?_)
      refine lv_aload_n hx hb dL_isBest_229 rfl (lv_at hl 0 rfl) ?_
      refine lv_iload hx hb dL_isBest_230 (lv_at hl 5 rfl) ?_
      refine z_cmi (wr := []) (ws' := [(x0, .inr (3, [.ref a0, .ref b0, .ref d0, .ref e1, .ref e2])), (a0, .inr (0, [.ref a1, .ref a2, .ref a3, .ref a4, .int (nI hz), .int (nI mv), .int tu, .int rf])), (a1, .inl (cI, 36, .inl fh)), (a2, .inl (cI, 36, .inl fo)), (a3, .inl (cI, 36, .inl fc)), (a4, .inl (cI, 2, .inl fs)), (b0, .inr (1, [.ref b1, .int (nI 0)])), (b1, .inl (cI, 60, .inl fx)), (d0, .inr (2, [.ref d1, .int (nI (pRo odx szx)), .int (nI (pRz szx))])), (d1, .inl (cI, 684, .inl (va_cpy (cG fh fo fc fs (pHi hz 12) mv tu rf) fnx 0 ((odx + szx) % 6 * 114) 114))), (e1, .inl (cI, 228, .inl fl)), (e2, .inl (cZ, 2, .inl fk))]) (va_runV (As := [.int (nI hz)]) (rest := []) ⟨hx, hb, hml, hown, hts⟩ (c_X4_hour_ok l D cI cZ cL _ (x0 := x0) (e1 := e1) (e2 := e2) (fl := fl) (fk := fk) (a0 := a0) (a1 := a1) (a2 := a2) (a3 := a3) (a4 := a4) (fh := fh) (fo := fo) (fc := fc) (fs := fs) (hz := (pHi hz 12)) (mv := mv) (tu := tu) (rf := rf) (b0 := b0) (b1 := b1) (fx := fx) (ln := 0) (d0 := d0) (d1 := d1) (fn := fnx) (od := odx) (sz6 := szx) (hu := hz) (hhu := by omega) (hod := by omega) (hs6 := by omega)) (cwV 1 hts gL_isBest_X4_hour rfl rfl rfl (by decide +kernel) ⟨Nat.le_of_ble_eq_true rfl, Nat.le_of_ble_eq_true rfl⟩) (z_preMVn hN hK (hP.sub [0, 1, 2, 3, 4, 5, 6, 7, 8, 9, 10, 11] rfl) (hD.sub [0, 1, 2, 3, 4, 5, 6, 7, 8, 9, 10, 11] (by decide) rfl) 0 3 rfl rfl) rfl rfl hl.1 rfl (lv_room (Nat.le_of_ble_eq_true rfl)) dL_isBest_232 ⟨Nat.le_of_ble_eq_true rfl, Nat.le_of_ble_eq_true rfl⟩) hP hD hS hA [0, 1, 2, 3, 4, 5, 6, 7, 8, 9, 10, 11] [] [0, 1, 2, 3, 4, 5, 6, 7, 8, 9, 10, 11] rfl rfl (by decide) (by decide) rfl rfl (by decide) (fun H locs hP hD hS => ?_)
      refine z_top (y := nI 11) (rfl) ?_
      refine lv_bipush (v := 11) hx hb dL_isBest_235 (by decide) ?_
      refine z_icmp_ne (tgt := 244) (P := True) hx hb dL_isBest_237 (by decide) (iff_of_true (rfl) trivial) (fun c237 => (show False from c237 trivial).elim) (fun c237 => ?_)
      refine lv_iconst (v := 1) hx hb dL_isBest_240 (by decide) ?_
      refine lv_goto (tgt := 245) hx hb dL_isBest_241 (by decide) ?_
      have hE9 : EE cI cZ x0 a0 a1 a2 a3 a4 b0 b1 d0 d1 e1 e2 [(x0, .inr (3, [.ref a0, .ref b0, .ref d0, .ref e1, .ref e2])), (a0, .inr (0, [.ref a1, .ref a2, .ref a3, .ref a4, .int (nI hz), .int (nI mv), .int tu, .int rf])), (a1, .inl (cI, 36, .inl fh)), (a2, .inl (cI, 36, .inl fo)), (a3, .inl (cI, 36, .inl fc)), (a4, .inl (cI, 2, .inl fs)), (b0, .inr (1, [.ref b1, .int (nI 0)])), (b1, .inl (cI, 60, .inl fx)), (d0, .inr (2, [.ref d1, .int (nI (pRo odx szx)), .int (nI (pRz szx))])), (d1, .inl (cI, 684, .inl (va_cpy (cG fh fo fc fs (pHi hz 12) mv tu rf) fnx 0 ((odx + szx) % 6 * 114) 114))), (e1, .inl (cI, 228, .inl fl)), (e2, .inl (cZ, 2, .inl fk))] := ⟨fh, fo, fc, fs, (va_cpy (cG fh fo fc fs (pHi hz 12) mv tu rf) fnx 0 ((odx + szx) % 6 * 114) 114), fl, fk, fx, hz, mv, (pRo odx szx), (pRz szx), tu, rf, JJ_mk hI hC (by omega) hmv (pRo_lt eodx) (pRz_lt eszx), rfl⟩
      have hP9 : va_P D vwCl [(x0, .inr (3, [.ref a0, .ref b0, .ref d0, .ref e1, .ref e2])), (a0, .inr (0, [.ref a1, .ref a2, .ref a3, .ref a4, .int (nI hz), .int (nI mv), .int tu, .int rf])), (a1, .inl (cI, 36, .inl fh)), (a2, .inl (cI, 36, .inl fo)), (a3, .inl (cI, 36, .inl fc)), (a4, .inl (cI, 2, .inl fs)), (b0, .inr (1, [.ref b1, .int (nI 0)])), (b1, .inl (cI, 60, .inl fx)), (d0, .inr (2, [.ref d1, .int (nI (pRo odx szx)), .int (nI (pRz szx))])), (d1, .inl (cI, 684, .inl (va_cpy (cG fh fo fc fs (pHi hz 12) mv tu rf) fnx 0 ((odx + szx) % 6 * 114) 114))), (e1, .inl (cI, 228, .inl fl)), (e2, .inl (cZ, 2, .inl fk))] _ := hP
      have hD9 : va_D A [(x0, .inr (3, [.ref a0, .ref b0, .ref d0, .ref e1, .ref e2])), (a0, .inr (0, [.ref a1, .ref a2, .ref a3, .ref a4, .int (nI hz), .int (nI mv), .int tu, .int rf])), (a1, .inl (cI, 36, .inl fh)), (a2, .inl (cI, 36, .inl fo)), (a3, .inl (cI, 36, .inl fc)), (a4, .inl (cI, 2, .inl fs)), (b0, .inr (1, [.ref b1, .int (nI 0)])), (b1, .inl (cI, 60, .inl fx)), (d0, .inr (2, [.ref d1, .int (nI (pRo odx szx)), .int (nI (pRz szx))])), (d1, .inl (cI, 684, .inl (va_cpy (cG fh fo fc fs (pHi hz 12) mv tu rf) fnx 0 ((odx + szx) % 6 * 114) 114))), (e1, .inl (cI, 228, .inl fl)), (e2, .inl (cZ, 2, .inl fk))] := hD
      subst hAe
      exact z_mzretE hx hb hr hlocks dL_isBest_245 (rfl) hE9 hP9 hD9 hS
    · skip
      have hw12 : w < 12 := by omega
      have hDn := pDn_le fh w
      have hdk : dk ≤ 36 := by rw [edk]; exact bm_le (fun k => pDn_le fh k) w
      have hpH : pHi hz w ≤ 12 := by unfold pHi; split <;> omega
      refine lv_aload_n hx hb dL_isBest_116 rfl (lv_at hl 0 rfl) ?_
      refine lv_iload hx hb dL_isBest_117 (lv_at hl 6 rfl) ?_
      refine z_cmi (wr := []) (ws' := [(x0, .inr (3, [.ref a0, .ref b0, .ref d0, .ref e1, .ref e2])), (a0, .inr (0, [.ref a1, .ref a2, .ref a3, .ref a4, .int (nI w), .int (nI mv), .int tu, .int rf])), (a1, .inl (cI, 36, .inl fh)), (a2, .inl (cI, 36, .inl fo)), (a3, .inl (cI, 36, .inl fc)), (a4, .inl (cI, 2, .inl fs)), (b0, .inr (1, [.ref b1, .int (nI 0)])), (b1, .inl (cI, 60, .inl fx)), (d0, .inr (2, [.ref d1, .int (nI (pRo odx szx)), .int (nI (pRz szx))])), (d1, .inl (cI, 684, .inl (va_cpy (cG fh fo fc fs (pHi hz w) mv tu rf) fnx 0 ((odx + szx) % 6 * 114) 114))), (e1, .inl (cI, 228, .inl fl)), (e2, .inl (cZ, 2, .inl fk))]) (va_runV (As := [.int (nI w)]) (rest := []) ⟨hx, hb, hml, hown, hts⟩ (c_X4_hour_ok l D cI cZ cL _ (x0 := x0) (e1 := e1) (e2 := e2) (fl := fl) (fk := fk) (a0 := a0) (a1 := a1) (a2 := a2) (a3 := a3) (a4 := a4) (fh := fh) (fo := fo) (fc := fc) (fs := fs) (hz := (pHi hz w)) (mv := mv) (tu := tu) (rf := rf) (b0 := b0) (b1 := b1) (fx := fx) (ln := 0) (d0 := d0) (d1 := d1) (fn := fnx) (od := odx) (sz6 := szx) (hu := w) (hhu := by omega) (hod := by omega) (hs6 := by omega)) (cwV 1 hts gL_isBest_X4_hour rfl rfl rfl (by decide +kernel) ⟨Nat.le_of_ble_eq_true rfl, Nat.le_of_ble_eq_true rfl⟩) (z_preMVn hN hK (hP.sub [0, 1, 2, 3, 4, 5, 6, 7, 8, 9, 10, 11] rfl) (hD.sub [0, 1, 2, 3, 4, 5, 6, 7, 8, 9, 10, 11] (by decide) rfl) 0 3 rfl rfl) rfl rfl hl.1 rfl (lv_room (Nat.le_of_ble_eq_true rfl)) dL_isBest_119 ⟨Nat.le_of_ble_eq_true rfl, Nat.le_of_ble_eq_true rfl⟩) hP hD hS hA [0, 1, 2, 3, 4, 5, 6, 7, 8, 9, 10, 11] [] [0, 1, 2, 3, 4, 5, 6, 7, 8, 9, 10, 11] rfl rfl (by decide) (by decide) rfl rfl (by decide) (fun H locs hP hD hS => ?_)
      refine lv_istore (lv' := [(8, .int (nI (pHi hz w))), (0, .ref x0), (1, .int (be (cWo fo fh fc hz mv) 36)), (2, .int xb), (4, .int (nI dk)), (5, .int (nI hr1)), (6, .int (nI hz)), (7, .int (nI w))]) hx hb dL_isBest_122 hl (by decide) rfl (fun ls hl => ?_)
      refine lv_aload_n hx hb dL_isBest_124 rfl (lv_at hl 1 rfl) ?_
      refine lv_iconst (v := 5) hx hb dL_isBest_125 (by decide) ?_
      refine z_ci (va_runV (As := [.int 5]) (rest := []) ⟨hx, hb, hml, hown, hts⟩ (c_X4_count_ok l D cI cZ cL (x0 := x0) (e1 := e1) (e2 := e2) (fl := fl) (fk := fk) (a0 := a0) (a1 := a1) (a2 := a2) (a3 := a3) (a4 := a4) (fh := fh) (fo := fo) (fc := fc) (fs := fs) (hz := w) (mv := mv) (tu := tu) (rf := rf) (b0 := b0) (b1 := b1) (fx := fx) (ln := 0) (d0 := d0) (d1 := d1) (fn := (va_cpy (cG fh fo fc fs (pHi hz w) mv tu rf) fnx 0 ((odx + szx) % 6 * 114) 114)) (od := (pRo odx szx)) (sz6 := (pRz szx)) (wh := 5) (hwh := by omega) (hhz := by omega)) (cwV 1 hts gL_isBest_X4_count rfl rfl rfl (by decide +kernel) ⟨Nat.le_of_ble_eq_true rfl, Nat.le_of_ble_eq_true rfl⟩) (z_preVn hN hK (hP.sub [0, 1, 2, 3, 4, 5, 6, 7, 8, 9, 10, 11] rfl) 0 3 rfl rfl) rfl rfl hl.1 rfl (lv_room (Nat.le_of_ble_eq_true rfl)) dL_isBest_126 ⟨Nat.le_of_ble_eq_true rfl, Nat.le_of_ble_eq_true rfl⟩) ?_
      refine z_top (y := nI (pDn fh w)) (rfl) ?_
      refine lv_istore (lv' := [(9, .int (nI (pDn fh w))), (8, .int (nI (pHi hz w))), (0, .ref x0), (1, .int (be (cWo fo fh fc hz mv) 36)), (2, .int xb), (4, .int (nI dk)), (5, .int (nI hr1)), (6, .int (nI hz)), (7, .int (nI w))]) hx hb dL_isBest_129 hl (by decide) rfl (fun ls hl => ?_)
      refine z_join (pc2 := 145) (st2 := [.int (nI (if dk < pDn fh w then w else hr1))]) ?_ (fun J131 => ?_)
      · skip
        refine lv_istore (lv' := [(5, .int (nI (if dk < pDn fh w then w else hr1))), (9, .int (nI (pDn fh w))), (8, .int (nI (pHi hz w))), (0, .ref x0), (1, .int (be (cWo fo fh fc hz mv) 36)), (2, .int xb), (4, .int (nI dk)), (6, .int (nI hz)), (7, .int (nI w))]) hx hb dL_isBest_145 hl (by decide) rfl (fun ls hl => ?_)
        refine z_join (pc2 := 161) (st2 := [.int (nI (if dk < pDn fh w then pDn fh w else dk))]) ?_ (fun J147 => ?_)
        · skip
          refine lv_istore (lv' := [(4, .int (nI (if dk < pDn fh w then pDn fh w else dk))), (5, .int (nI (if dk < pDn fh w then w else hr1))), (9, .int (nI (pDn fh w))), (8, .int (nI (pHi hz w))), (0, .ref x0), (1, .int (be (cWo fo fh fc hz mv) 36)), (2, .int xb), (6, .int (nI hz)), (7, .int (nI w))]) hx hb dL_isBest_161 hl (by decide) rfl (fun ls hl => ?_)
          refine lv_iconst (v := 0) hx hb dL_isBest_163 (by decide) ?_
          refine lv_istore (lv' := [(10, .int 0), (4, .int (nI (if dk < pDn fh w then pDn fh w else dk))), (5, .int (nI (if dk < pDn fh w then w else hr1))), (9, .int (nI (pDn fh w))), (8, .int (nI (pHi hz w))), (0, .ref x0), (1, .int (be (cWo fo fh fc hz mv) 36)), (2, .int xb), (6, .int (nI hz)), (7, .int (nI w))]) hx hb dL_isBest_164 hl (by decide) rfl (fun ls hl => ?_)
          refine z_up (N := 8) (i0 := 0) (fun j ls => lv_has ls 11 [(0, .ref x0), (1, .int (be (cWo fo fh fc hz mv) 36)), (2, .int xb), (4, .int (nI (if dk < pDn fh w then pDn fh w else dk))), (5, .int (nI (if dk < pDn fh w then w else hr1))), (6, .int (nI hz)), (7, .int (nI w)), (8, .int (nI (pHi hz w))), (10, .int (nI (5 * j)))]) (by omega) (lv_sub hl [5, 6, 7, 1, 2, 8, 9, 4, 0] rfl) (fun j ls hi166 hI ih166 => ?_)
          have hl : lv_has ls 11 [(0, .ref x0), (1, .int (be (cWo fo fh fc hz mv) 36)), (2, .int xb), (4, .int (nI (if dk < pDn fh w then pDn fh w else dk))), (5, .int (nI (if dk < pDn fh w then w else hr1))), (6, .int (nI hz)), (7, .int (nI w)), (8, .int (nI (pHi hz w))), (10, .int (nI (5 * j)))] := hI
          refine lv_iload hx hb dL_isBest_166 (lv_at hl 8 rfl) ?_
          refine lv_bipush (v := 36) hx hb dL_isBest_168 (by decide) ?_
          refine z_icmp_ge (tgt := 209) (P := 36 ≤ (5 * j)) hx hb dL_isBest_170 (by decide) (nI_leI (a := 36) (b := (5 * j)) (by omega) (by omega)) (fun c170 => ?_) (fun c170 => ?_)
          · skip
            obtain rfl : j = 8 := by omega
            have hW9 : ([(x0, .inr (3, [.ref a0, .ref b0, .ref d0, .ref e1, .ref e2])), (a0, .inr (0, [.ref a1, .ref a2, .ref a3, .ref a4, .int (nI w), .int (nI mv), .int tu, .int rf])), (a1, .inl (cI, 36, .inl fh)), (a2, .inl (cI, 36, .inl fo)), (a3, .inl (cI, 36, .inl fc)), (a4, .inl (cI, 2, .inl fs)), (b0, .inr (1, [.ref b1, .int (nI 0)])), (b1, .inl (cI, 60, .inl fx)), (d0, .inr (2, [.ref d1, .int (nI (pRo odx szx)), .int (nI (pRz szx))])), (d1, .inl (cI, 684, .inl (va_cpy (cG fh fo fc fs (pHi hz w) mv tu rf) fnx 0 ((odx + szx) % 6 * 114) 114))), (e1, .inl (cI, 228, .inl fl)), (e2, .inl (cZ, 2, .inl fk))] : va_W) = [(x0, .inr (3, [.ref a0, .ref b0, .ref d0, .ref e1, .ref e2])), (a0, .inr (0, [.ref a1, .ref a2, .ref a3, .ref a4, .int (nI (pHi hz (w + 1))), .int (nI mv), .int tu, .int rf])), (a1, .inl (cI, 36, .inl fh)), (a2, .inl (cI, 36, .inl fo)), (a3, .inl (cI, 36, .inl fc)), (a4, .inl (cI, 2, .inl fs)), (b0, .inr (1, [.ref b1, .int (nI 0)])), (b1, .inl (cI, 60, .inl fx)), (d0, .inr (2, [.ref d1, .int (nI (pRo odx szx)), .int (nI (pRz szx))])), (d1, .inl (cI, 684, .inl (va_cpy (cG fh fo fc fs (pHi hz w) mv tu rf) fnx 0 ((odx + szx) % 6 * 114) 114))), (e1, .inl (cI, 228, .inl fl)), (e2, .inl (cZ, 2, .inl fk))] := by rw [pHi_s]
            rw [hW9] at hP hD
            refine lv_iinc (v := nI (w + 1)) (lv' := [(7, .int (nI (w + 1))), (0, .ref x0), (1, .int (be (cWo fo fh fc hz mv) 36)), (2, .int xb), (4, .int (nI (if dk < pDn fh w then pDn fh w else dk))), (5, .int (nI (if dk < pDn fh w then w else hr1))), (6, .int (nI hz)), (8, .int (nI (pHi hz w))), (10, .int (nI (5 * 8)))]) hx hb dL_isBest_209 hl (k := 6) rfl (nI_1 (w)) (by decide) rfl (fun ls hl => ?_)
            refine lv_goto (tgt := 109) hx hb dL_isBest_212 (by decide) ?_
            exact ih109 (by omega) _ _ _ (⟨_, by rw [edk]; rfl, _, by rw [ehr1, edk]; rfl, _, trivial, _, pRo_lt eodx, _, pRz_lt eszx, hP, hD, hS, lv_sub hl [1, 2, 3, 4, 5, 6, 0] rfl⟩)
          · skip
            refine lv_iload hx hb dL_isBest_173 (lv_at hl 7 rfl) ?_
            refine z_if_lt (tgt := 209) (P := (pHi hz w) < 0) hx hb dL_isBest_175 (by decide) (nI_ltI (a := (pHi hz w)) (b := 0) (by omega) (by omega)) (fun c175 => (show False from absurd c175 (by omega)).elim) (fun c175 => ?_)
            refine lv_aload_n hx hb dL_isBest_178 rfl (lv_at hl 0 rfl) ?_
            refine lv_iload hx hb dL_isBest_179 (lv_at hl 8 rfl) ?_
            refine lv_bipush (v := 7) hx hb dL_isBest_181 (by decide) ?_
            refine z_ci (va_runV (As := [.int (nI (5 * j)), .int 7]) (rest := []) ⟨hx, hb, hml, hown, hts⟩ (c_X4_squareOf_ok l D cI cZ cL (x0 := x0) (e1 := e1) (e2 := e2) (fl := fl) (fk := fk) (a0 := a0) (a1 := a1) (a2 := a2) (a3 := a3) (a4 := a4) (fh := fh) (fo := fo) (fc := fc) (fs := fs) (hz := w) (mv := mv) (tu := tu) (rf := rf) (b0 := b0) (b1 := b1) (fx := fx) (ln := 0) (d0 := d0) (d1 := d1) (fn := (va_cpy (cG fh fo fc fs (pHi hz w) mv tu rf) fnx 0 ((odx + szx) % 6 * 114) 114)) (od := (pRo odx szx)) (sz6 := (pRz szx)) (q := (5 * j)) (wh := 7) (hq := by omega) (hwh := by omega) (hhz := by omega)) (cwV 2 hts gL_isBest_X4_squareOf rfl rfl rfl (by decide +kernel) ⟨Nat.le_of_ble_eq_true rfl, Nat.le_of_ble_eq_true rfl⟩) (z_preVn hN hK (hP.sub [0, 1, 2, 3, 4, 5, 6, 7, 8, 9, 10, 11] rfl) 0 3 rfl rfl) rfl rfl hl.1 rfl (lv_room (Nat.le_of_ble_eq_true rfl)) dL_isBest_183 ⟨Nat.le_of_ble_eq_true rfl, Nat.le_of_ble_eq_true rfl⟩) ?_
            refine z_top (y := (pMk fh (5 * j))) (rfl) ?_
            refine lv_iload hx hb dL_isBest_186 (lv_at hl 6 rfl) ?_
            refine lv_ishr hx hb dL_isBest_188 ?_
            refine lv_iconst (v := 1) hx hb dL_isBest_189 (by decide) ?_
            refine z_iand (v := (((pMk fh (5 * j)) >>> ((nI w) &&& 31)) &&& 1)) hx hb dL_isBest_190 (rfl) ?_
            refine lv_aload_n hx hb dL_isBest_191 rfl (lv_at hl 0 rfl) ?_
            refine lv_iload hx hb dL_isBest_192 (lv_at hl 8 rfl) ?_
            refine lv_iconst (v := 3) hx hb dL_isBest_194 (by decide) ?_
            refine z_ci (va_runV (As := [.int (nI (5 * j)), .int 3]) (rest := [.int (((pMk fh (5 * j)) >>> ((nI w) &&& 31)) &&& 1)]) ⟨hx, hb, hml, hown, hts⟩ (c_X4_squareOf_ok l D cI cZ cL (x0 := x0) (e1 := e1) (e2 := e2) (fl := fl) (fk := fk) (a0 := a0) (a1 := a1) (a2 := a2) (a3 := a3) (a4 := a4) (fh := fh) (fo := fo) (fc := fc) (fs := fs) (hz := w) (mv := mv) (tu := tu) (rf := rf) (b0 := b0) (b1 := b1) (fx := fx) (ln := 0) (d0 := d0) (d1 := d1) (fn := (va_cpy (cG fh fo fc fs (pHi hz w) mv tu rf) fnx 0 ((odx + szx) % 6 * 114) 114)) (od := (pRo odx szx)) (sz6 := (pRz szx)) (q := (5 * j)) (wh := 3) (hq := by omega) (hwh := by omega) (hhz := by omega)) (cwV 2 hts gL_isBest_X4_squareOf rfl rfl rfl (by decide +kernel) ⟨Nat.le_of_ble_eq_true rfl, Nat.le_of_ble_eq_true rfl⟩) (z_preVn hN hK (hP.sub [0, 1, 2, 3, 4, 5, 6, 7, 8, 9, 10, 11] rfl) 0 3 rfl rfl) rfl rfl hl.1 rfl (lv_room (Nat.le_of_ble_eq_true rfl)) dL_isBest_195 ⟨Nat.le_of_ble_eq_true rfl, Nat.le_of_ble_eq_true rfl⟩) ?_
            refine z_top (y := zb (pDk fh (5 * j) w)) (rfl) ?_
            refine z_icmp_eq (tgt := 203) (P := True) hx hb dL_isBest_198 (by decide) (iff_of_true (mk_bit fh (5 * j) hw12) trivial) (fun c198 => ?_) (fun c198 => (show False from c198 trivial).elim)
            refine lv_iinc (v := nI (5 * (j + 1))) (lv' := [(10, .int (nI (5 * (j + 1)))), (0, .ref x0), (1, .int (be (cWo fo fh fc hz mv) 36)), (2, .int xb), (4, .int (nI (if dk < pDn fh w then pDn fh w else dk))), (5, .int (nI (if dk < pDn fh w then w else hr1))), (6, .int (nI hz)), (7, .int (nI w)), (8, .int (nI (pHi hz w)))]) hx hb dL_isBest_203 hl (k := 8) rfl ((nI_add (5 * j) 5).trans (congrArg nI (by omega))) (by decide) rfl (fun ls hl => ?_)
            refine lv_goto (tgt := 166) hx hb dL_isBest_206 (by decide) ?_
            exact ih166 (by omega) _ (lv_sub hl [1, 2, 3, 4, 5, 6, 7, 8, 0] rfl)
        · skip
          refine lv_iload hx hb dL_isBest_147 (lv_at hl 1 rfl) ?_
          refine lv_iload hx hb dL_isBest_149 (lv_at hl 6 rfl) ?_
          refine z_icmp_le (tgt := 159) (P := (pDn fh w) ≤ dk) hx hb dL_isBest_151 (by decide) (nI_leI (a := (pDn fh w)) (b := dk) (by omega) (by omega)) (fun c151 => ?_) (fun c151 => ?_)
          · skip
            refine lv_iload hx hb dL_isBest_159 (lv_at hl 6 rfl) ?_
            exact z_top (by first | (rw [if_neg (show ¬ dk < pDn fh w by omega)]; done) | (rw [if_pos (show dk < pDn fh w by omega)]; done)) J147
          · skip
            refine lv_iload hx hb dL_isBest_154 (lv_at hl 1 rfl) ?_
            refine lv_goto (tgt := 161) hx hb dL_isBest_156 (by decide) ?_
            exact z_top (by first | (rw [if_neg (show ¬ dk < pDn fh w by omega)]; done) | (rw [if_pos (show dk < pDn fh w by omega)]; done)) J147
      · skip
        refine lv_iload hx hb dL_isBest_131 (lv_at hl 0 rfl) ?_
        refine lv_iload hx hb dL_isBest_133 (lv_at hl 5 rfl) ?_
        refine z_icmp_le (tgt := 143) (P := (pDn fh w) ≤ dk) hx hb dL_isBest_135 (by decide) (nI_leI (a := (pDn fh w)) (b := dk) (by omega) (by omega)) (fun c135 => ?_) (fun c135 => ?_)
        · skip
          refine lv_iload hx hb dL_isBest_143 (lv_at hl 6 rfl) ?_
          exact z_top (by first | (rw [if_neg (show ¬ dk < pDn fh w by omega)]; done) | (rw [if_pos (show dk < pDn fh w by omega)]; done)) J131
        · skip
          refine lv_iload hx hb dL_isBest_138 (lv_at hl 8 rfl) ?_
          refine lv_goto (tgt := 145) hx hb dL_isBest_140 (by decide) ?_
          exact z_top (by first | (rw [if_neg (show ¬ dk < pDn fh w by omega)]; done) | (rw [if_pos (show dk < pDn fh w by omega)]; done)) J131
  · skip
    have hq : i < 36 := by omega
    have hr3 := pRe_le fo fh hz mv i
    refine lv_aload_n hx hb dL_isBest_21 rfl (lv_at hl 0 rfl) ?_
    refine lv_iload hx hb dL_isBest_22 (lv_at hl 4 rfl) ?_
    refine z_cmi (wr := []) (ws' := [(x0, .inr (3, [.ref a0, .ref b0, .ref d0, .ref e1, .ref e2])), (a0, .inr (0, [.ref a1, .ref a2, .ref a3, .ref a4, .int (nI hz), .int (nI mv), .int tu, .int rf])), (a1, .inl (cI, 36, .inl fh)), (a2, .inl (cI, 36, .inl fo)), (a3, .inl (cI, 36, .inl fc)), (a4, .inl (cI, 2, .inl fs)), (b0, .inr (1, [.ref b1, .int (nI 0)])), (b1, .inl (cI, 60, .inl fx)), (d0, .inr (2, [.ref d1, .int (nI od), .int (nI sz6)])), (d1, .inl (cI, 684, .inl fn)), (e1, .inl (cI, 228, .inl fl)), (e2, .inl (cZ, 2, .inl fk))]) (va_runV (As := [.int (nI i)]) (rest := []) ⟨hx, hb, hml, hown, hts⟩ (c_X4_ifRaised_ok l D cI cZ cL _ (x0 := x0) (e1 := e1) (e2 := e2) (fl := fl) (fk := fk) (a0 := a0) (a1 := a1) (a2 := a2) (a3 := a3) (a4 := a4) (fh := fh) (fo := fo) (fc := fc) (fs := fs) (hz := hz) (mv := mv) (tu := tu) (rf := rf) (b0 := b0) (b1 := b1) (fx := fx) (ln := 0) (d0 := d0) (d1 := d1) (fn := fn) (od := od) (sz6 := sz6) (q := i) (hq := by omega) (hhz := by omega) (hmv := by omega)) (cwV 1 hts gL_isBest_X4_ifRaised rfl rfl rfl (by decide +kernel) ⟨Nat.le_of_ble_eq_true rfl, Nat.le_of_ble_eq_true rfl⟩) (z_preMVn hN hK (hP.sub [0, 1, 2, 3, 4, 5, 6, 7, 8, 9, 10, 11] rfl) (hD.sub [0, 1, 2, 3, 4, 5, 6, 7, 8, 9, 10, 11] (by decide) rfl) 0 3 rfl rfl) rfl rfl hl.1 rfl (lv_room (Nat.le_of_ble_eq_true rfl)) dL_isBest_24 ⟨Nat.le_of_ble_eq_true rfl, Nat.le_of_ble_eq_true rfl⟩) hP hD hS hA [0, 1, 2, 3, 4, 5, 6, 7, 8, 9, 10, 11] [] [0, 1, 2, 3, 4, 5, 6, 7, 8, 9, 10, 11] rfl rfl (by decide) (by decide) rfl rfl (by decide) (fun H locs hP hD hS => ?_)
    refine lv_istore (lv' := [(5, .int (cWo fo fh fc hz mv i)), (0, .ref x0), (1, .int (be (cWo fo fh fc hz mv) 36)), (2, .int xb), (3, .int xq), (4, .int (nI i))]) hx hb dL_isBest_27 hl (by decide) rfl (fun ls hl => ?_)
    refine z_join (pc2 := 42) (st2 := [.int (zb (!decide (pRe fo fh hz mv i = 0)))]) ?_ (fun J29 => ?_)
    · skip
      refine z_join (pc2 := 56) (st2 := [.int (zb (!decide (pRe fo fh hz mv i = 0))), .int (zb (!decide (pRe fo fh hz mv i = 0)))]) ?_ (fun J42 => ?_)
      · skip
        refine z_icmp_eq (tgt := 61) (P := True) hx hb dL_isBest_56 (by decide) (iff_of_true (rfl) trivial) (fun c56 => ?_) (fun c56 => (show False from c56 trivial).elim)
        refine z_join (pc2 := 73) (st2 := [.int (if (cWo fo fh fc hz mv) i ≤ xq then xb else nI i)]) ?_ (fun J61 => ?_)
        · skip
          refine lv_istore_n (lv' := [(2, .int (if (cWo fo fh fc hz mv) i ≤ xq then xb else nI i)), (5, .int (cWo fo fh fc hz mv i)), (0, .ref x0), (1, .int (be (cWo fo fh fc hz mv) 36)), (3, .int xq), (4, .int (nI i))]) hx hb dL_isBest_73 rfl hl (by decide) rfl (fun ls hl => ?_)
          refine z_join (pc2 := 86) (st2 := [.int (if (cWo fo fh fc hz mv) i ≤ xq then xq else (cWo fo fh fc hz mv) i)]) ?_ (fun J74 => ?_)
          · skip
            refine lv_istore_n (lv' := [(3, .int (if (cWo fo fh fc hz mv) i ≤ xq then xq else (cWo fo fh fc hz mv) i)), (2, .int (if (cWo fo fh fc hz mv) i ≤ xq then xb else nI i)), (5, .int (cWo fo fh fc hz mv i)), (0, .ref x0), (1, .int (be (cWo fo fh fc hz mv) 36)), (4, .int (nI i))]) hx hb dL_isBest_86 rfl hl (by decide) rfl (fun ls hl => ?_)
            refine lv_iinc (v := nI (i + 1)) (lv' := [(4, .int (nI (i + 1))), (3, .int (if (cWo fo fh fc hz mv) i ≤ xq then xq else (cWo fo fh fc hz mv) i)), (2, .int (if (cWo fo fh fc hz mv) i ≤ xq then xb else nI i)), (5, .int (cWo fo fh fc hz mv i)), (0, .ref x0), (1, .int (be (cWo fo fh fc hz mv) 36))]) hx hb dL_isBest_87 hl (k := 5) rfl (nI_1 (i)) (by decide) rfl (fun ls hl => ?_)
            refine lv_goto (tgt := 14) hx hb dL_isBest_90 (by decide) ?_
            exact ih14 (by omega) _ _ _ (⟨_, by rw [exb, exq]; rfl, _, by rw [exq]; rfl, hP, hD, hS, lv_sub hl [4, 5, 2, 1, 0] rfl⟩)
          · skip
            refine lv_iload hx hb dL_isBest_74 (lv_at hl 1 rfl) ?_
            refine lv_iload_n hx hb dL_isBest_76 rfl (lv_at hl 4 rfl) ?_
            refine z_icmp_le (tgt := 85) (P := (cWo fo fh fc hz mv i) ≤ xq) hx hb dL_isBest_77 (by decide) (Iff.rfl) (fun c77 => ?_) (fun c77 => ?_)
            · skip
              refine lv_iload_n hx hb dL_isBest_85 rfl (lv_at hl 4 rfl) ?_
              exact z_top (by first | (rw [if_pos c77]; done) | (rw [if_neg c77]; done)) J74
            · skip
              refine lv_iload hx hb dL_isBest_80 (lv_at hl 1 rfl) ?_
              refine lv_goto (tgt := 86) hx hb dL_isBest_82 (by decide) ?_
              exact z_top (by first | (rw [if_pos c77]; done) | (rw [if_neg c77]; done)) J74
        · skip
          refine lv_iload hx hb dL_isBest_61 (lv_at hl 0 rfl) ?_
          refine lv_iload_n hx hb dL_isBest_63 rfl (lv_at hl 4 rfl) ?_
          refine z_icmp_le (tgt := 72) (P := (cWo fo fh fc hz mv i) ≤ xq) hx hb dL_isBest_64 (by decide) (Iff.rfl) (fun c64 => ?_) (fun c64 => ?_)
          · skip
            refine lv_iload_n hx hb dL_isBest_72 rfl (lv_at hl 3 rfl) ?_
            exact z_top (by first | (rw [if_pos c64]; done) | (rw [if_neg c64]; done)) J61
          · skip
            refine lv_iload hx hb dL_isBest_67 (lv_at hl 5 rfl) ?_
            refine lv_goto (tgt := 73) hx hb dL_isBest_69 (by decide) ?_
            exact z_top (by first | (rw [if_pos c64]; done) | (rw [if_neg c64]; done)) J61
      · skip
        refine lv_aload_n hx hb dL_isBest_42 rfl (lv_at hl 1 rfl) ?_
        refine lv_iload hx hb dL_isBest_43 (lv_at hl 5 rfl) ?_
        refine z_ci (va_runV (As := [.int (nI i)]) (rest := [.int (zb (!decide (pRe fo fh hz mv i = 0)))]) ⟨hx, hb, hml, hown, hts⟩ (c_X4_whyNot_ok l D cI cZ cL (x0 := x0) (e1 := e1) (e2 := e2) (fl := fl) (fk := fk) (a0 := a0) (a1 := a1) (a2 := a2) (a3 := a3) (a4 := a4) (fh := fh) (fo := fo) (fc := fc) (fs := fs) (hz := hz) (mv := mv) (tu := tu) (rf := rf) (b0 := b0) (b1 := b1) (fx := fx) (ln := 0) (d0 := d0) (d1 := d1) (fn := fn) (od := od) (sz6 := sz6) (q := i) (hq := by omega) (hhz := by omega) (hmv := by omega)) (cwV 1 hts gL_isBest_X4_whyNot rfl rfl rfl (by decide +kernel) ⟨Nat.le_of_ble_eq_true rfl, Nat.le_of_ble_eq_true rfl⟩) (z_preVn hN hK (hP.sub [0, 1, 2, 3, 4, 5, 6, 7, 8, 9, 10, 11] rfl) 0 3 rfl rfl) rfl rfl hl.1 rfl (lv_room (Nat.le_of_ble_eq_true rfl)) dL_isBest_45 ⟨Nat.le_of_ble_eq_true rfl, Nat.le_of_ble_eq_true rfl⟩) ?_
        refine z_if_le (tgt := 55) (P := pRe fo fh hz mv i ≤ 0) hx hb dL_isBest_48 (by decide) (nI_leI (a := pRe fo fh hz mv i) (b := 0) (by omega) (by omega)) (fun c48 => ?_) (fun c48 => ?_)
        · skip
          refine lv_iconst (v := 0) hx hb dL_isBest_55 (by decide) ?_
          exact z_top (by first | (rw [decide_eq_true (show pRe fo fh hz mv i = 0 by omega)]; rfl) | (rw [decide_eq_false (show ¬ pRe fo fh hz mv i = 0 by omega)]; rfl)) J42
        · skip
          refine lv_iconst (v := 1) hx hb dL_isBest_51 (by decide) ?_
          refine lv_goto (tgt := 56) hx hb dL_isBest_52 (by decide) ?_
          exact z_top (by first | (rw [decide_eq_true (show pRe fo fh hz mv i = 0 by omega)]; rfl) | (rw [decide_eq_false (show ¬ pRe fo fh hz mv i = 0 by omega)]; rfl)) J42
    · skip
      refine lv_iload hx hb dL_isBest_29 (lv_at hl 0 rfl) ?_
      refine lv_sipush (v := (-999)) hx hb dL_isBest_31 (by decide) ?_
      refine z_icmp_ne (tgt := 41) (P := ¬ pRe fo fh hz mv i = 0) hx hb dL_isBest_34 (by decide) (wo_ne hC hz mv i) (fun c34 => ?_) (fun c34 => ?_)
      · skip
        replace c34 := Classical.not_not.mp c34
        refine lv_iconst (v := 0) hx hb dL_isBest_41 (by decide) ?_
        exact z_top (by first | (rw [decide_eq_true c34]; rfl) | (rw [decide_eq_false c34]; rfl)) J29
      · skip
        refine lv_iconst (v := 1) hx hb dL_isBest_37 (by decide) ?_
        refine lv_goto (tgt := 42) hx hb dL_isBest_38 (by decide) ?_
        exact z_top (by first | (rw [decide_eq_true c34]; rfl) | (rw [decide_eq_false c34]; rfl)) J29
