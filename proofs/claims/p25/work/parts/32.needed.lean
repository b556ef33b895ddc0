set_option maxHeartbeats 4000000 in
set_option maxRecDepth 100000 in
/-- the height that is needed, set up and torn down again -/
theorem c_L_isNeeded (l : Launch) (D : va_G) (cI cZ cL : ClassId) (sz : Nat) (x0 : Nat) (e1 : Nat) (e2 : Nat) (fl : Nat → Int32) (fk : Nat → Int32) (a0 : Nat) (a1 : Nat) (a2 : Nat) (a3 : Nat) (a4 : Nat) (fh : Nat → Int32) (fo : Nat → Int32) (fc : Nat → Int32) (fs : Nat → Int32) (hz : Nat) (mv : Nat) (tu : Int32) (rf : Int32) (b0 : Nat) (b1 : Nat) (fx : Nat → Int32) (d0 : Nat) (d1 : Nat) (fn : Nat → Int32) (od : Nat) (sz6 : Nat) (f : Nat) (q : Nat) (hJ : JJ fh fo fc hz mv od sz6) (hf : f < 36) (hq : q < 36) : Met l yL_isNeeded wsL_isNeeded ({ frames := 5, cells := 0, slots := 0, locals := 106 }) (va_Pc [.ref x0, .int (nI f), .int (nI q)] (zMn D cI cZ cL [(x0, .inr (3, [.ref a0, .ref b0, .ref d0, .ref e1, .ref e2])), (a0, .inr (0, [.ref a1, .ref a2, .ref a3, .ref a4, .int (nI hz), .int (nI mv), .int tu, .int rf])), (a1, .inl (cI, 36, .inl fh)), (a2, .inl (cI, 36, .inl fo)), (a3, .inl (cI, 36, .inl fc)), (a4, .inl (cI, 2, .inl fs)), (b0, .inr (1, [.ref b1, .int (nI 0)])), (b1, .inl (cI, 60, .inl fx)), (d0, .inr (2, [.ref d1, .int (nI od), .int (nI sz6)])), (d1, .inl (cI, 684, .inl fn)), (e1, .inl (cI, 228, .inl fl)), (e2, .inl (cZ, 2, .inl fk))] sz)) (zQe D [(x0, .inr (3, [.ref a0, .ref b0, .ref d0, .ref e1, .ref e2])), (a0, .inr (0, [.ref a1, .ref a2, .ref a3, .ref a4, .int (nI hz), .int (nI mv), .int tu, .int rf])), (a1, .inl (cI, 36, .inl fh)), (a2, .inl (cI, 36, .inl fo)), (a3, .inl (cI, 36, .inl fc)), (a4, .inl (cI, 2, .inl fs)), (b0, .inr (1, [.ref b1, .int (nI 0)])), (b1, .inl (cI, 60, .inl fx)), (d0, .inr (2, [.ref d1, .int (nI od), .int (nI sz6)])), (d1, .inl (cI, 684, .inl fn)), (e1, .inl (cI, 228, .inl fl)), (e2, .inl (cZ, 2, .inl fk))] (EE cI cZ x0 a0 a1 a2 a3 a4 b0 b1 d0 d1 e1 e2) sz) 0 0 (va_A [(x0, .inr (3, [.ref a0, .ref b0, .ref d0, .ref e1, .ref e2])), (a0, .inr (0, [.ref a1, .ref a2, .ref a3, .ref a4, .int (nI hz), .int (nI mv), .int tu, .int rf])), (a1, .inl (cI, 36, .inl fh)), (a2, .inl (cI, 36, .inl fo)), (a3, .inl (cI, 36, .inl fc)), (a4, .inl (cI, 2, .inl fs)), (b0, .inr (1, [.ref b1, .int (nI 0)])), (b1, .inl (cI, 60, .inl fx)), (d0, .inr (2, [.ref d1, .int (nI od), .int (nI sz6)])), (d1, .inl (cI, 684, .inl fn)), (e1, .inl (cI, 228, .inl fl)), (e2, .inl (cZ, 2, .inl fk))] sz) := by
  refine Met.ofW (cc := cL_isNeeded) (maxL := 14) (ret := (some .boolean)) (by decide) rfl ?_
  intro p e s m args below meth c s₁ B hml hv
  obtain ⟨rfl, hsz, ⟨⟨hP, hK⟩, hN⟩, hD0⟩ := hv
  have hx := B.exec
  have hb := B.bytes
  have hr := B.returns
  have hts := atoms_spec (ws := wsL_isNeeded) B.pre
  have hown : s.vm.findClass RL = some m.cls := findClass_of_methodNamed B.named
  have hlocks := B.notSynchronized
  subst hsz
  have hD := hD0.self (sz := s.heap.size)
  generalize hAe : va_A [(x0, .inr (3, [.ref a0, .ref b0, .ref d0, .ref e1, .ref e2])), (a0, .inr (0, [.ref a1, .ref a2, .ref a3, .ref a4, .int (nI hz), .int (nI mv), .int tu, .int rf])), (a1, .inl (cI, 36, .inl fh)), (a2, .inl (cI, 36, .inl fo)), (a3, .inl (cI, 36, .inl fc)), (a4, .inl (cI, 2, .inl fs)), (b0, .inr (1, [.ref b1, .int (nI 0)])), (b1, .inl (cI, 60, .inl fx)), (d0, .inr (2, [.ref d1, .int (nI od), .int (nI sz6)])), (d1, .inl (cI, 684, .inl fn)), (e1, .inl (cI, 228, .inl fl)), (e2, .inl (cZ, 2, .inl fk))] s.heap.size = A at hD ⊢
  have hA : ∀ q : Nat, s.heap.size ≤ q → A q := fun q h => by rw [← hAe]; exact Or.inr h
  have hS : va_S A s.heap s.heap [] := va_S.rf
  have hl := lv_entry ([.ref x0, .int (nI f), .int (nI q)]) (n := 14) (Nat.le_of_ble_eq_true rfl)
  rw [lg_entry_eq]
  generalize (lg_sl ([.ref x0, .int (nI f), .int (nI q)]) ++ List.replicate (14 - (lg_sl ([.ref x0, .int (nI f), .int (nI q)])).length) Slot.unset).toArray = ls at hl ⊢
  have hl : lv_has ls 14 [(0, .ref x0), (1, .int (nI f)), (2, .int (nI q))] := hl
  obtain ⟨hI, hC, hhz, hmv, hod, hs6⟩ := id hJ
  obtain ⟨hn, hn9, ehn⟩ := II_n hI hq
  obtain ⟨tn, tn9, etn⟩ := II_n hI hf
  have hDi := pDi_le (sd := hz / 3) (q := q) (f := f) (by omega) hq
  have hSt := pSt_le hz
  have hS1 := pSt_1 hz
  have hmm : pDi (hz / 3) q f * pSt hz ≤ 15 := Nat.le_trans (Nat.mul_le_mul hDi hSt) (by omega)
  have hPn := pSn_le (fh := upd fh f 0) hq hhz
  have hO0 := pOw_le (upd fo f 0) 0
  have hO1 := pOw_le (upd fo f 0) 1
  have hOp := ow_1 (fo := fo) hf
  have hod1 := pRo_lt (n := sz6) hod
  have hs61 := pRz_lt hs6
  have hod2 := pRo_lt (n := pRz sz6) hod1
  have hs62 := pRz_lt hs61
  have hod3 := pRo_lt (n := pRz (pRz sz6)) hod2
  have hs63 := pRz_lt hs62
  have hod4 := pRo_lt (n := pRz (pRz (pRz sz6))) hod3
  have hs64 := pRz_lt hs63
  refine lv_aload_n hx hb dL_isNeeded_0 rfl (lv_at hl 0 rfl) ?_
  refine lv_iload_n hx hb dL_isNeeded_1 rfl (lv_at hl 1 rfl) ?_
  refine lv_iload_n hx hb dL_isNeeded_2 rfl (lv_at hl 2 rfl) ?_
  refine z_ci (va_runV (As := [.int (nI f), .int (nI q)]) (rest := []) ⟨hx, hb, hml, hown, hts⟩ (c_X4_needed_ok l D cI cZ cL (x0 := x0) (e1 := e1) (e2 := e2) (fl := fl) (fk := fk) (a0 := a0) (a1 := a1) (a2 := a2) (a3 := a3) (a4 := a4) (fh := fh) (fo := fo) (fc := fc) (fs := fs) (hz := hz) (mv := mv) (tu := tu) (rf := rf) (b0 := b0) (b1 := b1) (fx := fx) (ln := 0) (d0 := d0) (d1 := d1) (fn := fn) (od := od) (sz6 := sz6) (f := f) (q := q) (hf := by omega) (hq := by omega) (hhz := by omega)) (cwV 2 hts gL_isNeeded_X4_needed rfl rfl rfl (by decide +kernel) ⟨Nat.le_of_ble_eq_true rfl, Nat.le_of_ble_eq_true rfl⟩) (z_preVn hN hK (hP.sub [0, 1, 2, 3, 4, 5, 6, 7, 8, 9, 10, 11] rfl) 0 3 rfl rfl) rfl rfl hl.1 rfl (lv_room (Nat.le_of_ble_eq_true rfl)) dL_isNeeded_3 ⟨Nat.le_of_ble_eq_true rfl, Nat.le_of_ble_eq_true rfl⟩) ?_
  by_cases hY : 0 < pDi (hz / 3) q f ∧ hn + pDi (hz / 3) q f * pSt hz + 1 ≤ 9
  · skip
    obtain ⟨hd, hdue⟩ := hY
    obtain ⟨dd, edd⟩ : ∃ dd, hn + pDi (hz / 3) q f * pSt hz = dd := ⟨_, rfl⟩
    have hmp : 1 ≤ pDi (hz / 3) q f * pSt hz := Nat.mul_le_mul hd hS1
    have hd8 : dd + 1 ≤ 9 := by omega
    have hd1 : 1 ≤ dd := by omega
    refine z_top (y := nI (dd + 1)) ((le_yes hd (by omega) ehn).trans (by rw [edd])) ?_
    refine lv_istore_n (lv' := [(3, .int (nI (dd + 1))), (0, .ref x0), (1, .int (nI f)), (2, .int (nI q))]) hx hb dL_isNeeded_6 rfl hl (by decide) rfl (fun ls hl => ?_)
    refine lv_aload_n hx hb dL_isNeeded_7 rfl (lv_at hl 1 rfl) ?_
    refine lv_iconst (v := 1) hx hb dL_isNeeded_8 (by decide) ?_
    refine z_ci (va_runV (As := [.int 1]) (rest := []) ⟨hx, hb, hml, hown, hts⟩ (c_X4_count_ok l D cI cZ cL (x0 := x0) (e1 := e1) (e2 := e2) (fl := fl) (fk := fk) (a0 := a0) (a1 := a1) (a2 := a2) (a3 := a3) (a4 := a4) (fh := fh) (fo := fo) (fc := fc) (fs := fs) (hz := hz) (mv := mv) (tu := tu) (rf := rf) (b0 := b0) (b1 := b1) (fx := fx) (ln := 0) (d0 := d0) (d1 := d1) (fn := fn) (od := od) (sz6 := sz6) (wh := 1) (hwh := by omega) (hhz := by omega)) (cwV 1 hts gL_isNeeded_X4_count rfl rfl rfl (by decide +kernel) ⟨Nat.le_of_ble_eq_true rfl, Nat.le_of_ble_eq_true rfl⟩) (z_preVn hN hK (hP.sub [0, 1, 2, 3, 4, 5, 6, 7, 8, 9, 10, 11] rfl) 0 3 rfl rfl) rfl rfl hl.1 rfl (lv_room (Nat.le_of_ble_eq_true rfl)) dL_isNeeded_9 ⟨Nat.le_of_ble_eq_true rfl, Nat.le_of_ble_eq_true rfl⟩) ?_
    refine z_top (y := nI (hz / 3)) (rfl) ?_
    refine lv_istore (lv' := [(4, .int (nI (hz / 3))), (3, .int (nI (dd + 1))), (0, .ref x0), (1, .int (nI f)), (2, .int (nI q))]) hx hb dL_isNeeded_12 hl (by decide) rfl (fun ls hl => ?_)
    refine lv_iload_n hx hb dL_isNeeded_14 rfl (lv_at hl 3 rfl) ?_
    refine lv_bipush (v := 6) hx hb dL_isNeeded_15 (by decide) ?_
    refine z_idiv (v := nI (f / 6)) hx hb dL_isNeeded_17 (by decide) (pk_div (a := f) (d := 6) (by omega) (by omega) (by omega)) ?_
    refine lv_iload_n hx hb dL_isNeeded_18 rfl (lv_at hl 4 rfl) ?_
    refine lv_bipush (v := 6) hx hb dL_isNeeded_19 (by decide) ?_
    refine z_idiv (v := nI (q / 6)) hx hb dL_isNeeded_21 (by decide) (pk_div (a := q) (d := 6) (by omega) (by omega) (by omega)) ?_
    refine z_isub (v := ((nI (f / 6)) - (nI (q / 6)))) hx hb dL_isNeeded_22 (rfl) ?_
    refine lv_istore (lv' := [(5, .int ((nI (f / 6)) - (nI (q / 6)))), (4, .int (nI (hz / 3))), (3, .int (nI (dd + 1))), (0, .ref x0), (1, .int (nI f)), (2, .int (nI q))]) hx hb dL_isNeeded_23 hl (by decide) rfl (fun ls hl => ?_)
    refine lv_iload_n hx hb dL_isNeeded_25 rfl (lv_at hl 4 rfl) ?_
    refine lv_bipush (v := 6) hx hb dL_isNeeded_26 (by decide) ?_
    refine z_irem (v := nI (f % 6)) hx hb dL_isNeeded_28 (by decide) (pk_rem (a := f) (d := 6) (by omega) (by omega) (by omega)) ?_
    refine lv_iload_n hx hb dL_isNeeded_29 rfl (lv_at hl 5 rfl) ?_
    refine lv_bipush (v := 6) hx hb dL_isNeeded_30 (by decide) ?_
    refine z_irem (v := nI (q % 6)) hx hb dL_isNeeded_32 (by decide) (pk_rem (a := q) (d := 6) (by omega) (by omega) (by omega)) ?_
    refine z_isub (v := ((nI (f % 6)) - (nI (q % 6)))) hx hb dL_isNeeded_33 (rfl) ?_
    refine lv_istore (lv' := [(6, .int ((nI (f % 6)) - (nI (q % 6)))), (5, .int ((nI (f / 6)) - (nI (q / 6)))), (4, .int (nI (hz / 3))), (3, .int (nI (dd + 1))), (0, .ref x0), (1, .int (nI f)), (2, .int (nI q))]) hx hb dL_isNeeded_34 hl (by decide) rfl (fun ls hl => ?_)
    refine z_join (pc2 := 102) (st2 := [.int (pBy (hz / 3) (nI (f / 6) - nI (q / 6)) (nI (f % 6) - nI (q % 6)))]) ?_ (fun J36 => ?_)
    · skip
      refine lv_istore (lv' := [(7, .int (pBy (hz / 3) (nI (f / 6) - nI (q / 6)) (nI (f % 6) - nI (q % 6)))), (6, .int ((nI (f % 6)) - (nI (q % 6)))), (5, .int ((nI (f / 6)) - (nI (q / 6)))), (4, .int (nI (hz / 3))), (3, .int (nI (dd + 1))), (0, .ref x0), (1, .int (nI f)), (2, .int (nI q))]) hx hb dL_isNeeded_102 hl (by decide) rfl (fun ls hl => ?_)
      refine lv_iload hx hb dL_isNeeded_104 (lv_at hl 0 rfl) ?_
      refine z_if_gt (tgt := 114) (P := 0 < pDi (hz / 3) q f) hx hb dL_isNeeded_106 (by decide) (by_0 (hz / 3) (by omega) q hq f hf) (fun c106 => ?_) (fun c106 => (show False from c106 hd).elim)
      refine lv_aload_n hx hb dL_isNeeded_114 rfl (lv_at hl 5 rfl) ?_
      refine lv_iload_n hx hb dL_isNeeded_115 rfl (lv_at hl 7 rfl) ?_
      refine lv_iconst (v := 0) hx hb dL_isNeeded_116 (by decide) ?_
      refine z_ci (va_runV (As := [.int (nI q), .int 0]) (rest := []) ⟨hx, hb, hml, hown, hts⟩ (c_X4_squareOf_ok l D cI cZ cL (x0 := x0) (e1 := e1) (e2 := e2) (fl := fl) (fk := fk) (a0 := a0) (a1 := a1) (a2 := a2) (a3 := a3) (a4 := a4) (fh := fh) (fo := fo) (fc := fc) (fs := fs) (hz := hz) (mv := mv) (tu := tu) (rf := rf) (b0 := b0) (b1 := b1) (fx := fx) (ln := 0) (d0 := d0) (d1 := d1) (fn := fn) (od := od) (sz6 := sz6) (q := q) (wh := 0) (hq := by omega) (hwh := by omega) (hhz := by omega)) (cwV 2 hts gL_isNeeded_X4_squareOf rfl rfl rfl (by decide +kernel) ⟨Nat.le_of_ble_eq_true rfl, Nat.le_of_ble_eq_true rfl⟩) (z_preVn hN hK (hP.sub [0, 1, 2, 3, 4, 5, 6, 7, 8, 9, 10, 11] rfl) 0 3 rfl rfl) rfl rfl hl.1 rfl (lv_room (Nat.le_of_ble_eq_true rfl)) dL_isNeeded_117 ⟨Nat.le_of_ble_eq_true rfl, Nat.le_of_ble_eq_true rfl⟩) ?_
      refine z_top (y := nI hn) (ehn) ?_
      refine lv_iload hx hb dL_isNeeded_120 (lv_at hl 0 rfl) ?_
      refine z_top (y := nI (pDi (hz / 3) q f)) (by_1 (hz / 3) (by omega) q hq f hf c106) ?_
      refine lv_aload_n hx hb dL_isNeeded_122 rfl (lv_at hl 5 rfl) ?_
      refine lv_iconst (v := 2) hx hb dL_isNeeded_123 (by decide) ?_
      refine z_ci (va_runV (As := [.int 2]) (rest := [.int (nI (pDi (hz / 3) q f)), .int (nI hn)]) ⟨hx, hb, hml, hown, hts⟩ (c_X4_count_ok l D cI cZ cL (x0 := x0) (e1 := e1) (e2 := e2) (fl := fl) (fk := fk) (a0 := a0) (a1 := a1) (a2 := a2) (a3 := a3) (a4 := a4) (fh := fh) (fo := fo) (fc := fc) (fs := fs) (hz := hz) (mv := mv) (tu := tu) (rf := rf) (b0 := b0) (b1 := b1) (fx := fx) (ln := 0) (d0 := d0) (d1 := d1) (fn := fn) (od := od) (sz6 := sz6) (wh := 2) (hwh := by omega) (hhz := by omega)) (cwV 1 hts gL_isNeeded_X4_count rfl rfl rfl (by decide +kernel) ⟨Nat.le_of_ble_eq_true rfl, Nat.le_of_ble_eq_true rfl⟩) (z_preVn hN hK (hP.sub [0, 1, 2, 3, 4, 5, 6, 7, 8, 9, 10, 11] rfl) 0 3 rfl rfl) rfl rfl hl.1 rfl (lv_room (Nat.le_of_ble_eq_true rfl)) dL_isNeeded_124 ⟨Nat.le_of_ble_eq_true rfl, Nat.le_of_ble_eq_true rfl⟩) ?_
      refine z_top (y := nI (pSt hz)) (rfl) ?_
      refine z_imul (v := nI ((pDi (hz / 3) q f) * (pSt hz))) hx hb dL_isNeeded_127 (pk_mul ((pDi (hz / 3) q f)) ((pSt hz))) ?_
      refine z_iadd (v := nI dd) hx hb dL_isNeeded_128 ((nI_add _ _).trans (congrArg nI edd)) ?_
      refine lv_iconst (v := 1) hx hb dL_isNeeded_129 (by decide) ?_
      refine z_iadd (v := nI (dd + 1)) hx hb dL_isNeeded_130 (nI_add (dd) (1)) ?_
      refine lv_istore (lv' := [(8, .int (nI (dd + 1))), (7, .int (pBy (hz / 3) (nI (f / 6) - nI (q / 6)) (nI (f % 6) - nI (q % 6)))), (6, .int ((nI (f % 6)) - (nI (q % 6)))), (5, .int ((nI (f / 6)) - (nI (q / 6)))), (4, .int (nI (hz / 3))), (3, .int (nI (dd + 1))), (0, .ref x0), (1, .int (nI f)), (2, .int (nI q))]) hx hb dL_isNeeded_131 hl (by decide) rfl (fun ls hl => ?_)
      refine lv_iload hx hb dL_isNeeded_133 (lv_at hl 0 rfl) ?_
      refine lv_bipush (v := 9) hx hb dL_isNeeded_135 (by decide) ?_
      refine z_icmp_le (tgt := 151) (P := (dd + 1) ≤ 9) hx hb dL_isNeeded_137 (by decide) (nI_leI (a := (dd + 1)) (b := 9) (by omega) (by omega)) (fun c137 => ?_) (fun c137 => (show False from c137 (by omega)).elim)
      refine lv_iload_n hx hb dL_isNeeded_151 rfl (lv_at hl 5 rfl) ?_
      refine lv_iload hx hb dL_isNeeded_152 (lv_at hl 0 rfl) ?_
      refine z_icmp_eq (tgt := 159) (P := True) hx hb dL_isNeeded_154 (by decide) (iff_of_true (rfl) trivial) (fun c154 => ?_) (fun c154 => (show False from c154 trivial).elim)
      refine lv_iconst (v := 1) hx hb dL_isNeeded_159 (by decide) ?_
      refine lv_istore (lv' := [(9, .int 1), (8, .int (nI (dd + 1))), (7, .int (pBy (hz / 3) (nI (f / 6) - nI (q / 6)) (nI (f % 6) - nI (q % 6)))), (6, .int ((nI (f % 6)) - (nI (q % 6)))), (5, .int ((nI (f / 6)) - (nI (q / 6)))), (4, .int (nI (hz / 3))), (3, .int (nI (dd + 1))), (0, .ref x0), (1, .int (nI f)), (2, .int (nI q))]) hx hb dL_isNeeded_160 hl (by decide) rfl (fun ls hl => ?_)
      refine lv_aload_n hx hb dL_isNeeded_162 rfl (lv_at hl 7 rfl) ?_
      refine lv_iconst (v := 0) hx hb dL_isNeeded_163 (by decide) ?_
      refine z_cmi (wr := []) (ws' := [(x0, .inr (3, [.ref a0, .ref b0, .ref d0, .ref e1, .ref e2])), (a0, .inr (0, [.ref a1, .ref a2, .ref a3, .ref a4, .int (nI hz), .int (nI mv), .int tu, .int rf])), (a1, .inl (cI, 36, .inl fh)), (a2, .inl (cI, 36, .inl fo)), (a3, .inl (cI, 36, .inl fc)), (a4, .inl (cI, 2, .inl fs)), (b0, .inr (1, [.ref b1, .int (nI 0)])), (b1, .inl (cI, 60, .inl fx)), (d0, .inr (2, [.ref d1, .int (nI od), .int (nI sz6)])), (d1, .inl (cI, 684, .inl fn)), (e1, .inl (cI, 228, .inl (va_cpy (cG fh fo fc fs hz mv tu rf) fl 0 (0 * 114) 114))), (e2, .inl (cZ, 2, .inl (upd fk 0 1)))]) (va_runV (As := [.int 0]) (rest := []) ⟨hx, hb, hml, hown, hts⟩ (c_X4_keep_ok l D cI cZ cL _ (x0 := x0) (e1 := e1) (e2 := e2) (fl := fl) (fk := fk) (a0 := a0) (a1 := a1) (a2 := a2) (a3 := a3) (a4 := a4) (fh := fh) (fo := fo) (fc := fc) (fs := fs) (hz := hz) (mv := mv) (tu := tu) (rf := rf) (b0 := b0) (b1 := b1) (fx := fx) (ln := 0) (d0 := d0) (d1 := d1) (fn := fn) (od := od) (sz6 := sz6) (sl := 0) (hsl := by omega)) (cwV 1 hts gL_isNeeded_X4_keep rfl rfl rfl (by decide +kernel) ⟨Nat.le_of_ble_eq_true rfl, Nat.le_of_ble_eq_true rfl⟩) (z_preMVn hN hK (hP.sub [0, 1, 2, 3, 4, 5, 6, 7, 8, 9, 10, 11] rfl) (hD.sub [0, 1, 2, 3, 4, 5, 6, 7, 8, 9, 10, 11] (by decide) rfl) 0 3 rfl rfl) rfl rfl hl.1 rfl (lv_room (Nat.le_of_ble_eq_true rfl)) dL_isNeeded_164 ⟨Nat.le_of_ble_eq_true rfl, Nat.le_of_ble_eq_true rfl⟩) hP hD hS hA [0, 1, 2, 3, 4, 5, 6, 7, 8, 9, 10, 11] [] [0, 1, 2, 3, 4, 5, 6, 7, 8, 9, 10, 11] rfl rfl (by decide) (by decide) rfl rfl (by decide) (fun H locs hP hD hS => ?_)
      refine lv_istore (lv' := [(10, .int (nI (pOw fo 0 + pOw fo 1))), (9, .int 1), (8, .int (nI (dd + 1))), (7, .int (pBy (hz / 3) (nI (f / 6) - nI (q / 6)) (nI (f % 6) - nI (q % 6)))), (6, .int ((nI (f % 6)) - (nI (q % 6)))), (5, .int ((nI (f / 6)) - (nI (q / 6)))), (4, .int (nI (hz / 3))), (3, .int (nI (dd + 1))), (0, .ref x0), (1, .int (nI f)), (2, .int (nI q))]) hx hb dL_isNeeded_167 hl (by decide) rfl (fun ls hl => ?_)
      refine lv_aload_n hx hb dL_isNeeded_169 rfl (lv_at hl 8 rfl) ?_
      refine lv_iload_n hx hb dL_isNeeded_170 rfl (lv_at hl 9 rfl) ?_
      refine z_cmi (wr := []) (ws' := [(x0, .inr (3, [.ref a0, .ref b0, .ref d0, .ref e1, .ref e2])), (a0, .inr (0, [.ref a1, .ref a2, .ref a3, .ref a4, .int (nI hz), .int (nI mv), .int tu, .int rf])), (a1, .inl (cI, 36, .inl (upd fh f 0))), (a2, .inl (cI, 36, .inl (upd fo f (-1)))), (a3, .inl (cI, 36, .inl fc)), (a4, .inl (cI, 2, .inl fs)), (b0, .inr (1, [.ref b1, .int (nI 0)])), (b1, .inl (cI, 60, .inl fx)), (d0, .inr (2, [.ref d1, .int (nI (pRo od sz6)), .int (nI (pRz sz6))])), (d1, .inl (cI, 684, .inl (va_cpy (cG fh fo fc fs hz mv tu rf) fn 0 ((od + sz6) % 6 * 114) 114))), (e1, .inl (cI, 228, .inl (va_cpy (cG fh fo fc fs hz mv tu rf) fl 0 (0 * 114) 114))), (e2, .inl (cZ, 2, .inl (upd fk 0 1)))]) (va_runV (As := [.int (nI f)]) (rest := []) ⟨hx, hb, hml, hown, hts⟩ (c_X4_tear_ok l D cI cZ cL _ (x0 := x0) (e1 := e1) (e2 := e2) (fl := (va_cpy (cG fh fo fc fs hz mv tu rf) fl 0 (0 * 114) 114)) (fk := (upd fk 0 1)) (a0 := a0) (a1 := a1) (a2 := a2) (a3 := a3) (a4 := a4) (fh := fh) (fo := fo) (fc := fc) (fs := fs) (hz := hz) (mv := mv) (tu := tu) (rf := rf) (b0 := b0) (b1 := b1) (fx := fx) (ln := 0) (d0 := d0) (d1 := d1) (fn := fn) (od := od) (sz6 := sz6) (q := f) (hq := by omega) (hod := by omega) (hs6 := by omega)) (cwV 1 hts gL_isNeeded_X4_tear rfl rfl rfl (by decide +kernel) ⟨Nat.le_of_ble_eq_true rfl, Nat.le_of_ble_eq_true rfl⟩) (z_preMVn hN hK (hP.sub [0, 1, 2, 3, 4, 5, 6, 7, 8, 9, 10, 11] rfl) (hD.sub [0, 1, 2, 3, 4, 5, 6, 7, 8, 9, 10, 11] (by decide) rfl) 0 3 rfl rfl) rfl rfl hl.1 rfl (lv_room (Nat.le_of_ble_eq_true rfl)) dL_isNeeded_171 ⟨Nat.le_of_ble_eq_true rfl, Nat.le_of_ble_eq_true rfl⟩) hP hD hS hA [0, 1, 2, 3, 4, 5, 6, 7, 8, 9, 10, 11] [] [0, 1, 2, 3, 4, 5, 6, 7, 8, 9, 10, 11] rfl rfl (by decide) (by decide) rfl rfl (by decide) (fun H locs hP hD hS => ?_)
      refine z_top (y := nI tn) (etn) ?_
      refine lv_istore (lv' := [(11, .int (nI tn)), (10, .int (nI (pOw fo 0 + pOw fo 1))), (9, .int 1), (8, .int (nI (dd + 1))), (7, .int (pBy (hz / 3) (nI (f / 6) - nI (q / 6)) (nI (f % 6) - nI (q % 6)))), (6, .int ((nI (f % 6)) - (nI (q % 6)))), (5, .int ((nI (f / 6)) - (nI (q / 6)))), (4, .int (nI (hz / 3))), (3, .int (nI (dd + 1))), (0, .ref x0), (1, .int (nI f)), (2, .int (nI q))]) hx hb dL_isNeeded_174 hl (by decide) rfl (fun ls hl => ?_)
      refine lv_aload_n hx hb dL_isNeeded_176 rfl (lv_at hl 9 rfl) ?_
      refine lv_iload_n hx hb dL_isNeeded_177 rfl (lv_at hl 11 rfl) ?_
      refine lv_iconst (v := 5) hx hb dL_isNeeded_178 (by decide) ?_
      refine z_ci (va_runV (As := [.int (nI q), .int 5]) (rest := []) ⟨hx, hb, hml, hown, hts⟩ (c_X4_squareOf_ok l D cI cZ cL (x0 := x0) (e1 := e1) (e2 := e2) (fl := (va_cpy (cG fh fo fc fs hz mv tu rf) fl 0 (0 * 114) 114)) (fk := (upd fk 0 1)) (a0 := a0) (a1 := a1) (a2 := a2) (a3 := a3) (a4 := a4) (fh := (upd fh f 0)) (fo := (upd fo f (-1))) (fc := fc) (fs := fs) (hz := hz) (mv := mv) (tu := tu) (rf := rf) (b0 := b0) (b1 := b1) (fx := fx) (ln := 0) (d0 := d0) (d1 := d1) (fn := (va_cpy (cG fh fo fc fs hz mv tu rf) fn 0 ((od + sz6) % 6 * 114) 114)) (od := (pRo od sz6)) (sz6 := (pRz sz6)) (q := q) (wh := 5) (hq := by omega) (hwh := by omega) (hhz := by omega)) (cwV 2 hts gL_isNeeded_X4_squareOf rfl rfl rfl (by decide +kernel) ⟨Nat.le_of_ble_eq_true rfl, Nat.le_of_ble_eq_true rfl⟩) (z_preVn hN hK (hP.sub [0, 1, 2, 3, 4, 5, 6, 7, 8, 9, 10, 11] rfl) 0 3 rfl rfl) rfl rfl hl.1 rfl (lv_room (Nat.le_of_ble_eq_true rfl)) dL_isNeeded_179 ⟨Nat.le_of_ble_eq_true rfl, Nat.le_of_ble_eq_true rfl⟩) ?_
      refine z_top (y := nI (pSn (upd fh f 0) q hz)) (congrArg nI (pSn_T (II_tear hI f) hq hhz).symm) ?_
      refine lv_istore (lv' := [(12, .int (nI (pSn (upd fh f 0) q hz))), (11, .int (nI tn)), (10, .int (nI (pOw fo 0 + pOw fo 1))), (9, .int 1), (8, .int (nI (dd + 1))), (7, .int (pBy (hz / 3) (nI (f / 6) - nI (q / 6)) (nI (f % 6) - nI (q % 6)))), (6, .int ((nI (f % 6)) - (nI (q % 6)))), (5, .int ((nI (f / 6)) - (nI (q / 6)))), (4, .int (nI (hz / 3))), (3, .int (nI (dd + 1))), (0, .ref x0), (1, .int (nI f)), (2, .int (nI q))]) hx hb dL_isNeeded_182 hl (by decide) rfl (fun ls hl => ?_)
      refine lv_iload_n hx hb dL_isNeeded_184 rfl (lv_at hl 9 rfl) ?_
      refine lv_iconst (v := 1) hx hb dL_isNeeded_185 (by decide) ?_
      refine z_isub (v := nI dd) hx hb dL_isNeeded_186 (pk_sub (a := dd + 1) (b := 1) (by omega)) ?_
      refine lv_istore (lv' := [(13, .int (nI dd)), (12, .int (nI (pSn (upd fh f 0) q hz))), (11, .int (nI tn)), (10, .int (nI (pOw fo 0 + pOw fo 1))), (9, .int 1), (8, .int (nI (dd + 1))), (7, .int (pBy (hz / 3) (nI (f / 6) - nI (q / 6)) (nI (f % 6) - nI (q % 6)))), (6, .int ((nI (f % 6)) - (nI (q % 6)))), (5, .int ((nI (f / 6)) - (nI (q / 6)))), (4, .int (nI (hz / 3))), (3, .int (nI (dd + 1))), (0, .ref x0), (1, .int (nI f)), (2, .int (nI q))]) hx hb dL_isNeeded_187 hl (by decide) rfl (fun ls hl => ?_)
      refine lv_iload hx hb dL_isNeeded_189 (lv_at hl 0 rfl) ?_
      refine lv_iload_n hx hb dL_isNeeded_191 rfl (lv_at hl 10 rfl) ?_
      refine z_icmp_gt (tgt := 314) (P := (dd + 1) < dd) hx hb dL_isNeeded_192 (by decide) (nI_ltI (a := (dd + 1)) (b := dd) (by omega) (by omega)) (fun c192 => (show False from absurd c192 (by omega)).elim) (fun c192 => ?_)
      refine lv_iload hx hb dL_isNeeded_195 (lv_at hl 4 rfl) ?_
      refine z_if_eq (tgt := 314) (P := False) hx hb dL_isNeeded_197 (by decide) (by decide) (fun c197 => (show False from c197).elim) (fun c197 => ?_)
      refine lv_iload hx hb dL_isNeeded_200 (lv_at hl 0 rfl) ?_
      refine z_if_le (tgt := 273) (P := dd ≤ 0) hx hb dL_isNeeded_202 (by decide) (nI_leI (a := dd) (b := 0) (by omega) (by omega)) (fun c202 => (show False from absurd c202 (by omega)).elim) (fun c202 => ?_)
      refine lv_aload_n hx hb dL_isNeeded_205 rfl (lv_at hl 11 rfl) ?_
      refine lv_bipush (v := 97) hx hb dL_isNeeded_206 (by decide) ?_
      refine lv_iload_n hx hb dL_isNeeded_208 rfl (lv_at hl 12 rfl) ?_
      refine lv_bipush (v := 6) hx hb dL_isNeeded_209 (by decide) ?_
      refine z_idiv (v := nI (f / 6)) hx hb dL_isNeeded_211 (by decide) (pk_div (a := f) (d := 6) (by omega) (by omega) (by omega)) ?_
      refine z_iadd (v := nI (97 + (f / 6))) hx hb dL_isNeeded_212 (nI_add (97) ((f / 6))) ?_
      refine z_cmi (wr := []) (ws' := [(x0, .inr (3, [.ref a0, .ref b0, .ref d0, .ref e1, .ref e2])), (a0, .inr (0, [.ref a1, .ref a2, .ref a3, .ref a4, .int (nI hz), .int (nI mv), .int tu, .int rf])), (a1, .inl (cI, 36, .inl (upd fh f 0))), (a2, .inl (cI, 36, .inl (upd fo f (-1)))), (a3, .inl (cI, 36, .inl fc)), (a4, .inl (cI, 2, .inl fs)), (b0, .inr (1, [.ref b1, .int (nI (0 + 1))])), (b1, .inl (cI, 60, .inl (upd fx 0 (nI (97 + (f / 6)))))), (d0, .inr (2, [.ref d1, .int (nI (pRo od sz6)), .int (nI (pRz sz6))])), (d1, .inl (cI, 684, .inl (va_cpy (cG fh fo fc fs hz mv tu rf) fn 0 ((od + sz6) % 6 * 114) 114))), (e1, .inl (cI, 228, .inl (va_cpy (cG fh fo fc fs hz mv tu rf) fl 0 (0 * 114) 114))), (e2, .inl (cZ, 2, .inl (upd fk 0 1)))]) (va_runV (As := [.int (nI (97 + (f / 6)))]) (rest := []) ⟨hx, hb, hml, hown, hts⟩ (c_X4_append_ok l D cI cZ cL _ (x0 := x0) (e1 := e1) (e2 := e2) (fl := (va_cpy (cG fh fo fc fs hz mv tu rf) fl 0 (0 * 114) 114)) (fk := (upd fk 0 1)) (a0 := a0) (a1 := a1) (a2 := a2) (a3 := a3) (a4 := a4) (fh := (upd fh f 0)) (fo := (upd fo f (-1))) (fc := fc) (fs := fs) (hz := hz) (mv := mv) (tu := tu) (rf := rf) (b0 := b0) (b1 := b1) (fx := fx) (ln := 0) (d0 := d0) (d1 := d1) (fn := (va_cpy (cG fh fo fc fs hz mv tu rf) fn 0 ((od + sz6) % 6 * 114) 114)) (od := (pRo od sz6)) (sz6 := (pRz sz6)) (p0 := nI (97 + (f / 6))) (h33 := (by first | decide | exact ap_lo (by omega) (by omega))) (h126 := (by first | decide | exact ap_hi (by omega))) (hfu := by omega)) (cwV 1 hts gL_isNeeded_X4_append rfl rfl rfl (by decide +kernel) ⟨Nat.le_of_ble_eq_true rfl, Nat.le_of_ble_eq_true rfl⟩) (z_preMVn hN hK (hP.sub [0, 1, 2, 3, 4, 5, 6, 7, 8, 9, 10, 11] rfl) (hD.sub [0, 1, 2, 3, 4, 5, 6, 7, 8, 9, 10, 11] (by decide) rfl) 0 3 rfl rfl) rfl rfl hl.1 rfl (lv_room (Nat.le_of_ble_eq_true rfl)) dL_isNeeded_213 ⟨Nat.le_of_ble_eq_true rfl, Nat.le_of_ble_eq_true rfl⟩) hP hD hS hA [0, 1, 2, 3, 4, 5, 6, 7, 8, 9, 10, 11] [] [0, 1, 2, 3, 4, 5, 6, 7, 8, 9, 10, 11] rfl rfl (by decide) (by decide) rfl rfl (by decide) (fun H locs hP hD hS => ?_)
      refine lv_iconst (v := 1) hx hb dL_isNeeded_216 (by decide) ?_
      refine z_icmp_ne (tgt := 270) (P := True) hx hb dL_isNeeded_217 (by decide) (iff_of_true (rfl) trivial) (fun c217 => (show False from c217 trivial).elim) (fun c217 => ?_)
      refine lv_aload_n hx hb dL_isNeeded_220 rfl (lv_at hl 11 rfl) ?_
      refine lv_bipush (v := 49) hx hb dL_isNeeded_221 (by decide) ?_
      refine lv_iload_n hx hb dL_isNeeded_223 rfl (lv_at hl 12 rfl) ?_
      refine lv_bipush (v := 6) hx hb dL_isNeeded_224 (by decide) ?_
      refine z_irem (v := nI (f % 6)) hx hb dL_isNeeded_226 (by decide) (pk_rem (a := f) (d := 6) (by omega) (by omega) (by omega)) ?_
      refine z_iadd (v := nI (49 + (f % 6))) hx hb dL_isNeeded_227 (nI_add (49) ((f % 6))) ?_
      refine z_cmi (wr := []) (ws' := [(x0, .inr (3, [.ref a0, .ref b0, .ref d0, .ref e1, .ref e2])), (a0, .inr (0, [.ref a1, .ref a2, .ref a3, .ref a4, .int (nI hz), .int (nI mv), .int tu, .int rf])), (a1, .inl (cI, 36, .inl (upd fh f 0))), (a2, .inl (cI, 36, .inl (upd fo f (-1)))), (a3, .inl (cI, 36, .inl fc)), (a4, .inl (cI, 2, .inl fs)), (b0, .inr (1, [.ref b1, .int (nI ((0 + 1) + 1))])), (b1, .inl (cI, 60, .inl (upd (upd fx 0 (nI (97 + (f / 6)))) (0 + 1) (nI (49 + (f % 6)))))), (d0, .inr (2, [.ref d1, .int (nI (pRo od sz6)), .int (nI (pRz sz6))])), (d1, .inl (cI, 684, .inl (va_cpy (cG fh fo fc fs hz mv tu rf) fn 0 ((od + sz6) % 6 * 114) 114))), (e1, .inl (cI, 228, .inl (va_cpy (cG fh fo fc fs hz mv tu rf) fl 0 (0 * 114) 114))), (e2, .inl (cZ, 2, .inl (upd fk 0 1)))]) (va_runV (As := [.int (nI (49 + (f % 6)))]) (rest := []) ⟨hx, hb, hml, hown, hts⟩ (c_X4_append_ok l D cI cZ cL _ (x0 := x0) (e1 := e1) (e2 := e2) (fl := (va_cpy (cG fh fo fc fs hz mv tu rf) fl 0 (0 * 114) 114)) (fk := (upd fk 0 1)) (a0 := a0) (a1 := a1) (a2 := a2) (a3 := a3) (a4 := a4) (fh := (upd fh f 0)) (fo := (upd fo f (-1))) (fc := fc) (fs := fs) (hz := hz) (mv := mv) (tu := tu) (rf := rf) (b0 := b0) (b1 := b1) (fx := (upd fx 0 (nI (97 + (f / 6))))) (ln := (0 + 1)) (d0 := d0) (d1 := d1) (fn := (va_cpy (cG fh fo fc fs hz mv tu rf) fn 0 ((od + sz6) % 6 * 114) 114)) (od := (pRo od sz6)) (sz6 := (pRz sz6)) (p0 := nI (49 + (f % 6))) (h33 := (by first | decide | exact ap_lo (by omega) (by omega))) (h126 := (by first | decide | exact ap_hi (by omega))) (hfu := by omega)) (cwV 1 hts gL_isNeeded_X4_append rfl rfl rfl (by decide +kernel) ⟨Nat.le_of_ble_eq_true rfl, Nat.le_of_ble_eq_true rfl⟩) (z_preMVn hN hK (hP.sub [0, 1, 2, 3, 4, 5, 6, 7, 8, 9, 10, 11] rfl) (hD.sub [0, 1, 2, 3, 4, 5, 6, 7, 8, 9, 10, 11] (by decide) rfl) 0 3 rfl rfl) rfl rfl hl.1 rfl (lv_room (Nat.le_of_ble_eq_true rfl)) dL_isNeeded_228 ⟨Nat.le_of_ble_eq_true rfl, Nat.le_of_ble_eq_true rfl⟩) hP hD hS hA [0, 1, 2, 3, 4, 5, 6, 7, 8, 9, 10, 11] [] [0, 1, 2, 3, 4, 5, 6, 7, 8, 9, 10, 11] rfl rfl (by decide) (by decide) rfl rfl (by decide) (fun H locs hP hD hS => ?_)
      refine lv_iconst (v := 2) hx hb dL_isNeeded_231 (by decide) ?_
      refine z_icmp_ne (tgt := 270) (P := True) hx hb dL_isNeeded_232 (by decide) (iff_of_true (rfl) trivial) (fun c232 => (show False from c232 trivial).elim) (fun c232 => ?_)
      refine lv_aload_n hx hb dL_isNeeded_235 rfl (lv_at hl 11 rfl) ?_
      refine lv_bipush (v := 43) hx hb dL_isNeeded_236 (by decide) ?_
      refine z_cmi (wr := []) (ws' := [(x0, .inr (3, [.ref a0, .ref b0, .ref d0, .ref e1, .ref e2])), (a0, .inr (0, [.ref a1, .ref a2, .ref a3, .ref a4, .int (nI hz), .int (nI mv), .int tu, .int rf])), (a1, .inl (cI, 36, .inl (upd fh f 0))), (a2, .inl (cI, 36, .inl (upd fo f (-1)))), (a3, .inl (cI, 36, .inl fc)), (a4, .inl (cI, 2, .inl fs)), (b0, .inr (1, [.ref b1, .int (nI (((0 + 1) + 1) + 1))])), (b1, .inl (cI, 60, .inl (upd (upd (upd fx 0 (nI (97 + (f / 6)))) (0 + 1) (nI (49 + (f % 6)))) ((0 + 1) + 1) 43))), (d0, .inr (2, [.ref d1, .int (nI (pRo od sz6)), .int (nI (pRz sz6))])), (d1, .inl (cI, 684, .inl (va_cpy (cG fh fo fc fs hz mv tu rf) fn 0 ((od + sz6) % 6 * 114) 114))), (e1, .inl (cI, 228, .inl (va_cpy (cG fh fo fc fs hz mv tu rf) fl 0 (0 * 114) 114))), (e2, .inl (cZ, 2, .inl (upd fk 0 1)))]) (va_runV (As := [.int 43]) (rest := []) ⟨hx, hb, hml, hown, hts⟩ (c_X4_append_ok l D cI cZ cL _ (x0 := x0) (e1 := e1) (e2 := e2) (fl := (va_cpy (cG fh fo fc fs hz mv tu rf) fl 0 (0 * 114) 114)) (fk := (upd fk 0 1)) (a0 := a0) (a1 := a1) (a2 := a2) (a3 := a3) (a4 := a4) (fh := (upd fh f 0)) (fo := (upd fo f (-1))) (fc := fc) (fs := fs) (hz := hz) (mv := mv) (tu := tu) (rf := rf) (b0 := b0) (b1 := b1) (fx := (upd (upd fx 0 (nI (97 + (f / 6)))) (0 + 1) (nI (49 + (f % 6))))) (ln := ((0 + 1) + 1)) (d0 := d0) (d1 := d1) (fn := (va_cpy (cG fh fo fc fs hz mv tu rf) fn 0 ((od + sz6) % 6 * 114) 114)) (od := (pRo od sz6)) (sz6 := (pRz sz6)) (p0 := 43) (h33 := (by first | decide | exact ap_lo (by omega) (by omega))) (h126 := (by first | decide | exact ap_hi (by omega))) (hfu := by omega)) (cwV 1 hts gL_isNeeded_X4_append rfl rfl rfl (by decide +kernel) ⟨Nat.le_of_ble_eq_true rfl, Nat.le_of_ble_eq_true rfl⟩) (z_preMVn hN hK (hP.sub [0, 1, 2, 3, 4, 5, 6, 7, 8, 9, 10, 11] rfl) (hD.sub [0, 1, 2, 3, 4, 5, 6, 7, 8, 9, 10, 11] (by decide) rfl) 0 3 rfl rfl) rfl rfl hl.1 rfl (lv_room (Nat.le_of_ble_eq_true rfl)) dL_isNeeded_238 ⟨Nat.le_of_ble_eq_true rfl, Nat.le_of_ble_eq_true rfl⟩) hP hD hS hA [0, 1, 2, 3, 4, 5, 6, 7, 8, 9, 10, 11] [] [0, 1, 2, 3, 4, 5, 6, 7, 8, 9, 10, 11] rfl rfl (by decide) (by decide) rfl rfl (by decide) (fun H locs hP hD hS => ?_)
      refine lv_iconst (v := 3) hx hb dL_isNeeded_241 (by decide) ?_
      refine z_icmp_ne (tgt := 270) (P := True) hx hb dL_isNeeded_242 (by decide) (iff_of_true (rfl) trivial) (fun c242 => (show False from c242 trivial).elim) (fun c242 => ?_)
      refine lv_aload_n hx hb dL_isNeeded_245 rfl (lv_at hl 11 rfl) ?_
      refine lv_bipush (v := 48) hx hb dL_isNeeded_246 (by decide) ?_
      refine lv_iload hx hb dL_isNeeded_248 (lv_at hl 0 rfl) ?_
      refine z_iadd (v := nI (48 + dd)) hx hb dL_isNeeded_250 (nI_add (48) (dd)) ?_
      refine z_cmi (wr := []) (ws' := [(x0, .inr (3, [.ref a0, .ref b0, .ref d0, .ref e1, .ref e2])), (a0, .inr (0, [.ref a1, .ref a2, .ref a3, .ref a4, .int (nI hz), .int (nI mv), .int tu, .int rf])), (a1, .inl (cI, 36, .inl (upd fh f 0))), (a2, .inl (cI, 36, .inl (upd fo f (-1)))), (a3, .inl (cI, 36, .inl fc)), (a4, .inl (cI, 2, .inl fs)), (b0, .inr (1, [.ref b1, .int (nI ((((0 + 1) + 1) + 1) + 1))])), (b1, .inl (cI, 60, .inl (upd (upd (upd (upd fx 0 (nI (97 + (f / 6)))) (0 + 1) (nI (49 + (f % 6)))) ((0 + 1) + 1) 43) (((0 + 1) + 1) + 1) (nI (48 + dd))))), (d0, .inr (2, [.ref d1, .int (nI (pRo od sz6)), .int (nI (pRz sz6))])), (d1, .inl (cI, 684, .inl (va_cpy (cG fh fo fc fs hz mv tu rf) fn 0 ((od + sz6) % 6 * 114) 114))), (e1, .inl (cI, 228, .inl (va_cpy (cG fh fo fc fs hz mv tu rf) fl 0 (0 * 114) 114))), (e2, .inl (cZ, 2, .inl (upd fk 0 1)))]) (va_runV (As := [.int (nI (48 + dd))]) (rest := []) ⟨hx, hb, hml, hown, hts⟩ (c_X4_append_ok l D cI cZ cL _ (x0 := x0) (e1 := e1) (e2 := e2) (fl := (va_cpy (cG fh fo fc fs hz mv tu rf) fl 0 (0 * 114) 114)) (fk := (upd fk 0 1)) (a0 := a0) (a1 := a1) (a2 := a2) (a3 := a3) (a4 := a4) (fh := (upd fh f 0)) (fo := (upd fo f (-1))) (fc := fc) (fs := fs) (hz := hz) (mv := mv) (tu := tu) (rf := rf) (b0 := b0) (b1 := b1) (fx := (upd (upd (upd fx 0 (nI (97 + (f / 6)))) (0 + 1) (nI (49 + (f % 6)))) ((0 + 1) + 1) 43)) (ln := (((0 + 1) + 1) + 1)) (d0 := d0) (d1 := d1) (fn := (va_cpy (cG fh fo fc fs hz mv tu rf) fn 0 ((od + sz6) % 6 * 114) 114)) (od := (pRo od sz6)) (sz6 := (pRz sz6)) (p0 := nI (48 + dd)) (h33 := (by first | decide | exact ap_lo (by omega) (by omega))) (h126 := (by first | decide | exact ap_hi (by omega))) (hfu := by omega)) (cwV 1 hts gL_isNeeded_X4_append rfl rfl rfl (by decide +kernel) ⟨Nat.le_of_ble_eq_true rfl, Nat.le_of_ble_eq_true rfl⟩) (z_preMVn hN hK (hP.sub [0, 1, 2, 3, 4, 5, 6, 7, 8, 9, 10, 11] rfl) (hD.sub [0, 1, 2, 3, 4, 5, 6, 7, 8, 9, 10, 11] (by decide) rfl) 0 3 rfl rfl) rfl rfl hl.1 rfl (lv_room (Nat.le_of_ble_eq_true rfl)) dL_isNeeded_251 ⟨Nat.le_of_ble_eq_true rfl, Nat.le_of_ble_eq_true rfl⟩) hP hD hS hA [0, 1, 2, 3, 4, 5, 6, 7, 8, 9, 10, 11] [] [0, 1, 2, 3, 4, 5, 6, 7, 8, 9, 10, 11] rfl rfl (by decide) (by decide) rfl rfl (by decide) (fun H locs hP hD hS => ?_)
      refine lv_iconst (v := 4) hx hb dL_isNeeded_254 (by decide) ?_
      refine z_icmp_ne (tgt := 270) (P := True) hx hb dL_isNeeded_255 (by decide) (iff_of_true (rfl) trivial) (fun c255 => (show False from c255 trivial).elim) (fun c255 => ?_)
      have hW9 : ([(x0, .inr (3, [.ref a0, .ref b0, .ref d0, .ref e1, .ref e2])), (a0, .inr (0, [.ref a1, .ref a2, .ref a3, .ref a4, .int (nI hz), .int (nI mv), .int tu, .int rf])), (a1, .inl (cI, 36, .inl (upd fh f 0))), (a2, .inl (cI, 36, .inl (upd fo f (-1)))), (a3, .inl (cI, 36, .inl fc)), (a4, .inl (cI, 2, .inl fs)), (b0, .inr (1, [.ref b1, .int (nI ((((0 + 1) + 1) + 1) + 1))])), (b1, .inl (cI, 60, .inl (upd (upd (upd (upd fx 0 (nI (97 + (f / 6)))) (0 + 1) (nI (49 + (f % 6)))) ((0 + 1) + 1) 43) (((0 + 1) + 1) + 1) (nI (48 + dd))))), (d0, .inr (2, [.ref d1, .int (nI (pRo od sz6)), .int (nI (pRz sz6))])), (d1, .inl (cI, 684, .inl (va_cpy (cG fh fo fc fs hz mv tu rf) fn 0 ((od + sz6) % 6 * 114) 114))), (e1, .inl (cI, 228, .inl (va_cpy (cG fh fo fc fs hz mv tu rf) fl 0 (0 * 114) 114))), (e2, .inl (cZ, 2, .inl (upd fk 0 1)))] : va_W) = [(x0, .inr (3, [.ref a0, .ref b0, .ref d0, .ref e1, .ref e2])), (a0, .inr (0, [.ref a1, .ref a2, .ref a3, .ref a4, .int (nI hz), .int (nI mv), .int tu, .int rf])), (a1, .inl (cI, 36, .inl (upd fh f 0))), (a2, .inl (cI, 36, .inl (upd fo f (-1)))), (a3, .inl (cI, 36, .inl fc)), (a4, .inl (cI, 2, .inl fs)), (b0, .inr (1, [.ref b1, .int (nI 4)])), (b1, .inl (cI, 60, .inl (FX fx f dd))), (d0, .inr (2, [.ref d1, .int (nI (pRo od sz6)), .int (nI (pRz sz6))])), (d1, .inl (cI, 684, .inl (va_cpy (cG fh fo fc fs hz mv tu rf) fn 0 ((od + sz6) % 6 * 114) 114))), (e1, .inl (cI, 228, .inl (va_cpy (cG fh fo fc fs hz mv tu rf) fl 0 (0 * 114) 114))), (e2, .inl (cZ, 2, .inl (upd fk 0 1)))] := rfl
      rw [hW9] at hP hD
      refine lv_aload_n hx hb dL_isNeeded_258 rfl (lv_at hl 11 rfl) ?_
      refine z_cmi (wr := []) (ws' := [(x0, .inr (3, [.ref a0, .ref b0, .ref d0, .ref e1, .ref e2])), (a0, .inr (0, [.ref a1, .ref a2, .ref a3, .ref a4, .int (nI hz), .int (nI mv), .int tu, .int rf])), (a1, .inl (cI, 36, .inl (cLo cEh (upd fh f 0) (FX fx f dd) ((4 + 1) / 5)))), (a2, .inl (cI, 36, .inl (cLo cEo (upd fo f (-1)) (FX fx f dd) ((4 + 1) / 5)))), (a3, .inl (cI, 36, .inl (cLo cEc fc (FX fx f dd) ((4 + 1) / 5)))), (a4, .inl (cI, 2, .inl fs)), (b0, .inr (1, [.ref b1, .int (nI 0)])), (b1, .inl (cI, 60, .inl (FX fx f dd))), (d0, .inr (2, [.ref d1, .int (nI (pRo (pRo od sz6) (pRz sz6))), .int (nI (pRz (pRz sz6)))])), (d1, .inl (cI, 684, .inl (va_cpy (cG (upd fh f 0) (upd fo f (-1)) fc fs hz mv tu rf) (va_cpy (cG fh fo fc fs hz mv tu rf) fn 0 ((od + sz6) % 6 * 114) 114) 0 (((pRo od sz6) + (pRz sz6)) % 6 * 114) 114))), (e1, .inl (cI, 228, .inl (va_cpy (cG fh fo fc fs hz mv tu rf) fl 0 (0 * 114) 114))), (e2, .inl (cZ, 2, .inl (upd fk 0 1)))]) (va_runV (As := []) (rest := []) ⟨hx, hb, hml, hown, hts⟩ (c_X4_load_ok l D cI cZ cL _ (x0 := x0) (e1 := e1) (e2 := e2) (fl := (va_cpy (cG fh fo fc fs hz mv tu rf) fl 0 (0 * 114) 114)) (fk := (upd fk 0 1)) (a0 := a0) (a1 := a1) (a2 := a2) (a3 := a3) (a4 := a4) (fh := (upd fh f 0)) (fo := (upd fo f (-1))) (fc := fc) (fs := fs) (hz := hz) (mv := mv) (tu := tu) (rf := rf) (b0 := b0) (b1 := b1) (fx := (FX fx f dd)) (ln := 4) (d0 := d0) (d1 := d1) (fn := (va_cpy (cG fh fo fc fs hz mv tu rf) fn 0 ((od + sz6) % 6 * 114) 114)) (od := (pRo od sz6)) (sz6 := (pRz sz6)) (hw := (fx_wh hf (by omega) (by omega))) (hln := by omega) (hod := by omega) (hs6 := by omega)) (cwV 0 hts gL_isNeeded_X4_load rfl rfl rfl (by decide +kernel) ⟨Nat.le_of_ble_eq_true rfl, Nat.le_of_ble_eq_true rfl⟩) (z_preMVn hN hK (hP.sub [0, 1, 2, 3, 4, 5, 6, 7, 8, 9, 10, 11] rfl) (hD.sub [0, 1, 2, 3, 4, 5, 6, 7, 8, 9, 10, 11] (by decide) rfl) 0 3 rfl rfl) rfl rfl hl.1 rfl (lv_room (Nat.le_of_ble_eq_true rfl)) dL_isNeeded_259 ⟨Nat.le_of_ble_eq_true rfl, Nat.le_of_ble_eq_true rfl⟩) hP hD hS hA [0, 1, 2, 3, 4, 5, 6, 7, 8, 9, 10, 11] [] [0, 1, 2, 3, 4, 5, 6, 7, 8, 9, 10, 11] rfl rfl (by decide) (by decide) rfl rfl (by decide) (fun H locs hP hD hS => ?_)
      refine z_top (y := nI (pOw (upd fo f 0) 0 + pOw (upd fo f 0) 1)) ((by rw [lo_o hf])) ?_
      have hW9 : ([(x0, .inr (3, [.ref a0, .ref b0, .ref d0, .ref e1, .ref e2])), (a0, .inr (0, [.ref a1, .ref a2, .ref a3, .ref a4, .int (nI hz), .int (nI mv), .int tu, .int rf])), (a1, .inl (cI, 36, .inl (cLo cEh (upd fh f 0) (FX fx f dd) ((4 + 1) / 5)))), (a2, .inl (cI, 36, .inl (cLo cEo (upd fo f (-1)) (FX fx f dd) ((4 + 1) / 5)))), (a3, .inl (cI, 36, .inl (cLo cEc fc (FX fx f dd) ((4 + 1) / 5)))), (a4, .inl (cI, 2, .inl fs)), (b0, .inr (1, [.ref b1, .int (nI 0)])), (b1, .inl (cI, 60, .inl (FX fx f dd))), (d0, .inr (2, [.ref d1, .int (nI (pRo (pRo od sz6) (pRz sz6))), .int (nI (pRz (pRz sz6)))])), (d1, .inl (cI, 684, .inl (va_cpy (cG (upd fh f 0) (upd fo f (-1)) fc fs hz mv tu rf) (va_cpy (cG fh fo fc fs hz mv tu rf) fn 0 ((od + sz6) % 6 * 114) 114) 0 (((pRo od sz6) + (pRz sz6)) % 6 * 114) 114))), (e1, .inl (cI, 228, .inl (va_cpy (cG fh fo fc fs hz mv tu rf) fl 0 (0 * 114) 114))), (e2, .inl (cZ, 2, .inl (upd fk 0 1)))] : va_W) = [(x0, .inr (3, [.ref a0, .ref b0, .ref d0, .ref e1, .ref e2])), (a0, .inr (0, [.ref a1, .ref a2, .ref a3, .ref a4, .int (nI hz), .int (nI mv), .int tu, .int rf])), (a1, .inl (cI, 36, .inl (upd fh f (nI dd)))), (a2, .inl (cI, 36, .inl (upd fo f 0))), (a3, .inl (cI, 36, .inl fc)), (a4, .inl (cI, 2, .inl fs)), (b0, .inr (1, [.ref b1, .int (nI 0)])), (b1, .inl (cI, 60, .inl (FX fx f dd))), (d0, .inr (2, [.ref d1, .int (nI (pRo (pRo od sz6) (pRz sz6))), .int (nI (pRz (pRz sz6)))])), (d1, .inl (cI, 684, .inl (va_cpy (cG (upd fh f 0) (upd fo f (-1)) fc fs hz mv tu rf) (va_cpy (cG fh fo fc fs hz mv tu rf) fn 0 ((od + sz6) % 6 * 114) 114) 0 (((pRo od sz6) + (pRz sz6)) % 6 * 114) 114))), (e1, .inl (cI, 228, .inl (va_cpy (cG fh fo fc fs hz mv tu rf) fl 0 (0 * 114) 114))), (e2, .inl (cZ, 2, .inl (upd fk 0 1)))] := by rw [lo_o hf, lo_h hf, lo_c]
      rw [hW9] at hP hD
      refine lv_iconst (v := 1) hx hb dL_isNeeded_262 (by decide) ?_
      refine z_icmp_lt (tgt := 270) (P := (pOw (upd fo f 0) 0 + pOw (upd fo f 0) 1) < 1) hx hb dL_isNeeded_263 (by decide) (nI_ltI (a := (pOw (upd fo f 0) 0 + pOw (upd fo f 0) 1)) (b := 1) (by omega) (by omega)) (fun c263 => (show False from absurd c263 (by omega)).elim) (fun c263 => ?_)
      refine lv_iconst (v := 1) hx hb dL_isNeeded_266 (by decide) ?_
      refine lv_goto (tgt := 271) hx hb dL_isNeeded_267 (by decide) ?_
      refine lv_istore (lv' := [(9, .int 1), (13, .int (nI dd)), (12, .int (nI (pSn (upd fh f 0) q hz))), (11, .int (nI tn)), (10, .int (nI (pOw fo 0 + pOw fo 1))), (8, .int (nI (dd + 1))), (7, .int (pBy (hz / 3) (nI (f / 6) - nI (q / 6)) (nI (f % 6) - nI (q % 6)))), (6, .int ((nI (f % 6)) - (nI (q % 6)))), (5, .int ((nI (f / 6)) - (nI (q / 6)))), (4, .int (nI (hz / 3))), (3, .int (nI (dd + 1))), (0, .ref x0), (1, .int (nI f)), (2, .int (nI q))]) hx hb dL_isNeeded_271 hl (by decide) rfl (fun ls hl => ?_)
      refine lv_iload hx hb dL_isNeeded_273 (lv_at hl 0 rfl) ?_
      refine z_if_eq (tgt := 305) (P := False) hx hb dL_isNeeded_275 (by decide) (by decide) (fun c275 => (show False from c275).elim) (fun c275 => ?_)
      refine lv_aload_n hx hb dL_isNeeded_278 rfl (lv_at hl 11 rfl) ?_
      refine lv_iload_n hx hb dL_isNeeded_279 rfl (lv_at hl 13 rfl) ?_
      refine lv_iconst (v := 5) hx hb dL_isNeeded_280 (by decide) ?_
      refine z_ci (va_runV (As := [.int (nI q), .int 5]) (rest := []) ⟨hx, hb, hml, hown, hts⟩ (c_X4_squareOf_ok l D cI cZ cL (x0 := x0) (e1 := e1) (e2 := e2) (fl := (va_cpy (cG fh fo fc fs hz mv tu rf) fl 0 (0 * 114) 114)) (fk := (upd fk 0 1)) (a0 := a0) (a1 := a1) (a2 := a2) (a3 := a3) (a4 := a4) (fh := (upd fh f (nI dd))) (fo := (upd fo f 0)) (fc := fc) (fs := fs) (hz := hz) (mv := mv) (tu := tu) (rf := rf) (b0 := b0) (b1 := b1) (fx := (FX fx f dd)) (ln := 0) (d0 := d0) (d1 := d1) (fn := (va_cpy (cG (upd fh f 0) (upd fo f (-1)) fc fs hz mv tu rf) (va_cpy (cG fh fo fc fs hz mv tu rf) fn 0 ((od + sz6) % 6 * 114) 114) 0 (((pRo od sz6) + (pRz sz6)) % 6 * 114) 114)) (od := (pRo (pRo od sz6) (pRz sz6))) (sz6 := (pRz (pRz sz6))) (q := q) (wh := 5) (hq := by omega) (hwh := by omega) (hhz := by omega)) (cwV 2 hts gL_isNeeded_X4_squareOf rfl rfl rfl (by decide +kernel) ⟨Nat.le_of_ble_eq_true rfl, Nat.le_of_ble_eq_true rfl⟩) (z_preVn hN hK (hP.sub [0, 1, 2, 3, 4, 5, 6, 7, 8, 9, 10, 11] rfl) 0 3 rfl rfl) rfl rfl hl.1 rfl (lv_room (Nat.le_of_ble_eq_true rfl)) dL_isNeeded_281 ⟨Nat.le_of_ble_eq_true rfl, Nat.le_of_ble_eq_true rfl⟩) ?_
      refine z_top (y := nI (pSn (upd fh f (nI dd)) q hz)) ((congrArg nI (pSn_T (II_put (n := dd) (o := 0) hI f (Or.inl rfl) (by omega) (by omega)) hq hhz).symm)) ?_
      refine lv_iload hx hb dL_isNeeded_284 (lv_at hl 2 rfl) ?_
      refine lv_iload hx hb dL_isNeeded_286 (lv_at hl 1 rfl) ?_
      refine lv_iload_n hx hb dL_isNeeded_288 rfl (lv_at hl 10 rfl) ?_
      refine z_icmp_ne (tgt := 296) (P := dd = (dd + 1)) hx hb dL_isNeeded_289 (by decide) (nI_eq (a := dd) (b := (dd + 1)) (by omega) (by omega)) (fun c289 => ?_) (fun c289 => (show False from absurd c289 (by omega)).elim)
      refine lv_iconst (v := 0) hx hb dL_isNeeded_296 (by decide) ?_
      refine z_iadd (v := nI ((pSn (upd fh f 0) q hz) + 0)) hx hb dL_isNeeded_297 (nI_add ((pSn (upd fh f 0) q hz)) (0)) ?_
      refine z_icmp_ne (tgt := 305) (P := True) hx hb dL_isNeeded_298 (by decide) (iff_of_true (congrArg nI (by rw [nd_sh hq hhz hd ehn hn9 (by omega), if_neg (by omega)])) trivial) (fun c298 => (show False from c298 trivial).elim) (fun c298 => ?_)
      refine lv_iconst (v := 1) hx hb dL_isNeeded_301 (by decide) ?_
      refine lv_goto (tgt := 306) hx hb dL_isNeeded_302 (by decide) ?_
      refine lv_istore (lv' := [(9, .int 1), (13, .int (nI dd)), (12, .int (nI (pSn (upd fh f 0) q hz))), (11, .int (nI tn)), (10, .int (nI (pOw fo 0 + pOw fo 1))), (8, .int (nI (dd + 1))), (7, .int (pBy (hz / 3) (nI (f / 6) - nI (q / 6)) (nI (f % 6) - nI (q % 6)))), (6, .int ((nI (f % 6)) - (nI (q % 6)))), (5, .int ((nI (f / 6)) - (nI (q / 6)))), (4, .int (nI (hz / 3))), (3, .int (nI (dd + 1))), (0, .ref x0), (1, .int (nI f)), (2, .int (nI q))]) hx hb dL_isNeeded_306 hl (by decide) rfl (fun ls hl => ?_)
      refine lv_iinc (v := nI (dd + 1)) (lv' := [(13, .int (nI (dd + 1))), (9, .int 1), (12, .int (nI (pSn (upd fh f 0) q hz))), (11, .int (nI tn)), (10, .int (nI (pOw fo 0 + pOw fo 1))), (8, .int (nI (dd + 1))), (7, .int (pBy (hz / 3) (nI (f / 6) - nI (q / 6)) (nI (f % 6) - nI (q % 6)))), (6, .int ((nI (f % 6)) - (nI (q % 6)))), (5, .int ((nI (f / 6)) - (nI (q / 6)))), (4, .int (nI (hz / 3))), (3, .int (nI (dd + 1))), (0, .ref x0), (1, .int (nI f)), (2, .int (nI q))]) hx hb dL_isNeeded_308 hl (k := 1) rfl (nI_1 (dd)) (by decide) rfl (fun ls hl => ?_)
      refine lv_goto (tgt := 189) hx hb dL_isNeeded_311 (by decide) ?_
      refine lv_iload hx hb dL_isNeeded_189 (lv_at hl 0 rfl) ?_
      refine lv_iload_n hx hb dL_isNeeded_191 rfl (lv_at hl 10 rfl) ?_
      refine z_icmp_gt (tgt := 314) (P := (dd + 1) < (dd + 1)) hx hb dL_isNeeded_192 (by decide) (nI_ltI (a := (dd + 1)) (b := (dd + 1)) (by omega) (by omega)) (fun c192 => (show False from absurd c192 (by omega)).elim) (fun c192 => ?_)
      refine lv_iload hx hb dL_isNeeded_195 (lv_at hl 1 rfl) ?_
      refine z_if_eq (tgt := 314) (P := False) hx hb dL_isNeeded_197 (by decide) (by decide) (fun c197 => (show False from c197).elim) (fun c197 => ?_)
      refine lv_iload hx hb dL_isNeeded_200 (lv_at hl 0 rfl) ?_
      refine z_if_le (tgt := 273) (P := (dd + 1) ≤ 0) hx hb dL_isNeeded_202 (by decide) (nI_leI (a := (dd + 1)) (b := 0) (by omega) (by omega)) (fun c202 => (show False from absurd c202 (by omega)).elim) (fun c202 => ?_)
      refine lv_aload_n hx hb dL_isNeeded_205 rfl (lv_at hl 11 rfl) ?_
      refine lv_bipush (v := 97) hx hb dL_isNeeded_206 (by decide) ?_
      refine lv_iload_n hx hb dL_isNeeded_208 rfl (lv_at hl 12 rfl) ?_
      refine lv_bipush (v := 6) hx hb dL_isNeeded_209 (by decide) ?_
      refine z_idiv (v := nI (f / 6)) hx hb dL_isNeeded_211 (by decide) (pk_div (a := f) (d := 6) (by omega) (by omega) (by omega)) ?_
      refine z_iadd (v := nI (97 + (f / 6))) hx hb dL_isNeeded_212 (nI_add (97) ((f / 6))) ?_
      refine z_cmi (wr := []) (ws' := [(x0, .inr (3, [.ref a0, .ref b0, .ref d0, .ref e1, .ref e2])), (a0, .inr (0, [.ref a1, .ref a2, .ref a3, .ref a4, .int (nI hz), .int (nI mv), .int tu, .int rf])), (a1, .inl (cI, 36, .inl (upd fh f (nI dd)))), (a2, .inl (cI, 36, .inl (upd fo f 0))), (a3, .inl (cI, 36, .inl fc)), (a4, .inl (cI, 2, .inl fs)), (b0, .inr (1, [.ref b1, .int (nI (0 + 1))])), (b1, .inl (cI, 60, .inl (upd (FX fx f dd) 0 (nI (97 + (f / 6)))))), (d0, .inr (2, [.ref d1, .int (nI (pRo (pRo od sz6) (pRz sz6))), .int (nI (pRz (pRz sz6)))])), (d1, .inl (cI, 684, .inl (va_cpy (cG (upd fh f 0) (upd fo f (-1)) fc fs hz mv tu rf) (va_cpy (cG fh fo fc fs hz mv tu rf) fn 0 ((od + sz6) % 6 * 114) 114) 0 (((pRo od sz6) + (pRz sz6)) % 6 * 114) 114))), (e1, .inl (cI, 228, .inl (va_cpy (cG fh fo fc fs hz mv tu rf) fl 0 (0 * 114) 114))), (e2, .inl (cZ, 2, .inl (upd fk 0 1)))]) (va_runV (As := [.int (nI (97 + (f / 6)))]) (rest := []) ⟨hx, hb, hml, hown, hts⟩ (c_X4_append_ok l D cI cZ cL _ (x0 := x0) (e1 := e1) (e2 := e2) (fl := (va_cpy (cG fh fo fc fs hz mv tu rf) fl 0 (0 * 114) 114)) (fk := (upd fk 0 1)) (a0 := a0) (a1 := a1) (a2 := a2) (a3 := a3) (a4 := a4) (fh := (upd fh f (nI dd))) (fo := (upd fo f 0)) (fc := fc) (fs := fs) (hz := hz) (mv := mv) (tu := tu) (rf := rf) (b0 := b0) (b1 := b1) (fx := (FX fx f dd)) (ln := 0) (d0 := d0) (d1 := d1) (fn := (va_cpy (cG (upd fh f 0) (upd fo f (-1)) fc fs hz mv tu rf) (va_cpy (cG fh fo fc fs hz mv tu rf) fn 0 ((od + sz6) % 6 * 114) 114) 0 (((pRo od sz6) + (pRz sz6)) % 6 * 114) 114)) (od := (pRo (pRo od sz6) (pRz sz6))) (sz6 := (pRz (pRz sz6))) (p0 := nI (97 + (f / 6))) (h33 := (by first | decide | exact ap_lo (by omega) (by omega))) (h126 := (by first | decide | exact ap_hi (by omega))) (hfu := by omega)) (cwV 1 hts gL_isNeeded_X4_append rfl rfl rfl (by decide +kernel) ⟨Nat.le_of_ble_eq_true rfl, Nat.le_of_ble_eq_true rfl⟩) (z_preMVn hN hK (hP.sub [0, 1, 2, 3, 4, 5, 6, 7, 8, 9, 10, 11] rfl) (hD.sub [0, 1, 2, 3, 4, 5, 6, 7, 8, 9, 10, 11] (by decide) rfl) 0 3 rfl rfl) rfl rfl hl.1 rfl (lv_room (Nat.le_of_ble_eq_true rfl)) dL_isNeeded_213 ⟨Nat.le_of_ble_eq_true rfl, Nat.le_of_ble_eq_true rfl⟩) hP hD hS hA [0, 1, 2, 3, 4, 5, 6, 7, 8, 9, 10, 11] [] [0, 1, 2, 3, 4, 5, 6, 7, 8, 9, 10, 11] rfl rfl (by decide) (by decide) rfl rfl (by decide) (fun H locs hP hD hS => ?_)
      refine lv_iconst (v := 1) hx hb dL_isNeeded_216 (by decide) ?_
      refine z_icmp_ne (tgt := 270) (P := True) hx hb dL_isNeeded_217 (by decide) (iff_of_true (rfl) trivial) (fun c217 => (show False from c217 trivial).elim) (fun c217 => ?_)
      refine lv_aload_n hx hb dL_isNeeded_220 rfl (lv_at hl 11 rfl) ?_
      refine lv_bipush (v := 49) hx hb dL_isNeeded_221 (by decide) ?_
      refine lv_iload_n hx hb dL_isNeeded_223 rfl (lv_at hl 12 rfl) ?_
      refine lv_bipush (v := 6) hx hb dL_isNeeded_224 (by decide) ?_
      refine z_irem (v := nI (f % 6)) hx hb dL_isNeeded_226 (by decide) (pk_rem (a := f) (d := 6) (by omega) (by omega) (by omega)) ?_
      refine z_iadd (v := nI (49 + (f % 6))) hx hb dL_isNeeded_227 (nI_add (49) ((f % 6))) ?_
      refine z_cmi (wr := []) (ws' := [(x0, .inr (3, [.ref a0, .ref b0, .ref d0, .ref e1, .ref e2])), (a0, .inr (0, [.ref a1, .ref a2, .ref a3, .ref a4, .int (nI hz), .int (nI mv), .int tu, .int rf])), (a1, .inl (cI, 36, .inl (upd fh f (nI dd)))), (a2, .inl (cI, 36, .inl (upd fo f 0))), (a3, .inl (cI, 36, .inl fc)), (a4, .inl (cI, 2, .inl fs)), (b0, .inr (1, [.ref b1, .int (nI ((0 + 1) + 1))])), (b1, .inl (cI, 60, .inl (upd (upd (FX fx f dd) 0 (nI (97 + (f / 6)))) (0 + 1) (nI (49 + (f % 6)))))), (d0, .inr (2, [.ref d1, .int (nI (pRo (pRo od sz6) (pRz sz6))), .int (nI (pRz (pRz sz6)))])), (d1, .inl (cI, 684, .inl (va_cpy (cG (upd fh f 0) (upd fo f (-1)) fc fs hz mv tu rf) (va_cpy (cG fh fo fc fs hz mv tu rf) fn 0 ((od + sz6) % 6 * 114) 114) 0 (((pRo od sz6) + (pRz sz6)) % 6 * 114) 114))), (e1, .inl (cI, 228, .inl (va_cpy (cG fh fo fc fs hz mv tu rf) fl 0 (0 * 114) 114))), (e2, .inl (cZ, 2, .inl (upd fk 0 1)))]) (va_runV (As := [.int (nI (49 + (f % 6)))]) (rest := []) ⟨hx, hb, hml, hown, hts⟩ (c_X4_append_ok l D cI cZ cL _ (x0 := x0) (e1 := e1) (e2 := e2) (fl := (va_cpy (cG fh fo fc fs hz mv tu rf) fl 0 (0 * 114) 114)) (fk := (upd fk 0 1)) (a0 := a0) (a1 := a1) (a2 := a2) (a3 := a3) (a4 := a4) (fh := (upd fh f (nI dd))) (fo := (upd fo f 0)) (fc := fc) (fs := fs) (hz := hz) (mv := mv) (tu := tu) (rf := rf) (b0 := b0) (b1 := b1) (fx := (upd (FX fx f dd) 0 (nI (97 + (f / 6))))) (ln := (0 + 1)) (d0 := d0) (d1 := d1) (fn := (va_cpy (cG (upd fh f 0) (upd fo f (-1)) fc fs hz mv tu rf) (va_cpy (cG fh fo fc fs hz mv tu rf) fn 0 ((od + sz6) % 6 * 114) 114) 0 (((pRo od sz6) + (pRz sz6)) % 6 * 114) 114)) (od := (pRo (pRo od sz6) (pRz sz6))) (sz6 := (pRz (pRz sz6))) (p0 := nI (49 + (f % 6))) (h33 := (by first | decide | exact ap_lo (by omega) (by omega))) (h126 := (by first | decide | exact ap_hi (by omega))) (hfu := by omega)) (cwV 1 hts gL_isNeeded_X4_append rfl rfl rfl (by decide +kernel) ⟨Nat.le_of_ble_eq_true rfl, Nat.le_of_ble_eq_true rfl⟩) (z_preMVn hN hK (hP.sub [0, 1, 2, 3, 4, 5, 6, 7, 8, 9, 10, 11] rfl) (hD.sub [0, 1, 2, 3, 4, 5, 6, 7, 8, 9, 10, 11] (by decide) rfl) 0 3 rfl rfl) rfl rfl hl.1 rfl (lv_room (Nat.le_of_ble_eq_true rfl)) dL_isNeeded_228 ⟨Nat.le_of_ble_eq_true rfl, Nat.le_of_ble_eq_true rfl⟩) hP hD hS hA [0, 1, 2, 3, 4, 5, 6, 7, 8, 9, 10, 11] [] [0, 1, 2, 3, 4, 5, 6, 7, 8, 9, 10, 11] rfl rfl (by decide) (by decide) rfl rfl (by decide) (fun H locs hP hD hS => ?_)
      refine lv_iconst (v := 2) hx hb dL_isNeeded_231 (by decide) ?_
      refine z_icmp_ne (tgt := 270) (P := True) hx hb dL_isNeeded_232 (by decide) (iff_of_true (rfl) trivial) (fun c232 => (show False from c232 trivial).elim) (fun c232 => ?_)
      refine lv_aload_n hx hb dL_isNeeded_235 rfl (lv_at hl 11 rfl) ?_
      refine lv_bipush (v := 43) hx hb dL_isNeeded_236 (by decide) ?_
      refine z_cmi (wr := []) (ws' := [(x0, .inr (3, [.ref a0, .ref b0, .ref d0, .ref e1, .ref e2])), (a0, .inr (0, [.ref a1, .ref a2, .ref a3, .ref a4, .int (nI hz), .int (nI mv), .int tu, .int rf])), (a1, .inl (cI, 36, .inl (upd fh f (nI dd)))), (a2, .inl (cI, 36, .inl (upd fo f 0))), (a3, .inl (cI, 36, .inl fc)), (a4, .inl (cI, 2, .inl fs)), (b0, .inr (1, [.ref b1, .int (nI (((0 + 1) + 1) + 1))])), (b1, .inl (cI, 60, .inl (upd (upd (upd (FX fx f dd) 0 (nI (97 + (f / 6)))) (0 + 1) (nI (49 + (f % 6)))) ((0 + 1) + 1) 43))), (d0, .inr (2, [.ref d1, .int (nI (pRo (pRo od sz6) (pRz sz6))), .int (nI (pRz (pRz sz6)))])), (d1, .inl (cI, 684, .inl (va_cpy (cG (upd fh f 0) (upd fo f (-1)) fc fs hz mv tu rf) (va_cpy (cG fh fo fc fs hz mv tu rf) fn 0 ((od + sz6) % 6 * 114) 114) 0 (((pRo od sz6) + (pRz sz6)) % 6 * 114) 114))), (e1, .inl (cI, 228, .inl (va_cpy (cG fh fo fc fs hz mv tu rf) fl 0 (0 * 114) 114))), (e2, .inl (cZ, 2, .inl (upd fk 0 1)))]) (va_runV (As := [.int 43]) (rest := []) ⟨hx, hb, hml, hown, hts⟩ (c_X4_append_ok l D cI cZ cL _ (x0 := x0) (e1 := e1) (e2 := e2) (fl := (va_cpy (cG fh fo fc fs hz mv tu rf) fl 0 (0 * 114) 114)) (fk := (upd fk 0 1)) (a0 := a0) (a1 := a1) (a2 := a2) (a3 := a3) (a4 := a4) (fh := (upd fh f (nI dd))) (fo := (upd fo f 0)) (fc := fc) (fs := fs) (hz := hz) (mv := mv) (tu := tu) (rf := rf) (b0 := b0) (b1 := b1) (fx := (upd (upd (FX fx f dd) 0 (nI (97 + (f / 6)))) (0 + 1) (nI (49 + (f % 6))))) (ln := ((0 + 1) + 1)) (d0 := d0) (d1 := d1) (fn := (va_cpy (cG (upd fh f 0) (upd fo f (-1)) fc fs hz mv tu rf) (va_cpy (cG fh fo fc fs hz mv tu rf) fn 0 ((od + sz6) % 6 * 114) 114) 0 (((pRo od sz6) + (pRz sz6)) % 6 * 114) 114)) (od := (pRo (pRo od sz6) (pRz sz6))) (sz6 := (pRz (pRz sz6))) (p0 := 43) (h33 := (by first | decide | exact ap_lo (by omega) (by omega))) (h126 := (by first | decide | exact ap_hi (by omega))) (hfu := by omega)) (cwV 1 hts gL_isNeeded_X4_append rfl rfl rfl (by decide +kernel) ⟨Nat.le_of_ble_eq_true rfl, Nat.le_of_ble_eq_true rfl⟩) (z_preMVn hN hK (hP.sub [0, 1, 2, 3, 4, 5, 6, 7, 8, 9, 10, 11] rfl) (hD.sub [0, 1, 2, 3, 4, 5, 6, 7, 8, 9, 10, 11] (by decide) rfl) 0 3 rfl rfl) rfl rfl hl.1 rfl (lv_room (Nat.le_of_ble_eq_true rfl)) dL_isNeeded_238 ⟨Nat.le_of_ble_eq_true rfl, Nat.le_of_ble_eq_true rfl⟩) hP hD hS hA [0, 1, 2, 3, 4, 5, 6, 7, 8, 9, 10, 11] [] [0, 1, 2, 3, 4, 5, 6, 7, 8, 9, 10, 11] rfl rfl (by decide) (by decide) rfl rfl (by decide) (fun H locs hP hD hS => ?_)
      refine lv_iconst (v := 3) hx hb dL_isNeeded_241 (by decide) ?_
      refine z_icmp_ne (tgt := 270) (P := True) hx hb dL_isNeeded_242 (by decide) (iff_of_true (rfl) trivial) (fun c242 => (show False from c242 trivial).elim) (fun c242 => ?_)
      refine lv_aload_n hx hb dL_isNeeded_245 rfl (lv_at hl 11 rfl) ?_
      refine lv_bipush (v := 48) hx hb dL_isNeeded_246 (by decide) ?_
      refine lv_iload hx hb dL_isNeeded_248 (lv_at hl 0 rfl) ?_
      refine z_iadd (v := nI (48 + (dd + 1))) hx hb dL_isNeeded_250 (nI_add (48) ((dd + 1))) ?_
      refine z_cmi (wr := []) (ws' := [(x0, .inr (3, [.ref a0, .ref b0, .ref d0, .ref e1, .ref e2])), (a0, .inr (0, [.ref a1, .ref a2, .ref a3, .ref a4, .int (nI hz), .int (nI mv), .int tu, .int rf])), (a1, .inl (cI, 36, .inl (upd fh f (nI dd)))), (a2, .inl (cI, 36, .inl (upd fo f 0))), (a3, .inl (cI, 36, .inl fc)), (a4, .inl (cI, 2, .inl fs)), (b0, .inr (1, [.ref b1, .int (nI ((((0 + 1) + 1) + 1) + 1))])), (b1, .inl (cI, 60, .inl (upd (upd (upd (upd (FX fx f dd) 0 (nI (97 + (f / 6)))) (0 + 1) (nI (49 + (f % 6)))) ((0 + 1) + 1) 43) (((0 + 1) + 1) + 1) (nI (48 + (dd + 1)))))), (d0, .inr (2, [.ref d1, .int (nI (pRo (pRo od sz6) (pRz sz6))), .int (nI (pRz (pRz sz6)))])), (d1, .inl (cI, 684, .inl (va_cpy (cG (upd fh f 0) (upd fo f (-1)) fc fs hz mv tu rf) (va_cpy (cG fh fo fc fs hz mv tu rf) fn 0 ((od + sz6) % 6 * 114) 114) 0 (((pRo od sz6) + (pRz sz6)) % 6 * 114) 114))), (e1, .inl (cI, 228, .inl (va_cpy (cG fh fo fc fs hz mv tu rf) fl 0 (0 * 114) 114))), (e2, .inl (cZ, 2, .inl (upd fk 0 1)))]) (va_runV (As := [.int (nI (48 + (dd + 1)))]) (rest := []) ⟨hx, hb, hml, hown, hts⟩ (c_X4_append_ok l D cI cZ cL _ (x0 := x0) (e1 := e1) (e2 := e2) (fl := (va_cpy (cG fh fo fc fs hz mv tu rf) fl 0 (0 * 114) 114)) (fk := (upd fk 0 1)) (a0 := a0) (a1 := a1) (a2 := a2) (a3 := a3) (a4 := a4) (fh := (upd fh f (nI dd))) (fo := (upd fo f 0)) (fc := fc) (fs := fs) (hz := hz) (mv := mv) (tu := tu) (rf := rf) (b0 := b0) (b1 := b1) (fx := (upd (upd (upd (FX fx f dd) 0 (nI (97 + (f / 6)))) (0 + 1) (nI (49 + (f % 6)))) ((0 + 1) + 1) 43)) (ln := (((0 + 1) + 1) + 1)) (d0 := d0) (d1 := d1) (fn := (va_cpy (cG (upd fh f 0) (upd fo f (-1)) fc fs hz mv tu rf) (va_cpy (cG fh fo fc fs hz mv tu rf) fn 0 ((od + sz6) % 6 * 114) 114) 0 (((pRo od sz6) + (pRz sz6)) % 6 * 114) 114)) (od := (pRo (pRo od sz6) (pRz sz6))) (sz6 := (pRz (pRz sz6))) (p0 := nI (48 + (dd + 1))) (h33 := (by first | decide | exact ap_lo (by omega) (by omega))) (h126 := (by first | decide | exact ap_hi (by omega))) (hfu := by omega)) (cwV 1 hts gL_isNeeded_X4_append rfl rfl rfl (by decide +kernel) ⟨Nat.le_of_ble_eq_true rfl, Nat.le_of_ble_eq_true rfl⟩) (z_preMVn hN hK (hP.sub [0, 1, 2, 3, 4, 5, 6, 7, 8, 9, 10, 11] rfl) (hD.sub [0, 1, 2, 3, 4, 5, 6, 7, 8, 9, 10, 11] (by decide) rfl) 0 3 rfl rfl) rfl rfl hl.1 rfl (lv_room (Nat.le_of_ble_eq_true rfl)) dL_isNeeded_251 ⟨Nat.le_of_ble_eq_true rfl, Nat.le_of_ble_eq_true rfl⟩) hP hD hS hA [0, 1, 2, 3, 4, 5, 6, 7, 8, 9, 10, 11] [] [0, 1, 2, 3, 4, 5, 6, 7, 8, 9, 10, 11] rfl rfl (by decide) (by decide) rfl rfl (by decide) (fun H locs hP hD hS => ?_)
      refine lv_iconst (v := 4) hx hb dL_isNeeded_254 (by decide) ?_
      refine z_icmp_ne (tgt := 270) (P := True) hx hb dL_isNeeded_255 (by decide) (iff_of_true (rfl) trivial) (fun c255 => (show False from c255 trivial).elim) (fun c255 => ?_)
      have hW9 : ([(x0, .inr (3, [.ref a0, .ref b0, .ref d0, .ref e1, .ref e2])), (a0, .inr (0, [.ref a1, .ref a2, .ref a3, .ref a4, .int (nI hz), .int (nI mv), .int tu, .int rf])), (a1, .inl (cI, 36, .inl (upd fh f (nI dd)))), (a2, .inl (cI, 36, .inl (upd fo f 0))), (a3, .inl (cI, 36, .inl fc)), (a4, .inl (cI, 2, .inl fs)), (b0, .inr (1, [.ref b1, .int (nI ((((0 + 1) + 1) + 1) + 1))])), (b1, .inl (cI, 60, .inl (upd (upd (upd (upd (FX fx f dd) 0 (nI (97 + (f / 6)))) (0 + 1) (nI (49 + (f % 6)))) ((0 + 1) + 1) 43) (((0 + 1) + 1) + 1) (nI (48 + (dd + 1)))))), (d0, .inr (2, [.ref d1, .int (nI (pRo (pRo od sz6) (pRz sz6))), .int (nI (pRz (pRz sz6)))])), (d1, .inl (cI, 684, .inl (va_cpy (cG (upd fh f 0) (upd fo f (-1)) fc fs hz mv tu rf) (va_cpy (cG fh fo fc fs hz mv tu rf) fn 0 ((od + sz6) % 6 * 114) 114) 0 (((pRo od sz6) + (pRz sz6)) % 6 * 114) 114))), (e1, .inl (cI, 228, .inl (va_cpy (cG fh fo fc fs hz mv tu rf) fl 0 (0 * 114) 114))), (e2, .inl (cZ, 2, .inl (upd fk 0 1)))] : va_W) = [(x0, .inr (3, [.ref a0, .ref b0, .ref d0, .ref e1, .ref e2])), (a0, .inr (0, [.ref a1, .ref a2, .ref a3, .ref a4, .int (nI hz), .int (nI mv), .int tu, .int rf])), (a1, .inl (cI, 36, .inl (upd fh f (nI dd)))), (a2, .inl (cI, 36, .inl (upd fo f 0))), (a3, .inl (cI, 36, .inl fc)), (a4, .inl (cI, 2, .inl fs)), (b0, .inr (1, [.ref b1, .int (nI 4)])), (b1, .inl (cI, 60, .inl (FX (FX fx f dd) f (dd + 1)))), (d0, .inr (2, [.ref d1, .int (nI (pRo (pRo od sz6) (pRz sz6))), .int (nI (pRz (pRz sz6)))])), (d1, .inl (cI, 684, .inl (va_cpy (cG (upd fh f 0) (upd fo f (-1)) fc fs hz mv tu rf) (va_cpy (cG fh fo fc fs hz mv tu rf) fn 0 ((od + sz6) % 6 * 114) 114) 0 (((pRo od sz6) + (pRz sz6)) % 6 * 114) 114))), (e1, .inl (cI, 228, .inl (va_cpy (cG fh fo fc fs hz mv tu rf) fl 0 (0 * 114) 114))), (e2, .inl (cZ, 2, .inl (upd fk 0 1)))] := rfl
      rw [hW9] at hP hD
      refine lv_aload_n hx hb dL_isNeeded_258 rfl (lv_at hl 11 rfl) ?_
      refine z_cmi (wr := []) (ws' := [(x0, .inr (3, [.ref a0, .ref b0, .ref d0, .ref e1, .ref e2])), (a0, .inr (0, [.ref a1, .ref a2, .ref a3, .ref a4, .int (nI hz), .int (nI mv), .int tu, .int rf])), (a1, .inl (cI, 36, .inl (cLo cEh (upd fh f (nI dd)) (FX (FX fx f dd) f (dd + 1)) ((4 + 1) / 5)))), (a2, .inl (cI, 36, .inl (cLo cEo (upd fo f 0) (FX (FX fx f dd) f (dd + 1)) ((4 + 1) / 5)))), (a3, .inl (cI, 36, .inl (cLo cEc fc (FX (FX fx f dd) f (dd + 1)) ((4 + 1) / 5)))), (a4, .inl (cI, 2, .inl fs)), (b0, .inr (1, [.ref b1, .int (nI 0)])), (b1, .inl (cI, 60, .inl (FX (FX fx f dd) f (dd + 1)))), (d0, .inr (2, [.ref d1, .int (nI (pRo (pRo (pRo od sz6) (pRz sz6)) (pRz (pRz sz6)))), .int (nI (pRz (pRz (pRz sz6))))])), (d1, .inl (cI, 684, .inl (va_cpy (cG (upd fh f (nI dd)) (upd fo f 0) fc fs hz mv tu rf) (va_cpy (cG (upd fh f 0) (upd fo f (-1)) fc fs hz mv tu rf) (va_cpy (cG fh fo fc fs hz mv tu rf) fn 0 ((od + sz6) % 6 * 114) 114) 0 (((pRo od sz6) + (pRz sz6)) % 6 * 114) 114) 0 (((pRo (pRo od sz6) (pRz sz6)) + (pRz (pRz sz6))) % 6 * 114) 114))), (e1, .inl (cI, 228, .inl (va_cpy (cG fh fo fc fs hz mv tu rf) fl 0 (0 * 114) 114))), (e2, .inl (cZ, 2, .inl (upd fk 0 1)))]) (va_runV (As := []) (rest := []) ⟨hx, hb, hml, hown, hts⟩ (c_X4_load_ok l D cI cZ cL _ (x0 := x0) (e1 := e1) (e2 := e2) (fl := (va_cpy (cG fh fo fc fs hz mv tu rf) fl 0 (0 * 114) 114)) (fk := (upd fk 0 1)) (a0 := a0) (a1 := a1) (a2 := a2) (a3 := a3) (a4 := a4) (fh := (upd fh f (nI dd))) (fo := (upd fo f 0)) (fc := fc) (fs := fs) (hz := hz) (mv := mv) (tu := tu) (rf := rf) (b0 := b0) (b1 := b1) (fx := (FX (FX fx f dd) f (dd + 1))) (ln := 4) (d0 := d0) (d1 := d1) (fn := (va_cpy (cG (upd fh f 0) (upd fo f (-1)) fc fs hz mv tu rf) (va_cpy (cG fh fo fc fs hz mv tu rf) fn 0 ((od + sz6) % 6 * 114) 114) 0 (((pRo od sz6) + (pRz sz6)) % 6 * 114) 114)) (od := (pRo (pRo od sz6) (pRz sz6))) (sz6 := (pRz (pRz sz6))) (hw := (fx_wh hf (by omega) (by omega))) (hln := by omega) (hod := by omega) (hs6 := by omega)) (cwV 0 hts gL_isNeeded_X4_load rfl rfl rfl (by decide +kernel) ⟨Nat.le_of_ble_eq_true rfl, Nat.le_of_ble_eq_true rfl⟩) (z_preMVn hN hK (hP.sub [0, 1, 2, 3, 4, 5, 6, 7, 8, 9, 10, 11] rfl) (hD.sub [0, 1, 2, 3, 4, 5, 6, 7, 8, 9, 10, 11] (by decide) rfl) 0 3 rfl rfl) rfl rfl hl.1 rfl (lv_room (Nat.le_of_ble_eq_true rfl)) dL_isNeeded_259 ⟨Nat.le_of_ble_eq_true rfl, Nat.le_of_ble_eq_true rfl⟩) hP hD hS hA [0, 1, 2, 3, 4, 5, 6, 7, 8, 9, 10, 11] [] [0, 1, 2, 3, 4, 5, 6, 7, 8, 9, 10, 11] rfl rfl (by decide) (by decide) rfl rfl (by decide) (fun H locs hP hD hS => ?_)
      refine z_top (y := nI (pOw (upd fo f 0) 0 + pOw (upd fo f 0) 1)) ((by rw [lo_o hf])) ?_
      have hW9 : ([(x0, .inr (3, [.ref a0, .ref b0, .ref d0, .ref e1, .ref e2])), (a0, .inr (0, [.ref a1, .ref a2, .ref a3, .ref a4, .int (nI hz), .int (nI mv), .int tu, .int rf])), (a1, .inl (cI, 36, .inl (cLo cEh (upd fh f (nI dd)) (FX (FX fx f dd) f (dd + 1)) ((4 + 1) / 5)))), (a2, .inl (cI, 36, .inl (cLo cEo (upd fo f 0) (FX (FX fx f dd) f (dd + 1)) ((4 + 1) / 5)))), (a3, .inl (cI, 36, .inl (cLo cEc fc (FX (FX fx f dd) f (dd + 1)) ((4 + 1) / 5)))), (a4, .inl (cI, 2, .inl fs)), (b0, .inr (1, [.ref b1, .int (nI 0)])), (b1, .inl (cI, 60, .inl (FX (FX fx f dd) f (dd + 1)))), (d0, .inr (2, [.ref d1, .int (nI (pRo (pRo (pRo od sz6) (pRz sz6)) (pRz (pRz sz6)))), .int (nI (pRz (pRz (pRz sz6))))])), (d1, .inl (cI, 684, .inl (va_cpy (cG (upd fh f (nI dd)) (upd fo f 0) fc fs hz mv tu rf) (va_cpy (cG (upd fh f 0) (upd fo f (-1)) fc fs hz mv tu rf) (va_cpy (cG fh fo fc fs hz mv tu rf) fn 0 ((od + sz6) % 6 * 114) 114) 0 (((pRo od sz6) + (pRz sz6)) % 6 * 114) 114) 0 (((pRo (pRo od sz6) (pRz sz6)) + (pRz (pRz sz6))) % 6 * 114) 114))), (e1, .inl (cI, 228, .inl (va_cpy (cG fh fo fc fs hz mv tu rf) fl 0 (0 * 114) 114))), (e2, .inl (cZ, 2, .inl (upd fk 0 1)))] : va_W) = [(x0, .inr (3, [.ref a0, .ref b0, .ref d0, .ref e1, .ref e2])), (a0, .inr (0, [.ref a1, .ref a2, .ref a3, .ref a4, .int (nI hz), .int (nI mv), .int tu, .int rf])), (a1, .inl (cI, 36, .inl (upd fh f (nI (dd + 1))))), (a2, .inl (cI, 36, .inl (upd fo f 0))), (a3, .inl (cI, 36, .inl fc)), (a4, .inl (cI, 2, .inl fs)), (b0, .inr (1, [.ref b1, .int (nI 0)])), (b1, .inl (cI, 60, .inl (FX (FX fx f dd) f (dd + 1)))), (d0, .inr (2, [.ref d1, .int (nI (pRo (pRo (pRo od sz6) (pRz sz6)) (pRz (pRz sz6)))), .int (nI (pRz (pRz (pRz sz6))))])), (d1, .inl (cI, 684, .inl (va_cpy (cG (upd fh f (nI dd)) (upd fo f 0) fc fs hz mv tu rf) (va_cpy (cG (upd fh f 0) (upd fo f (-1)) fc fs hz mv tu rf) (va_cpy (cG fh fo fc fs hz mv tu rf) fn 0 ((od + sz6) % 6 * 114) 114) 0 (((pRo od sz6) + (pRz sz6)) % 6 * 114) 114) 0 (((pRo (pRo od sz6) (pRz sz6)) + (pRz (pRz sz6))) % 6 * 114) 114))), (e1, .inl (cI, 228, .inl (va_cpy (cG fh fo fc fs hz mv tu rf) fl 0 (0 * 114) 114))), (e2, .inl (cZ, 2, .inl (upd fk 0 1)))] := by rw [lo_o hf, lo_h hf, lo_c]
      rw [hW9] at hP hD
      refine lv_iconst (v := 1) hx hb dL_isNeeded_262 (by decide) ?_
      refine z_icmp_lt (tgt := 270) (P := (pOw (upd fo f 0) 0 + pOw (upd fo f 0) 1) < 1) hx hb dL_isNeeded_263 (by decide) (nI_ltI (a := (pOw (upd fo f 0) 0 + pOw (upd fo f 0) 1)) (b := 1) (by omega) (by omega)) (fun c263 => (show False from absurd c263 (by omega)).elim) (fun c263 => ?_)
      refine lv_iconst (v := 1) hx hb dL_isNeeded_266 (by decide) ?_
      refine lv_goto (tgt := 271) hx hb dL_isNeeded_267 (by decide) ?_
      refine lv_istore (lv' := [(9, .int 1), (13, .int (nI (dd + 1))), (12, .int (nI (pSn (upd fh f 0) q hz))), (11, .int (nI tn)), (10, .int (nI (pOw fo 0 + pOw fo 1))), (8, .int (nI (dd + 1))), (7, .int (pBy (hz / 3) (nI (f / 6) - nI (q / 6)) (nI (f % 6) - nI (q % 6)))), (6, .int ((nI (f % 6)) - (nI (q % 6)))), (5, .int ((nI (f / 6)) - (nI (q / 6)))), (4, .int (nI (hz / 3))), (3, .int (nI (dd + 1))), (0, .ref x0), (1, .int (nI f)), (2, .int (nI q))]) hx hb dL_isNeeded_271 hl (by decide) rfl (fun ls hl => ?_)
      refine lv_iload hx hb dL_isNeeded_273 (lv_at hl 0 rfl) ?_
      refine z_if_eq (tgt := 305) (P := False) hx hb dL_isNeeded_275 (by decide) (by decide) (fun c275 => (show False from c275).elim) (fun c275 => ?_)
      refine lv_aload_n hx hb dL_isNeeded_278 rfl (lv_at hl 11 rfl) ?_
      refine lv_iload_n hx hb dL_isNeeded_279 rfl (lv_at hl 13 rfl) ?_
      refine lv_iconst (v := 5) hx hb dL_isNeeded_280 (by decide) ?_
      refine z_ci (va_runV (As := [.int (nI q), .int 5]) (rest := []) ⟨hx, hb, hml, hown, hts⟩ (c_X4_squareOf_ok l D cI cZ cL (x0 := x0) (e1 := e1) (e2 := e2) (fl := (va_cpy (cG fh fo fc fs hz mv tu rf) fl 0 (0 * 114) 114)) (fk := (upd fk 0 1)) (a0 := a0) (a1 := a1) (a2 := a2) (a3 := a3) (a4 := a4) (fh := (upd fh f (nI (dd + 1)))) (fo := (upd fo f 0)) (fc := fc) (fs := fs) (hz := hz) (mv := mv) (tu := tu) (rf := rf) (b0 := b0) (b1 := b1) (fx := (FX (FX fx f dd) f (dd + 1))) (ln := 0) (d0 := d0) (d1 := d1) (fn := (va_cpy (cG (upd fh f (nI dd)) (upd fo f 0) fc fs hz mv tu rf) (va_cpy (cG (upd fh f 0) (upd fo f (-1)) fc fs hz mv tu rf) (va_cpy (cG fh fo fc fs hz mv tu rf) fn 0 ((od + sz6) % 6 * 114) 114) 0 (((pRo od sz6) + (pRz sz6)) % 6 * 114) 114) 0 (((pRo (pRo od sz6) (pRz sz6)) + (pRz (pRz sz6))) % 6 * 114) 114)) (od := (pRo (pRo (pRo od sz6) (pRz sz6)) (pRz (pRz sz6)))) (sz6 := (pRz (pRz (pRz sz6)))) (q := q) (wh := 5) (hq := by omega) (hwh := by omega) (hhz := by omega)) (cwV 2 hts gL_isNeeded_X4_squareOf rfl rfl rfl (by decide +kernel) ⟨Nat.le_of_ble_eq_true rfl, Nat.le_of_ble_eq_true rfl⟩) (z_preVn hN hK (hP.sub [0, 1, 2, 3, 4, 5, 6, 7, 8, 9, 10, 11] rfl) 0 3 rfl rfl) rfl rfl hl.1 rfl (lv_room (Nat.le_of_ble_eq_true rfl)) dL_isNeeded_281 ⟨Nat.le_of_ble_eq_true rfl, Nat.le_of_ble_eq_true rfl⟩) ?_
      refine z_top (y := nI (pSn (upd fh f (nI (dd + 1))) q hz)) ((congrArg nI (pSn_T (II_put (n := (dd + 1)) (o := 0) hI f (Or.inl rfl) (by omega) (by omega)) hq hhz).symm)) ?_
      refine lv_iload hx hb dL_isNeeded_284 (lv_at hl 2 rfl) ?_
      refine lv_iload hx hb dL_isNeeded_286 (lv_at hl 1 rfl) ?_
      refine lv_iload_n hx hb dL_isNeeded_288 rfl (lv_at hl 10 rfl) ?_
      refine z_icmp_ne (tgt := 296) (P := (dd + 1) = (dd + 1)) hx hb dL_isNeeded_289 (by decide) (nI_eq (a := (dd + 1)) (b := (dd + 1)) (by omega) (by omega)) (fun c289 => (show False from c289 rfl).elim) (fun c289 => ?_)
      refine lv_iconst (v := 1) hx hb dL_isNeeded_292 (by decide) ?_
      refine lv_goto (tgt := 297) hx hb dL_isNeeded_293 (by decide) ?_
      refine z_iadd (v := nI ((pSn (upd fh f 0) q hz) + 1)) hx hb dL_isNeeded_297 (nI_add ((pSn (upd fh f 0) q hz)) (1)) ?_
      refine z_icmp_ne (tgt := 305) (P := True) hx hb dL_isNeeded_298 (by decide) (iff_of_true (congrArg nI (by rw [nd_sh hq hhz hd ehn hn9 (by omega), if_pos (by omega)])) trivial) (fun c298 => (show False from c298 trivial).elim) (fun c298 => ?_)
      refine lv_iconst (v := 1) hx hb dL_isNeeded_301 (by decide) ?_
      refine lv_goto (tgt := 306) hx hb dL_isNeeded_302 (by decide) ?_
      refine lv_istore (lv' := [(9, .int 1), (13, .int (nI (dd + 1))), (12, .int (nI (pSn (upd fh f 0) q hz))), (11, .int (nI tn)), (10, .int (nI (pOw fo 0 + pOw fo 1))), (8, .int (nI (dd + 1))), (7, .int (pBy (hz / 3) (nI (f / 6) - nI (q / 6)) (nI (f % 6) - nI (q % 6)))), (6, .int ((nI (f % 6)) - (nI (q % 6)))), (5, .int ((nI (f / 6)) - (nI (q / 6)))), (4, .int (nI (hz / 3))), (3, .int (nI (dd + 1))), (0, .ref x0), (1, .int (nI f)), (2, .int (nI q))]) hx hb dL_isNeeded_306 hl (by decide) rfl (fun ls hl => ?_)
      refine lv_iinc (v := nI ((dd + 1) + 1)) (lv' := [(13, .int (nI ((dd + 1) + 1))), (9, .int 1), (12, .int (nI (pSn (upd fh f 0) q hz))), (11, .int (nI tn)), (10, .int (nI (pOw fo 0 + pOw fo 1))), (8, .int (nI (dd + 1))), (7, .int (pBy (hz / 3) (nI (f / 6) - nI (q / 6)) (nI (f % 6) - nI (q % 6)))), (6, .int ((nI (f % 6)) - (nI (q % 6)))), (5, .int ((nI (f / 6)) - (nI (q / 6)))), (4, .int (nI (hz / 3))), (3, .int (nI (dd + 1))), (0, .ref x0), (1, .int (nI f)), (2, .int (nI q))]) hx hb dL_isNeeded_308 hl (k := 1) rfl (nI_1 ((dd + 1))) (by decide) rfl (fun ls hl => ?_)
      refine lv_goto (tgt := 189) hx hb dL_isNeeded_311 (by decide) ?_
      refine lv_iload hx hb dL_isNeeded_189 (lv_at hl 0 rfl) ?_
      refine lv_iload_n hx hb dL_isNeeded_191 rfl (lv_at hl 10 rfl) ?_
      refine z_icmp_gt (tgt := 314) (P := (dd + 1) < ((dd + 1) + 1)) hx hb dL_isNeeded_192 (by decide) (nI_ltI (a := (dd + 1)) (b := ((dd + 1) + 1)) (by omega) (by omega)) (fun c192 => ?_) (fun c192 => (show False from c192 (by omega)).elim)
      refine lv_iload hx hb dL_isNeeded_314 (lv_at hl 1 rfl) ?_
      refine z_if_eq (tgt := 338) (P := False) hx hb dL_isNeeded_316 (by decide) (by decide) (fun c316 => (show False from c316).elim) (fun c316 => ?_)
      refine lv_iload hx hb dL_isNeeded_319 (lv_at hl 3 rfl) ?_
      refine z_if_lt (tgt := 338) (P := tn < 0) hx hb dL_isNeeded_321 (by decide) (nI_ltI (a := tn) (b := 0) (by omega) (by omega)) (fun c321 => (show False from absurd c321 (by omega)).elim) (fun c321 => ?_)
      refine lv_aload_n hx hb dL_isNeeded_324 rfl (lv_at hl 11 rfl) ?_
      refine lv_iconst (v := 0) hx hb dL_isNeeded_325 (by decide) ?_
      refine z_cmi (wr := []) (ws' := [(x0, .inr (3, [.ref a0, .ref b0, .ref d0, .ref e1, .ref e2])), (a0, .inr (0, [.ref a1, .ref a2, .ref a3, .ref a4, .int (nI hz), .int (nI mv), .int ((va_cpy (cG fh fo fc fs hz mv tu rf) fl 0 (0 * 114) 114) ((0 * 114) + 108 + 2 + 2)), .int ((va_cpy (cG fh fo fc fs hz mv tu rf) fl 0 (0 * 114) 114) ((0 * 114) + 108 + 2 + 3))])), (a1, .inl (cI, 36, .inl (va_cpy (va_cpy (cG fh fo fc fs hz mv tu rf) fl 0 (0 * 114) 114) (upd fh f (nI (dd + 1))) (0 * 114) 0 36))), (a2, .inl (cI, 36, .inl (va_cpy (va_cpy (cG fh fo fc fs hz mv tu rf) fl 0 (0 * 114) 114) (upd fo f 0) ((0 * 114) + 36) 0 36))), (a3, .inl (cI, 36, .inl (va_cpy (va_cpy (cG fh fo fc fs hz mv tu rf) fl 0 (0 * 114) 114) fc ((0 * 114) + 72) 0 36))), (a4, .inl (cI, 2, .inl (va_cpy (va_cpy (cG fh fo fc fs hz mv tu rf) fl 0 (0 * 114) 114) fs ((0 * 114) + 108) 0 2))), (b0, .inr (1, [.ref b1, .int (nI 0)])), (b1, .inl (cI, 60, .inl (FX (FX fx f dd) f (dd + 1)))), (d0, .inr (2, [.ref d1, .int (nI (pRo (pRo (pRo (pRo od sz6) (pRz sz6)) (pRz (pRz sz6))) (pRz (pRz (pRz sz6))))), .int (nI (pRz (pRz (pRz (pRz sz6)))))])), (d1, .inl (cI, 684, .inl (va_cpy (cG (upd fh f (nI (dd + 1))) (upd fo f 0) fc fs hz mv tu rf) (va_cpy (cG (upd fh f (nI dd)) (upd fo f 0) fc fs hz mv tu rf) (va_cpy (cG (upd fh f 0) (upd fo f (-1)) fc fs hz mv tu rf) (va_cpy (cG fh fo fc fs hz mv tu rf) fn 0 ((od + sz6) % 6 * 114) 114) 0 (((pRo od sz6) + (pRz sz6)) % 6 * 114) 114) 0 (((pRo (pRo od sz6) (pRz sz6)) + (pRz (pRz sz6))) % 6 * 114) 114) 0 (((pRo (pRo (pRo od sz6) (pRz sz6)) (pRz (pRz sz6))) + (pRz (pRz (pRz sz6)))) % 6 * 114) 114))), (e1, .inl (cI, 228, .inl (va_cpy (cG fh fo fc fs hz mv tu rf) fl 0 (0 * 114) 114))), (e2, .inl (cZ, 2, .inl (upd fk 0 1)))]) (va_runV (As := [.int 0]) (rest := []) ⟨hx, hb, hml, hown, hts⟩ (c_X4_goBack_ok l D cI cZ cL _ (x0 := x0) (e1 := e1) (e2 := e2) (fl := (va_cpy (cG fh fo fc fs hz mv tu rf) fl 0 (0 * 114) 114)) (fk := (upd fk 0 1)) (a0 := a0) (a1 := a1) (a2 := a2) (a3 := a3) (a4 := a4) (fh := (upd fh f (nI (dd + 1)))) (fo := (upd fo f 0)) (fc := fc) (fs := fs) (hz := hz) (mv := mv) (tu := tu) (rf := rf) (b0 := b0) (b1 := b1) (fx := (FX (FX fx f dd) f (dd + 1))) (ln := 0) (d0 := d0) (d1 := d1) (fn := (va_cpy (cG (upd fh f (nI dd)) (upd fo f 0) fc fs hz mv tu rf) (va_cpy (cG (upd fh f 0) (upd fo f (-1)) fc fs hz mv tu rf) (va_cpy (cG fh fo fc fs hz mv tu rf) fn 0 ((od + sz6) % 6 * 114) 114) 0 (((pRo od sz6) + (pRz sz6)) % 6 * 114) 114) 0 (((pRo (pRo od sz6) (pRz sz6)) + (pRz (pRz sz6))) % 6 * 114) 114)) (od := (pRo (pRo (pRo od sz6) (pRz sz6)) (pRz (pRz sz6)))) (sz6 := (pRz (pRz (pRz sz6)))) (sl := 0) (hz2 := hz) (mv2 := mv) (hsl := by omega) (hgk := (gk_1 _)) (hh2 := gb_z) (hm2 := gb_m) (hod := by omega) (hs6 := by omega)) (cwV 1 hts gL_isNeeded_X4_goBack rfl rfl rfl (by decide +kernel) ⟨Nat.le_of_ble_eq_true rfl, Nat.le_of_ble_eq_true rfl⟩) (z_preMVn hN hK (hP.sub [0, 1, 2, 3, 4, 5, 6, 7, 8, 9, 10, 11] rfl) (hD.sub [0, 1, 2, 3, 4, 5, 6, 7, 8, 9, 10, 11] (by decide) rfl) 0 3 rfl rfl) rfl rfl hl.1 rfl (lv_room (Nat.le_of_ble_eq_true rfl)) dL_isNeeded_326 ⟨Nat.le_of_ble_eq_true rfl, Nat.le_of_ble_eq_true rfl⟩) hP hD hS hA [0, 1, 2, 3, 4, 5, 6, 7, 8, 9, 10, 11] [] [0, 1, 2, 3, 4, 5, 6, 7, 8, 9, 10, 11] rfl rfl (by decide) (by decide) rfl rfl (by decide) (fun H locs hP hD hS => ?_)
      refine z_top (y := nI (pOw fo 0 + pOw fo 1)) (gb_ow) ?_
      refine lv_iload hx hb dL_isNeeded_329 (lv_at hl 4 rfl) ?_
      refine z_icmp_ne (tgt := 338) (P := True) hx hb dL_isNeeded_331 (by decide) (iff_of_true (rfl) trivial) (fun c331 => (show False from c331 trivial).elim) (fun c331 => ?_)
      refine lv_iconst (v := 1) hx hb dL_isNeeded_334 (by decide) ?_
      refine lv_goto (tgt := 339) hx hb dL_isNeeded_335 (by decide) ?_
      have hE9 : EE cI cZ x0 a0 a1 a2 a3 a4 b0 b1 d0 d1 e1 e2 [(x0, .inr (3, [.ref a0, .ref b0, .ref d0, .ref e1, .ref e2])), (a0, .inr (0, [.ref a1, .ref a2, .ref a3, .ref a4, .int (nI hz), .int (nI mv), .int ((va_cpy (cG fh fo fc fs hz mv tu rf) fl 0 (0 * 114) 114) ((0 * 114) + 108 + 2 + 2)), .int ((va_cpy (cG fh fo fc fs hz mv tu rf) fl 0 (0 * 114) 114) ((0 * 114) + 108 + 2 + 3))])), (a1, .inl (cI, 36, .inl (va_cpy (va_cpy (cG fh fo fc fs hz mv tu rf) fl 0 (0 * 114) 114) (upd fh f (nI (dd + 1))) (0 * 114) 0 36))), (a2, .inl (cI, 36, .inl (va_cpy (va_cpy (cG fh fo fc fs hz mv tu rf) fl 0 (0 * 114) 114) (upd fo f 0) ((0 * 114) + 36) 0 36))), (a3, .inl (cI, 36, .inl (va_cpy (va_cpy (cG fh fo fc fs hz mv tu rf) fl 0 (0 * 114) 114) fc ((0 * 114) + 72) 0 36))), (a4, .inl (cI, 2, .inl (va_cpy (va_cpy (cG fh fo fc fs hz mv tu rf) fl 0 (0 * 114) 114) fs ((0 * 114) + 108) 0 2))), (b0, .inr (1, [.ref b1, .int (nI 0)])), (b1, .inl (cI, 60, .inl (FX (FX fx f dd) f (dd + 1)))), (d0, .inr (2, [.ref d1, .int (nI (pRo (pRo (pRo (pRo od sz6) (pRz sz6)) (pRz (pRz sz6))) (pRz (pRz (pRz sz6))))), .int (nI (pRz (pRz (pRz (pRz sz6)))))])), (d1, .inl (cI, 684, .inl (va_cpy (cG (upd fh f (nI (dd + 1))) (upd fo f 0) fc fs hz mv tu rf) (va_cpy (cG (upd fh f (nI dd)) (upd fo f 0) fc fs hz mv tu rf) (va_cpy (cG (upd fh f 0) (upd fo f (-1)) fc fs hz mv tu rf) (va_cpy (cG fh fo fc fs hz mv tu rf) fn 0 ((od + sz6) % 6 * 114) 114) 0 (((pRo od sz6) + (pRz sz6)) % 6 * 114) 114) 0 (((pRo (pRo od sz6) (pRz sz6)) + (pRz (pRz sz6))) % 6 * 114) 114) 0 (((pRo (pRo (pRo od sz6) (pRz sz6)) (pRz (pRz sz6))) + (pRz (pRz (pRz sz6)))) % 6 * 114) 114))), (e1, .inl (cI, 228, .inl (va_cpy (cG fh fo fc fs hz mv tu rf) fl 0 (0 * 114) 114))), (e2, .inl (cZ, 2, .inl (upd fk 0 1)))] := ⟨(va_cpy (va_cpy (cG fh fo fc fs hz mv tu rf) fl 0 (0 * 114) 114) (upd fh f (nI (dd + 1))) (0 * 114) 0 36), (va_cpy (va_cpy (cG fh fo fc fs hz mv tu rf) fl 0 (0 * 114) 114) (upd fo f 0) ((0 * 114) + 36) 0 36), (va_cpy (va_cpy (cG fh fo fc fs hz mv tu rf) fl 0 (0 * 114) 114) fc ((0 * 114) + 72) 0 36), (va_cpy (va_cpy (cG fh fo fc fs hz mv tu rf) fl 0 (0 * 114) 114) fs ((0 * 114) + 108) 0 2), (va_cpy (cG (upd fh f (nI (dd + 1))) (upd fo f 0) fc fs hz mv tu rf) (va_cpy (cG (upd fh f (nI dd)) (upd fo f 0) fc fs hz mv tu rf) (va_cpy (cG (upd fh f 0) (upd fo f (-1)) fc fs hz mv tu rf) (va_cpy (cG fh fo fc fs hz mv tu rf) fn 0 ((od + sz6) % 6 * 114) 114) 0 (((pRo od sz6) + (pRz sz6)) % 6 * 114) 114) 0 (((pRo (pRo od sz6) (pRz sz6)) + (pRz (pRz sz6))) % 6 * 114) 114) 0 (((pRo (pRo (pRo od sz6) (pRz sz6)) (pRz (pRz sz6))) + (pRz (pRz (pRz sz6)))) % 6 * 114) 114), (va_cpy (cG fh fo fc fs hz mv tu rf) fl 0 (0 * 114) 114), (upd fk 0 1), (FX (FX fx f dd) f (dd + 1)), hz, mv, (pRo (pRo (pRo (pRo od sz6) (pRz sz6)) (pRz (pRz sz6))) (pRz (pRz (pRz sz6)))), (pRz (pRz (pRz (pRz sz6)))), ((va_cpy (cG fh fo fc fs hz mv tu rf) fl 0 (0 * 114) 114) ((0 * 114) + 108 + 2 + 2)), ((va_cpy (cG fh fo fc fs hz mv tu rf) fl 0 (0 * 114) 114) ((0 * 114) + 108 + 2 + 3)), JJ_mk (II_ext hI (fun k hk => ⟨gb_h hk, gb_o hk⟩)) (CC_ext hC (fun k hk => gb_c hk)) hhz hmv hod4 hs64, rfl⟩
      have hP9 : va_P D vwCl [(x0, .inr (3, [.ref a0, .ref b0, .ref d0, .ref e1, .ref e2])), (a0, .inr (0, [.ref a1, .ref a2, .ref a3, .ref a4, .int (nI hz), .int (nI mv), .int ((va_cpy (cG fh fo fc fs hz mv tu rf) fl 0 (0 * 114) 114) ((0 * 114) + 108 + 2 + 2)), .int ((va_cpy (cG fh fo fc fs hz mv tu rf) fl 0 (0 * 114) 114) ((0 * 114) + 108 + 2 + 3))])), (a1, .inl (cI, 36, .inl (va_cpy (va_cpy (cG fh fo fc fs hz mv tu rf) fl 0 (0 * 114) 114) (upd fh f (nI (dd + 1))) (0 * 114) 0 36))), (a2, .inl (cI, 36, .inl (va_cpy (va_cpy (cG fh fo fc fs hz mv tu rf) fl 0 (0 * 114) 114) (upd fo f 0) ((0 * 114) + 36) 0 36))), (a3, .inl (cI, 36, .inl (va_cpy (va_cpy (cG fh fo fc fs hz mv tu rf) fl 0 (0 * 114) 114) fc ((0 * 114) + 72) 0 36))), (a4, .inl (cI, 2, .inl (va_cpy (va_cpy (cG fh fo fc fs hz mv tu rf) fl 0 (0 * 114) 114) fs ((0 * 114) + 108) 0 2))), (b0, .inr (1, [.ref b1, .int (nI 0)])), (b1, .inl (cI, 60, .inl (FX (FX fx f dd) f (dd + 1)))), (d0, .inr (2, [.ref d1, .int (nI (pRo (pRo (pRo (pRo od sz6) (pRz sz6)) (pRz (pRz sz6))) (pRz (pRz (pRz sz6))))), .int (nI (pRz (pRz (pRz (pRz sz6)))))])), (d1, .inl (cI, 684, .inl (va_cpy (cG (upd fh f (nI (dd + 1))) (upd fo f 0) fc fs hz mv tu rf) (va_cpy (cG (upd fh f (nI dd)) (upd fo f 0) fc fs hz mv tu rf) (va_cpy (cG (upd fh f 0) (upd fo f (-1)) fc fs hz mv tu rf) (va_cpy (cG fh fo fc fs hz mv tu rf) fn 0 ((od + sz6) % 6 * 114) 114) 0 (((pRo od sz6) + (pRz sz6)) % 6 * 114) 114) 0 (((pRo (pRo od sz6) (pRz sz6)) + (pRz (pRz sz6))) % 6 * 114) 114) 0 (((pRo (pRo (pRo od sz6) (pRz sz6)) (pRz (pRz sz6))) + (pRz (pRz (pRz sz6)))) % 6 * 114) 114))), (e1, .inl (cI, 228, .inl (va_cpy (cG fh fo fc fs hz mv tu rf) fl 0 (0 * 114) 114))), (e2, .inl (cZ, 2, .inl (upd fk 0 1)))] _ := hP
      have hD9 : va_D A [(x0, .inr (3, [.ref a0, .ref b0, .ref d0, .ref e1, .ref e2])), (a0, .inr (0, [.ref a1, .ref a2, .ref a3, .ref a4, .int (nI hz), .int (nI mv), .int ((va_cpy (cG fh fo fc fs hz mv tu rf) fl 0 (0 * 114) 114) ((0 * 114) + 108 + 2 + 2)), .int ((va_cpy (cG fh fo fc fs hz mv tu rf) fl 0 (0 * 114) 114) ((0 * 114) + 108 + 2 + 3))])), (a1, .inl (cI, 36, .inl (va_cpy (va_cpy (cG fh fo fc fs hz mv tu rf) fl 0 (0 * 114) 114) (upd fh f (nI (dd + 1))) (0 * 114) 0 36))), (a2, .inl (cI, 36, .inl (va_cpy (va_cpy (cG fh fo fc fs hz mv tu rf) fl 0 (0 * 114) 114) (upd fo f 0) ((0 * 114) + 36) 0 36))), (a3, .inl (cI, 36, .inl (va_cpy (va_cpy (cG fh fo fc fs hz mv tu rf) fl 0 (0 * 114) 114) fc ((0 * 114) + 72) 0 36))), (a4, .inl (cI, 2, .inl (va_cpy (va_cpy (cG fh fo fc fs hz mv tu rf) fl 0 (0 * 114) 114) fs ((0 * 114) + 108) 0 2))), (b0, .inr (1, [.ref b1, .int (nI 0)])), (b1, .inl (cI, 60, .inl (FX (FX fx f dd) f (dd + 1)))), (d0, .inr (2, [.ref d1, .int (nI (pRo (pRo (pRo (pRo od sz6) (pRz sz6)) (pRz (pRz sz6))) (pRz (pRz (pRz sz6))))), .int (nI (pRz (pRz (pRz (pRz sz6)))))])), (d1, .inl (cI, 684, .inl (va_cpy (cG (upd fh f (nI (dd + 1))) (upd fo f 0) fc fs hz mv tu rf) (va_cpy (cG (upd fh f (nI dd)) (upd fo f 0) fc fs hz mv tu rf) (va_cpy (cG (upd fh f 0) (upd fo f (-1)) fc fs hz mv tu rf) (va_cpy (cG fh fo fc fs hz mv tu rf) fn 0 ((od + sz6) % 6 * 114) 114) 0 (((pRo od sz6) + (pRz sz6)) % 6 * 114) 114) 0 (((pRo (pRo od sz6) (pRz sz6)) + (pRz (pRz sz6))) % 6 * 114) 114) 0 (((pRo (pRo (pRo od sz6) (pRz sz6)) (pRz (pRz sz6))) + (pRz (pRz (pRz sz6)))) % 6 * 114) 114))), (e1, .inl (cI, 228, .inl (va_cpy (cG fh fo fc fs hz mv tu rf) fl 0 (0 * 114) 114))), (e2, .inl (cZ, 2, .inl (upd fk 0 1)))] := hD
      subst hAe
      exact z_mzretE hx hb hr hlocks dL_isNeeded_339 (rfl) hE9 hP9 hD9 hS
    · skip
      refine lv_iload hx hb dL_isNeeded_36 (lv_at hl 2 rfl) ?_
      refine z_if_ne (tgt := 51) (P := (hz / 3) = 0) hx hb dL_isNeeded_38 (by decide) (nI_eq (a := (hz / 3)) (b := 0) (by omega) (by omega)) (fun c38 => ?_) (fun c38 => ?_)
      · skip
        refine lv_iload hx hb dL_isNeeded_51 (lv_at hl 2 rfl) ?_
        refine lv_iconst (v := 1) hx hb dL_isNeeded_53 (by decide) ?_
        refine z_icmp_ne (tgt := 67) (P := (hz / 3) = 1) hx hb dL_isNeeded_54 (by decide) (nI_eq (a := (hz / 3)) (b := 1) (by omega) (by omega)) (fun c54 => ?_) (fun c54 => ?_)
        · skip
          refine lv_iload hx hb dL_isNeeded_67 (lv_at hl 2 rfl) ?_
          refine lv_iconst (v := 2) hx hb dL_isNeeded_69 (by decide) ?_
          refine z_icmp_ne (tgt := 84) (P := (hz / 3) = 2) hx hb dL_isNeeded_70 (by decide) (nI_eq (a := (hz / 3)) (b := 2) (by omega) (by omega)) (fun c70 => ?_) (fun c70 => ?_)
          · skip
            refine lv_iload hx hb dL_isNeeded_84 (lv_at hl 2 rfl) ?_
            refine lv_iconst (v := 3) hx hb dL_isNeeded_86 (by decide) ?_
            refine z_icmp_ne (tgt := 101) (P := (hz / 3) = 3) hx hb dL_isNeeded_87 (by decide) (nI_eq (a := (hz / 3)) (b := 3) (by omega) (by omega)) (fun c87 => ?_) (fun c87 => ?_)
            · skip
              refine lv_iconst (v := 0) hx hb dL_isNeeded_101 (by decide) ?_
              exact z_top (by first | exact by_c0 c38 c43 | exact by_c1 c54 c59 | exact by_c2 c70 c75 | exact by_c3 c87 c92 | exact by_n (by first | exact fun z => c38 z.1 | exact fun z => c43 z.2) (by first | exact fun z => c54 z.1 | exact fun z => c59 z.2) (by first | exact fun z => c70 z.1 | exact fun z => c75 z.2) (by first | exact fun z => c87 z.1 | exact fun z => c92 z.2)) J36
            · skip
              refine lv_iload hx hb dL_isNeeded_90 (lv_at hl 0 rfl) ?_
              refine z_if_ne (tgt := 101) (P := ((nI (f % 6)) - (nI (q % 6))) = 0) hx hb dL_isNeeded_92 (by decide) (Iff.rfl) (fun c92 => ?_) (fun c92 => ?_)
              · skip
                refine lv_iconst (v := 0) hx hb dL_isNeeded_101 (by decide) ?_
                exact z_top (by first | exact by_c0 c38 c43 | exact by_c1 c54 c59 | exact by_c2 c70 c75 | exact by_c3 c87 c92 | exact by_n (by first | exact fun z => c38 z.1 | exact fun z => c43 z.2) (by first | exact fun z => c54 z.1 | exact fun z => c59 z.2) (by first | exact fun z => c70 z.1 | exact fun z => c75 z.2) (by first | exact fun z => c87 z.1 | exact fun z => c92 z.2)) J36
              · skip
                refine lv_iload hx hb dL_isNeeded_95 (lv_at hl 1 rfl) ?_
                refine lv_ineg hx hb dL_isNeeded_97 ?_
                refine lv_goto (tgt := 102) hx hb dL_isNeeded_98 (by decide) ?_
                exact z_top (by first | exact by_c0 c38 c43 | exact by_c1 c54 c59 | exact by_c2 c70 c75 | exact by_c3 c87 c92 | exact by_n (by first | exact fun z => c38 z.1 | exact fun z => c43 z.2) (by first | exact fun z => c54 z.1 | exact fun z => c59 z.2) (by first | exact fun z => c70 z.1 | exact fun z => c75 z.2) (by first | exact fun z => c87 z.1 | exact fun z => c92 z.2)) J36
          · skip
            refine lv_iload hx hb dL_isNeeded_73 (lv_at hl 1 rfl) ?_
            refine z_if_ne (tgt := 84) (P := ((nI (f / 6)) - (nI (q / 6))) = 0) hx hb dL_isNeeded_75 (by decide) (Iff.rfl) (fun c75 => ?_) (fun c75 => ?_)
            · skip
              refine lv_iload hx hb dL_isNeeded_84 (lv_at hl 2 rfl) ?_
              refine lv_iconst (v := 3) hx hb dL_isNeeded_86 (by decide) ?_
              refine z_icmp_ne (tgt := 101) (P := (hz / 3) = 3) hx hb dL_isNeeded_87 (by decide) (nI_eq (a := (hz / 3)) (b := 3) (by omega) (by omega)) (fun c87 => ?_) (fun c87 => ?_)
              · skip
                refine lv_iconst (v := 0) hx hb dL_isNeeded_101 (by decide) ?_
                exact z_top (by first | exact by_c0 c38 c43 | exact by_c1 c54 c59 | exact by_c2 c70 c75 | exact by_c3 c87 c92 | exact by_n (by first | exact fun z => c38 z.1 | exact fun z => c43 z.2) (by first | exact fun z => c54 z.1 | exact fun z => c59 z.2) (by first | exact fun z => c70 z.1 | exact fun z => c75 z.2) (by first | exact fun z => c87 z.1 | exact fun z => c92 z.2)) J36
              · skip
                refine lv_iload hx hb dL_isNeeded_90 (lv_at hl 0 rfl) ?_
                refine z_if_ne (tgt := 101) (P := ((nI (f % 6)) - (nI (q % 6))) = 0) hx hb dL_isNeeded_92 (by decide) (Iff.rfl) (fun c92 => ?_) (fun c92 => ?_)
                · skip
                  refine lv_iconst (v := 0) hx hb dL_isNeeded_101 (by decide) ?_
                  exact z_top (by first | exact by_c0 c38 c43 | exact by_c1 c54 c59 | exact by_c2 c70 c75 | exact by_c3 c87 c92 | exact by_n (by first | exact fun z => c38 z.1 | exact fun z => c43 z.2) (by first | exact fun z => c54 z.1 | exact fun z => c59 z.2) (by first | exact fun z => c70 z.1 | exact fun z => c75 z.2) (by first | exact fun z => c87 z.1 | exact fun z => c92 z.2)) J36
                · skip
                  refine lv_iload hx hb dL_isNeeded_95 (lv_at hl 1 rfl) ?_
                  refine lv_ineg hx hb dL_isNeeded_97 ?_
                  refine lv_goto (tgt := 102) hx hb dL_isNeeded_98 (by decide) ?_
                  exact z_top (by first | exact by_c0 c38 c43 | exact by_c1 c54 c59 | exact by_c2 c70 c75 | exact by_c3 c87 c92 | exact by_n (by first | exact fun z => c38 z.1 | exact fun z => c43 z.2) (by first | exact fun z => c54 z.1 | exact fun z => c59 z.2) (by first | exact fun z => c70 z.1 | exact fun z => c75 z.2) (by first | exact fun z => c87 z.1 | exact fun z => c92 z.2)) J36
            · skip
              refine lv_iload hx hb dL_isNeeded_78 (lv_at hl 0 rfl) ?_
              refine lv_ineg hx hb dL_isNeeded_80 ?_
              refine lv_goto (tgt := 102) hx hb dL_isNeeded_81 (by decide) ?_
              exact z_top (by first | exact by_c0 c38 c43 | exact by_c1 c54 c59 | exact by_c2 c70 c75 | exact by_c3 c87 c92 | exact by_n (by first | exact fun z => c38 z.1 | exact fun z => c43 z.2) (by first | exact fun z => c54 z.1 | exact fun z => c59 z.2) (by first | exact fun z => c70 z.1 | exact fun z => c75 z.2) (by first | exact fun z => c87 z.1 | exact fun z => c92 z.2)) J36
        · skip
          refine lv_iload hx hb dL_isNeeded_57 (lv_at hl 0 rfl) ?_
          refine z_if_ne (tgt := 67) (P := ((nI (f % 6)) - (nI (q % 6))) = 0) hx hb dL_isNeeded_59 (by decide) (Iff.rfl) (fun c59 => ?_) (fun c59 => ?_)
          · skip
            refine lv_iload hx hb dL_isNeeded_67 (lv_at hl 2 rfl) ?_
            refine lv_iconst (v := 2) hx hb dL_isNeeded_69 (by decide) ?_
            refine z_icmp_ne (tgt := 84) (P := (hz / 3) = 2) hx hb dL_isNeeded_70 (by decide) (nI_eq (a := (hz / 3)) (b := 2) (by omega) (by omega)) (fun c70 => ?_) (fun c70 => ?_)
            · skip
              refine lv_iload hx hb dL_isNeeded_84 (lv_at hl 2 rfl) ?_
              refine lv_iconst (v := 3) hx hb dL_isNeeded_86 (by decide) ?_
              refine z_icmp_ne (tgt := 101) (P := (hz / 3) = 3) hx hb dL_isNeeded_87 (by decide) (nI_eq (a := (hz / 3)) (b := 3) (by omega) (by omega)) (fun c87 => ?_) (fun c87 => ?_)
              · skip
                refine lv_iconst (v := 0) hx hb dL_isNeeded_101 (by decide) ?_
                exact z_top (by first | exact by_c0 c38 c43 | exact by_c1 c54 c59 | exact by_c2 c70 c75 | exact by_c3 c87 c92 | exact by_n (by first | exact fun z => c38 z.1 | exact fun z => c43 z.2) (by first | exact fun z => c54 z.1 | exact fun z => c59 z.2) (by first | exact fun z => c70 z.1 | exact fun z => c75 z.2) (by first | exact fun z => c87 z.1 | exact fun z => c92 z.2)) J36
              · skip
                refine lv_iload hx hb dL_isNeeded_90 (lv_at hl 0 rfl) ?_
                refine z_if_ne (tgt := 101) (P := ((nI (f % 6)) - (nI (q % 6))) = 0) hx hb dL_isNeeded_92 (by decide) (Iff.rfl) (fun c92 => ?_) (fun c92 => ?_)
                · skip
                  refine lv_iconst (v := 0) hx hb dL_isNeeded_101 (by decide) ?_
                  exact z_top (by first | exact by_c0 c38 c43 | exact by_c1 c54 c59 | exact by_c2 c70 c75 | exact by_c3 c87 c92 | exact by_n (by first | exact fun z => c38 z.1 | exact fun z => c43 z.2) (by first | exact fun z => c54 z.1 | exact fun z => c59 z.2) (by first | exact fun z => c70 z.1 | exact fun z => c75 z.2) (by first | exact fun z => c87 z.1 | exact fun z => c92 z.2)) J36
                · skip
                  refine lv_iload hx hb dL_isNeeded_95 (lv_at hl 1 rfl) ?_
                  refine lv_ineg hx hb dL_isNeeded_97 ?_
                  refine lv_goto (tgt := 102) hx hb dL_isNeeded_98 (by decide) ?_
                  exact z_top (by first | exact by_c0 c38 c43 | exact by_c1 c54 c59 | exact by_c2 c70 c75 | exact by_c3 c87 c92 | exact by_n (by first | exact fun z => c38 z.1 | exact fun z => c43 z.2) (by first | exact fun z => c54 z.1 | exact fun z => c59 z.2) (by first | exact fun z => c70 z.1 | exact fun z => c75 z.2) (by first | exact fun z => c87 z.1 | exact fun z => c92 z.2)) J36
            · skip
              refine lv_iload hx hb dL_isNeeded_73 (lv_at hl 1 rfl) ?_
              refine z_if_ne (tgt := 84) (P := ((nI (f / 6)) - (nI (q / 6))) = 0) hx hb dL_isNeeded_75 (by decide) (Iff.rfl) (fun c75 => ?_) (fun c75 => ?_)
              · skip
                refine lv_iload hx hb dL_isNeeded_84 (lv_at hl 2 rfl) ?_
                refine lv_iconst (v := 3) hx hb dL_isNeeded_86 (by decide) ?_
                refine z_icmp_ne (tgt := 101) (P := (hz / 3) = 3) hx hb dL_isNeeded_87 (by decide) (nI_eq (a := (hz / 3)) (b := 3) (by omega) (by omega)) (fun c87 => ?_) (fun c87 => ?_)
                · skip
                  refine lv_iconst (v := 0) hx hb dL_isNeeded_101 (by decide) ?_
                  exact z_top (by first | exact by_c0 c38 c43 | exact by_c1 c54 c59 | exact by_c2 c70 c75 | exact by_c3 c87 c92 | exact by_n (by first | exact fun z => c38 z.1 | exact fun z => c43 z.2) (by first | exact fun z => c54 z.1 | exact fun z => c59 z.2) (by first | exact fun z => c70 z.1 | exact fun z => c75 z.2) (by first | exact fun z => c87 z.1 | exact fun z => c92 z.2)) J36
                · skip
                  refine lv_iload hx hb dL_isNeeded_90 (lv_at hl 0 rfl) ?_
                  refine z_if_ne (tgt := 101) (P := ((nI (f % 6)) - (nI (q % 6))) = 0) hx hb dL_isNeeded_92 (by decide) (Iff.rfl) (fun c92 => ?_) (fun c92 => ?_)
                  · skip
                    refine lv_iconst (v := 0) hx hb dL_isNeeded_101 (by decide) ?_
                    exact z_top (by first | exact by_c0 c38 c43 | exact by_c1 c54 c59 | exact by_c2 c70 c75 | exact by_c3 c87 c92 | exact by_n (by first | exact fun z => c38 z.1 | exact fun z => c43 z.2) (by first | exact fun z => c54 z.1 | exact fun z => c59 z.2) (by first | exact fun z => c70 z.1 | exact fun z => c75 z.2) (by first | exact fun z => c87 z.1 | exact fun z => c92 z.2)) J36
                  · skip
                    refine lv_iload hx hb dL_isNeeded_95 (lv_at hl 1 rfl) ?_
                    refine lv_ineg hx hb dL_isNeeded_97 ?_
                    refine lv_goto (tgt := 102) hx hb dL_isNeeded_98 (by decide) ?_
                    exact z_top (by first | exact by_c0 c38 c43 | exact by_c1 c54 c59 | exact by_c2 c70 c75 | exact by_c3 c87 c92 | exact by_n (by first | exact fun z => c38 z.1 | exact fun z => c43 z.2) (by first | exact fun z => c54 z.1 | exact fun z => c59 z.2) (by first | exact fun z => c70 z.1 | exact fun z => c75 z.2) (by first | exact fun z => c87 z.1 | exact fun z => c92 z.2)) J36
              · skip
                refine lv_iload hx hb dL_isNeeded_78 (lv_at hl 0 rfl) ?_
                refine lv_ineg hx hb dL_isNeeded_80 ?_
                refine lv_goto (tgt := 102) hx hb dL_isNeeded_81 (by decide) ?_
                exact z_top (by first | exact by_c0 c38 c43 | exact by_c1 c54 c59 | exact by_c2 c70 c75 | exact by_c3 c87 c92 | exact by_n (by first | exact fun z => c38 z.1 | exact fun z => c43 z.2) (by first | exact fun z => c54 z.1 | exact fun z => c59 z.2) (by first | exact fun z => c70 z.1 | exact fun z => c75 z.2) (by first | exact fun z => c87 z.1 | exact fun z => c92 z.2)) J36
          · skip
            refine lv_iload hx hb dL_isNeeded_62 (lv_at hl 1 rfl) ?_
            refine lv_goto (tgt := 102) hx hb dL_isNeeded_64 (by decide) ?_
            exact z_top (by first | exact by_c0 c38 c43 | exact by_c1 c54 c59 | exact by_c2 c70 c75 | exact by_c3 c87 c92 | exact by_n (by first | exact fun z => c38 z.1 | exact fun z => c43 z.2) (by first | exact fun z => c54 z.1 | exact fun z => c59 z.2) (by first | exact fun z => c70 z.1 | exact fun z => c75 z.2) (by first | exact fun z => c87 z.1 | exact fun z => c92 z.2)) J36
      · skip
        refine lv_iload hx hb dL_isNeeded_41 (lv_at hl 1 rfl) ?_
        refine z_if_ne (tgt := 51) (P := ((nI (f / 6)) - (nI (q / 6))) = 0) hx hb dL_isNeeded_43 (by decide) (Iff.rfl) (fun c43 => ?_) (fun c43 => ?_)
        · skip
          refine lv_iload hx hb dL_isNeeded_51 (lv_at hl 2 rfl) ?_
          refine lv_iconst (v := 1) hx hb dL_isNeeded_53 (by decide) ?_
          refine z_icmp_ne (tgt := 67) (P := (hz / 3) = 1) hx hb dL_isNeeded_54 (by decide) (nI_eq (a := (hz / 3)) (b := 1) (by omega) (by omega)) (fun c54 => ?_) (fun c54 => ?_)
          · skip
            refine lv_iload hx hb dL_isNeeded_67 (lv_at hl 2 rfl) ?_
            refine lv_iconst (v := 2) hx hb dL_isNeeded_69 (by decide) ?_
            refine z_icmp_ne (tgt := 84) (P := (hz / 3) = 2) hx hb dL_isNeeded_70 (by decide) (nI_eq (a := (hz / 3)) (b := 2) (by omega) (by omega)) (fun c70 => ?_) (fun c70 => ?_)
            · skip
              refine lv_iload hx hb dL_isNeeded_84 (lv_at hl 2 rfl) ?_
              refine lv_iconst (v := 3) hx hb dL_isNeeded_86 (by decide) ?_
              refine z_icmp_ne (tgt := 101) (P := (hz / 3) = 3) hx hb dL_isNeeded_87 (by decide) (nI_eq (a := (hz / 3)) (b := 3) (by omega) (by omega)) (fun c87 => ?_) (fun c87 => ?_)
              · skip
                refine lv_iconst (v := 0) hx hb dL_isNeeded_101 (by decide) ?_
                exact z_top (by first | exact by_c0 c38 c43 | exact by_c1 c54 c59 | exact by_c2 c70 c75 | exact by_c3 c87 c92 | exact by_n (by first | exact fun z => c38 z.1 | exact fun z => c43 z.2) (by first | exact fun z => c54 z.1 | exact fun z => c59 z.2) (by first | exact fun z => c70 z.1 | exact fun z => c75 z.2) (by first | exact fun z => c87 z.1 | exact fun z => c92 z.2)) J36
              · skip
                refine lv_iload hx hb dL_isNeeded_90 (lv_at hl 0 rfl) ?_
                refine z_if_ne (tgt := 101) (P := ((nI (f % 6)) - (nI (q % 6))) = 0) hx hb dL_isNeeded_92 (by decide) (Iff.rfl) (fun c92 => ?_) (fun c92 => ?_)
                · skip
                  refine lv_iconst (v := 0) hx hb dL_isNeeded_101 (by decide) ?_
                  exact z_top (by first | exact by_c0 c38 c43 | exact by_c1 c54 c59 | exact by_c2 c70 c75 | exact by_c3 c87 c92 | exact by_n (by first | exact fun z => c38 z.1 | exact fun z => c43 z.2) (by first | exact fun z => c54 z.1 | exact fun z => c59 z.2) (by first | exact fun z => c70 z.1 | exact fun z => c75 z.2) (by first | exact fun z => c87 z.1 | exact fun z => c92 z.2)) J36
                · skip
                  refine lv_iload hx hb dL_isNeeded_95 (lv_at hl 1 rfl) ?_
                  refine lv_ineg hx hb dL_isNeeded_97 ?_
                  refine lv_goto (tgt := 102) hx hb dL_isNeeded_98 (by decide) ?_
                  exact z_top (by first | exact by_c0 c38 c43 | exact by_c1 c54 c59 | exact by_c2 c70 c75 | exact by_c3 c87 c92 | exact by_n (by first | exact fun z => c38 z.1 | exact fun z => c43 z.2) (by first | exact fun z => c54 z.1 | exact fun z => c59 z.2) (by first | exact fun z => c70 z.1 | exact fun z => c75 z.2) (by first | exact fun z => c87 z.1 | exact fun z => c92 z.2)) J36
            · skip
              refine lv_iload hx hb dL_isNeeded_73 (lv_at hl 1 rfl) ?_
              refine z_if_ne (tgt := 84) (P := ((nI (f / 6)) - (nI (q / 6))) = 0) hx hb dL_isNeeded_75 (by decide) (Iff.rfl) (fun c75 => ?_) (fun c75 => ?_)
              · skip
                refine lv_iload hx hb dL_isNeeded_84 (lv_at hl 2 rfl) ?_
                refine lv_iconst (v := 3) hx hb dL_isNeeded_86 (by decide) ?_
                refine z_icmp_ne (tgt := 101) (P := (hz / 3) = 3) hx hb dL_isNeeded_87 (by decide) (nI_eq (a := (hz / 3)) (b := 3) (by omega) (by omega)) (fun c87 => ?_) (fun c87 => ?_)
                · skip
                  refine lv_iconst (v := 0) hx hb dL_isNeeded_101 (by decide) ?_
                  exact z_top (by first | exact by_c0 c38 c43 | exact by_c1 c54 c59 | exact by_c2 c70 c75 | exact by_c3 c87 c92 | exact by_n (by first | exact fun z => c38 z.1 | exact fun z => c43 z.2) (by first | exact fun z => c54 z.1 | exact fun z => c59 z.2) (by first | exact fun z => c70 z.1 | exact fun z => c75 z.2) (by first | exact fun z => c87 z.1 | exact fun z => c92 z.2)) J36
                · skip
                  refine lv_iload hx hb dL_isNeeded_90 (lv_at hl 0 rfl) ?_
                  refine z_if_ne (tgt := 101) (P := ((nI (f % 6)) - (nI (q % 6))) = 0) hx hb dL_isNeeded_92 (by decide) (Iff.rfl) (fun c92 => ?_) (fun c92 => ?_)
                  · skip
                    refine lv_iconst (v := 0) hx hb dL_isNeeded_101 (by decide) ?_
                    exact z_top (by first | exact by_c0 c38 c43 | exact by_c1 c54 c59 | exact by_c2 c70 c75 | exact by_c3 c87 c92 | exact by_n (by first | exact fun z => c38 z.1 | exact fun z => c43 z.2) (by first | exact fun z => c54 z.1 | exact fun z => c59 z.2) (by first | exact fun z => c70 z.1 | exact fun z => c75 z.2) (by first | exact fun z => c87 z.1 | exact fun z => c92 z.2)) J36
                  · skip
                    refine lv_iload hx hb dL_isNeeded_95 (lv_at hl 1 rfl) ?_
                    refine lv_ineg hx hb dL_isNeeded_97 ?_
                    refine lv_goto (tgt := 102) hx hb dL_isNeeded_98 (by decide) ?_
                    exact z_top (by first | exact by_c0 c38 c43 | exact by_c1 c54 c59 | exact by_c2 c70 c75 | exact by_c3 c87 c92 | exact by_n (by first | exact fun z => c38 z.1 | exact fun z => c43 z.2) (by first | exact fun z => c54 z.1 | exact fun z => c59 z.2) (by first | exact fun z => c70 z.1 | exact fun z => c75 z.2) (by first | exact fun z => c87 z.1 | exact fun z => c92 z.2)) J36
              · skip
                refine lv_iload hx hb dL_isNeeded_78 (lv_at hl 0 rfl) ?_
                refine lv_ineg hx hb dL_isNeeded_80 ?_
                refine lv_goto (tgt := 102) hx hb dL_isNeeded_81 (by decide) ?_
                exact z_top (by first | exact by_c0 c38 c43 | exact by_c1 c54 c59 | exact by_c2 c70 c75 | exact by_c3 c87 c92 | exact by_n (by first | exact fun z => c38 z.1 | exact fun z => c43 z.2) (by first | exact fun z => c54 z.1 | exact fun z => c59 z.2) (by first | exact fun z => c70 z.1 | exact fun z => c75 z.2) (by first | exact fun z => c87 z.1 | exact fun z => c92 z.2)) J36
          · skip
            refine lv_iload hx hb dL_isNeeded_57 (lv_at hl 0 rfl) ?_
            refine z_if_ne (tgt := 67) (P := ((nI (f % 6)) - (nI (q % 6))) = 0) hx hb dL_isNeeded_59 (by decide) (Iff.rfl) (fun c59 => ?_) (fun c59 => ?_)
            · skip
              refine lv_iload hx hb dL_isNeeded_67 (lv_at hl 2 rfl) ?_
              refine lv_iconst (v := 2) hx hb dL_isNeeded_69 (by decide) ?_
              refine z_icmp_ne (tgt := 84) (P := (hz / 3) = 2) hx hb dL_isNeeded_70 (by decide) (nI_eq (a := (hz / 3)) (b := 2) (by omega) (by omega)) (fun c70 => ?_) (fun c70 => ?_)
              · skip
                refine lv_iload hx hb dL_isNeeded_84 (lv_at hl 2 rfl) ?_
                refine lv_iconst (v := 3) hx hb dL_isNeeded_86 (by decide) ?_
                refine z_icmp_ne (tgt := 101) (P := (hz / 3) = 3) hx hb dL_isNeeded_87 (by decide) (nI_eq (a := (hz / 3)) (b := 3) (by omega) (by omega)) (fun c87 => ?_) (fun c87 => ?_)
                · skip
                  refine lv_iconst (v := 0) hx hb dL_isNeeded_101 (by decide) ?_
                  exact z_top (by first | exact by_c0 c38 c43 | exact by_c1 c54 c59 | exact by_c2 c70 c75 | exact by_c3 c87 c92 | exact by_n (by first | exact fun z => c38 z.1 | exact fun z => c43 z.2) (by first | exact fun z => c54 z.1 | exact fun z => c59 z.2) (by first | exact fun z => c70 z.1 | exact fun z => c75 z.2) (by first | exact fun z => c87 z.1 | exact fun z => c92 z.2)) J36
                · skip
                  refine lv_iload hx hb dL_isNeeded_90 (lv_at hl 0 rfl) ?_
                  refine z_if_ne (tgt := 101) (P := ((nI (f % 6)) - (nI (q % 6))) = 0) hx hb dL_isNeeded_92 (by decide) (Iff.rfl) (fun c92 => ?_) (fun c92 => ?_)
                  · skip
                    refine lv_iconst (v := 0) hx hb dL_isNeeded_101 (by decide) ?_
                    exact z_top (by first | exact by_c0 c38 c43 | exact by_c1 c54 c59 | exact by_c2 c70 c75 | exact by_c3 c87 c92 | exact by_n (by first | exact fun z => c38 z.1 | exact fun z => c43 z.2) (by first | exact fun z => c54 z.1 | exact fun z => c59 z.2) (by first | exact fun z => c70 z.1 | exact fun z => c75 z.2) (by first | exact fun z => c87 z.1 | exact fun z => c92 z.2)) J36
                  · skip
                    refine lv_iload hx hb dL_isNeeded_95 (lv_at hl 1 rfl) ?_
                    refine lv_ineg hx hb dL_isNeeded_97 ?_
                    refine lv_goto (tgt := 102) hx hb dL_isNeeded_98 (by decide) ?_
                    exact z_top (by first | exact by_c0 c38 c43 | exact by_c1 c54 c59 | exact by_c2 c70 c75 | exact by_c3 c87 c92 | exact by_n (by first | exact fun z => c38 z.1 | exact fun z => c43 z.2) (by first | exact fun z => c54 z.1 | exact fun z => c59 z.2) (by first | exact fun z => c70 z.1 | exact fun z => c75 z.2) (by first | exact fun z => c87 z.1 | exact fun z => c92 z.2)) J36
              · skip
                refine lv_iload hx hb dL_isNeeded_73 (lv_at hl 1 rfl) ?_
                refine z_if_ne (tgt := 84) (P := ((nI (f / 6)) - (nI (q / 6))) = 0) hx hb dL_isNeeded_75 (by decide) (Iff.rfl) (fun c75 => ?_) (fun c75 => ?_)
                · skip
                  refine lv_iload hx hb dL_isNeeded_84 (lv_at hl 2 rfl) ?_
                  refine lv_iconst (v := 3) hx hb dL_isNeeded_86 (by decide) ?_
                  refine z_icmp_ne (tgt := 101) (P := (hz / 3) = 3) hx hb dL_isNeeded_87 (by decide) (nI_eq (a := (hz / 3)) (b := 3) (by omega) (by omega)) (fun c87 => ?_) (fun c87 => ?_)
                  · skip
                    refine lv_iconst (v := 0) hx hb dL_isNeeded_101 (by decide) ?_
                    exact z_top (by first | exact by_c0 c38 c43 | exact by_c1 c54 c59 | exact by_c2 c70 c75 | exact by_c3 c87 c92 | exact by_n (by first | exact fun z => c38 z.1 | exact fun z => c43 z.2) (by first | exact fun z => c54 z.1 | exact fun z => c59 z.2) (by first | exact fun z => c70 z.1 | exact fun z => c75 z.2) (by first | exact fun z => c87 z.1 | exact fun z => c92 z.2)) J36
                  · skip
                    refine lv_iload hx hb dL_isNeeded_90 (lv_at hl 0 rfl) ?_
                    refine z_if_ne (tgt := 101) (P := ((nI (f % 6)) - (nI (q % 6))) = 0) hx hb dL_isNeeded_92 (by decide) (Iff.rfl) (fun c92 => ?_) (fun c92 => ?_)
                    · skip
                      refine lv_iconst (v := 0) hx hb dL_isNeeded_101 (by decide) ?_
                      exact z_top (by first | exact by_c0 c38 c43 | exact by_c1 c54 c59 | exact by_c2 c70 c75 | exact by_c3 c87 c92 | exact by_n (by first | exact fun z => c38 z.1 | exact fun z => c43 z.2) (by first | exact fun z => c54 z.1 | exact fun z => c59 z.2) (by first | exact fun z => c70 z.1 | exact fun z => c75 z.2) (by first | exact fun z => c87 z.1 | exact fun z => c92 z.2)) J36
                    · skip
                      refine lv_iload hx hb dL_isNeeded_95 (lv_at hl 1 rfl) ?_
                      refine lv_ineg hx hb dL_isNeeded_97 ?_
                      refine lv_goto (tgt := 102) hx hb dL_isNeeded_98 (by decide) ?_
                      exact z_top (by first | exact by_c0 c38 c43 | exact by_c1 c54 c59 | exact by_c2 c70 c75 | exact by_c3 c87 c92 | exact by_n (by first | exact fun z => c38 z.1 | exact fun z => c43 z.2) (by first | exact fun z => c54 z.1 | exact fun z => c59 z.2) (by first | exact fun z => c70 z.1 | exact fun z => c75 z.2) (by first | exact fun z => c87 z.1 | exact fun z => c92 z.2)) J36
                · skip
                  refine lv_iload hx hb dL_isNeeded_78 (lv_at hl 0 rfl) ?_
                  refine lv_ineg hx hb dL_isNeeded_80 ?_
                  refine lv_goto (tgt := 102) hx hb dL_isNeeded_81 (by decide) ?_
                  exact z_top (by first | exact by_c0 c38 c43 | exact by_c1 c54 c59 | exact by_c2 c70 c75 | exact by_c3 c87 c92 | exact by_n (by first | exact fun z => c38 z.1 | exact fun z => c43 z.2) (by first | exact fun z => c54 z.1 | exact fun z => c59 z.2) (by first | exact fun z => c70 z.1 | exact fun z => c75 z.2) (by first | exact fun z => c87 z.1 | exact fun z => c92 z.2)) J36
            · skip
              refine lv_iload hx hb dL_isNeeded_62 (lv_at hl 1 rfl) ?_
              refine lv_goto (tgt := 102) hx hb dL_isNeeded_64 (by decide) ?_
              exact z_top (by first | exact by_c0 c38 c43 | exact by_c1 c54 c59 | exact by_c2 c70 c75 | exact by_c3 c87 c92 | exact by_n (by first | exact fun z => c38 z.1 | exact fun z => c43 z.2) (by first | exact fun z => c54 z.1 | exact fun z => c59 z.2) (by first | exact fun z => c70 z.1 | exact fun z => c75 z.2) (by first | exact fun z => c87 z.1 | exact fun z => c92 z.2)) J36
        · skip
          refine lv_iload hx hb dL_isNeeded_46 (lv_at hl 0 rfl) ?_
          refine lv_goto (tgt := 102) hx hb dL_isNeeded_48 (by decide) ?_
          exact z_top (by first | exact by_c0 c38 c43 | exact by_c1 c54 c59 | exact by_c2 c70 c75 | exact by_c3 c87 c92 | exact by_n (by first | exact fun z => c38 z.1 | exact fun z => c43 z.2) (by first | exact fun z => c54 z.1 | exact fun z => c59 z.2) (by first | exact fun z => c70 z.1 | exact fun z => c75 z.2) (by first | exact fun z => c87 z.1 | exact fun z => c92 z.2)) J36
  · skip
    refine z_top (y := (-1)) (le_no hn9 hmm hY ehn) ?_
    refine lv_istore_n (lv' := [(3, .int (-1)), (0, .ref x0), (1, .int (nI f)), (2, .int (nI q))]) hx hb dL_isNeeded_6 rfl hl (by decide) rfl (fun ls hl => ?_)
    refine lv_aload_n hx hb dL_isNeeded_7 rfl (lv_at hl 1 rfl) ?_
    refine lv_iconst (v := 1) hx hb dL_isNeeded_8 (by decide) ?_
    refine z_ci (va_runV (As := [.int 1]) (rest := []) ⟨hx, hb, hml, hown, hts⟩ (c_X4_count_ok l D cI cZ cL (x0 := x0) (e1 := e1) (e2 := e2) (fl := fl) (fk := fk) (a0 := a0) (a1 := a1) (a2 := a2) (a3 := a3) (a4 := a4) (fh := fh) (fo := fo) (fc := fc) (fs := fs) (hz := hz) (mv := mv) (tu := tu) (rf := rf) (b0 := b0) (b1 := b1) (fx := fx) (ln := 0) (d0 := d0) (d1 := d1) (fn := fn) (od := od) (sz6 := sz6) (wh := 1) (hwh := by omega) (hhz := by omega)) (cwV 1 hts gL_isNeeded_X4_count rfl rfl rfl (by decide +kernel) ⟨Nat.le_of_ble_eq_true rfl, Nat.le_of_ble_eq_true rfl⟩) (z_preVn hN hK (hP.sub [0, 1, 2, 3, 4, 5, 6, 7, 8, 9, 10, 11] rfl) 0 3 rfl rfl) rfl rfl hl.1 rfl (lv_room (Nat.le_of_ble_eq_true rfl)) dL_isNeeded_9 ⟨Nat.le_of_ble_eq_true rfl, Nat.le_of_ble_eq_true rfl⟩) ?_
    refine z_top (y := nI (hz / 3)) (rfl) ?_
    refine lv_istore (lv' := [(4, .int (nI (hz / 3))), (3, .int (-1)), (0, .ref x0), (1, .int (nI f)), (2, .int (nI q))]) hx hb dL_isNeeded_12 hl (by decide) rfl (fun ls hl => ?_)
    refine lv_iload_n hx hb dL_isNeeded_14 rfl (lv_at hl 3 rfl) ?_
    refine lv_bipush (v := 6) hx hb dL_isNeeded_15 (by decide) ?_
    refine z_idiv (v := nI (f / 6)) hx hb dL_isNeeded_17 (by decide) (pk_div (a := f) (d := 6) (by omega) (by omega) (by omega)) ?_
    refine lv_iload_n hx hb dL_isNeeded_18 rfl (lv_at hl 4 rfl) ?_
    refine lv_bipush (v := 6) hx hb dL_isNeeded_19 (by decide) ?_
    refine z_idiv (v := nI (q / 6)) hx hb dL_isNeeded_21 (by decide) (pk_div (a := q) (d := 6) (by omega) (by omega) (by omega)) ?_
    refine z_isub (v := ((nI (f / 6)) - (nI (q / 6)))) hx hb dL_isNeeded_22 (rfl) ?_
    refine lv_istore (lv' := [(5, .int ((nI (f / 6)) - (nI (q / 6)))), (4, .int (nI (hz / 3))), (3, .int (-1)), (0, .ref x0), (1, .int (nI f)), (2, .int (nI q))]) hx hb dL_isNeeded_23 hl (by decide) rfl (fun ls hl => ?_)
    refine lv_iload_n hx hb dL_isNeeded_25 rfl (lv_at hl 4 rfl) ?_
    refine lv_bipush (v := 6) hx hb dL_isNeeded_26 (by decide) ?_
    refine z_irem (v := nI (f % 6)) hx hb dL_isNeeded_28 (by decide) (pk_rem (a := f) (d := 6) (by omega) (by omega) (by omega)) ?_
    refine lv_iload_n hx hb dL_isNeeded_29 rfl (lv_at hl 5 rfl) ?_
    refine lv_bipush (v := 6) hx hb dL_isNeeded_30 (by decide) ?_
    refine z_irem (v := nI (q % 6)) hx hb dL_isNeeded_32 (by decide) (pk_rem (a := q) (d := 6) (by omega) (by omega) (by omega)) ?_
    refine z_isub (v := ((nI (f % 6)) - (nI (q % 6)))) hx hb dL_isNeeded_33 (rfl) ?_
    refine lv_istore (lv' := [(6, .int ((nI (f % 6)) - (nI (q % 6)))), (5, .int ((nI (f / 6)) - (nI (q / 6)))), (4, .int (nI (hz / 3))), (3, .int (-1)), (0, .ref x0), (1, .int (nI f)), (2, .int (nI q))]) hx hb dL_isNeeded_34 hl (by decide) rfl (fun ls hl => ?_)
    refine z_join (pc2 := 102) (st2 := [.int (pBy (hz / 3) (nI (f / 6) - nI (q / 6)) (nI (f % 6) - nI (q % 6)))]) ?_ (fun J36 => ?_)
    · skip
      refine lv_istore (lv' := [(7, .int (pBy (hz / 3) (nI (f / 6) - nI (q / 6)) (nI (f % 6) - nI (q % 6)))), (6, .int ((nI (f % 6)) - (nI (q % 6)))), (5, .int ((nI (f / 6)) - (nI (q / 6)))), (4, .int (nI (hz / 3))), (3, .int (-1)), (0, .ref x0), (1, .int (nI f)), (2, .int (nI q))]) hx hb dL_isNeeded_102 hl (by decide) rfl (fun ls hl => ?_)
      refine lv_iload hx hb dL_isNeeded_104 (lv_at hl 0 rfl) ?_
      refine z_if_gt (tgt := 114) (P := 0 < pDi (hz / 3) q f) hx hb dL_isNeeded_106 (by decide) (by_0 (hz / 3) (by omega) q hq f hf) (fun c106 => ?_) (fun c106 => ?_)
      · skip
        refine lv_aload_n hx hb dL_isNeeded_114 rfl (lv_at hl 5 rfl) ?_
        refine lv_iload_n hx hb dL_isNeeded_115 rfl (lv_at hl 7 rfl) ?_
        refine lv_iconst (v := 0) hx hb dL_isNeeded_116 (by decide) ?_
        refine z_ci (va_runV (As := [.int (nI q), .int 0]) (rest := []) ⟨hx, hb, hml, hown, hts⟩ (c_X4_squareOf_ok l D cI cZ cL (x0 := x0) (e1 := e1) (e2 := e2) (fl := fl) (fk := fk) (a0 := a0) (a1 := a1) (a2 := a2) (a3 := a3) (a4 := a4) (fh := fh) (fo := fo) (fc := fc) (fs := fs) (hz := hz) (mv := mv) (tu := tu) (rf := rf) (b0 := b0) (b1 := b1) (fx := fx) (ln := 0) (d0 := d0) (d1 := d1) (fn := fn) (od := od) (sz6 := sz6) (q := q) (wh := 0) (hq := by omega) (hwh := by omega) (hhz := by omega)) (cwV 2 hts gL_isNeeded_X4_squareOf rfl rfl rfl (by decide +kernel) ⟨Nat.le_of_ble_eq_true rfl, Nat.le_of_ble_eq_true rfl⟩) (z_preVn hN hK (hP.sub [0, 1, 2, 3, 4, 5, 6, 7, 8, 9, 10, 11] rfl) 0 3 rfl rfl) rfl rfl hl.1 rfl (lv_room (Nat.le_of_ble_eq_true rfl)) dL_isNeeded_117 ⟨Nat.le_of_ble_eq_true rfl, Nat.le_of_ble_eq_true rfl⟩) ?_
        refine z_top (y := nI hn) (ehn) ?_
        refine lv_iload hx hb dL_isNeeded_120 (lv_at hl 0 rfl) ?_
        refine z_top (y := nI (pDi (hz / 3) q f)) (by_1 (hz / 3) (by omega) q hq f hf c106) ?_
        refine lv_aload_n hx hb dL_isNeeded_122 rfl (lv_at hl 5 rfl) ?_
        refine lv_iconst (v := 2) hx hb dL_isNeeded_123 (by decide) ?_
        refine z_ci (va_runV (As := [.int 2]) (rest := [.int (nI (pDi (hz / 3) q f)), .int (nI hn)]) ⟨hx, hb, hml, hown, hts⟩ (c_X4_count_ok l D cI cZ cL (x0 := x0) (e1 := e1) (e2 := e2) (fl := fl) (fk := fk) (a0 := a0) (a1 := a1) (a2 := a2) (a3 := a3) (a4 := a4) (fh := fh) (fo := fo) (fc := fc) (fs := fs) (hz := hz) (mv := mv) (tu := tu) (rf := rf) (b0 := b0) (b1 := b1) (fx := fx) (ln := 0) (d0 := d0) (d1 := d1) (fn := fn) (od := od) (sz6 := sz6) (wh := 2) (hwh := by omega) (hhz := by omega)) (cwV 1 hts gL_isNeeded_X4_count rfl rfl rfl (by decide +kernel) ⟨Nat.le_of_ble_eq_true rfl, Nat.le_of_ble_eq_true rfl⟩) (z_preVn hN hK (hP.sub [0, 1, 2, 3, 4, 5, 6, 7, 8, 9, 10, 11] rfl) 0 3 rfl rfl) rfl rfl hl.1 rfl (lv_room (Nat.le_of_ble_eq_true rfl)) dL_isNeeded_124 ⟨Nat.le_of_ble_eq_true rfl, Nat.le_of_ble_eq_true rfl⟩) ?_
        refine z_top (y := nI (pSt hz)) (rfl) ?_
        refine z_imul (v := nI ((pDi (hz / 3) q f) * (pSt hz))) hx hb dL_isNeeded_127 (pk_mul ((pDi (hz / 3) q f)) ((pSt hz))) ?_
        refine z_iadd (v := nI (hn + pDi (hz / 3) q f * pSt hz)) hx hb dL_isNeeded_128 (nI_add _ _) ?_
        refine lv_iconst (v := 1) hx hb dL_isNeeded_129 (by decide) ?_
        refine z_iadd (v := nI ((hn + pDi (hz / 3) q f * pSt hz) + 1)) hx hb dL_isNeeded_130 (nI_add ((hn + pDi (hz / 3) q f * pSt hz)) (1)) ?_
        refine lv_istore (lv' := [(8, .int (nI ((hn + pDi (hz / 3) q f * pSt hz) + 1))), (7, .int (pBy (hz / 3) (nI (f / 6) - nI (q / 6)) (nI (f % 6) - nI (q % 6)))), (6, .int ((nI (f % 6)) - (nI (q % 6)))), (5, .int ((nI (f / 6)) - (nI (q / 6)))), (4, .int (nI (hz / 3))), (3, .int (-1)), (0, .ref x0), (1, .int (nI f)), (2, .int (nI q))]) hx hb dL_isNeeded_131 hl (by decide) rfl (fun ls hl => ?_)
        refine lv_iload hx hb dL_isNeeded_133 (lv_at hl 0 rfl) ?_
        refine lv_bipush (v := 9) hx hb dL_isNeeded_135 (by decide) ?_
        refine z_icmp_le (tgt := 151) (P := ((hn + pDi (hz / 3) q f * pSt hz) + 1) ≤ 9) hx hb dL_isNeeded_137 (by decide) (nI_leI (a := ((hn + pDi (hz / 3) q f * pSt hz) + 1)) (b := 9) (by omega) (by omega)) (fun c137 => (show False from hY ⟨c106, c137⟩).elim) (fun c137 => ?_)
        refine lv_iload_n hx hb dL_isNeeded_140 rfl (lv_at hl 5 rfl) ?_
        refine lv_iconst (v := (-1)) hx hb dL_isNeeded_141 (by decide) ?_
        refine z_icmp_ne (tgt := 149) (P := True) hx hb dL_isNeeded_142 (by decide) (iff_of_true (rfl) trivial) (fun c142 => (show False from c142 trivial).elim) (fun c142 => ?_)
        refine lv_iconst (v := 1) hx hb dL_isNeeded_145 (by decide) ?_
        refine lv_goto (tgt := 150) hx hb dL_isNeeded_146 (by decide) ?_
        have hE9 : EE cI cZ x0 a0 a1 a2 a3 a4 b0 b1 d0 d1 e1 e2 [(x0, .inr (3, [.ref a0, .ref b0, .ref d0, .ref e1, .ref e2])), (a0, .inr (0, [.ref a1, .ref a2, .ref a3, .ref a4, .int (nI hz), .int (nI mv), .int tu, .int rf])), (a1, .inl (cI, 36, .inl fh)), (a2, .inl (cI, 36, .inl fo)), (a3, .inl (cI, 36, .inl fc)), (a4, .inl (cI, 2, .inl fs)), (b0, .inr (1, [.ref b1, .int (nI 0)])), (b1, .inl (cI, 60, .inl fx)), (d0, .inr (2, [.ref d1, .int (nI od), .int (nI sz6)])), (d1, .inl (cI, 684, .inl fn)), (e1, .inl (cI, 228, .inl fl)), (e2, .inl (cZ, 2, .inl fk))] := ⟨fh, fo, fc, fs, fn, fl, fk, fx, hz, mv, od, sz6, tu, rf, hJ, rfl⟩
        have hP9 : va_P D vwCl [(x0, .inr (3, [.ref a0, .ref b0, .ref d0, .ref e1, .ref e2])), (a0, .inr (0, [.ref a1, .ref a2, .ref a3, .ref a4, .int (nI hz), .int (nI mv), .int tu, .int rf])), (a1, .inl (cI, 36, .inl fh)), (a2, .inl (cI, 36, .inl fo)), (a3, .inl (cI, 36, .inl fc)), (a4, .inl (cI, 2, .inl fs)), (b0, .inr (1, [.ref b1, .int (nI 0)])), (b1, .inl (cI, 60, .inl fx)), (d0, .inr (2, [.ref d1, .int (nI od), .int (nI sz6)])), (d1, .inl (cI, 684, .inl fn)), (e1, .inl (cI, 228, .inl fl)), (e2, .inl (cZ, 2, .inl fk))] _ := hP
        have hD9 : va_D A [(x0, .inr (3, [.ref a0, .ref b0, .ref d0, .ref e1, .ref e2])), (a0, .inr (0, [.ref a1, .ref a2, .ref a3, .ref a4, .int (nI hz), .int (nI mv), .int tu, .int rf])), (a1, .inl (cI, 36, .inl fh)), (a2, .inl (cI, 36, .inl fo)), (a3, .inl (cI, 36, .inl fc)), (a4, .inl (cI, 2, .inl fs)), (b0, .inr (1, [.ref b1, .int (nI 0)])), (b1, .inl (cI, 60, .inl fx)), (d0, .inr (2, [.ref d1, .int (nI od), .int (nI sz6)])), (d1, .inl (cI, 684, .inl fn)), (e1, .inl (cI, 228, .inl fl)), (e2, .inl (cZ, 2, .inl fk))] := hD
        subst hAe
        exact z_mzretE hx hb hr hlocks dL_isNeeded_150 (rfl) hE9 hP9 hD9 hS
      · skip
        refine lv_bipush (v := 99) hx hb dL_isNeeded_109 (by decide) ?_
        refine lv_goto (tgt := 131) hx hb dL_isNeeded_111 (by decide) ?_
        refine lv_istore (lv' := [(8, .int 99), (7, .int (pBy (hz / 3) (nI (f / 6) - nI (q / 6)) (nI (f % 6) - nI (q % 6)))), (6, .int ((nI (f % 6)) - (nI (q % 6)))), (5, .int ((nI (f / 6)) - (nI (q / 6)))), (4, .int (nI (hz / 3))), (3, .int (-1)), (0, .ref x0), (1, .int (nI f)), (2, .int (nI q))]) hx hb dL_isNeeded_131 hl (by decide) rfl (fun ls hl => ?_)
        refine lv_iload hx hb dL_isNeeded_133 (lv_at hl 0 rfl) ?_
        refine lv_bipush (v := 9) hx hb dL_isNeeded_135 (by decide) ?_
        refine z_icmp_le (tgt := 151) (P := False) hx hb dL_isNeeded_137 (by decide) (by decide) (fun c137 => (show False from c137).elim) (fun c137 => ?_)
        refine lv_iload_n hx hb dL_isNeeded_140 rfl (lv_at hl 5 rfl) ?_
        refine lv_iconst (v := (-1)) hx hb dL_isNeeded_141 (by decide) ?_
        refine z_icmp_ne (tgt := 149) (P := True) hx hb dL_isNeeded_142 (by decide) (iff_of_true (rfl) trivial) (fun c142 => (show False from c142 trivial).elim) (fun c142 => ?_)
        refine lv_iconst (v := 1) hx hb dL_isNeeded_145 (by decide) ?_
        refine lv_goto (tgt := 150) hx hb dL_isNeeded_146 (by decide) ?_
        have hE9 : EE cI cZ x0 a0 a1 a2 a3 a4 b0 b1 d0 d1 e1 e2 [(x0, .inr (3, [.ref a0, .ref b0, .ref d0, .ref e1, .ref e2])), (a0, .inr (0, [.ref a1, .ref a2, .ref a3, .ref a4, .int (nI hz), .int (nI mv), .int tu, .int rf])), (a1, .inl (cI, 36, .inl fh)), (a2, .inl (cI, 36, .inl fo)), (a3, .inl (cI, 36, .inl fc)), (a4, .inl (cI, 2, .inl fs)), (b0, .inr (1, [.ref b1, .int (nI 0)])), (b1, .inl (cI, 60, .inl fx)), (d0, .inr (2, [.ref d1, .int (nI od), .int (nI sz6)])), (d1, .inl (cI, 684, .inl fn)), (e1, .inl (cI, 228, .inl fl)), (e2, .inl (cZ, 2, .inl fk))] := ⟨fh, fo, fc, fs, fn, fl, fk, fx, hz, mv, od, sz6, tu, rf, hJ, rfl⟩
        have hP9 : va_P D vwCl [(x0, .inr (3, [.ref a0, .ref b0, .ref d0, .ref e1, .ref e2])), (a0, .inr (0, [.ref a1, .ref a2, .ref a3, .ref a4, .int (nI hz), .int (nI mv), .int tu, .int rf])), (a1, .inl (cI, 36, .inl fh)), (a2, .inl (cI, 36, .inl fo)), (a3, .inl (cI, 36, .inl fc)), (a4, .inl (cI, 2, .inl fs)), (b0, .inr (1, [.ref b1, .int (nI 0)])), (b1, .inl (cI, 60, .inl fx)), (d0, .inr (2, [.ref d1, .int (nI od), .int (nI sz6)])), (d1, .inl (cI, 684, .inl fn)), (e1, .inl (cI, 228, .inl fl)), (e2, .inl (cZ, 2, .inl fk))] _ := hP
        have hD9 : va_D A [(x0, .inr (3, [.ref a0, .ref b0, .ref d0, .ref e1, .ref e2])), (a0, .inr (0, [.ref a1, .ref a2, .ref a3, .ref a4, .int (nI hz), .int (nI mv), .int tu, .int rf])), (a1, .inl (cI, 36, .inl fh)), (a2, .inl (cI, 36, .inl fo)), (a3, .inl (cI, 36, .inl fc)), (a4, .inl (cI, 2, .inl fs)), (b0, .inr (1, [.ref b1, .int (nI 0)])), (b1, .inl (cI, 60, .inl fx)), (d0, .inr (2, [.ref d1, .int (nI od), .int (nI sz6)])), (d1, .inl (cI, 684, .inl fn)), (e1, .inl (cI, 228, .inl fl)), (e2, .inl (cZ, 2, .inl fk))] := hD
        subst hAe
        exact z_mzretE hx hb hr hlocks dL_isNeeded_150 (rfl) hE9 hP9 hD9 hS
    · skip
      refine lv_iload hx hb dL_isNeeded_36 (lv_at hl 2 rfl) ?_
      refine z_if_ne (tgt := 51) (P := (hz / 3) = 0) hx hb dL_isNeeded_38 (by decide) (nI_eq (a := (hz / 3)) (b := 0) (by omega) (by omega)) (fun c38 => ?_) (fun c38 => ?_)
      · skip
        refine lv_iload hx hb dL_isNeeded_51 (lv_at hl 2 rfl) ?_
        refine lv_iconst (v := 1) hx hb dL_isNeeded_53 (by decide) ?_
        refine z_icmp_ne (tgt := 67) (P := (hz / 3) = 1) hx hb dL_isNeeded_54 (by decide) (nI_eq (a := (hz / 3)) (b := 1) (by omega) (by omega)) (fun c54 => ?_) (fun c54 => ?_)
        · skip
          refine lv_iload hx hb dL_isNeeded_67 (lv_at hl 2 rfl) ?_
          refine lv_iconst (v := 2) hx hb dL_isNeeded_69 (by decide) ?_
          refine z_icmp_ne (tgt := 84) (P := (hz / 3) = 2) hx hb dL_isNeeded_70 (by decide) (nI_eq (a := (hz / 3)) (b := 2) (by omega) (by omega)) (fun c70 => ?_) (fun c70 => ?_)
          · skip
            refine lv_iload hx hb dL_isNeeded_84 (lv_at hl 2 rfl) ?_
            refine lv_iconst (v := 3) hx hb dL_isNeeded_86 (by decide) ?_
            refine z_icmp_ne (tgt := 101) (P := (hz / 3) = 3) hx hb dL_isNeeded_87 (by decide) (nI_eq (a := (hz / 3)) (b := 3) (by omega) (by omega)) (fun c87 => ?_) (fun c87 => ?_)
            · skip
              refine lv_iconst (v := 0) hx hb dL_isNeeded_101 (by decide) ?_
              exact z_top (by first | exact by_c0 c38 c43 | exact by_c1 c54 c59 | exact by_c2 c70 c75 | exact by_c3 c87 c92 | exact by_n (by first | exact fun z => c38 z.1 | exact fun z => c43 z.2) (by first | exact fun z => c54 z.1 | exact fun z => c59 z.2) (by first | exact fun z => c70 z.1 | exact fun z => c75 z.2) (by first | exact fun z => c87 z.1 | exact fun z => c92 z.2)) J36
            · skip
              refine lv_iload hx hb dL_isNeeded_90 (lv_at hl 0 rfl) ?_
              refine z_if_ne (tgt := 101) (P := ((nI (f % 6)) - (nI (q % 6))) = 0) hx hb dL_isNeeded_92 (by decide) (Iff.rfl) (fun c92 => ?_) (fun c92 => ?_)
              · skip
                refine lv_iconst (v := 0) hx hb dL_isNeeded_101 (by decide) ?_
                exact z_top (by first | exact by_c0 c38 c43 | exact by_c1 c54 c59 | exact by_c2 c70 c75 | exact by_c3 c87 c92 | exact by_n (by first | exact fun z => c38 z.1 | exact fun z => c43 z.2) (by first | exact fun z => c54 z.1 | exact fun z => c59 z.2) (by first | exact fun z => c70 z.1 | exact fun z => c75 z.2) (by first | exact fun z => c87 z.1 | exact fun z => c92 z.2)) J36
              · skip
                refine lv_iload hx hb dL_isNeeded_95 (lv_at hl 1 rfl) ?_
                refine lv_ineg hx hb dL_isNeeded_97 ?_
                refine lv_goto (tgt := 102) hx hb dL_isNeeded_98 (by decide) ?_
                exact z_top (by first | exact by_c0 c38 c43 | exact by_c1 c54 c59 | exact by_c2 c70 c75 | exact by_c3 c87 c92 | exact by_n (by first | exact fun z => c38 z.1 | exact fun z => c43 z.2) (by first | exact fun z => c54 z.1 | exact fun z => c59 z.2) (by first | exact fun z => c70 z.1 | exact fun z => c75 z.2) (by first | exact fun z => c87 z.1 | exact fun z => c92 z.2)) J36
          · skip
            refine lv_iload hx hb dL_isNeeded_73 (lv_at hl 1 rfl) ?_
            refine z_if_ne (tgt := 84) (P := ((nI (f / 6)) - (nI (q / 6))) = 0) hx hb dL_isNeeded_75 (by decide) (Iff.rfl) (fun c75 => ?_) (fun c75 => ?_)
            · skip
              refine lv_iload hx hb dL_isNeeded_84 (lv_at hl 2 rfl) ?_
              refine lv_iconst (v := 3) hx hb dL_isNeeded_86 (by decide) ?_
              refine z_icmp_ne (tgt := 101) (P := (hz / 3) = 3) hx hb dL_isNeeded_87 (by decide) (nI_eq (a := (hz / 3)) (b := 3) (by omega) (by omega)) (fun c87 => ?_) (fun c87 => ?_)
              · skip
                refine lv_iconst (v := 0) hx hb dL_isNeeded_101 (by decide) ?_
                exact z_top (by first | exact by_c0 c38 c43 | exact by_c1 c54 c59 | exact by_c2 c70 c75 | exact by_c3 c87 c92 | exact by_n (by first | exact fun z => c38 z.1 | exact fun z => c43 z.2) (by first | exact fun z => c54 z.1 | exact fun z => c59 z.2) (by first | exact fun z => c70 z.1 | exact fun z => c75 z.2) (by first | exact fun z => c87 z.1 | exact fun z => c92 z.2)) J36
              · skip
                refine lv_iload hx hb dL_isNeeded_90 (lv_at hl 0 rfl) ?_
                refine z_if_ne (tgt := 101) (P := ((nI (f % 6)) - (nI (q % 6))) = 0) hx hb dL_isNeeded_92 (by decide) (Iff.rfl) (fun c92 => ?_) (fun c92 => ?_)
                · skip
                  refine lv_iconst (v := 0) hx hb dL_isNeeded_101 (by decide) ?_
                  exact z_top (by first | exact by_c0 c38 c43 | exact by_c1 c54 c59 | exact by_c2 c70 c75 | exact by_c3 c87 c92 | exact by_n (by first | exact fun z => c38 z.1 | exact fun z => c43 z.2) (by first | exact fun z => c54 z.1 | exact fun z => c59 z.2) (by first | exact fun z => c70 z.1 | exact fun z => c75 z.2) (by first | exact fun z => c87 z.1 | exact fun z => c92 z.2)) J36
                · skip
                  refine lv_iload hx hb dL_isNeeded_95 (lv_at hl 1 rfl) ?_
                  refine lv_ineg hx hb dL_isNeeded_97 ?_
                  refine lv_goto (tgt := 102) hx hb dL_isNeeded_98 (by decide) ?_
                  exact z_top (by first | exact by_c0 c38 c43 | exact by_c1 c54 c59 | exact by_c2 c70 c75 | exact by_c3 c87 c92 | exact by_n (by first | exact fun z => c38 z.1 | exact fun z => c43 z.2) (by first | exact fun z => c54 z.1 | exact fun z => c59 z.2) (by first | exact fun z => c70 z.1 | exact fun z => c75 z.2) (by first | exact fun z => c87 z.1 | exact fun z => c92 z.2)) J36
            · skip
              refine lv_iload hx hb dL_isNeeded_78 (lv_at hl 0 rfl) ?_
              refine lv_ineg hx hb dL_isNeeded_80 ?_
              refine lv_goto (tgt := 102) hx hb dL_isNeeded_81 (by decide) ?_
              exact z_top (by first | exact by_c0 c38 c43 | exact by_c1 c54 c59 | exact by_c2 c70 c75 | exact by_c3 c87 c92 | exact by_n (by first | exact fun z => c38 z.1 | exact fun z => c43 z.2) (by first | exact fun z => c54 z.1 | exact fun z => c59 z.2) (by first | exact fun z => c70 z.1 | exact fun z => c75 z.2) (by first | exact fun z => c87 z.1 | exact fun z => c92 z.2)) J36
        · skip
          refine lv_iload hx hb dL_isNeeded_57 (lv_at hl 0 rfl) ?_
          refine z_if_ne (tgt := 67) (P := ((nI (f % 6)) - (nI (q % 6))) = 0) hx hb dL_isNeeded_59 (by decide) (Iff.rfl) (fun c59 => ?_) (fun c59 => ?_)
          · skip
            refine lv_iload hx hb dL_isNeeded_67 (lv_at hl 2 rfl) ?_
            refine lv_iconst (v := 2) hx hb dL_isNeeded_69 (by decide) ?_
            refine z_icmp_ne (tgt := 84) (P := (hz / 3) = 2) hx hb dL_isNeeded_70 (by decide) (nI_eq (a := (hz / 3)) (b := 2) (by omega) (by omega)) (fun c70 => ?_) (fun c70 => ?_)
            · skip
              refine lv_iload hx hb dL_isNeeded_84 (lv_at hl 2 rfl) ?_
              refine lv_iconst (v := 3) hx hb dL_isNeeded_86 (by decide) ?_
              refine z_icmp_ne (tgt := 101) (P := (hz / 3) = 3) hx hb dL_isNeeded_87 (by decide) (nI_eq (a := (hz / 3)) (b := 3) (by omega) (by omega)) (fun c87 => ?_) (fun c87 => ?_)
              · skip
                refine lv_iconst (v := 0) hx hb dL_isNeeded_101 (by decide) ?_
                exact z_top (by first | exact by_c0 c38 c43 | exact by_c1 c54 c59 | exact by_c2 c70 c75 | exact by_c3 c87 c92 | exact by_n (by first | exact fun z => c38 z.1 | exact fun z => c43 z.2) (by first | exact fun z => c54 z.1 | exact fun z => c59 z.2) (by first | exact fun z => c70 z.1 | exact fun z => c75 z.2) (by first | exact fun z => c87 z.1 | exact fun z => c92 z.2)) J36
              · skip
                refine lv_iload hx hb dL_isNeeded_90 (lv_at hl 0 rfl) ?_
                refine z_if_ne (tgt := 101) (P := ((nI (f % 6)) - (nI (q % 6))) = 0) hx hb dL_isNeeded_92 (by decide) (Iff.rfl) (fun c92 => ?_) (fun c92 => ?_)
                · skip
                  refine lv_iconst (v := 0) hx hb dL_isNeeded_101 (by decide) ?_
                  exact z_top (by first | exact by_c0 c38 c43 | exact by_c1 c54 c59 | exact by_c2 c70 c75 | exact by_c3 c87 c92 | exact by_n (by first | exact fun z => c38 z.1 | exact fun z => c43 z.2) (by first | exact fun z => c54 z.1 | exact fun z => c59 z.2) (by first | exact fun z => c70 z.1 | exact fun z => c75 z.2) (by first | exact fun z => c87 z.1 | exact fun z => c92 z.2)) J36
                · skip
                  refine lv_iload hx hb dL_isNeeded_95 (lv_at hl 1 rfl) ?_
                  refine lv_ineg hx hb dL_isNeeded_97 ?_
                  refine lv_goto (tgt := 102) hx hb dL_isNeeded_98 (by decide) ?_
                  exact z_top (by first | exact by_c0 c38 c43 | exact by_c1 c54 c59 | exact by_c2 c70 c75 | exact by_c3 c87 c92 | exact by_n (by first | exact fun z => c38 z.1 | exact fun z => c43 z.2) (by first | exact fun z => c54 z.1 | exact fun z => c59 z.2) (by first | exact fun z => c70 z.1 | exact fun z => c75 z.2) (by first | exact fun z => c87 z.1 | exact fun z => c92 z.2)) J36
            · skip
              refine lv_iload hx hb dL_isNeeded_73 (lv_at hl 1 rfl) ?_
              refine z_if_ne (tgt := 84) (P := ((nI (f / 6)) - (nI (q / 6))) = 0) hx hb dL_isNeeded_75 (by decide) (Iff.rfl) (fun c75 => ?_) (fun c75 => ?_)
              · skip
                refine lv_iload hx hb dL_isNeeded_84 (lv_at hl 2 rfl) ?_
                refine lv_iconst (v := 3) hx hb dL_isNeeded_86 (by decide) ?_
                refine z_icmp_ne (tgt := 101) (P := (hz / 3) = 3) hx hb dL_isNeeded_87 (by decide) (nI_eq (a := (hz / 3)) (b := 3) (by omega) (by omega)) (fun c87 => ?_) (fun c87 => ?_)
                · skip
                  refine lv_iconst (v := 0) hx hb dL_isNeeded_101 (by decide) ?_
                  exact z_top (by first | exact by_c0 c38 c43 | exact by_c1 c54 c59 | exact by_c2 c70 c75 | exact by_c3 c87 c92 | exact by_n (by first | exact fun z => c38 z.1 | exact fun z => c43 z.2) (by first | exact fun z => c54 z.1 | exact fun z => c59 z.2) (by first | exact fun z => c70 z.1 | exact fun z => c75 z.2) (by first | exact fun z => c87 z.1 | exact fun z => c92 z.2)) J36
                · skip
                  refine lv_iload hx hb dL_isNeeded_90 (lv_at hl 0 rfl) ?_
                  refine z_if_ne (tgt := 101) (P := ((nI (f % 6)) - (nI (q % 6))) = 0) hx hb dL_isNeeded_92 (by decide) (Iff.rfl) (fun c92 => ?_) (fun c92 => ?_)
                  · skip
                    refine lv_iconst (v := 0) hx hb dL_isNeeded_101 (by decide) ?_
                    exact z_top (by first | exact by_c0 c38 c43 | exact by_c1 c54 c59 | exact by_c2 c70 c75 | exact by_c3 c87 c92 | exact by_n (by first | exact fun z => c38 z.1 | exact fun z => c43 z.2) (by first | exact fun z => c54 z.1 | exact fun z => c59 z.2) (by first | exact fun z => c70 z.1 | exact fun z => c75 z.2) (by first | exact fun z => c87 z.1 | exact fun z => c92 z.2)) J36
                  · skip
                    refine lv_iload hx hb dL_isNeeded_95 (lv_at hl 1 rfl) ?_
                    refine lv_ineg hx hb dL_isNeeded_97 ?_
                    refine lv_goto (tgt := 102) hx hb dL_isNeeded_98 (by decide) ?_
                    exact z_top (by first | exact by_c0 c38 c43 | exact by_c1 c54 c59 | exact by_c2 c70 c75 | exact by_c3 c87 c92 | exact by_n (by first | exact fun z => c38 z.1 | exact fun z => c43 z.2) (by first | exact fun z => c54 z.1 | exact fun z => c59 z.2) (by first | exact fun z => c70 z.1 | exact fun z => c75 z.2) (by first | exact fun z => c87 z.1 | exact fun z => c92 z.2)) J36
              · skip
                refine lv_iload hx hb dL_isNeeded_78 (lv_at hl 0 rfl) ?_
                refine lv_ineg hx hb dL_isNeeded_80 ?_
                refine lv_goto (tgt := 102) hx hb dL_isNeeded_81 (by decide) ?_
                exact z_top (by first | exact by_c0 c38 c43 | exact by_c1 c54 c59 | exact by_c2 c70 c75 | exact by_c3 c87 c92 | exact by_n (by first | exact fun z => c38 z.1 | exact fun z => c43 z.2) (by first | exact fun z => c54 z.1 | exact fun z => c59 z.2) (by first | exact fun z => c70 z.1 | exact fun z => c75 z.2) (by first | exact fun z => c87 z.1 | exact fun z => c92 z.2)) J36
          · skip
            refine lv_iload hx hb dL_isNeeded_62 (lv_at hl 1 rfl) ?_
            refine lv_goto (tgt := 102) hx hb dL_isNeeded_64 (by decide) ?_
            exact z_top (by first | exact by_c0 c38 c43 | exact by_c1 c54 c59 | exact by_c2 c70 c75 | exact by_c3 c87 c92 | exact by_n (by first | exact fun z => c38 z.1 | exact fun z => c43 z.2) (by first | exact fun z => c54 z.1 | exact fun z => c59 z.2) (by first | exact fun z => c70 z.1 | exact fun z => c75 z.2) (by first | exact fun z => c87 z.1 | exact fun z => c92 z.2)) J36
      · skip
        refine lv_iload hx hb dL_isNeeded_41 (lv_at hl 1 rfl) ?_
        refine z_if_ne (tgt := 51) (P := ((nI (f / 6)) - (nI (q / 6))) = 0) hx hb dL_isNeeded_43 (by decide) (Iff.rfl) (fun c43 => ?_) (fun c43 => ?_)
        · skip
          refine lv_iload hx hb dL_isNeeded_51 (lv_at hl 2 rfl) ?_
          refine lv_iconst (v := 1) hx hb dL_isNeeded_53 (by decide) ?_
          refine z_icmp_ne (tgt := 67) (P := (hz / 3) = 1) hx hb dL_isNeeded_54 (by decide) (nI_eq (a := (hz / 3)) (b := 1) (by omega) (by omega)) (fun c54 => ?_) (fun c54 => ?_)
          · skip
            refine lv_iload hx hb dL_isNeeded_67 (lv_at hl 2 rfl) ?_
            refine lv_iconst (v := 2) hx hb dL_isNeeded_69 (by decide) ?_
            refine z_icmp_ne (tgt := 84) (P := (hz / 3) = 2) hx hb dL_isNeeded_70 (by decide) (nI_eq (a := (hz / 3)) (b := 2) (by omega) (by omega)) (fun c70 => ?_) (fun c70 => ?_)
            · skip
              refine lv_iload hx hb dL_isNeeded_84 (lv_at hl 2 rfl) ?_
              refine lv_iconst (v := 3) hx hb dL_isNeeded_86 (by decide) ?_
              refine z_icmp_ne (tgt := 101) (P := (hz / 3) = 3) hx hb dL_isNeeded_87 (by decide) (nI_eq (a := (hz / 3)) (b := 3) (by omega) (by omega)) (fun c87 => ?_) (fun c87 => ?_)
              · skip
                refine lv_iconst (v := 0) hx hb dL_isNeeded_101 (by decide) ?_
                exact z_top (by first | exact by_c0 c38 c43 | exact by_c1 c54 c59 | exact by_c2 c70 c75 | exact by_c3 c87 c92 | exact by_n (by first | exact fun z => c38 z.1 | exact fun z => c43 z.2) (by first | exact fun z => c54 z.1 | exact fun z => c59 z.2) (by first | exact fun z => c70 z.1 | exact fun z => c75 z.2) (by first | exact fun z => c87 z.1 | exact fun z => c92 z.2)) J36
              · skip
                refine lv_iload hx hb dL_isNeeded_90 (lv_at hl 0 rfl) ?_
                refine z_if_ne (tgt := 101) (P := ((nI (f % 6)) - (nI (q % 6))) = 0) hx hb dL_isNeeded_92 (by decide) (Iff.rfl) (fun c92 => ?_) (fun c92 => ?_)
                · skip
                  refine lv_iconst (v := 0) hx hb dL_isNeeded_101 (by decide) ?_
                  exact z_top (by first | exact by_c0 c38 c43 | exact by_c1 c54 c59 | exact by_c2 c70 c75 | exact by_c3 c87 c92 | exact by_n (by first | exact fun z => c38 z.1 | exact fun z => c43 z.2) (by first | exact fun z => c54 z.1 | exact fun z => c59 z.2) (by first | exact fun z => c70 z.1 | exact fun z => c75 z.2) (by first | exact fun z => c87 z.1 | exact fun z => c92 z.2)) J36
                · skip
                  refine lv_iload hx hb dL_isNeeded_95 (lv_at hl 1 rfl) ?_
                  refine lv_ineg hx hb dL_isNeeded_97 ?_
                  refine lv_goto (tgt := 102) hx hb dL_isNeeded_98 (by decide) ?_
                  exact z_top (by first | exact by_c0 c38 c43 | exact by_c1 c54 c59 | exact by_c2 c70 c75 | exact by_c3 c87 c92 | exact by_n (by first | exact fun z => c38 z.1 | exact fun z => c43 z.2) (by first | exact fun z => c54 z.1 | exact fun z => c59 z.2) (by first | exact fun z => c70 z.1 | exact fun z => c75 z.2) (by first | exact fun z => c87 z.1 | exact fun z => c92 z.2)) J36
            · skip
              refine lv_iload hx hb dL_isNeeded_73 (lv_at hl 1 rfl) ?_
              refine z_if_ne (tgt := 84) (P := ((nI (f / 6)) - (nI (q / 6))) = 0) hx hb dL_isNeeded_75 (by decide) (Iff.rfl) (fun c75 => ?_) (fun c75 => ?_)
              · skip
                refine lv_iload hx hb dL_isNeeded_84 (lv_at hl 2 rfl) ?_
                refine lv_iconst (v := 3) hx hb dL_isNeeded_86 (by decide) ?_
                refine z_icmp_ne (tgt := 101) (P := (hz / 3) = 3) hx hb dL_isNeeded_87 (by decide) (nI_eq (a := (hz / 3)) (b := 3) (by omega) (by omega)) (fun c87 => ?_) (fun c87 => ?_)
                · skip
                  refine lv_iconst (v := 0) hx hb dL_isNeeded_101 (by decide) ?_
                  exact z_top (by first | exact by_c0 c38 c43 | exact by_c1 c54 c59 | exact by_c2 c70 c75 | exact by_c3 c87 c92 | exact by_n (by first | exact fun z => c38 z.1 | exact fun z => c43 z.2) (by first | exact fun z => c54 z.1 | exact fun z => c59 z.2) (by first | exact fun z => c70 z.1 | exact fun z => c75 z.2) (by first | exact fun z => c87 z.1 | exact fun z => c92 z.2)) J36
                · skip
                  refine lv_iload hx hb dL_isNeeded_90 (lv_at hl 0 rfl) ?_
                  refine z_if_ne (tgt := 101) (P := ((nI (f % 6)) - (nI (q % 6))) = 0) hx hb dL_isNeeded_92 (by decide) (Iff.rfl) (fun c92 => ?_) (fun c92 => ?_)
                  · skip
                    refine lv_iconst (v := 0) hx hb dL_isNeeded_101 (by decide) ?_
                    exact z_top (by first | exact by_c0 c38 c43 | exact by_c1 c54 c59 | exact by_c2 c70 c75 | exact by_c3 c87 c92 | exact by_n (by first | exact fun z => c38 z.1 | exact fun z => c43 z.2) (by first | exact fun z => c54 z.1 | exact fun z => c59 z.2) (by first | exact fun z => c70 z.1 | exact fun z => c75 z.2) (by first | exact fun z => c87 z.1 | exact fun z => c92 z.2)) J36
                  · skip
                    refine lv_iload hx hb dL_isNeeded_95 (lv_at hl 1 rfl) ?_
                    refine lv_ineg hx hb dL_isNeeded_97 ?_
                    refine lv_goto (tgt := 102) hx hb dL_isNeeded_98 (by decide) ?_
                    exact z_top (by first | exact by_c0 c38 c43 | exact by_c1 c54 c59 | exact by_c2 c70 c75 | exact by_c3 c87 c92 | exact by_n (by first | exact fun z => c38 z.1 | exact fun z => c43 z.2) (by first | exact fun z => c54 z.1 | exact fun z => c59 z.2) (by first | exact fun z => c70 z.1 | exact fun z => c75 z.2) (by first | exact fun z => c87 z.1 | exact fun z => c92 z.2)) J36
              · skip
                refine lv_iload hx hb dL_isNeeded_78 (lv_at hl 0 rfl) ?_
                refine lv_ineg hx hb dL_isNeeded_80 ?_
                refine lv_goto (tgt := 102) hx hb dL_isNeeded_81 (by decide) ?_
                exact z_top (by first | exact by_c0 c38 c43 | exact by_c1 c54 c59 | exact by_c2 c70 c75 | exact by_c3 c87 c92 | exact by_n (by first | exact fun z => c38 z.1 | exact fun z => c43 z.2) (by first | exact fun z => c54 z.1 | exact fun z => c59 z.2) (by first | exact fun z => c70 z.1 | exact fun z => c75 z.2) (by first | exact fun z => c87 z.1 | exact fun z => c92 z.2)) J36
          · skip
            refine lv_iload hx hb dL_isNeeded_57 (lv_at hl 0 rfl) ?_
            refine z_if_ne (tgt := 67) (P := ((nI (f % 6)) - (nI (q % 6))) = 0) hx hb dL_isNeeded_59 (by decide) (Iff.rfl) (fun c59 => ?_) (fun c59 => ?_)
            · skip
              refine lv_iload hx hb dL_isNeeded_67 (lv_at hl 2 rfl) ?_
              refine lv_iconst (v := 2) hx hb dL_isNeeded_69 (by decide) ?_
              refine z_icmp_ne (tgt := 84) (P := (hz / 3) = 2) hx hb dL_isNeeded_70 (by decide) (nI_eq (a := (hz / 3)) (b := 2) (by omega) (by omega)) (fun c70 => ?_) (fun c70 => ?_)
              · skip
                refine lv_iload hx hb dL_isNeeded_84 (lv_at hl 2 rfl) ?_
                refine lv_iconst (v := 3) hx hb dL_isNeeded_86 (by decide) ?_
                refine z_icmp_ne (tgt := 101) (P := (hz / 3) = 3) hx hb dL_isNeeded_87 (by decide) (nI_eq (a := (hz / 3)) (b := 3) (by omega) (by omega)) (fun c87 => ?_) (fun c87 => ?_)
                · skip
                  refine lv_iconst (v := 0) hx hb dL_isNeeded_101 (by decide) ?_
                  exact z_top (by first | exact by_c0 c38 c43 | exact by_c1 c54 c59 | exact by_c2 c70 c75 | exact by_c3 c87 c92 | exact by_n (by first | exact fun z => c38 z.1 | exact fun z => c43 z.2) (by first | exact fun z => c54 z.1 | exact fun z => c59 z.2) (by first | exact fun z => c70 z.1 | exact fun z => c75 z.2) (by first | exact fun z => c87 z.1 | exact fun z => c92 z.2)) J36
                · skip
                  refine lv_iload hx hb dL_isNeeded_90 (lv_at hl 0 rfl) ?_
                  refine z_if_ne (tgt := 101) (P := ((nI (f % 6)) - (nI (q % 6))) = 0) hx hb dL_isNeeded_92 (by decide) (Iff.rfl) (fun c92 => ?_) (fun c92 => ?_)
                  · skip
                    refine lv_iconst (v := 0) hx hb dL_isNeeded_101 (by decide) ?_
                    exact z_top (by first | exact by_c0 c38 c43 | exact by_c1 c54 c59 | exact by_c2 c70 c75 | exact by_c3 c87 c92 | exact by_n (by first | exact fun z => c38 z.1 | exact fun z => c43 z.2) (by first | exact fun z => c54 z.1 | exact fun z => c59 z.2) (by first | exact fun z => c70 z.1 | exact fun z => c75 z.2) (by first | exact fun z => c87 z.1 | exact fun z => c92 z.2)) J36
                  · skip
                    refine lv_iload hx hb dL_isNeeded_95 (lv_at hl 1 rfl) ?_
                    refine lv_ineg hx hb dL_isNeeded_97 ?_
                    refine lv_goto (tgt := 102) hx hb dL_isNeeded_98 (by decide) ?_
                    exact z_top (by first | exact by_c0 c38 c43 | exact by_c1 c54 c59 | exact by_c2 c70 c75 | exact by_c3 c87 c92 | exact by_n (by first | exact fun z => c38 z.1 | exact fun z => c43 z.2) (by first | exact fun z => c54 z.1 | exact fun z => c59 z.2) (by first | exact fun z => c70 z.1 | exact fun z => c75 z.2) (by first | exact fun z => c87 z.1 | exact fun z => c92 z.2)) J36
              · skip
                refine lv_iload hx hb dL_isNeeded_73 (lv_at hl 1 rfl) ?_
                refine z_if_ne (tgt := 84) (P := ((nI (f / 6)) - (nI (q / 6))) = 0) hx hb dL_isNeeded_75 (by decide) (Iff.rfl) (fun c75 => ?_) (fun c75 => ?_)
                · skip
                  refine lv_iload hx hb dL_isNeeded_84 (lv_at hl 2 rfl) ?_
                  refine lv_iconst (v := 3) hx hb dL_isNeeded_86 (by decide) ?_
                  refine z_icmp_ne (tgt := 101) (P := (hz / 3) = 3) hx hb dL_isNeeded_87 (by decide) (nI_eq (a := (hz / 3)) (b := 3) (by omega) (by omega)) (fun c87 => ?_) (fun c87 => ?_)
                  · skip
                    refine lv_iconst (v := 0) hx hb dL_isNeeded_101 (by decide) ?_
                    exact z_top (by first | exact by_c0 c38 c43 | exact by_c1 c54 c59 | exact by_c2 c70 c75 | exact by_c3 c87 c92 | exact by_n (by first | exact fun z => c38 z.1 | exact fun z => c43 z.2) (by first | exact fun z => c54 z.1 | exact fun z => c59 z.2) (by first | exact fun z => c70 z.1 | exact fun z => c75 z.2) (by first | exact fun z => c87 z.1 | exact fun z => c92 z.2)) J36
                  · skip
                    refine lv_iload hx hb dL_isNeeded_90 (lv_at hl 0 rfl) ?_
                    refine z_if_ne (tgt := 101) (P := ((nI (f % 6)) - (nI (q % 6))) = 0) hx hb dL_isNeeded_92 (by decide) (Iff.rfl) (fun c92 => ?_) (fun c92 => ?_)
                    · skip
                      refine lv_iconst (v := 0) hx hb dL_isNeeded_101 (by decide) ?_
                      exact z_top (by first | exact by_c0 c38 c43 | exact by_c1 c54 c59 | exact by_c2 c70 c75 | exact by_c3 c87 c92 | exact by_n (by first | exact fun z => c38 z.1 | exact fun z => c43 z.2) (by first | exact fun z => c54 z.1 | exact fun z => c59 z.2) (by first | exact fun z => c70 z.1 | exact fun z => c75 z.2) (by first | exact fun z => c87 z.1 | exact fun z => c92 z.2)) J36
                    · skip
                      refine lv_iload hx hb dL_isNeeded_95 (lv_at hl 1 rfl) ?_
                      refine lv_ineg hx hb dL_isNeeded_97 ?_
                      refine lv_goto (tgt := 102) hx hb dL_isNeeded_98 (by decide) ?_
                      exact z_top (by first | exact by_c0 c38 c43 | exact by_c1 c54 c59 | exact by_c2 c70 c75 | exact by_c3 c87 c92 | exact by_n (by first | exact fun z => c38 z.1 | exact fun z => c43 z.2) (by first | exact fun z => c54 z.1 | exact fun z => c59 z.2) (by first | exact fun z => c70 z.1 | exact fun z => c75 z.2) (by first | exact fun z => c87 z.1 | exact fun z => c92 z.2)) J36
                · skip
                  refine lv_iload hx hb dL_isNeeded_78 (lv_at hl 0 rfl) ?_
                  refine lv_ineg hx hb dL_isNeeded_80 ?_
                  refine lv_goto (tgt := 102) hx hb dL_isNeeded_81 (by decide) ?_
                  exact z_top (by first | exact by_c0 c38 c43 | exact by_c1 c54 c59 | exact by_c2 c70 c75 | exact by_c3 c87 c92 | exact by_n (by first | exact fun z => c38 z.1 | exact fun z => c43 z.2) (by first | exact fun z => c54 z.1 | exact fun z => c59 z.2) (by first | exact fun z => c70 z.1 | exact fun z => c75 z.2) (by first | exact fun z => c87 z.1 | exact fun z => c92 z.2)) J36
            · skip
              refine lv_iload hx hb dL_isNeeded_62 (lv_at hl 1 rfl) ?_
              refine lv_goto (tgt := 102) hx hb dL_isNeeded_64 (by decide) ?_
              exact z_top (by first | exact by_c0 c38 c43 | exact by_c1 c54 c59 | exact by_c2 c70 c75 | exact by_c3 c87 c92 | exact by_n (by first | exact fun z => c38 z.1 | exact fun z => c43 z.2) (by first | exact fun z => c54 z.1 | exact fun z => c59 z.2) (by first | exact fun z => c70 z.1 | exact fun z => c75 z.2) (by first | exact fun z => c87 z.1 | exact fun z => c92 z.2)) J36
        · skip
          refine lv_iload hx hb dL_isNeeded_46 (lv_at hl 0 rfl) ?_
          refine lv_goto (tgt := 102) hx hb dL_isNeeded_48 (by decide) ?_
          exact z_top (by first | exact by_c0 c38 c43 | exact by_c1 c54 c59 | exact by_c2 c70 c75 | exact by_c3 c87 c92 | exact by_n (by first | exact fun z => c38 z.1 | exact fun z => c43 z.2) (by first | exact fun z => c54 z.1 | exact fun z => c59 z.2) (by first | exact fun z => c70 z.1 | exact fun z => c75 z.2) (by first | exact fun z => c87 z.1 | exact fun z => c92 z.2)) J36
