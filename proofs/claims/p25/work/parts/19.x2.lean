set_option maxHeartbeats 4000000 in
set_option maxRecDepth 100000 in
theorem c_X4_squareOf_ok (l : Launch) (D : va_G) (cI cZ cL : ClassId) (x0 : Nat) (e1 : Nat) (e2 : Nat) (fl : Nat → Int32) (fk : Nat → Int32) (a0 : Nat) (a1 : Nat) (a2 : Nat) (a3 : Nat) (a4 : Nat) (fh : Nat → Int32) (fo : Nat → Int32) (fc : Nat → Int32) (fs : Nat → Int32) (hz : Nat) (mv : Nat) (tu : Int32) (rf : Int32) (b0 : Nat) (b1 : Nat) (fx : Nat → Int32) (ln : Nat) (d0 : Nat) (d1 : Nat) (fn : Nat → Int32) (od : Nat) (sz6 : Nat) (q : Nat) (wh : Nat) (hq : q < 36) (hwh : wh < 8) (hhz : hz < 12) : Met l yX4_squareOf wsX4_squareOf ({ frames := 3, cells := 0, slots := 0, locals := 71 }) (va_Pc [.ref x0, .int (nI q), .int (nI wh)] (zWn D cI cZ cL [(x0, .inr (3, [.ref a0, .ref b0, .ref d0, .ref e1, .ref e2])), (a0, .inr (0, [.ref a1, .ref a2, .ref a3, .ref a4, .int (nI hz), .int (nI mv), .int tu, .int rf])), (a1, .inl (cI, 36, .inl fh)), (a2, .inl (cI, 36, .inl fo)), (a3, .inl (cI, 36, .inl fc)), (a4, .inl (cI, 2, .inl fs)), (b0, .inr (1, [.ref b1, .int (nI ln)])), (b1, .inl (cI, 60, .inl fx)), (d0, .inr (2, [.ref d1, .int (nI od), .int (nI sz6)])), (d1, .inl (cI, 684, .inl fn)), (e1, .inl (cI, 228, .inl fl)), (e2, .inl (cZ, 2, .inl fk))])) (zQi (cSq fh fo fc hz q wh)) 0 0 (fun _ => False) := by
  refine Met.ofW (cc := cX4_squareOf) (maxL := 3) (ret := (some .int)) (by decide) rfl ?_
  intro p e s m args below meth c s₁ B hml hv
  obtain ⟨rfl, ⟨hP, hK⟩, hN⟩ := hv
  have hx := B.exec
  have hb := B.bytes
  have hr := B.returns
  have hts := atoms_spec (ws := wsX4_squareOf) B.pre
  have hown : s.vm.findClass RX4 = some m.cls := findClass_of_methodNamed B.named
  have hlocks := B.notSynchronized
  have in0 : ∀ w ∈ u_ws RX0 TX0 8, w ∈ wsX4_squareOf := by decide +kernel
  have in3 : ∀ w ∈ u_ws RX4 TX4 5, w ∈ wsX4_squareOf := by decide +kernel
  have fl10 := hts (.fieldLink RX4 10 "TowerShades" "field" "LTowerShades$Field;") (by decide +kernel)
  have hl := lv_entry ([.ref x0, .int (nI q), .int (nI wh)]) (n := 3) (Nat.le_of_ble_eq_true rfl)
  rw [lg_entry_eq]
  generalize (lg_sl ([.ref x0, .int (nI q), .int (nI wh)]) ++ List.replicate (3 - (lg_sl ([.ref x0, .int (nI q), .int (nI wh)])).length) Slot.unset).toArray = ls at hl ⊢
  have hl : lv_has ls 3 [(0, .ref x0), (1, .int (nI q)), (2, .int (nI wh))] := hl
  refine lv_iload_n hx hb dX4_squareOf_0 rfl (lv_at hl 1 rfl) ?_
  refine z_ci (va_runS (As := [.int (nI q)]) (rest := []) ⟨hx, hb, hml, hown, hts⟩ (c_X4_isSquare l (p0 := nI q)) (va_cwS 1 hts gX4_squareOf_X4_isSquare rfl rfl rfl (by decide +kernel) ⟨Nat.le_of_ble_eq_true rfl, Nat.le_of_ble_eq_true rfl⟩) z_preS rfl rfl hl.1 rfl (lv_room (Nat.le_of_ble_eq_true rfl)) dX4_squareOf_1 ⟨Nat.le_of_ble_eq_true rfl, Nat.le_of_ble_eq_true rfl⟩) ?_
  refine z_top (y := 1) (by rw [sq_ok q hq]; rfl) ?_
  refine z_if_ne (tgt := 17) (P := False) hx hb dX4_squareOf_4 (by decide) (by decide) (fun c4 => ?_) (fun c4 => (show False from c4).elim)
  refine lv_iload_n hx hb dX4_squareOf_17 rfl (lv_at hl 2 rfl) ?_
  rcases (show wh = 0 ∨ wh = 1 ∨ wh = 2 ∨ wh = 3 ∨ wh = 4 ∨ wh = 5 ∨ wh = 6 ∨ wh = 7 by omega) with rfl | rfl | rfl | rfl | rfl | rfl | rfl | rfl
  · skip
    refine lv_tableIn (off := 46) (tgt := 64) hx hb dX4_squareOf_18 (by decide) (by decide) rfl (by decide) ?_
    refine lv_aload_n hx hb dX4_squareOf_64 rfl (lv_at hl 0 rfl) ?_
    refine va_get (D := D) (ci := 3) (v := .ref a0) (C := RX4) (T := TX4) (N := 5) hx hb hts in3 hown hK hP 0 rfl rfl 0 (by decide) fl10 (fun _ h9 => h9) rfl dX4_squareOf_65 ?_
    refine va_getN (D := D) (ci := 0) (v := .ref a1) (C := RX0) (T := TX0) (N := 8) hx hb hts in0 hown hK hP 1 rfl rfl 0 (by decide) (hN.get (i := 64) (r := RX0) (n := "heights") (d := "[I") (by decide)) (fun _ h9 => h9) rfl dX4_squareOf_68 ?_
    refine lv_iload_n hx hb dX4_squareOf_71 rfl (lv_at hl 1 rfl) ?_
    refine z_iald hx hb hK hP 2 0 rfl rfl (k := q) (rfl) (by omega) (by decide) dX4_squareOf_72 ?_
    exact z_iret hx hb hr hlocks dX4_squareOf_73 (by first | rfl | simp [cSq, zb, c4])
  · skip
    refine lv_tableIn (off := 56) (tgt := 74) hx hb dX4_squareOf_18 (by decide) (by decide) rfl (by decide) ?_
    refine lv_aload_n hx hb dX4_squareOf_74 rfl (lv_at hl 0 rfl) ?_
    refine va_get (D := D) (ci := 3) (v := .ref a0) (C := RX4) (T := TX4) (N := 5) hx hb hts in3 hown hK hP 0 rfl rfl 0 (by decide) fl10 (fun _ h9 => h9) rfl dX4_squareOf_75 ?_
    refine va_getN (D := D) (ci := 0) (v := .ref a2) (C := RX0) (T := TX0) (N := 8) hx hb hts in0 hown hK hP 1 rfl rfl 1 (by decide) (hN.get (i := 145) (r := RX0) (n := "owners") (d := "[I") (by decide)) (fun _ h9 => h9) rfl dX4_squareOf_78 ?_
    refine lv_iload_n hx hb dX4_squareOf_81 rfl (lv_at hl 1 rfl) ?_
    refine z_iald hx hb hK hP 3 0 rfl rfl (k := q) (rfl) (by omega) (by decide) dX4_squareOf_82 ?_
    exact z_iret hx hb hr hlocks dX4_squareOf_83 (by first | rfl | simp [cSq, zb, c4])
  · skip
    refine lv_tableIn (off := 66) (tgt := 84) hx hb dX4_squareOf_18 (by decide) (by decide) rfl (by decide) ?_
    refine lv_aload_n hx hb dX4_squareOf_84 rfl (lv_at hl 0 rfl) ?_
    refine va_get (D := D) (ci := 3) (v := .ref a0) (C := RX4) (T := TX4) (N := 5) hx hb hts in3 hown hK hP 0 rfl rfl 0 (by decide) fl10 (fun _ h9 => h9) rfl dX4_squareOf_85 ?_
    refine va_getN (D := D) (ci := 0) (v := .ref a3) (C := RX0) (T := TX0) (N := 8) hx hb hts in0 hown hK hP 1 rfl rfl 2 (by decide) (hN.get (i := 82) (r := RX0) (n := "crowds") (d := "[I") (by decide)) (fun _ h9 => h9) rfl dX4_squareOf_88 ?_
    refine lv_iload_n hx hb dX4_squareOf_91 rfl (lv_at hl 1 rfl) ?_
    refine z_iald hx hb hK hP 4 0 rfl rfl (k := q) (rfl) (by omega) (by decide) dX4_squareOf_92 ?_
    exact z_iret hx hb hr hlocks dX4_squareOf_93 (by first | rfl | simp [cSq, zb, c4])
  · skip
    refine lv_tableIn (off := 76) (tgt := 94) hx hb dX4_squareOf_18 (by decide) (by decide) rfl (by decide) ?_
    refine lv_aload_n hx hb dX4_squareOf_94 rfl (lv_at hl 0 rfl) ?_
    refine va_get (D := D) (ci := 3) (v := .ref a0) (C := RX4) (T := TX4) (N := 5) hx hb hts in3 hown hK hP 0 rfl rfl 0 (by decide) fl10 (fun _ h9 => h9) rfl dX4_squareOf_95 ?_
    refine lv_iload_n hx hb dX4_squareOf_98 rfl (lv_at hl 1 rfl) ?_
    refine lv_aload_n hx hb dX4_squareOf_99 rfl (lv_at hl 0 rfl) ?_
    refine va_get (D := D) (ci := 3) (v := .ref a0) (C := RX4) (T := TX4) (N := 5) hx hb hts in3 hown hK hP 0 rfl rfl 0 (by decide) fl10 (fun _ h9 => h9) rfl dX4_squareOf_100 ?_
    refine va_getN (D := D) (ci := 0) (v := .int (nI hz)) (C := RX0) (T := TX0) (N := 8) hx hb hts in0 hown hK hP 1 rfl rfl 4 (by decide) (hN.get (i := 87) (r := RX0) (n := "hourNow") (d := "I") (by decide)) (fun _ h9 => h9) rfl dX4_squareOf_103 ?_
    refine z_ci (va_runV (As := [.int (nI q), .int (nI hz)]) (rest := []) ⟨hx, hb, hml, hown, hts⟩ (c_X0_isDark l D cI cZ cL (a0 := a0) (a1 := a1) (a2 := a2) (a3 := a3) (a4 := a4) (fh := fh) (fo := fo) (fc := fc) (fs := fs) (hz := hz) (mv := mv) (tu := tu) (rf := rf) (q := q) (hu := hz) (hq := by omega) (hhu := by omega)) (cwV 2 hts gX4_squareOf_X0_isDark rfl rfl rfl (by decide +kernel) ⟨Nat.le_of_ble_eq_true rfl, Nat.le_of_ble_eq_true rfl⟩) (z_preV hK (hP.sub [1, 2, 3, 4, 5] rfl) 0 0 rfl rfl) rfl rfl hl.1 rfl (lv_room (Nat.le_of_ble_eq_true rfl)) dX4_squareOf_106 ⟨Nat.le_of_ble_eq_true rfl, Nat.le_of_ble_eq_true rfl⟩) ?_
    refine z_if_eq (tgt := 116) (P := (pDk fh q hz) = false) hx hb dX4_squareOf_109 (by decide) (zb_eq0) (fun c109 => ?_) (fun c109 => ?_)
    · skip
      refine lv_iconst (v := 0) hx hb dX4_squareOf_116 (by decide) ?_
      exact z_iret hx hb hr hlocks dX4_squareOf_117 (by first | rfl | simp [cSq, zb, c4, c109])
    · skip
      refine lv_iconst (v := 1) hx hb dX4_squareOf_112 (by decide) ?_
      refine lv_goto (tgt := 117) hx hb dX4_squareOf_113 (by decide) ?_
      exact z_iret hx hb hr hlocks dX4_squareOf_117 (by first | rfl | simp [cSq, zb, c4, c109])
  · skip
    refine lv_tableIn (off := 100) (tgt := 118) hx hb dX4_squareOf_18 (by decide) (by decide) rfl (by decide) ?_
    refine lv_aload_n hx hb dX4_squareOf_118 rfl (lv_at hl 0 rfl) ?_
    refine va_get (D := D) (ci := 3) (v := .ref a0) (C := RX4) (T := TX4) (N := 5) hx hb hts in3 hown hK hP 0 rfl rfl 0 (by decide) fl10 (fun _ h9 => h9) rfl dX4_squareOf_119 ?_
    refine lv_iload_n hx hb dX4_squareOf_122 rfl (lv_at hl 1 rfl) ?_
    refine lv_aload_n hx hb dX4_squareOf_123 rfl (lv_at hl 0 rfl) ?_
    refine va_get (D := D) (ci := 3) (v := .ref a0) (C := RX4) (T := TX4) (N := 5) hx hb hts in3 hown hK hP 0 rfl rfl 0 (by decide) fl10 (fun _ h9 => h9) rfl dX4_squareOf_124 ?_
    refine va_getN (D := D) (ci := 0) (v := .int (nI hz)) (C := RX0) (T := TX0) (N := 8) hx hb hts in0 hown hK hP 1 rfl rfl 4 (by decide) (hN.get (i := 87) (r := RX0) (n := "hourNow") (d := "I") (by decide)) (fun _ h9 => h9) rfl dX4_squareOf_127 ?_
    refine z_ci (va_runV (As := [.int (nI q), .int (nI hz)]) (rest := []) ⟨hx, hb, hml, hown, hts⟩ (c_X0_isDarkBySweep l D cI cZ cL (a0 := a0) (a1 := a1) (a2 := a2) (a3 := a3) (a4 := a4) (fh := fh) (fo := fo) (fc := fc) (fs := fs) (hz := hz) (mv := mv) (tu := tu) (rf := rf) (q := q) (hu := hz) (hq := by omega) (hhu := by omega)) (cwV 2 hts gX4_squareOf_X0_isDarkBySweep rfl rfl rfl (by decide +kernel) ⟨Nat.le_of_ble_eq_true rfl, Nat.le_of_ble_eq_true rfl⟩) (z_preV hK (hP.sub [1, 2, 3, 4, 5] rfl) 0 0 rfl rfl) rfl rfl hl.1 rfl (lv_room (Nat.le_of_ble_eq_true rfl)) dX4_squareOf_130 ⟨Nat.le_of_ble_eq_true rfl, Nat.le_of_ble_eq_true rfl⟩) ?_
    refine z_if_eq (tgt := 140) (P := (pDs fh q hz) = false) hx hb dX4_squareOf_133 (by decide) (zb_eq0) (fun c133 => ?_) (fun c133 => ?_)
    · skip
      refine lv_iconst (v := 0) hx hb dX4_squareOf_140 (by decide) ?_
      exact z_iret hx hb hr hlocks dX4_squareOf_141 (by first | rfl | simp [cSq, zb, c4, c133])
    · skip
      refine lv_iconst (v := 1) hx hb dX4_squareOf_136 (by decide) ?_
      refine lv_goto (tgt := 141) hx hb dX4_squareOf_137 (by decide) ?_
      exact z_iret hx hb hr hlocks dX4_squareOf_141 (by first | rfl | simp [cSq, zb, c4, c133])
  · skip
    refine lv_tableIn (off := 124) (tgt := 142) hx hb dX4_squareOf_18 (by decide) (by decide) rfl (by decide) ?_
    refine lv_aload_n hx hb dX4_squareOf_142 rfl (lv_at hl 0 rfl) ?_
    refine va_get (D := D) (ci := 3) (v := .ref a0) (C := RX4) (T := TX4) (N := 5) hx hb hts in3 hown hK hP 0 rfl rfl 0 (by decide) fl10 (fun _ h9 => h9) rfl dX4_squareOf_143 ?_
    refine lv_iload_n hx hb dX4_squareOf_146 rfl (lv_at hl 1 rfl) ?_
    refine lv_iconst (v := 0) hx hb dX4_squareOf_147 (by decide) ?_
    refine z_ci (va_runV (As := [.int (nI q), .int 0]) (rest := []) ⟨hx, hb, hml, hown, hts⟩ (c_X0_towersShading l D cI cZ cL (a0 := a0) (a1 := a1) (a2 := a2) (a3 := a3) (a4 := a4) (fh := fh) (fo := fo) (fc := fc) (fs := fs) (hz := hz) (mv := mv) (tu := tu) (rf := rf) (q := q) (pl := 0) (hq := by omega) (hpl := by omega) (hhz := by omega)) (cwV 2 hts gX4_squareOf_X0_towersShading rfl rfl rfl (by decide +kernel) ⟨Nat.le_of_ble_eq_true rfl, Nat.le_of_ble_eq_true rfl⟩) (z_preV hK (hP.sub [1, 2, 3, 4, 5] rfl) 0 0 rfl rfl) rfl rfl hl.1 rfl (lv_room (Nat.le_of_ble_eq_true rfl)) dX4_squareOf_148 ⟨Nat.le_of_ble_eq_true rfl, Nat.le_of_ble_eq_true rfl⟩) ?_
    refine lv_aload_n hx hb dX4_squareOf_151 rfl (lv_at hl 0 rfl) ?_
    refine va_get (D := D) (ci := 3) (v := .ref a0) (C := RX4) (T := TX4) (N := 5) hx hb hts in3 hown hK hP 0 rfl rfl 0 (by decide) fl10 (fun _ h9 => h9) rfl dX4_squareOf_152 ?_
    refine lv_iload_n hx hb dX4_squareOf_155 rfl (lv_at hl 1 rfl) ?_
    refine lv_iconst (v := 1) hx hb dX4_squareOf_156 (by decide) ?_
    refine z_ci (va_runV (As := [.int (nI q), .int 1]) (rest := [.int (nI (pTn fo fh 0 q hz))]) ⟨hx, hb, hml, hown, hts⟩ (c_X0_towersShading l D cI cZ cL (a0 := a0) (a1 := a1) (a2 := a2) (a3 := a3) (a4 := a4) (fh := fh) (fo := fo) (fc := fc) (fs := fs) (hz := hz) (mv := mv) (tu := tu) (rf := rf) (q := q) (pl := 1) (hq := by omega) (hpl := by omega) (hhz := by omega)) (cwV 2 hts gX4_squareOf_X0_towersShading rfl rfl rfl (by decide +kernel) ⟨Nat.le_of_ble_eq_true rfl, Nat.le_of_ble_eq_true rfl⟩) (z_preV hK (hP.sub [1, 2, 3, 4, 5] rfl) 0 0 rfl rfl) rfl rfl hl.1 rfl (lv_room (Nat.le_of_ble_eq_true rfl)) dX4_squareOf_157 ⟨Nat.le_of_ble_eq_true rfl, Nat.le_of_ble_eq_true rfl⟩) ?_
    refine z_iadd (v := nI (pTn fo fh 0 q hz + pTn fo fh 1 q hz)) hx hb dX4_squareOf_160 (nI_add (pTn fo fh 0 q hz) (pTn fo fh 1 q hz)) ?_
    exact z_iret hx hb hr hlocks dX4_squareOf_161 (by first | rfl | simp [cSq, zb, c4])
  · skip
    refine lv_tableIn (off := 144) (tgt := 162) hx hb dX4_squareOf_18 (by decide) (by decide) rfl (by decide) ?_
    refine lv_aload_n hx hb dX4_squareOf_162 rfl (lv_at hl 0 rfl) ?_
    refine va_get (D := D) (ci := 3) (v := .ref a0) (C := RX4) (T := TX4) (N := 5) hx hb hts in3 hown hK hP 0 rfl rfl 0 (by decide) fl10 (fun _ h9 => h9) rfl dX4_squareOf_163 ?_
    refine lv_iload_n hx hb dX4_squareOf_166 rfl (lv_at hl 1 rfl) ?_
    refine z_ci (va_runV (As := [.int (nI q)]) (rest := []) ⟨hx, hb, hml, hown, hts⟩ (c_X0_squaresShadedFrom l D cI cZ cL (a0 := a0) (a1 := a1) (a2 := a2) (a3 := a3) (a4 := a4) (fh := fh) (fo := fo) (fc := fc) (fs := fs) (hz := hz) (mv := mv) (tu := tu) (rf := rf) (q := q) (hq := by omega) (hhz := by omega)) (cwV 1 hts gX4_squareOf_X0_squaresShadedFrom rfl rfl rfl (by decide +kernel) ⟨Nat.le_of_ble_eq_true rfl, Nat.le_of_ble_eq_true rfl⟩) (z_preV hK (hP.sub [1, 2, 3, 4, 5] rfl) 0 0 rfl rfl) rfl rfl hl.1 rfl (lv_room (Nat.le_of_ble_eq_true rfl)) dX4_squareOf_167 ⟨Nat.le_of_ble_eq_true rfl, Nat.le_of_ble_eq_true rfl⟩) ?_
    exact z_iret hx hb hr hlocks dX4_squareOf_170 (by first | rfl | simp [cSq, zb, c4])
  · skip
    refine lv_tableIn (off := 153) (tgt := 171) hx hb dX4_squareOf_18 (by decide) (by decide) rfl (by decide) ?_
    refine lv_aload_n hx hb dX4_squareOf_171 rfl (lv_at hl 0 rfl) ?_
    refine va_get (D := D) (ci := 3) (v := .ref a0) (C := RX4) (T := TX4) (N := 5) hx hb hts in3 hown hK hP 0 rfl rfl 0 (by decide) fl10 (fun _ h9 => h9) rfl dX4_squareOf_172 ?_
    refine lv_iload_n hx hb dX4_squareOf_175 rfl (lv_at hl 1 rfl) ?_
    refine z_ci (va_runV (As := [.int (nI q)]) (rest := []) ⟨hx, hb, hml, hown, hts⟩ (c_X0_darkHourMask l D cI cZ cL (a0 := a0) (a1 := a1) (a2 := a2) (a3 := a3) (a4 := a4) (fh := fh) (fo := fo) (fc := fc) (fs := fs) (hz := hz) (mv := mv) (tu := tu) (rf := rf) (q := q) (hq := by omega)) (cwV 1 hts gX4_squareOf_X0_darkHourMask rfl rfl rfl (by decide +kernel) ⟨Nat.le_of_ble_eq_true rfl, Nat.le_of_ble_eq_true rfl⟩) (z_preV hK (hP.sub [1, 2, 3, 4, 5] rfl) 0 0 rfl rfl) rfl rfl hl.1 rfl (lv_room (Nat.le_of_ble_eq_true rfl)) dX4_squareOf_176 ⟨Nat.le_of_ble_eq_true rfl, Nat.le_of_ble_eq_true rfl⟩) ?_
    exact z_iret hx hb hr hlocks dX4_squareOf_179 (by first | rfl | simp [cSq, zb, c4])

set_option maxHeartbeats 4000000 in
set_option maxRecDepth 100000 in
theorem c_X4_playerOf_ok (l : Launch) (D : va_G) (cI cZ cL : ClassId) (x0 : Nat) (e1 : Nat) (e2 : Nat) (fl : Nat → Int32) (fk : Nat → Int32) (a0 : Nat) (a1 : Nat) (a2 : Nat) (a3 : Nat) (a4 : Nat) (fh : Nat → Int32) (fo : Nat → Int32) (fc : Nat → Int32) (fs : Nat → Int32) (hz : Nat) (mv : Nat) (tu : Int32) (rf : Int32) (b0 : Nat) (b1 : Nat) (fx : Nat → Int32) (ln : Nat) (d0 : Nat) (d1 : Nat) (fn : Nat → Int32) (od : Nat) (sz6 : Nat) (pl : Nat) (wh : Nat) (hpl : pl < 2) (hwh : wh < 6) (hhz : hz < 12) : Met l yX4_playerOf wsX4_playerOf ({ frames := 3, cells := 0, slots := 0, locals := 73 }) (va_Pc [.ref x0, .int (nI pl), .int (nI wh)] (zWn D cI cZ cL [(x0, .inr (3, [.ref a0, .ref b0, .ref d0, .ref e1, .ref e2])), (a0, .inr (0, [.ref a1, .ref a2, .ref a3, .ref a4, .int (nI hz), .int (nI mv), .int tu, .int rf])), (a1, .inl (cI, 36, .inl fh)), (a2, .inl (cI, 36, .inl fo)), (a3, .inl (cI, 36, .inl fc)), (a4, .inl (cI, 2, .inl fs)), (b0, .inr (1, [.ref b1, .int (nI ln)])), (b1, .inl (cI, 60, .inl fx)), (d0, .inr (2, [.ref d1, .int (nI od), .int (nI sz6)])), (d1, .inl (cI, 684, .inl fn)), (e1, .inl (cI, 228, .inl fl)), (e2, .inl (cZ, 2, .inl fk))])) (zQi (cPl fh fo fc fs hz pl wh)) 0 0 (fun _ => False) := by
  refine Met.ofW (cc := cX4_playerOf) (maxL := 3) (ret := (some .int)) (by decide) rfl ?_
  intro p e s m args below meth c s₁ B hml hv
  obtain ⟨rfl, ⟨hP, hK⟩, hN⟩ := hv
  have hx := B.exec
  have hb := B.bytes
  have hr := B.returns
  have hts := atoms_spec (ws := wsX4_playerOf) B.pre
  have hown : s.vm.findClass RX4 = some m.cls := findClass_of_methodNamed B.named
  have hlocks := B.notSynchronized
  have in0 : ∀ w ∈ u_ws RX0 TX0 8, w ∈ wsX4_playerOf := by decide +kernel
  have in3 : ∀ w ∈ u_ws RX4 TX4 5, w ∈ wsX4_playerOf := by decide +kernel
  have fl10 := hts (.fieldLink RX4 10 "TowerShades" "field" "LTowerShades$Field;") (by decide +kernel)
  have hl := lv_entry ([.ref x0, .int (nI pl), .int (nI wh)]) (n := 3) (Nat.le_of_ble_eq_true rfl)
  rw [lg_entry_eq]
  generalize (lg_sl ([.ref x0, .int (nI pl), .int (nI wh)]) ++ List.replicate (3 - (lg_sl ([.ref x0, .int (nI pl), .int (nI wh)])).length) Slot.unset).toArray = ls at hl ⊢
  have hl : lv_has ls 3 [(0, .ref x0), (1, .int (nI pl)), (2, .int (nI wh))] := hl
  refine lv_iload_n hx hb dX4_playerOf_0 rfl (lv_at hl 1 rfl) ?_
  refine z_if_lt (tgt := 9) (P := pl < 0) hx hb dX4_playerOf_1 (by decide) (nI_ltI (a := pl) (b := 0) (by omega) (by omega)) (fun c1 => (show False from absurd c1 (by omega)).elim) (fun c1 => ?_)
  refine lv_iload_n hx hb dX4_playerOf_4 rfl (lv_at hl 1 rfl) ?_
  refine lv_iconst (v := 2) hx hb dX4_playerOf_5 (by decide) ?_
  refine z_icmp_lt (tgt := 19) (P := pl < 2) hx hb dX4_playerOf_6 (by decide) (nI_ltI (a := pl) (b := 2) (by omega) (by omega)) (fun c6 => ?_) (fun c6 => (show False from c6 (by omega)).elim)
  refine lv_iload_n hx hb dX4_playerOf_19 rfl (lv_at hl 2 rfl) ?_
  rcases (show wh = 0 ∨ wh = 1 ∨ wh = 2 ∨ wh = 3 ∨ wh = 4 ∨ wh = 5 by omega) with rfl | rfl | rfl | rfl | rfl | rfl
  · skip
    refine lv_tableIn (off := 40) (tgt := 60) hx hb dX4_playerOf_20 (by decide) (by decide) rfl (by decide) ?_
    refine lv_aload_n hx hb dX4_playerOf_60 rfl (lv_at hl 0 rfl) ?_
    refine va_get (D := D) (ci := 3) (v := .ref a0) (C := RX4) (T := TX4) (N := 5) hx hb hts in3 hown hK hP 0 rfl rfl 0 (by decide) fl10 (fun _ h9 => h9) rfl dX4_playerOf_61 ?_
    refine va_getN (D := D) (ci := 0) (v := .ref a4) (C := RX0) (T := TX0) (N := 8) hx hb hts in0 hown hK hP 1 rfl rfl 3 (by decide) (hN.get (i := 169) (r := RX0) (n := "scores") (d := "[I") (by decide)) (fun _ h9 => h9) rfl dX4_playerOf_64 ?_
    refine lv_iload_n hx hb dX4_playerOf_67 rfl (lv_at hl 1 rfl) ?_
    refine z_iald hx hb hK hP 5 0 rfl rfl (k := pl) (rfl) (by omega) (by decide) dX4_playerOf_68 ?_
    exact z_iret hx hb hr hlocks dX4_playerOf_69 (rfl)
  · skip
    refine lv_tableIn (off := 50) (tgt := 70) hx hb dX4_playerOf_20 (by decide) (by decide) rfl (by decide) ?_
    refine lv_aload_n hx hb dX4_playerOf_70 rfl (lv_at hl 0 rfl) ?_
    refine va_get (D := D) (ci := 3) (v := .ref a0) (C := RX4) (T := TX4) (N := 5) hx hb hts in3 hown hK hP 0 rfl rfl 0 (by decide) fl10 (fun _ h9 => h9) rfl dX4_playerOf_71 ?_
    refine lv_iload_n hx hb dX4_playerOf_74 rfl (lv_at hl 1 rfl) ?_
    refine z_ci (va_runV (As := [.int (nI pl)]) (rest := []) ⟨hx, hb, hml, hown, hts⟩ (c_X0_towersOf l D cI cZ cL (a0 := a0) (a1 := a1) (a2 := a2) (a3 := a3) (a4 := a4) (fh := fh) (fo := fo) (fc := fc) (fs := fs) (hz := hz) (mv := mv) (tu := tu) (rf := rf) (pl := pl) (hpl := by omega)) (cwV 1 hts gX4_playerOf_X0_towersOf rfl rfl rfl (by decide +kernel) ⟨Nat.le_of_ble_eq_true rfl, Nat.le_of_ble_eq_true rfl⟩) (z_preV hK (hP.sub [1, 2, 3, 4, 5] rfl) 0 0 rfl rfl) rfl rfl hl.1 rfl (lv_room (Nat.le_of_ble_eq_true rfl)) dX4_playerOf_75 ⟨Nat.le_of_ble_eq_true rfl, Nat.le_of_ble_eq_true rfl⟩) ?_
    exact z_iret hx hb hr hlocks dX4_playerOf_78 (rfl)
  · skip
    refine lv_tableIn (off := 59) (tgt := 79) hx hb dX4_playerOf_20 (by decide) (by decide) rfl (by decide) ?_
    refine lv_aload_n hx hb dX4_playerOf_79 rfl (lv_at hl 0 rfl) ?_
    refine va_get (D := D) (ci := 3) (v := .ref a0) (C := RX4) (T := TX4) (N := 5) hx hb hts in3 hown hK hP 0 rfl rfl 0 (by decide) fl10 (fun _ h9 => h9) rfl dX4_playerOf_80 ?_
    refine lv_iload_n hx hb dX4_playerOf_83 rfl (lv_at hl 1 rfl) ?_
    refine z_ci (va_runV (As := [.int (nI pl)]) (rest := []) ⟨hx, hb, hml, hown, hts⟩ (c_X0_heightsOf l D cI cZ cL (a0 := a0) (a1 := a1) (a2 := a2) (a3 := a3) (a4 := a4) (fh := fh) (fo := fo) (fc := fc) (fs := fs) (hz := hz) (mv := mv) (tu := tu) (rf := rf) (pl := pl) (hpl := by omega)) (cwV 1 hts gX4_playerOf_X0_heightsOf rfl rfl rfl (by decide +kernel) ⟨Nat.le_of_ble_eq_true rfl, Nat.le_of_ble_eq_true rfl⟩) (z_preV hK (hP.sub [1, 2, 3, 4, 5] rfl) 0 0 rfl rfl) rfl rfl hl.1 rfl (lv_room (Nat.le_of_ble_eq_true rfl)) dX4_playerOf_84 ⟨Nat.le_of_ble_eq_true rfl, Nat.le_of_ble_eq_true rfl⟩) ?_
    exact z_iret hx hb hr hlocks dX4_playerOf_87 (rfl)
  · skip
    refine lv_tableIn (off := 68) (tgt := 88) hx hb dX4_playerOf_20 (by decide) (by decide) rfl (by decide) ?_
    refine lv_aload_n hx hb dX4_playerOf_88 rfl (lv_at hl 0 rfl) ?_
    refine va_get (D := D) (ci := 3) (v := .ref a0) (C := RX4) (T := TX4) (N := 5) hx hb hts in3 hown hK hP 0 rfl rfl 0 (by decide) fl10 (fun _ h9 => h9) rfl dX4_playerOf_89 ?_
    refine lv_iload_n hx hb dX4_playerOf_92 rfl (lv_at hl 1 rfl) ?_
    refine z_ci (va_runV (As := [.int (nI pl)]) (rest := []) ⟨hx, hb, hml, hown, hts⟩ (c_X0_darkTowersOf l D cI cZ cL (a0 := a0) (a1 := a1) (a2 := a2) (a3 := a3) (a4 := a4) (fh := fh) (fo := fo) (fc := fc) (fs := fs) (hz := hz) (mv := mv) (tu := tu) (rf := rf) (pl := pl) (hpl := by omega) (hhz := by omega)) (cwV 1 hts gX4_playerOf_X0_darkTowersOf rfl rfl rfl (by decide +kernel) ⟨Nat.le_of_ble_eq_true rfl, Nat.le_of_ble_eq_true rfl⟩) (z_preV hK (hP.sub [1, 2, 3, 4, 5] rfl) 0 0 rfl rfl) rfl rfl hl.1 rfl (lv_room (Nat.le_of_ble_eq_true rfl)) dX4_playerOf_93 ⟨Nat.le_of_ble_eq_true rfl, Nat.le_of_ble_eq_true rfl⟩) ?_
    exact z_iret hx hb hr hlocks dX4_playerOf_96 (rfl)
  · skip
    refine lv_tableIn (off := 77) (tgt := 97) hx hb dX4_playerOf_20 (by decide) (by decide) rfl (by decide) ?_
    refine lv_aload_n hx hb dX4_playerOf_97 rfl (lv_at hl 0 rfl) ?_
    refine va_get (D := D) (ci := 3) (v := .ref a0) (C := RX4) (T := TX4) (N := 5) hx hb hts in3 hown hK hP 0 rfl rfl 0 (by decide) fl10 (fun _ h9 => h9) rfl dX4_playerOf_98 ?_
    refine lv_iload_n hx hb dX4_playerOf_101 rfl (lv_at hl 1 rfl) ?_
    refine z_ci (va_runV (As := [.int (nI pl)]) (rest := []) ⟨hx, hb, hml, hown, hts⟩ (c_X0_payNow l D cI cZ cL (a0 := a0) (a1 := a1) (a2 := a2) (a3 := a3) (a4 := a4) (fh := fh) (fo := fo) (fc := fc) (fs := fs) (hz := hz) (mv := mv) (tu := tu) (rf := rf) (pl := pl) (hpl := by omega) (hhz := by omega)) (cwV 1 hts gX4_playerOf_X0_payNow rfl rfl rfl (by decide +kernel) ⟨Nat.le_of_ble_eq_true rfl, Nat.le_of_ble_eq_true rfl⟩) (z_preV hK (hP.sub [1, 2, 3, 4, 5] rfl) 0 0 rfl rfl) rfl rfl hl.1 rfl (lv_room (Nat.le_of_ble_eq_true rfl)) dX4_playerOf_102 ⟨Nat.le_of_ble_eq_true rfl, Nat.le_of_ble_eq_true rfl⟩) ?_
    exact z_iret hx hb hr hlocks dX4_playerOf_105 (rfl)
  · skip
    refine lv_tableIn (off := 86) (tgt := 106) hx hb dX4_playerOf_20 (by decide) (by decide) rfl (by decide) ?_
    refine lv_aload_n hx hb dX4_playerOf_106 rfl (lv_at hl 0 rfl) ?_
    refine va_get (D := D) (ci := 3) (v := .ref a0) (C := RX4) (T := TX4) (N := 5) hx hb hts in3 hown hK hP 0 rfl rfl 0 (by decide) fl10 (fun _ h9 => h9) rfl dX4_playerOf_107 ?_
    refine lv_iload_n hx hb dX4_playerOf_110 rfl (lv_at hl 1 rfl) ?_
    refine z_ci (va_runV (As := [.int (nI pl)]) (rest := []) ⟨hx, hb, hml, hown, hts⟩ (c_X0_rivalsShadedBy l D cI cZ cL (a0 := a0) (a1 := a1) (a2 := a2) (a3 := a3) (a4 := a4) (fh := fh) (fo := fo) (fc := fc) (fs := fs) (hz := hz) (mv := mv) (tu := tu) (rf := rf) (pl := pl) (hpl := by omega) (hhz := by omega)) (cwV 1 hts gX4_playerOf_X0_rivalsShadedBy rfl rfl rfl (by decide +kernel) ⟨Nat.le_of_ble_eq_true rfl, Nat.le_of_ble_eq_true rfl⟩) (z_preV hK (hP.sub [1, 2, 3, 4, 5] rfl) 0 0 rfl rfl) rfl rfl hl.1 rfl (lv_room (Nat.le_of_ble_eq_true rfl)) dX4_playerOf_111 ⟨Nat.le_of_ble_eq_true rfl, Nat.le_of_ble_eq_true rfl⟩) ?_
    exact z_iret hx hb hr hlocks dX4_playerOf_114 (rfl)

set_option maxHeartbeats 4000000 in
set_option maxRecDepth 100000 in
theorem c_X4_count_ok (l : Launch) (D : va_G) (cI cZ cL : ClassId) (x0 : Nat) (e1 : Nat) (e2 : Nat) (fl : Nat → Int32) (fk : Nat → Int32) (a0 : Nat) (a1 : Nat) (a2 : Nat) (a3 : Nat) (a4 : Nat) (fh : Nat → Int32) (fo : Nat → Int32) (fc : Nat → Int32) (fs : Nat → Int32) (hz : Nat) (mv : Nat) (tu : Int32) (rf : Int32) (b0 : Nat) (b1 : Nat) (fx : Nat → Int32) (ln : Nat) (d0 : Nat) (d1 : Nat) (fn : Nat → Int32) (od : Nat) (sz6 : Nat) (wh : Nat) (hwh : wh < 10) (hhz : hz < 12) : Met l yX4_count wsX4_count ({ frames := 3, cells := 0, slots := 0, locals := 71 }) (va_Pc [.ref x0, .int (nI wh)] (zWn D cI cZ cL [(x0, .inr (3, [.ref a0, .ref b0, .ref d0, .ref e1, .ref e2])), (a0, .inr (0, [.ref a1, .ref a2, .ref a3, .ref a4, .int (nI hz), .int (nI mv), .int tu, .int rf])), (a1, .inl (cI, 36, .inl fh)), (a2, .inl (cI, 36, .inl fo)), (a3, .inl (cI, 36, .inl fc)), (a4, .inl (cI, 2, .inl fs)), (b0, .inr (1, [.ref b1, .int (nI ln)])), (b1, .inl (cI, 60, .inl fx)), (d0, .inr (2, [.ref d1, .int (nI od), .int (nI sz6)])), (d1, .inl (cI, 684, .inl fn)), (e1, .inl (cI, 228, .inl fl)), (e2, .inl (cZ, 2, .inl fk))])) (zQi (cCo fh fo fc hz mv tu rf sz6 wh)) 0 0 (fun _ => False) := by
  refine Met.ofW (cc := cX4_count) (maxL := 2) (ret := (some .int)) (by decide) rfl ?_
  intro p e s m args below meth c s₁ B hml hv
  obtain ⟨rfl, ⟨hP, hK⟩, hN⟩ := hv
  have hx := B.exec
  have hb := B.bytes
  have hr := B.returns
  have hts := atoms_spec (ws := wsX4_count) B.pre
  have hown : s.vm.findClass RX4 = some m.cls := findClass_of_methodNamed B.named
  have hlocks := B.notSynchronized
  have in0 : ∀ w ∈ u_ws RX0 TX0 8, w ∈ wsX4_count := by decide +kernel
  have in2 : ∀ w ∈ u_ws RX2 TX2 3, w ∈ wsX4_count := by decide +kernel
  have in3 : ∀ w ∈ u_ws RX4 TX4 5, w ∈ wsX4_count := by decide +kernel
  have fl10 := hts (.fieldLink RX4 10 "TowerShades" "field" "LTowerShades$Field;") (by decide +kernel)
  have fl26 := hts (.fieldLink RX4 26 "TowerShades" "saved" "LTowerShades$SavedStates;") (by decide +kernel)
  have hl := lv_entry ([.ref x0, .int (nI wh)]) (n := 2) (Nat.le_of_ble_eq_true rfl)
  rw [lg_entry_eq]
  generalize (lg_sl ([.ref x0, .int (nI wh)]) ++ List.replicate (2 - (lg_sl ([.ref x0, .int (nI wh)])).length) Slot.unset).toArray = ls at hl ⊢
  have hl : lv_has ls 2 [(0, .ref x0), (1, .int (nI wh))] := hl
  refine lv_iload_n hx hb dX4_count_0 rfl (lv_at hl 1 rfl) ?_
  rcases (show wh = 0 ∨ wh = 1 ∨ wh = 2 ∨ wh = 3 ∨ wh = 4 ∨ wh = 5 ∨ wh = 6 ∨ wh = 7 ∨ wh = 8 ∨ wh = 9 by omega) with rfl | rfl | rfl | rfl | rfl | rfl | rfl | rfl | rfl | rfl
  · skip
    refine lv_tableIn (off := 55) (tgt := 56) hx hb dX4_count_1 (by decide) (by decide) rfl (by decide) ?_
    refine lv_aload_n hx hb dX4_count_56 rfl (lv_at hl 0 rfl) ?_
    refine va_get (D := D) (ci := 3) (v := .ref a0) (C := RX4) (T := TX4) (N := 5) hx hb hts in3 hown hK hP 0 rfl rfl 0 (by decide) fl10 (fun _ h9 => h9) rfl dX4_count_57 ?_
    refine va_getN (D := D) (ci := 0) (v := .int (nI hz)) (C := RX0) (T := TX0) (N := 8) hx hb hts in0 hown hK hP 1 rfl rfl 4 (by decide) (hN.get (i := 87) (r := RX0) (n := "hourNow") (d := "I") (by decide)) (fun _ h9 => h9) rfl dX4_count_60 ?_
    exact z_iret hx hb hr hlocks dX4_count_63 (rfl)
  · skip
    refine lv_tableIn (off := 63) (tgt := 64) hx hb dX4_count_1 (by decide) (by decide) rfl (by decide) ?_
    refine lv_aload_n hx hb dX4_count_64 rfl (lv_at hl 0 rfl) ?_
    refine va_get (D := D) (ci := 3) (v := .ref a0) (C := RX4) (T := TX4) (N := 5) hx hb hts in3 hown hK hP 0 rfl rfl 0 (by decide) fl10 (fun _ h9 => h9) rfl dX4_count_65 ?_
    refine va_getN (D := D) (ci := 0) (v := .int (nI hz)) (C := RX0) (T := TX0) (N := 8) hx hb hts in0 hown hK hP 1 rfl rfl 4 (by decide) (hN.get (i := 87) (r := RX0) (n := "hourNow") (d := "I") (by decide)) (fun _ h9 => h9) rfl dX4_count_68 ?_
    refine z_ci (va_runS (As := [.int (nI hz)]) (rest := []) ⟨hx, hb, hml, hown, hts⟩ (c_X3_side l (hz := hz) (hh := by omega)) (va_cwS 1 hts gX4_count_X3_side rfl rfl rfl (by decide +kernel) ⟨Nat.le_of_ble_eq_true rfl, Nat.le_of_ble_eq_true rfl⟩) z_preS rfl rfl hl.1 rfl (lv_room (Nat.le_of_ble_eq_true rfl)) dX4_count_71 ⟨Nat.le_of_ble_eq_true rfl, Nat.le_of_ble_eq_true rfl⟩) ?_
    exact z_iret hx hb hr hlocks dX4_count_74 (rfl)
  · skip
    refine lv_tableIn (off := 74) (tgt := 75) hx hb dX4_count_1 (by decide) (by decide) rfl (by decide) ?_
    refine lv_aload_n hx hb dX4_count_75 rfl (lv_at hl 0 rfl) ?_
    refine va_get (D := D) (ci := 3) (v := .ref a0) (C := RX4) (T := TX4) (N := 5) hx hb hts in3 hown hK hP 0 rfl rfl 0 (by decide) fl10 (fun _ h9 => h9) rfl dX4_count_76 ?_
    refine va_getN (D := D) (ci := 0) (v := .int (nI hz)) (C := RX0) (T := TX0) (N := 8) hx hb hts in0 hown hK hP 1 rfl rfl 4 (by decide) (hN.get (i := 87) (r := RX0) (n := "hourNow") (d := "I") (by decide)) (fun _ h9 => h9) rfl dX4_count_79 ?_
    refine z_ci (va_runS (As := [.int (nI hz)]) (rest := []) ⟨hx, hb, hml, hown, hts⟩ (c_X3_steepness l (hz := hz) (hh := by omega)) (va_cwS 1 hts gX4_count_X3_steepness rfl rfl rfl (by decide +kernel) ⟨Nat.le_of_ble_eq_true rfl, Nat.le_of_ble_eq_true rfl⟩) z_preS rfl rfl hl.1 rfl (lv_room (Nat.le_of_ble_eq_true rfl)) dX4_count_82 ⟨Nat.le_of_ble_eq_true rfl, Nat.le_of_ble_eq_true rfl⟩) ?_
    exact z_iret hx hb hr hlocks dX4_count_85 (rfl)
  · skip
    refine lv_tableIn (off := 85) (tgt := 86) hx hb dX4_count_1 (by decide) (by decide) rfl (by decide) ?_
    refine lv_aload_n hx hb dX4_count_86 rfl (lv_at hl 0 rfl) ?_
    refine va_get (D := D) (ci := 3) (v := .ref a0) (C := RX4) (T := TX4) (N := 5) hx hb hts in3 hown hK hP 0 rfl rfl 0 (by decide) fl10 (fun _ h9 => h9) rfl dX4_count_87 ?_
    refine va_getN (D := D) (ci := 0) (v := .int (nI mv)) (C := RX0) (T := TX0) (N := 8) hx hb hts in0 hown hK hP 1 rfl rfl 5 (by decide) (hN.get (i := 61) (r := RX0) (n := "mover") (d := "I") (by decide)) (fun _ h9 => h9) rfl dX4_count_90 ?_
    exact z_iret hx hb hr hlocks dX4_count_93 (rfl)
  · skip
    refine lv_tableIn (off := 93) (tgt := 94) hx hb dX4_count_1 (by decide) (by decide) rfl (by decide) ?_
    refine lv_aload_n hx hb dX4_count_94 rfl (lv_at hl 0 rfl) ?_
    refine va_get (D := D) (ci := 3) (v := .ref a0) (C := RX4) (T := TX4) (N := 5) hx hb hts in3 hown hK hP 0 rfl rfl 0 (by decide) fl10 (fun _ h9 => h9) rfl dX4_count_95 ?_
    refine va_getN (D := D) (ci := 0) (v := .int tu) (C := RX0) (T := TX0) (N := 8) hx hb hts in0 hown hK hP 1 rfl rfl 6 (by decide) (hN.get (i := 194) (r := RX0) (n := "turns") (d := "I") (by decide)) (fun _ h9 => h9) rfl dX4_count_98 ?_
    exact z_iret hx hb hr hlocks dX4_count_101 (rfl)
  · skip
    refine lv_tableIn (off := 101) (tgt := 102) hx hb dX4_count_1 (by decide) (by decide) rfl (by decide) ?_
    refine lv_aload_n hx hb dX4_count_102 rfl (lv_at hl 0 rfl) ?_
    refine va_get (D := D) (ci := 3) (v := .ref a0) (C := RX4) (T := TX4) (N := 5) hx hb hts in3 hown hK hP 0 rfl rfl 0 (by decide) fl10 (fun _ h9 => h9) rfl dX4_count_103 ?_
    refine lv_aload_n hx hb dX4_count_106 rfl (lv_at hl 0 rfl) ?_
    refine va_get (D := D) (ci := 3) (v := .ref a0) (C := RX4) (T := TX4) (N := 5) hx hb hts in3 hown hK hP 0 rfl rfl 0 (by decide) fl10 (fun _ h9 => h9) rfl dX4_count_107 ?_
    refine va_getN (D := D) (ci := 0) (v := .int (nI hz)) (C := RX0) (T := TX0) (N := 8) hx hb hts in0 hown hK hP 1 rfl rfl 4 (by decide) (hN.get (i := 87) (r := RX0) (n := "hourNow") (d := "I") (by decide)) (fun _ h9 => h9) rfl dX4_count_110 ?_
    refine z_ci (va_runV (As := [.int (nI hz)]) (rest := []) ⟨hx, hb, hml, hown, hts⟩ (c_X0_darkSquares l D cI cZ cL (a0 := a0) (a1 := a1) (a2 := a2) (a3 := a3) (a4 := a4) (fh := fh) (fo := fo) (fc := fc) (fs := fs) (hz := hz) (mv := mv) (tu := tu) (rf := rf) (hu := hz) (hhu := by omega)) (cwV 1 hts gX4_count_X0_darkSquares rfl rfl rfl (by decide +kernel) ⟨Nat.le_of_ble_eq_true rfl, Nat.le_of_ble_eq_true rfl⟩) (z_preV hK (hP.sub [1, 2, 3, 4, 5] rfl) 0 0 rfl rfl) rfl rfl hl.1 rfl (lv_room (Nat.le_of_ble_eq_true rfl)) dX4_count_113 ⟨Nat.le_of_ble_eq_true rfl, Nat.le_of_ble_eq_true rfl⟩) ?_
    exact z_iret hx hb hr hlocks dX4_count_116 (rfl)
  · skip
    refine lv_tableIn (off := 116) (tgt := 117) hx hb dX4_count_1 (by decide) (by decide) rfl (by decide) ?_
    refine lv_aload_n hx hb dX4_count_117 rfl (lv_at hl 0 rfl) ?_
    refine va_get (D := D) (ci := 3) (v := .ref a0) (C := RX4) (T := TX4) (N := 5) hx hb hts in3 hown hK hP 0 rfl rfl 0 (by decide) fl10 (fun _ h9 => h9) rfl dX4_count_118 ?_
    refine z_ci (va_runV (As := []) (rest := []) ⟨hx, hb, hml, hown, hts⟩ (c_X0_towers l D cI cZ cL (a0 := a0) (a1 := a1) (a2 := a2) (a3 := a3) (a4 := a4) (fh := fh) (fo := fo) (fc := fc) (fs := fs) (hz := hz) (mv := mv) (tu := tu) (rf := rf)) (cwV 0 hts gX4_count_X0_towers rfl rfl rfl (by decide +kernel) ⟨Nat.le_of_ble_eq_true rfl, Nat.le_of_ble_eq_true rfl⟩) (z_preV hK (hP.sub [1, 2, 3, 4, 5] rfl) 0 0 rfl rfl) rfl rfl hl.1 rfl (lv_room (Nat.le_of_ble_eq_true rfl)) dX4_count_121 ⟨Nat.le_of_ble_eq_true rfl, Nat.le_of_ble_eq_true rfl⟩) ?_
    exact z_iret hx hb hr hlocks dX4_count_124 (rfl)
  · skip
    refine lv_tableIn (off := 124) (tgt := 125) hx hb dX4_count_1 (by decide) (by decide) rfl (by decide) ?_
    refine lv_aload_n hx hb dX4_count_125 rfl (lv_at hl 0 rfl) ?_
    refine va_get (D := D) (ci := 3) (v := .ref a0) (C := RX4) (T := TX4) (N := 5) hx hb hts in3 hown hK hP 0 rfl rfl 0 (by decide) fl10 (fun _ h9 => h9) rfl dX4_count_126 ?_
    refine z_ci (va_runV (As := []) (rest := []) ⟨hx, hb, hml, hown, hts⟩ (c_X0_crowdsTogether l D cI cZ cL (a0 := a0) (a1 := a1) (a2 := a2) (a3 := a3) (a4 := a4) (fh := fh) (fo := fo) (fc := fc) (fs := fs) (hz := hz) (mv := mv) (tu := tu) (rf := rf)) (cwV 0 hts gX4_count_X0_crowdsTogether rfl rfl rfl (by decide +kernel) ⟨Nat.le_of_ble_eq_true rfl, Nat.le_of_ble_eq_true rfl⟩) (z_preV hK (hP.sub [1, 2, 3, 4, 5] rfl) 0 0 rfl rfl) rfl rfl hl.1 rfl (lv_room (Nat.le_of_ble_eq_true rfl)) dX4_count_129 ⟨Nat.le_of_ble_eq_true rfl, Nat.le_of_ble_eq_true rfl⟩) ?_
    exact z_iret hx hb hr hlocks dX4_count_132 (rfl)
  · skip
    refine lv_tableIn (off := 132) (tgt := 133) hx hb dX4_count_1 (by decide) (by decide) rfl (by decide) ?_
    refine lv_aload_n hx hb dX4_count_133 rfl (lv_at hl 0 rfl) ?_
    refine va_get (D := D) (ci := 3) (v := .ref a0) (C := RX4) (T := TX4) (N := 5) hx hb hts in3 hown hK hP 0 rfl rfl 0 (by decide) fl10 (fun _ h9 => h9) rfl dX4_count_134 ?_
    refine va_getN (D := D) (ci := 0) (v := .int rf) (C := RX0) (T := TX0) (N := 8) hx hb hts in0 hown hK hP 1 rfl rfl 7 (by decide) (hN.get (i := 57) (r := RX0) (n := "refused") (d := "I") (by decide)) (fun _ h9 => h9) rfl dX4_count_137 ?_
    exact z_iret hx hb hr hlocks dX4_count_140 (rfl)
  · skip
    refine lv_tableIn (off := 140) (tgt := 141) hx hb dX4_count_1 (by decide) (by decide) rfl (by decide) ?_
    refine lv_aload_n hx hb dX4_count_141 rfl (lv_at hl 0 rfl) ?_
    refine va_get (D := D) (ci := 3) (v := .ref d0) (C := RX4) (T := TX4) (N := 5) hx hb hts in3 hown hK hP 0 rfl rfl 2 (by decide) fl26 (fun _ h9 => h9) rfl dX4_count_142 ?_
    refine va_getN (D := D) (ci := 2) (v := .int (nI sz6)) (C := RX2) (T := TX2) (N := 3) hx hb hts in2 hown hK hP 8 rfl rfl 2 (by decide) (hN.get (i := 137) (r := RX2) (n := "size") (d := "I") (by decide)) (fun _ h9 => h9) rfl dX4_count_145 ?_
    exact z_iret hx hb hr hlocks dX4_count_148 (rfl)

set_option maxHeartbeats 4000000 in
set_option maxRecDepth 100000 in
theorem c_X4_whyNot_ok (l : Launch) (D : va_G) (cI cZ cL : ClassId) (x0 : Nat) (e1 : Nat) (e2 : Nat) (fl : Nat → Int32) (fk : Nat → Int32) (a0 : Nat) (a1 : Nat) (a2 : Nat) (a3 : Nat) (a4 : Nat) (fh : Nat → Int32) (fo : Nat → Int32) (fc : Nat → Int32) (fs : Nat → Int32) (hz : Nat) (mv : Nat) (tu : Int32) (rf : Int32) (b0 : Nat) (b1 : Nat) (fx : Nat → Int32) (ln : Nat) (d0 : Nat) (d1 : Nat) (fn : Nat → Int32) (od : Nat) (sz6 : Nat) (q : Nat) (hq : q < 36) (hhz : hz < 12) (hmv : mv < 2) : Met l yX4_whyNot wsX4_whyNot ({ frames := 3, cells := 0, slots := 0, locals := 69 }) (va_Pc [.ref x0, .int (nI q)] (zWn D cI cZ cL [(x0, .inr (3, [.ref a0, .ref b0, .ref d0, .ref e1, .ref e2])), (a0, .inr (0, [.ref a1, .ref a2, .ref a3, .ref a4, .int (nI hz), .int (nI mv), .int tu, .int rf])), (a1, .inl (cI, 36, .inl fh)), (a2, .inl (cI, 36, .inl fo)), (a3, .inl (cI, 36, .inl fc)), (a4, .inl (cI, 2, .inl fs)), (b0, .inr (1, [.ref b1, .int (nI ln)])), (b1, .inl (cI, 60, .inl fx)), (d0, .inr (2, [.ref d1, .int (nI od), .int (nI sz6)])), (d1, .inl (cI, 684, .inl fn)), (e1, .inl (cI, 228, .inl fl)), (e2, .inl (cZ, 2, .inl fk))])) (zQi (nI (pRe fo fh hz mv q))) 0 0 (fun _ => False) := by
  refine Met.ofW (cc := cX4_whyNot) (maxL := 2) (ret := (some .int)) (by decide) rfl ?_
  intro p e s m args below meth c s₁ B hml hv
  obtain ⟨rfl, ⟨hP, hK⟩, hN⟩ := hv
  have hx := B.exec
  have hb := B.bytes
  have hr := B.returns
  have hts := atoms_spec (ws := wsX4_whyNot) B.pre
  have hown : s.vm.findClass RX4 = some m.cls := findClass_of_methodNamed B.named
  have hlocks := B.notSynchronized
  have in3 : ∀ w ∈ u_ws RX4 TX4 5, w ∈ wsX4_whyNot := by decide +kernel
  have fl10 := hts (.fieldLink RX4 10 "TowerShades" "field" "LTowerShades$Field;") (by decide +kernel)
  have hl := lv_entry ([.ref x0, .int (nI q)]) (n := 2) (Nat.le_of_ble_eq_true rfl)
  rw [lg_entry_eq]
  generalize (lg_sl ([.ref x0, .int (nI q)]) ++ List.replicate (2 - (lg_sl ([.ref x0, .int (nI q)])).length) Slot.unset).toArray = ls at hl ⊢
  have hl : lv_has ls 2 [(0, .ref x0), (1, .int (nI q))] := hl
  refine lv_iload_n hx hb dX4_whyNot_0 rfl (lv_at hl 1 rfl) ?_
  refine z_ci (va_runS (As := [.int (nI q)]) (rest := []) ⟨hx, hb, hml, hown, hts⟩ (c_X4_isSquare l (p0 := nI q)) (va_cwS 1 hts gX4_whyNot_X4_isSquare rfl rfl rfl (by decide +kernel) ⟨Nat.le_of_ble_eq_true rfl, Nat.le_of_ble_eq_true rfl⟩) z_preS rfl rfl hl.1 rfl (lv_room (Nat.le_of_ble_eq_true rfl)) dX4_whyNot_1 ⟨Nat.le_of_ble_eq_true rfl, Nat.le_of_ble_eq_true rfl⟩) ?_
  refine z_top (y := 1) (by rw [sq_ok q hq]; rfl) ?_
  refine z_if_ne (tgt := 17) (P := False) hx hb dX4_whyNot_4 (by decide) (by decide) (fun c4 => ?_) (fun c4 => (show False from c4).elim)
  refine lv_aload_n hx hb dX4_whyNot_17 rfl (lv_at hl 0 rfl) ?_
  refine va_get (D := D) (ci := 3) (v := .ref a0) (C := RX4) (T := TX4) (N := 5) hx hb hts in3 hown hK hP 0 rfl rfl 0 (by decide) fl10 (fun _ h9 => h9) rfl dX4_whyNot_18 ?_
  refine lv_iload_n hx hb dX4_whyNot_21 rfl (lv_at hl 1 rfl) ?_
  refine z_ci (va_runV (As := [.int (nI q)]) (rest := []) ⟨hx, hb, hml, hown, hts⟩ (c_X0_refusalReason l D cI cZ cL (a0 := a0) (a1 := a1) (a2 := a2) (a3 := a3) (a4 := a4) (fh := fh) (fo := fo) (fc := fc) (fs := fs) (hz := hz) (mv := mv) (tu := tu) (rf := rf) (q := q) (hq := by omega) (hhz := by omega) (hmv := by omega)) (cwV 1 hts gX4_whyNot_X0_refusalReason rfl rfl rfl (by decide +kernel) ⟨Nat.le_of_ble_eq_true rfl, Nat.le_of_ble_eq_true rfl⟩) (z_preV hK (hP.sub [1, 2, 3, 4, 5] rfl) 0 0 rfl rfl) rfl rfl hl.1 rfl (lv_room (Nat.le_of_ble_eq_true rfl)) dX4_whyNot_22 ⟨Nat.le_of_ble_eq_true rfl, Nat.le_of_ble_eq_true rfl⟩) ?_
  exact z_iret hx hb hr hlocks dX4_whyNot_25 (rfl)

set_option maxHeartbeats 4000000 in
set_option maxRecDepth 100000 in
theorem c_X4_ifRaised_ok (l : Launch) (D : va_G) (cI cZ cL : ClassId) (sz : Nat) (x0 : Nat) (e1 : Nat) (e2 : Nat) (fl : Nat → Int32) (fk : Nat → Int32) (a0 : Nat) (a1 : Nat) (a2 : Nat) (a3 : Nat) (a4 : Nat) (fh : Nat → Int32) (fo : Nat → Int32) (fc : Nat → Int32) (fs : Nat → Int32) (hz : Nat) (mv : Nat) (tu : Int32) (rf : Int32) (b0 : Nat) (b1 : Nat) (fx : Nat → Int32) (ln : Nat) (d0 : Nat) (d1 : Nat) (fn : Nat → Int32) (od : Nat) (sz6 : Nat) (q : Nat) (hq : q < 36) (hhz : hz < 12) (hmv : mv < 2) : Met l yX4_ifRaised wsX4_ifRaised ({ frames := 4, cells := 0, slots := 0, locals := 95 }) (va_Pc [.ref x0, .int (nI q)] (zMn D cI cZ cL [(x0, .inr (3, [.ref a0, .ref b0, .ref d0, .ref e1, .ref e2])), (a0, .inr (0, [.ref a1, .ref a2, .ref a3, .ref a4, .int (nI hz), .int (nI mv), .int tu, .int rf])), (a1, .inl (cI, 36, .inl fh)), (a2, .inl (cI, 36, .inl fo)), (a3, .inl (cI, 36, .inl fc)), (a4, .inl (cI, 2, .inl fs)), (b0, .inr (1, [.ref b1, .int (nI ln)])), (b1, .inl (cI, 60, .inl fx)), (d0, .inr (2, [.ref d1, .int (nI od), .int (nI sz6)])), (d1, .inl (cI, 684, .inl fn)), (e1, .inl (cI, 228, .inl fl)), (e2, .inl (cZ, 2, .inl fk))] sz)) (zQmi D (cWo fo fh fc hz mv q) [(x0, .inr (3, [.ref a0, .ref b0, .ref d0, .ref e1, .ref e2])), (a0, .inr (0, [.ref a1, .ref a2, .ref a3, .ref a4, .int (nI hz), .int (nI mv), .int tu, .int rf])), (a1, .inl (cI, 36, .inl fh)), (a2, .inl (cI, 36, .inl fo)), (a3, .inl (cI, 36, .inl fc)), (a4, .inl (cI, 2, .inl fs)), (b0, .inr (1, [.ref b1, .int (nI ln)])), (b1, .inl (cI, 60, .inl fx)), (d0, .inr (2, [.ref d1, .int (nI od), .int (nI sz6)])), (d1, .inl (cI, 684, .inl fn)), (e1, .inl (cI, 228, .inl fl)), (e2, .inl (cZ, 2, .inl fk))] [(x0, .inr (3, [.ref a0, .ref b0, .ref d0, .ref e1, .ref e2])), (a0, .inr (0, [.ref a1, .ref a2, .ref a3, .ref a4, .int (nI hz), .int (nI mv), .int tu, .int rf])), (a1, .inl (cI, 36, .inl fh)), (a2, .inl (cI, 36, .inl fo)), (a3, .inl (cI, 36, .inl fc)), (a4, .inl (cI, 2, .inl fs)), (b0, .inr (1, [.ref b1, .int (nI ln)])), (b1, .inl (cI, 60, .inl fx)), (d0, .inr (2, [.ref d1, .int (nI od), .int (nI sz6)])), (d1, .inl (cI, 684, .inl fn)), (e1, .inl (cI, 228, .inl fl)), (e2, .inl (cZ, 2, .inl fk))] sz) 0 0 (va_A [(x0, .inr (3, [.ref a0, .ref b0, .ref d0, .ref e1, .ref e2])), (a0, .inr (0, [.ref a1, .ref a2, .ref a3, .ref a4, .int (nI hz), .int (nI mv), .int tu, .int rf])), (a1, .inl (cI, 36, .inl fh)), (a2, .inl (cI, 36, .inl fo)), (a3, .inl (cI, 36, .inl fc)), (a4, .inl (cI, 2, .inl fs)), (b0, .inr (1, [.ref b1, .int (nI ln)])), (b1, .inl (cI, 60, .inl fx)), (d0, .inr (2, [.ref d1, .int (nI od), .int (nI sz6)])), (d1, .inl (cI, 684, .inl fn)), (e1, .inl (cI, 228, .inl fl)), (e2, .inl (cZ, 2, .inl fk))] sz) := by
  refine Met.ofW (cc := cX4_ifRaised) (maxL := 2) (ret := (some .int)) (by decide) rfl ?_
  intro p e s m args below meth c s₁ B hml hv
  obtain ⟨rfl, hsz, ⟨⟨hP, hK⟩, hN⟩, hD0⟩ := hv
  have hx := B.exec
  have hb := B.bytes
  have hr := B.returns
  have hts := atoms_spec (ws := wsX4_ifRaised) B.pre
  have hown : s.vm.findClass RX4 = some m.cls := findClass_of_methodNamed B.named
  have hlocks := B.notSynchronized
  subst hsz
  have hD := hD0.self (sz := s.heap.size)
  generalize hAe : va_A [(x0, .inr (3, [.ref a0, .ref b0, .ref d0, .ref e1, .ref e2])), (a0, .inr (0, [.ref a1, .ref a2, .ref a3, .ref a4, .int (nI hz), .int (nI mv), .int tu, .int rf])), (a1, .inl (cI, 36, .inl fh)), (a2, .inl (cI, 36, .inl fo)), (a3, .inl (cI, 36, .inl fc)), (a4, .inl (cI, 2, .inl fs)), (b0, .inr (1, [.ref b1, .int (nI ln)])), (b1, .inl (cI, 60, .inl fx)), (d0, .inr (2, [.ref d1, .int (nI od), .int (nI sz6)])), (d1, .inl (cI, 684, .inl fn)), (e1, .inl (cI, 228, .inl fl)), (e2, .inl (cZ, 2, .inl fk))] s.heap.size = A at hD ⊢
  have hA : ∀ q : Nat, s.heap.size ≤ q → A q := fun q h => by rw [← hAe]; exact Or.inr h
  have hS : va_S A s.heap s.heap [] := va_S.rf
  have in3 : ∀ w ∈ u_ws RX4 TX4 5, w ∈ wsX4_ifRaised := by decide +kernel
  have fl10 := hts (.fieldLink RX4 10 "TowerShades" "field" "LTowerShades$Field;") (by decide +kernel)
  have hl := lv_entry ([.ref x0, .int (nI q)]) (n := 2) (Nat.le_of_ble_eq_true rfl)
  rw [lg_entry_eq]
  generalize (lg_sl ([.ref x0, .int (nI q)]) ++ List.replicate (2 - (lg_sl ([.ref x0, .int (nI q)])).length) Slot.unset).toArray = ls at hl ⊢
  have hl : lv_has ls 2 [(0, .ref x0), (1, .int (nI q))] := hl
  refine lv_iload_n hx hb dX4_ifRaised_0 rfl (lv_at hl 1 rfl) ?_
  refine z_ci (va_runS (As := [.int (nI q)]) (rest := []) ⟨hx, hb, hml, hown, hts⟩ (c_X4_isSquare l (p0 := nI q)) (va_cwS 1 hts gX4_ifRaised_X4_isSquare rfl rfl rfl (by decide +kernel) ⟨Nat.le_of_ble_eq_true rfl, Nat.le_of_ble_eq_true rfl⟩) z_preS rfl rfl hl.1 rfl (lv_room (Nat.le_of_ble_eq_true rfl)) dX4_ifRaised_1 ⟨Nat.le_of_ble_eq_true rfl, Nat.le_of_ble_eq_true rfl⟩) ?_
  refine z_top (y := 1) (by rw [sq_ok q hq]; rfl) ?_
  refine z_if_ne (tgt := 17) (P := False) hx hb dX4_ifRaised_4 (by decide) (by decide) (fun c4 => ?_) (fun c4 => (show False from c4).elim)
  refine lv_aload_n hx hb dX4_ifRaised_17 rfl (lv_at hl 0 rfl) ?_
  refine va_get (D := D) (ci := 3) (v := .ref a0) (C := RX4) (T := TX4) (N := 5) hx hb hts in3 hown hK hP 0 rfl rfl 0 (by decide) fl10 (fun _ h9 => h9) rfl dX4_ifRaised_18 ?_
  refine lv_iload_n hx hb dX4_ifRaised_21 rfl (lv_at hl 1 rfl) ?_
  refine z_cmi (wr := [(x0, .inr (3, [.ref a0, .ref b0, .ref d0, .ref e1, .ref e2])), (b0, .inr (1, [.ref b1, .int (nI ln)])), (b1, .inl (cI, 60, .inl fx)), (d0, .inr (2, [.ref d1, .int (nI od), .int (nI sz6)])), (d1, .inl (cI, 684, .inl fn)), (e1, .inl (cI, 228, .inl fl)), (e2, .inl (cZ, 2, .inl fk))]) (ws' := [(x0, .inr (3, [.ref a0, .ref b0, .ref d0, .ref e1, .ref e2])), (a0, .inr (0, [.ref a1, .ref a2, .ref a3, .ref a4, .int (nI hz), .int (nI mv), .int tu, .int rf])), (a1, .inl (cI, 36, .inl fh)), (a2, .inl (cI, 36, .inl fo)), (a3, .inl (cI, 36, .inl fc)), (a4, .inl (cI, 2, .inl fs)), (b0, .inr (1, [.ref b1, .int (nI ln)])), (b1, .inl (cI, 60, .inl fx)), (d0, .inr (2, [.ref d1, .int (nI od), .int (nI sz6)])), (d1, .inl (cI, 684, .inl fn)), (e1, .inl (cI, 228, .inl fl)), (e2, .inl (cZ, 2, .inl fk))]) (va_runV (As := [.int (nI q)]) (rest := []) ⟨hx, hb, hml, hown, hts⟩ (c_X0_worthOfRaising l D cI cZ cL _ (a0 := a0) (a1 := a1) (a2 := a2) (a3 := a3) (a4 := a4) (fh := fh) (fo := fo) (fc := fc) (fs := fs) (hz := hz) (mv := mv) (tu := tu) (rf := rf) (q := q) (hq := by omega) (hhz := by omega) (hmv := by omega)) (cwV 1 hts gX4_ifRaised_X0_worthOfRaising rfl rfl rfl (by decide +kernel) ⟨Nat.le_of_ble_eq_true rfl, Nat.le_of_ble_eq_true rfl⟩) (z_preMV hK (hP.sub [1, 2, 3, 4, 5] rfl) (hD.sub [1, 2, 3, 4, 5] (by decide) rfl) 0 0 rfl rfl) rfl rfl hl.1 rfl (lv_room (Nat.le_of_ble_eq_true rfl)) dX4_ifRaised_22 ⟨Nat.le_of_ble_eq_true rfl, Nat.le_of_ble_eq_true rfl⟩) hP hD hS hA [1, 2, 3, 4, 5] [0, 6, 7, 8, 9, 10, 11] [0, 7, 8, 9, 10, 11, 1, 2, 3, 4, 5, 6] rfl rfl (by decide) (by decide) rfl rfl (by decide) (fun H locs hP hD hS => ?_)
  have hP9 : va_P D vwCl [(x0, .inr (3, [.ref a0, .ref b0, .ref d0, .ref e1, .ref e2])), (a0, .inr (0, [.ref a1, .ref a2, .ref a3, .ref a4, .int (nI hz), .int (nI mv), .int tu, .int rf])), (a1, .inl (cI, 36, .inl fh)), (a2, .inl (cI, 36, .inl fo)), (a3, .inl (cI, 36, .inl fc)), (a4, .inl (cI, 2, .inl fs)), (b0, .inr (1, [.ref b1, .int (nI ln)])), (b1, .inl (cI, 60, .inl fx)), (d0, .inr (2, [.ref d1, .int (nI od), .int (nI sz6)])), (d1, .inl (cI, 684, .inl fn)), (e1, .inl (cI, 228, .inl fl)), (e2, .inl (cZ, 2, .inl fk))] _ := hP
  have hD9 : va_D A [(x0, .inr (3, [.ref a0, .ref b0, .ref d0, .ref e1, .ref e2])), (a0, .inr (0, [.ref a1, .ref a2, .ref a3, .ref a4, .int (nI hz), .int (nI mv), .int tu, .int rf])), (a1, .inl (cI, 36, .inl fh)), (a2, .inl (cI, 36, .inl fo)), (a3, .inl (cI, 36, .inl fc)), (a4, .inl (cI, 2, .inl fs)), (b0, .inr (1, [.ref b1, .int (nI ln)])), (b1, .inl (cI, 60, .inl fx)), (d0, .inr (2, [.ref d1, .int (nI od), .int (nI sz6)])), (d1, .inl (cI, 684, .inl fn)), (e1, .inl (cI, 228, .inl fl)), (e2, .inl (cZ, 2, .inl fk))] := hD
  subst hAe
  exact z_miret hx hb hr hlocks dX4_ifRaised_25 (rfl) hP9 hD9 hS

set_option maxHeartbeats 4000000 in
set_option maxRecDepth 100000 in
theorem c_X4_bestSquare_ok (l : Launch) (D : va_G) (cI cZ cL : ClassId) (sz : Nat) (x0 : Nat) (e1 : Nat) (e2 : Nat) (fl : Nat → Int32) (fk : Nat → Int32) (a0 : Nat) (a1 : Nat) (a2 : Nat) (a3 : Nat) (a4 : Nat) (fh : Nat → Int32) (fo : Nat → Int32) (fc : Nat → Int32) (fs : Nat → Int32) (hz : Nat) (mv : Nat) (tu : Int32) (rf : Int32) (b0 : Nat) (b1 : Nat) (fx : Nat → Int32) (ln : Nat) (d0 : Nat) (d1 : Nat) (fn : Nat → Int32) (od : Nat) (sz6 : Nat) (hhz : hz < 12) (hmv : mv < 2) : Met l yX4_bestSquare wsX4_bestSquare ({ frames := 4, cells := 0, slots := 0, locals := 95 }) (va_Pc [.ref x0] (zMn D cI cZ cL [(x0, .inr (3, [.ref a0, .ref b0, .ref d0, .ref e1, .ref e2])), (a0, .inr (0, [.ref a1, .ref a2, .ref a3, .ref a4, .int (nI hz), .int (nI mv), .int tu, .int rf])), (a1, .inl (cI, 36, .inl fh)), (a2, .inl (cI, 36, .inl fo)), (a3, .inl (cI, 36, .inl fc)), (a4, .inl (cI, 2, .inl fs)), (b0, .inr (1, [.ref b1, .int (nI ln)])), (b1, .inl (cI, 60, .inl fx)), (d0, .inr (2, [.ref d1, .int (nI od), .int (nI sz6)])), (d1, .inl (cI, 684, .inl fn)), (e1, .inl (cI, 228, .inl fl)), (e2, .inl (cZ, 2, .inl fk))] sz)) (zQmi D (be (cWo fo fh fc hz mv) 36) [(x0, .inr (3, [.ref a0, .ref b0, .ref d0, .ref e1, .ref e2])), (a0, .inr (0, [.ref a1, .ref a2, .ref a3, .ref a4, .int (nI hz), .int (nI mv), .int tu, .int rf])), (a1, .inl (cI, 36, .inl fh)), (a2, .inl (cI, 36, .inl fo)), (a3, .inl (cI, 36, .inl fc)), (a4, .inl (cI, 2, .inl fs)), (b0, .inr (1, [.ref b1, .int (nI ln)])), (b1, .inl (cI, 60, .inl fx)), (d0, .inr (2, [.ref d1, .int (nI od), .int (nI sz6)])), (d1, .inl (cI, 684, .inl fn)), (e1, .inl (cI, 228, .inl fl)), (e2, .inl (cZ, 2, .inl fk))] [(x0, .inr (3, [.ref a0, .ref b0, .ref d0, .ref e1, .ref e2])), (a0, .inr (0, [.ref a1, .ref a2, .ref a3, .ref a4, .int (nI hz), .int (nI mv), .int tu, .int rf])), (a1, .inl (cI, 36, .inl fh)), (a2, .inl (cI, 36, .inl fo)), (a3, .inl (cI, 36, .inl fc)), (a4, .inl (cI, 2, .inl fs)), (b0, .inr (1, [.ref b1, .int (nI ln)])), (b1, .inl (cI, 60, .inl fx)), (d0, .inr (2, [.ref d1, .int (nI od), .int (nI sz6)])), (d1, .inl (cI, 684, .inl fn)), (e1, .inl (cI, 228, .inl fl)), (e2, .inl (cZ, 2, .inl fk))] sz) 0 0 (va_A [(x0, .inr (3, [.ref a0, .ref b0, .ref d0, .ref e1, .ref e2])), (a0, .inr (0, [.ref a1, .ref a2, .ref a3, .ref a4, .int (nI hz), .int (nI mv), .int tu, .int rf])), (a1, .inl (cI, 36, .inl fh)), (a2, .inl (cI, 36, .inl fo)), (a3, .inl (cI, 36, .inl fc)), (a4, .inl (cI, 2, .inl fs)), (b0, .inr (1, [.ref b1, .int (nI ln)])), (b1, .inl (cI, 60, .inl fx)), (d0, .inr (2, [.ref d1, .int (nI od), .int (nI sz6)])), (d1, .inl (cI, 684, .inl fn)), (e1, .inl (cI, 228, .inl fl)), (e2, .inl (cZ, 2, .inl fk))] sz) := by
  refine Met.ofW (cc := cX4_bestSquare) (maxL := 5) (ret := (some .int)) (by decide) rfl ?_
  intro p e s m args below meth c s₁ B hml hv
  obtain ⟨rfl, hsz, ⟨⟨hP, hK⟩, hN⟩, hD0⟩ := hv
  have hx := B.exec
  have hb := B.bytes
  have hr := B.returns
  have hts := atoms_spec (ws := wsX4_bestSquare) B.pre
  have hown : s.vm.findClass RX4 = some m.cls := findClass_of_methodNamed B.named
  have hlocks := B.notSynchronized
  subst hsz
  have hD := hD0.self (sz := s.heap.size)
  generalize hAe : va_A [(x0, .inr (3, [.ref a0, .ref b0, .ref d0, .ref e1, .ref e2])), (a0, .inr (0, [.ref a1, .ref a2, .ref a3, .ref a4, .int (nI hz), .int (nI mv), .int tu, .int rf])), (a1, .inl (cI, 36, .inl fh)), (a2, .inl (cI, 36, .inl fo)), (a3, .inl (cI, 36, .inl fc)), (a4, .inl (cI, 2, .inl fs)), (b0, .inr (1, [.ref b1, .int (nI ln)])), (b1, .inl (cI, 60, .inl fx)), (d0, .inr (2, [.ref d1, .int (nI od), .int (nI sz6)])), (d1, .inl (cI, 684, .inl fn)), (e1, .inl (cI, 228, .inl fl)), (e2, .inl (cZ, 2, .inl fk))] s.heap.size = A at hD ⊢
  have hA : ∀ q : Nat, s.heap.size ≤ q → A q := fun q h => by rw [← hAe]; exact Or.inr h
  have hS : va_S A s.heap s.heap [] := va_S.rf
  have in3 : ∀ w ∈ u_ws RX4 TX4 5, w ∈ wsX4_bestSquare := by decide +kernel
  have fl10 := hts (.fieldLink RX4 10 "TowerShades" "field" "LTowerShades$Field;") (by decide +kernel)
  have hl := lv_entry ([.ref x0]) (n := 5) (Nat.le_of_ble_eq_true rfl)
  rw [lg_entry_eq]
  generalize (lg_sl ([.ref x0]) ++ List.replicate (5 - (lg_sl ([.ref x0])).length) Slot.unset).toArray = ls at hl ⊢
  have hl : lv_has ls 5 [(0, .ref x0)] := hl
  refine lv_iconst (v := (-1)) hx hb dX4_bestSquare_0 (by decide) ?_
  refine lv_istore_n (lv' := [(1, .int (-1)), (0, .ref x0)]) hx hb dX4_bestSquare_1 rfl hl (by decide) rfl (fun ls hl => ?_)
  refine lv_sipush (v := (-999)) hx hb dX4_bestSquare_2 (by decide) ?_
  refine lv_istore_n (lv' := [(2, .int (-999)), (1, .int (-1)), (0, .ref x0)]) hx hb dX4_bestSquare_5 rfl hl (by decide) rfl (fun ls hl => ?_)
  refine lv_iconst (v := 0) hx hb dX4_bestSquare_6 (by decide) ?_
  refine lv_istore_n (lv' := [(3, .int 0), (2, .int (-999)), (1, .int (-1)), (0, .ref x0)]) hx hb dX4_bestSquare_7 rfl hl (by decide) rfl (fun ls hl => ?_)
  refine z_upH (N := 36) (i0 := 0) (fun i H locs ls => ∃ xb : Int32, xb = be (cWo fo fh fc hz mv) i ∧ ∃ xq : Int32, xq = mo (cWo fo fh fc hz mv) i ∧ va_P D vwCl [(x0, .inr (3, [.ref a0, .ref b0, .ref d0, .ref e1, .ref e2])), (a0, .inr (0, [.ref a1, .ref a2, .ref a3, .ref a4, .int (nI hz), .int (nI mv), .int tu, .int rf])), (a1, .inl (cI, 36, .inl fh)), (a2, .inl (cI, 36, .inl fo)), (a3, .inl (cI, 36, .inl fc)), (a4, .inl (cI, 2, .inl fs)), (b0, .inr (1, [.ref b1, .int (nI ln)])), (b1, .inl (cI, 60, .inl fx)), (d0, .inr (2, [.ref d1, .int (nI od), .int (nI sz6)])), (d1, .inl (cI, 684, .inl fn)), (e1, .inl (cI, 228, .inl fl)), (e2, .inl (cZ, 2, .inl fk))] H ∧ va_D A [(x0, .inr (3, [.ref a0, .ref b0, .ref d0, .ref e1, .ref e2])), (a0, .inr (0, [.ref a1, .ref a2, .ref a3, .ref a4, .int (nI hz), .int (nI mv), .int tu, .int rf])), (a1, .inl (cI, 36, .inl fh)), (a2, .inl (cI, 36, .inl fo)), (a3, .inl (cI, 36, .inl fc)), (a4, .inl (cI, 2, .inl fs)), (b0, .inr (1, [.ref b1, .int (nI ln)])), (b1, .inl (cI, 60, .inl fx)), (d0, .inr (2, [.ref d1, .int (nI od), .int (nI sz6)])), (d1, .inl (cI, 684, .inl fn)), (e1, .inl (cI, 228, .inl fl)), (e2, .inl (cZ, 2, .inl fk))] ∧ va_S A s.heap H locs ∧ lv_has ls 5 [(0, .ref x0), (1, .int xb), (2, .int xq), (3, .int (nI i))]) (by omega) (⟨_, rfl, _, rfl, hP, hD, hS, lv_sub hl [3, 2, 1, 0] rfl⟩) (fun i H locs ls hi8 hI ih8 => ?_)
  obtain ⟨xb, exb, xq, exq, hP, hD, hS, hl⟩ := hI
  refine lv_iload_n hx hb dX4_bestSquare_8 rfl (lv_at hl 3 rfl) ?_
  refine lv_bipush (v := 36) hx hb dX4_bestSquare_9 (by decide) ?_
  refine z_icmp_ge (tgt := 41) (P := 36 ≤ i) hx hb dX4_bestSquare_11 (by decide) (nI_leI (a := 36) (b := i) (by omega) (by omega)) (fun c11 => ?_) (fun c11 => ?_)
  · skip
    obtain rfl : i = 36 := by omega
    refine lv_iload_n hx hb dX4_bestSquare_41 rfl (lv_at hl 1 rfl) ?_
    have hP9 : va_P D vwCl [(x0, .inr (3, [.ref a0, .ref b0, .ref d0, .ref e1, .ref e2])), (a0, .inr (0, [.ref a1, .ref a2, .ref a3, .ref a4, .int (nI hz), .int (nI mv), .int tu, .int rf])), (a1, .inl (cI, 36, .inl fh)), (a2, .inl (cI, 36, .inl fo)), (a3, .inl (cI, 36, .inl fc)), (a4, .inl (cI, 2, .inl fs)), (b0, .inr (1, [.ref b1, .int (nI ln)])), (b1, .inl (cI, 60, .inl fx)), (d0, .inr (2, [.ref d1, .int (nI od), .int (nI sz6)])), (d1, .inl (cI, 684, .inl fn)), (e1, .inl (cI, 228, .inl fl)), (e2, .inl (cZ, 2, .inl fk))] _ := hP
    have hD9 : va_D A [(x0, .inr (3, [.ref a0, .ref b0, .ref d0, .ref e1, .ref e2])), (a0, .inr (0, [.ref a1, .ref a2, .ref a3, .ref a4, .int (nI hz), .int (nI mv), .int tu, .int rf])), (a1, .inl (cI, 36, .inl fh)), (a2, .inl (cI, 36, .inl fo)), (a3, .inl (cI, 36, .inl fc)), (a4, .inl (cI, 2, .inl fs)), (b0, .inr (1, [.ref b1, .int (nI ln)])), (b1, .inl (cI, 60, .inl fx)), (d0, .inr (2, [.ref d1, .int (nI od), .int (nI sz6)])), (d1, .inl (cI, 684, .inl fn)), (e1, .inl (cI, 228, .inl fl)), (e2, .inl (cZ, 2, .inl fk))] := hD
    subst hAe
    exact z_miret hx hb hr hlocks dX4_bestSquare_42 (exb) hP9 hD9 hS
  · skip
    refine lv_aload_n hx hb dX4_bestSquare_14 rfl (lv_at hl 0 rfl) ?_
    refine va_get (D := D) (ci := 3) (v := .ref a0) (C := RX4) (T := TX4) (N := 5) hx hb hts in3 hown hK hP 0 rfl rfl 0 (by decide) fl10 (fun _ h9 => h9) rfl dX4_bestSquare_15 ?_
    refine lv_iload_n hx hb dX4_bestSquare_18 rfl (lv_at hl 3 rfl) ?_
    refine z_cmi (wr := [(x0, .inr (3, [.ref a0, .ref b0, .ref d0, .ref e1, .ref e2])), (b0, .inr (1, [.ref b1, .int (nI ln)])), (b1, .inl (cI, 60, .inl fx)), (d0, .inr (2, [.ref d1, .int (nI od), .int (nI sz6)])), (d1, .inl (cI, 684, .inl fn)), (e1, .inl (cI, 228, .inl fl)), (e2, .inl (cZ, 2, .inl fk))]) (ws' := [(x0, .inr (3, [.ref a0, .ref b0, .ref d0, .ref e1, .ref e2])), (a0, .inr (0, [.ref a1, .ref a2, .ref a3, .ref a4, .int (nI hz), .int (nI mv), .int tu, .int rf])), (a1, .inl (cI, 36, .inl fh)), (a2, .inl (cI, 36, .inl fo)), (a3, .inl (cI, 36, .inl fc)), (a4, .inl (cI, 2, .inl fs)), (b0, .inr (1, [.ref b1, .int (nI ln)])), (b1, .inl (cI, 60, .inl fx)), (d0, .inr (2, [.ref d1, .int (nI od), .int (nI sz6)])), (d1, .inl (cI, 684, .inl fn)), (e1, .inl (cI, 228, .inl fl)), (e2, .inl (cZ, 2, .inl fk))]) (va_runV (As := [.int (nI i)]) (rest := []) ⟨hx, hb, hml, hown, hts⟩ (c_X0_worthOfRaising l D cI cZ cL _ (a0 := a0) (a1 := a1) (a2 := a2) (a3 := a3) (a4 := a4) (fh := fh) (fo := fo) (fc := fc) (fs := fs) (hz := hz) (mv := mv) (tu := tu) (rf := rf) (q := i) (hq := by omega) (hhz := by omega) (hmv := by omega)) (cwV 1 hts gX4_bestSquare_X0_worthOfRaising rfl rfl rfl (by decide +kernel) ⟨Nat.le_of_ble_eq_true rfl, Nat.le_of_ble_eq_true rfl⟩) (z_preMV hK (hP.sub [1, 2, 3, 4, 5] rfl) (hD.sub [1, 2, 3, 4, 5] (by decide) rfl) 0 0 rfl rfl) rfl rfl hl.1 rfl (lv_room (Nat.le_of_ble_eq_true rfl)) dX4_bestSquare_19 ⟨Nat.le_of_ble_eq_true rfl, Nat.le_of_ble_eq_true rfl⟩) hP hD hS hA [1, 2, 3, 4, 5] [0, 6, 7, 8, 9, 10, 11] [0, 7, 8, 9, 10, 11, 1, 2, 3, 4, 5, 6] rfl rfl (by decide) (by decide) rfl rfl (by decide) (fun H locs hP hD hS => ?_)
    refine lv_istore (lv' := [(4, .int (cWo fo fh fc hz mv i)), (0, .ref x0), (1, .int xb), (2, .int xq), (3, .int (nI i))]) hx hb dX4_bestSquare_22 hl (by decide) rfl (fun ls hl => ?_)
    refine lv_iload hx hb dX4_bestSquare_24 (lv_at hl 0 rfl) ?_
    refine lv_iload_n hx hb dX4_bestSquare_26 rfl (lv_at hl 3 rfl) ?_
    refine z_icmp_le (tgt := 35) (P := (cWo fo fh fc hz mv i) ≤ xq) hx hb dX4_bestSquare_27 (by decide) (Iff.rfl) (fun c27 => ?_) (fun c27 => ?_)
    · skip
      refine lv_iinc (v := nI (i + 1)) (lv' := [(3, .int (nI (i + 1))), (4, .int (cWo fo fh fc hz mv i)), (0, .ref x0), (1, .int xb), (2, .int xq)]) hx hb dX4_bestSquare_35 hl (k := 4) rfl (nI_1 (i)) (by decide) rfl (fun ls hl => ?_)
      refine lv_goto (tgt := 8) hx hb dX4_bestSquare_38 (by decide) ?_
      exact ih8 (by omega) _ _ _ (⟨_, by simp only [be, ← exq]; first | (rw [if_pos c27]; exact exb) | (rw [if_neg c27]), _, by simp only [mo, ← exq]; first | rw [if_pos c27] | rw [if_neg c27], hP, hD, hS, lv_sub hl [2, 3, 4, 0] rfl⟩)
    · skip
      refine lv_iload_n hx hb dX4_bestSquare_30 rfl (lv_at hl 4 rfl) ?_
      refine lv_istore_n (lv' := [(1, .int (nI i)), (4, .int (cWo fo fh fc hz mv i)), (0, .ref x0), (2, .int xq), (3, .int (nI i))]) hx hb dX4_bestSquare_31 rfl hl (by decide) rfl (fun ls hl => ?_)
      refine lv_iload hx hb dX4_bestSquare_32 (lv_at hl 1 rfl) ?_
      refine lv_istore_n (lv' := [(2, .int (cWo fo fh fc hz mv i)), (1, .int (nI i)), (4, .int (cWo fo fh fc hz mv i)), (0, .ref x0), (3, .int (nI i))]) hx hb dX4_bestSquare_34 rfl hl (by decide) rfl (fun ls hl => ?_)
      refine lv_iinc (v := nI (i + 1)) (lv' := [(3, .int (nI (i + 1))), (2, .int (cWo fo fh fc hz mv i)), (1, .int (nI i)), (4, .int (cWo fo fh fc hz mv i)), (0, .ref x0)]) hx hb dX4_bestSquare_35 hl (k := 4) rfl (nI_1 (i)) (by decide) rfl (fun ls hl => ?_)
      refine lv_goto (tgt := 8) hx hb dX4_bestSquare_38 (by decide) ?_
      exact ih8 (by omega) _ _ _ (⟨_, by simp only [be, ← exq]; first | (rw [if_pos c27]; exact exb) | (rw [if_neg c27]), _, by simp only [mo, ← exq]; first | rw [if_pos c27] | rw [if_neg c27], hP, hD, hS, lv_sub hl [4, 2, 1, 0] rfl⟩)

set_option maxHeartbeats 4000000 in
set_option maxRecDepth 100000 in
theorem c_X4_needed_ok (l : Launch) (D : va_G) (cI cZ cL : ClassId) (x0 : Nat) (e1 : Nat) (e2 : Nat) (fl : Nat → Int32) (fk : Nat → Int32) (a0 : Nat) (a1 : Nat) (a2 : Nat) (a3 : Nat) (a4 : Nat) (fh : Nat → Int32) (fo : Nat → Int32) (fc : Nat → Int32) (fs : Nat → Int32) (hz : Nat) (mv : Nat) (tu : Int32) (rf : Int32) (b0 : Nat) (b1 : Nat) (fx : Nat → Int32) (ln : Nat) (d0 : Nat) (d1 : Nat) (fn : Nat → Int32) (od : Nat) (sz6 : Nat) (f : Nat) (q : Nat) (hf : f < 36) (hq : q < 36) (hhz : hz < 12) : Met l yX4_needed wsX4_needed ({ frames := 2, cells := 0, slots := 0, locals := 46 }) (va_Pc [.ref x0, .int (nI f), .int (nI q)] (zWn D cI cZ cL [(x0, .inr (3, [.ref a0, .ref b0, .ref d0, .ref e1, .ref e2])), (a0, .inr (0, [.ref a1, .ref a2, .ref a3, .ref a4, .int (nI hz), .int (nI mv), .int tu, .int rf])), (a1, .inl (cI, 36, .inl fh)), (a2, .inl (cI, 36, .inl fo)), (a3, .inl (cI, 36, .inl fc)), (a4, .inl (cI, 2, .inl fs)), (b0, .inr (1, [.ref b1, .int (nI ln)])), (b1, .inl (cI, 60, .inl fx)), (d0, .inr (2, [.ref d1, .int (nI od), .int (nI sz6)])), (d1, .inl (cI, 684, .inl fn)), (e1, .inl (cI, 228, .inl fl)), (e2, .inl (cZ, 2, .inl fk))])) (zQi (cLe fh hz f q)) 0 0 (fun _ => False) := by
  refine Met.ofW (cc := cX4_needed) (maxL := 5) (ret := (some .int)) (by decide) rfl ?_
  intro p e s m args below meth c s₁ B hml hv
  obtain ⟨rfl, ⟨hP, hK⟩, hN⟩ := hv
  have hx := B.exec
  have hb := B.bytes
  have hr := B.returns
  have hts := atoms_spec (ws := wsX4_needed) B.pre
  have hown : s.vm.findClass RX4 = some m.cls := findClass_of_methodNamed B.named
  have hlocks := B.notSynchronized
  have in0 : ∀ w ∈ u_ws RX0 TX0 8, w ∈ wsX4_needed := by decide +kernel
  have in3 : ∀ w ∈ u_ws RX4 TX4 5, w ∈ wsX4_needed := by decide +kernel
  have fl10 := hts (.fieldLink RX4 10 "TowerShades" "field" "LTowerShades$Field;") (by decide +kernel)
  have hl := lv_entry ([.ref x0, .int (nI f), .int (nI q)]) (n := 5) (Nat.le_of_ble_eq_true rfl)
  rw [lg_entry_eq]
  generalize (lg_sl ([.ref x0, .int (nI f), .int (nI q)]) ++ List.replicate (5 - (lg_sl ([.ref x0, .int (nI f), .int (nI q)])).length) Slot.unset).toArray = ls at hl ⊢
  have hl : lv_has ls 5 [(0, .ref x0), (1, .int (nI f)), (2, .int (nI q))] := hl
  have hDi := pDi_le (sd := hz / 3) (q := q) (f := f) (by omega) hq
  refine lv_iload_n hx hb dX4_needed_0 rfl (lv_at hl 1 rfl) ?_
  refine z_ci (va_runS (As := [.int (nI f)]) (rest := []) ⟨hx, hb, hml, hown, hts⟩ (c_X4_isSquare l (p0 := nI f)) (va_cwS 1 hts gX4_needed_X4_isSquare rfl rfl rfl (by decide +kernel) ⟨Nat.le_of_ble_eq_true rfl, Nat.le_of_ble_eq_true rfl⟩) z_preS rfl rfl hl.1 rfl (lv_room (Nat.le_of_ble_eq_true rfl)) dX4_needed_1 ⟨Nat.le_of_ble_eq_true rfl, Nat.le_of_ble_eq_true rfl⟩) ?_
  refine z_top (y := 1) (by rw [sq_ok f hf]; rfl) ?_
  refine z_if_eq (tgt := 14) (P := False) hx hb dX4_needed_4 (by decide) (by decide) (fun c4 => (show False from c4).elim) (fun c4 => ?_)
  refine lv_iload_n hx hb dX4_needed_7 rfl (lv_at hl 2 rfl) ?_
  refine z_ci (va_runS (As := [.int (nI q)]) (rest := []) ⟨hx, hb, hml, hown, hts⟩ (c_X4_isSquare l (p0 := nI q)) (va_cwS 1 hts gX4_needed_X4_isSquare rfl rfl rfl (by decide +kernel) ⟨Nat.le_of_ble_eq_true rfl, Nat.le_of_ble_eq_true rfl⟩) z_preS rfl rfl hl.1 rfl (lv_room (Nat.le_of_ble_eq_true rfl)) dX4_needed_8 ⟨Nat.le_of_ble_eq_true rfl, Nat.le_of_ble_eq_true rfl⟩) ?_
  refine z_top (y := 1) (by rw [sq_ok q hq]; rfl) ?_
  refine z_if_ne (tgt := 24) (P := False) hx hb dX4_needed_11 (by decide) (by decide) (fun c11 => ?_) (fun c11 => (show False from c11).elim)
  refine lv_aload_n hx hb dX4_needed_24 rfl (lv_at hl 0 rfl) ?_
  refine va_get (D := D) (ci := 3) (v := .ref a0) (C := RX4) (T := TX4) (N := 5) hx hb hts in3 hown hK hP 0 rfl rfl 0 (by decide) fl10 (fun _ h9 => h9) rfl dX4_needed_25 ?_
  refine va_getN (D := D) (ci := 0) (v := .int (nI hz)) (C := RX0) (T := TX0) (N := 8) hx hb hts in0 hown hK hP 1 rfl rfl 4 (by decide) (hN.get (i := 87) (r := RX0) (n := "hourNow") (d := "I") (by decide)) (fun _ h9 => h9) rfl dX4_needed_28 ?_
  refine z_ci (va_runS (As := [.int (nI hz)]) (rest := []) ⟨hx, hb, hml, hown, hts⟩ (c_X3_side l (hz := hz) (hh := by omega)) (va_cwS 1 hts gX4_needed_X3_side rfl rfl rfl (by decide +kernel) ⟨Nat.le_of_ble_eq_true rfl, Nat.le_of_ble_eq_true rfl⟩) z_preS rfl rfl hl.1 rfl (lv_room (Nat.le_of_ble_eq_true rfl)) dX4_needed_31 ⟨Nat.le_of_ble_eq_true rfl, Nat.le_of_ble_eq_true rfl⟩) ?_
  refine lv_iload_n hx hb dX4_needed_34 rfl (lv_at hl 2 rfl) ?_
  refine lv_iload_n hx hb dX4_needed_35 rfl (lv_at hl 1 rfl) ?_
  refine z_ci (va_runS (As := [.int (nI (hz / 3)), .int (nI q), .int (nI f)]) (rest := []) ⟨hx, hb, hml, hown, hts⟩ (c_X3_distanceTowardSun l (sd := hz / 3) (q := q) (f := f) (hs := by omega) (hq := by omega) (hf := by omega)) (va_cwS 3 hts gX4_needed_X3_distanceTowardSun rfl rfl rfl (by decide +kernel) ⟨Nat.le_of_ble_eq_true rfl, Nat.le_of_ble_eq_true rfl⟩) z_preS rfl rfl hl.1 rfl (lv_room (Nat.le_of_ble_eq_true rfl)) dX4_needed_36 ⟨Nat.le_of_ble_eq_true rfl, Nat.le_of_ble_eq_true rfl⟩) ?_
  refine lv_istore_n (lv' := [(3, .int (nI (pDi (hz / 3) q f))), (0, .ref x0), (1, .int (nI f)), (2, .int (nI q))]) hx hb dX4_needed_39 rfl hl (by decide) rfl (fun ls hl => ?_)
  refine lv_iload_n hx hb dX4_needed_40 rfl (lv_at hl 0 rfl) ?_
  refine z_if_ne (tgt := 46) (P := pDi (hz / 3) q f = 0) hx hb dX4_needed_41 (by decide) (nI_eq (a := pDi (hz / 3) q f) (b := 0) (by omega) (by omega)) (fun c41 => ?_) (fun c41 => ?_)
  · skip
    refine lv_aload_n hx hb dX4_needed_46 rfl (lv_at hl 1 rfl) ?_
    refine va_get (D := D) (ci := 3) (v := .ref a0) (C := RX4) (T := TX4) (N := 5) hx hb hts in3 hown hK hP 0 rfl rfl 0 (by decide) fl10 (fun _ h9 => h9) rfl dX4_needed_47 ?_
    refine va_getN (D := D) (ci := 0) (v := .ref a1) (C := RX0) (T := TX0) (N := 8) hx hb hts in0 hown hK hP 1 rfl rfl 0 (by decide) (hN.get (i := 64) (r := RX0) (n := "heights") (d := "[I") (by decide)) (fun _ h9 => h9) rfl dX4_needed_50 ?_
    refine lv_iload_n hx hb dX4_needed_53 rfl (lv_at hl 3 rfl) ?_
    refine z_iald hx hb hK hP 2 0 rfl rfl (k := q) (rfl) (by omega) (by decide) dX4_needed_54 ?_
    refine lv_iload_n hx hb dX4_needed_55 rfl (lv_at hl 0 rfl) ?_
    refine lv_aload_n hx hb dX4_needed_56 rfl (lv_at hl 1 rfl) ?_
    refine va_get (D := D) (ci := 3) (v := .ref a0) (C := RX4) (T := TX4) (N := 5) hx hb hts in3 hown hK hP 0 rfl rfl 0 (by decide) fl10 (fun _ h9 => h9) rfl dX4_needed_57 ?_
    refine va_getN (D := D) (ci := 0) (v := .int (nI hz)) (C := RX0) (T := TX0) (N := 8) hx hb hts in0 hown hK hP 1 rfl rfl 4 (by decide) (hN.get (i := 87) (r := RX0) (n := "hourNow") (d := "I") (by decide)) (fun _ h9 => h9) rfl dX4_needed_60 ?_
    refine z_ci (va_runS (As := [.int (nI hz)]) (rest := [.int (nI (pDi (hz / 3) q f)), .int (fh q)]) ⟨hx, hb, hml, hown, hts⟩ (c_X3_steepness l (hz := hz) (hh := by omega)) (va_cwS 1 hts gX4_needed_X3_steepness rfl rfl rfl (by decide +kernel) ⟨Nat.le_of_ble_eq_true rfl, Nat.le_of_ble_eq_true rfl⟩) z_preS rfl rfl hl.1 rfl (lv_room (Nat.le_of_ble_eq_true rfl)) dX4_needed_63 ⟨Nat.le_of_ble_eq_true rfl, Nat.le_of_ble_eq_true rfl⟩) ?_
    refine z_imul (v := nI (pDi (hz / 3) q f * pSt hz)) hx hb dX4_needed_66 (pk_mul (pDi (hz / 3) q f) (pSt hz)) ?_
    refine z_iadd (v := ((fh q) + (nI (pDi (hz / 3) q f * pSt hz)))) hx hb dX4_needed_67 (rfl) ?_
    refine lv_iconst (v := 1) hx hb dX4_needed_68 (by decide) ?_
    refine z_iadd (v := (((fh q) + (nI (pDi (hz / 3) q f * pSt hz))) + 1)) hx hb dX4_needed_69 (rfl) ?_
    refine lv_istore (lv' := [(4, .int (((fh q) + (nI (pDi (hz / 3) q f * pSt hz))) + 1)), (3, .int (nI (pDi (hz / 3) q f))), (0, .ref x0), (1, .int (nI f)), (2, .int (nI q))]) hx hb dX4_needed_70 hl (by decide) rfl (fun ls hl => ?_)
    refine lv_iload hx hb dX4_needed_72 (lv_at hl 0 rfl) ?_
    refine lv_bipush (v := 9) hx hb dX4_needed_74 (by decide) ?_
    refine z_icmp_le (tgt := 83) (P := (((fh q) + (nI (pDi (hz / 3) q f * pSt hz))) + 1) ≤ 9) hx hb dX4_needed_76 (by decide) (Iff.rfl) (fun c76 => ?_) (fun c76 => ?_)
    · skip
      refine lv_iload hx hb dX4_needed_83 (lv_at hl 0 rfl) ?_
      exact z_iret hx hb hr hlocks dX4_needed_85 (by simp [cLe, c4, c11, c41, c76])
    · skip
      refine lv_iconst (v := (-1)) hx hb dX4_needed_79 (by decide) ?_
      refine lv_goto (tgt := 85) hx hb dX4_needed_80 (by decide) ?_
      exact z_iret hx hb hr hlocks dX4_needed_85 (by simp [cLe, c4, c11, c41, c76])
  · skip
    refine lv_iconst (v := (-1)) hx hb dX4_needed_44 (by decide) ?_
    exact z_iret hx hb hr hlocks dX4_needed_45 (by simp [cLe, c4, c11, c41])

set_option maxHeartbeats 4000000 in
set_option maxRecDepth 100000 in
theorem c_X4_darkestHour_ok (l : Launch) (D : va_G) (cI cZ cL : ClassId) (x0 : Nat) (e1 : Nat) (e2 : Nat) (fl : Nat → Int32) (fk : Nat → Int32) (a0 : Nat) (a1 : Nat) (a2 : Nat) (a3 : Nat) (a4 : Nat) (fh : Nat → Int32) (fo : Nat → Int32) (fc : Nat → Int32) (fs : Nat → Int32) (hz : Nat) (mv : Nat) (tu : Int32) (rf : Int32) (b0 : Nat) (b1 : Nat) (fx : Nat → Int32) (ln : Nat) (d0 : Nat) (d1 : Nat) (fn : Nat → Int32) (od : Nat) (sz6 : Nat) : Met l yX4_darkestHour wsX4_darkestHour ({ frames := 3, cells := 0, slots := 0, locals := 71 }) (va_Pc [.ref x0] (zWn D cI cZ cL [(x0, .inr (3, [.ref a0, .ref b0, .ref d0, .ref e1, .ref e2])), (a0, .inr (0, [.ref a1, .ref a2, .ref a3, .ref a4, .int (nI hz), .int (nI mv), .int tu, .int rf])), (a1, .inl (cI, 36, .inl fh)), (a2, .inl (cI, 36, .inl fo)), (a3, .inl (cI, 36, .inl fc)), (a4, .inl (cI, 2, .inl fs)), (b0, .inr (1, [.ref b1, .int (nI ln)])), (b1, .inl (cI, 60, .inl fx)), (d0, .inr (2, [.ref d1, .int (nI od), .int (nI sz6)])), (d1, .inl (cI, 684, .inl fn)), (e1, .inl (cI, 228, .inl fl)), (e2, .inl (cZ, 2, .inl fk))])) (zQi (nI (bd (pDn fh) 12))) 0 0 (fun _ => False) := by
  refine Met.ofW (cc := cX4_darkestHour) (maxL := 5) (ret := (some .int)) (by decide) rfl ?_
  intro p e s m args below meth c s₁ B hml hv
  obtain ⟨rfl, ⟨hP, hK⟩, hN⟩ := hv
  have hx := B.exec
  have hb := B.bytes
  have hr := B.returns
  have hts := atoms_spec (ws := wsX4_darkestHour) B.pre
  have hown : s.vm.findClass RX4 = some m.cls := findClass_of_methodNamed B.named
  have hlocks := B.notSynchronized
  have in3 : ∀ w ∈ u_ws RX4 TX4 5, w ∈ wsX4_darkestHour := by decide +kernel
  have fl10 := hts (.fieldLink RX4 10 "TowerShades" "field" "LTowerShades$Field;") (by decide +kernel)
  have hl := lv_entry ([.ref x0]) (n := 5) (Nat.le_of_ble_eq_true rfl)
  rw [lg_entry_eq]
  generalize (lg_sl ([.ref x0]) ++ List.replicate (5 - (lg_sl ([.ref x0])).length) Slot.unset).toArray = ls at hl ⊢
  have hl : lv_has ls 5 [(0, .ref x0)] := hl
  refine lv_iconst (v := 0) hx hb dX4_darkestHour_0 (by decide) ?_
  refine lv_istore_n (lv' := [(1, .int 0), (0, .ref x0)]) hx hb dX4_darkestHour_1 rfl hl (by decide) rfl (fun ls hl => ?_)
  refine lv_aload_n hx hb dX4_darkestHour_2 rfl (lv_at hl 1 rfl) ?_
  refine va_get (D := D) (ci := 3) (v := .ref a0) (C := RX4) (T := TX4) (N := 5) hx hb hts in3 hown hK hP 0 rfl rfl 0 (by decide) fl10 (fun _ h9 => h9) rfl dX4_darkestHour_3 ?_
  refine lv_iconst (v := 0) hx hb dX4_darkestHour_6 (by decide) ?_
  refine z_ci (va_runV (As := [.int 0]) (rest := []) ⟨hx, hb, hml, hown, hts⟩ (c_X0_darkSquares l D cI cZ cL (a0 := a0) (a1 := a1) (a2 := a2) (a3 := a3) (a4 := a4) (fh := fh) (fo := fo) (fc := fc) (fs := fs) (hz := hz) (mv := mv) (tu := tu) (rf := rf) (hu := 0) (hhu := by omega)) (cwV 1 hts gX4_darkestHour_X0_darkSquares rfl rfl rfl (by decide +kernel) ⟨Nat.le_of_ble_eq_true rfl, Nat.le_of_ble_eq_true rfl⟩) (z_preV hK (hP.sub [1, 2, 3, 4, 5] rfl) 0 0 rfl rfl) rfl rfl hl.1 rfl (lv_room (Nat.le_of_ble_eq_true rfl)) dX4_darkestHour_7 ⟨Nat.le_of_ble_eq_true rfl, Nat.le_of_ble_eq_true rfl⟩) ?_
  refine lv_istore_n (lv' := [(2, .int (nI (pDn fh 0))), (1, .int 0), (0, .ref x0)]) hx hb dX4_darkestHour_10 rfl hl (by decide) rfl (fun ls hl => ?_)
  refine lv_iconst (v := 1) hx hb dX4_darkestHour_11 (by decide) ?_
  refine lv_istore_n (lv' := [(3, .int 1), (2, .int (nI (pDn fh 0))), (1, .int 0), (0, .ref x0)]) hx hb dX4_darkestHour_12 rfl hl (by decide) rfl (fun ls hl => ?_)
  refine z_up (N := 12) (i0 := 1) (fun i ls => ∃ bn : Nat, bn = bd (pDn fh) i ∧ ∃ mn : Nat, mn = pDn fh (bd (pDn fh) i) ∧ lv_has ls 5 [(0, .ref x0), (1, .int (nI bn)), (2, .int (nI mn)), (3, .int (nI i))]) (by omega) (⟨_, (bd_1 _).symm, _, by rw [bd_1], lv_sub hl [3, 2, 1, 0] rfl⟩) (fun i ls hi13 hI ih13 => ?_)
  obtain ⟨bn, ebn, mn, emn, hl⟩ := hI
  have hd1 := pDn_le fh i
  have hd2 : mn ≤ 36 := by rw [emn]; exact pDn_le _ _
  refine lv_iload_n hx hb dX4_darkestHour_13 rfl (lv_at hl 3 rfl) ?_
  refine lv_bipush (v := 12) hx hb dX4_darkestHour_14 (by decide) ?_
  refine z_icmp_ge (tgt := 46) (P := 12 ≤ i) hx hb dX4_darkestHour_16 (by decide) (nI_leI (a := 12) (b := i) (by omega) (by omega)) (fun c16 => ?_) (fun c16 => ?_)
  · skip
    obtain rfl : i = 12 := by omega
    refine lv_iload_n hx hb dX4_darkestHour_46 rfl (lv_at hl 1 rfl) ?_
    exact z_iret hx hb hr hlocks dX4_darkestHour_47 (by rw [ebn])
  · skip
    refine lv_aload_n hx hb dX4_darkestHour_19 rfl (lv_at hl 0 rfl) ?_
    refine va_get (D := D) (ci := 3) (v := .ref a0) (C := RX4) (T := TX4) (N := 5) hx hb hts in3 hown hK hP 0 rfl rfl 0 (by decide) fl10 (fun _ h9 => h9) rfl dX4_darkestHour_20 ?_
    refine lv_iload_n hx hb dX4_darkestHour_23 rfl (lv_at hl 3 rfl) ?_
    refine z_ci (va_runV (As := [.int (nI i)]) (rest := []) ⟨hx, hb, hml, hown, hts⟩ (c_X0_darkSquares l D cI cZ cL (a0 := a0) (a1 := a1) (a2 := a2) (a3 := a3) (a4 := a4) (fh := fh) (fo := fo) (fc := fc) (fs := fs) (hz := hz) (mv := mv) (tu := tu) (rf := rf) (hu := i) (hhu := by omega)) (cwV 1 hts gX4_darkestHour_X0_darkSquares rfl rfl rfl (by decide +kernel) ⟨Nat.le_of_ble_eq_true rfl, Nat.le_of_ble_eq_true rfl⟩) (z_preV hK (hP.sub [1, 2, 3, 4, 5] rfl) 0 0 rfl rfl) rfl rfl hl.1 rfl (lv_room (Nat.le_of_ble_eq_true rfl)) dX4_darkestHour_24 ⟨Nat.le_of_ble_eq_true rfl, Nat.le_of_ble_eq_true rfl⟩) ?_
    refine lv_istore (lv' := [(4, .int (nI (pDn fh i))), (0, .ref x0), (1, .int (nI bn)), (2, .int (nI mn)), (3, .int (nI i))]) hx hb dX4_darkestHour_27 hl (by decide) rfl (fun ls hl => ?_)
    refine lv_iload hx hb dX4_darkestHour_29 (lv_at hl 0 rfl) ?_
    refine lv_iload_n hx hb dX4_darkestHour_31 rfl (lv_at hl 3 rfl) ?_
    refine z_icmp_le (tgt := 40) (P := pDn fh i ≤ mn) hx hb dX4_darkestHour_32 (by decide) (nI_leI (a := pDn fh i) (b := mn) (by omega) (by omega)) (fun c32 => ?_) (fun c32 => ?_)
    · skip
      refine lv_iinc (v := nI (i + 1)) (lv' := [(3, .int (nI (i + 1))), (4, .int (nI (pDn fh i))), (0, .ref x0), (1, .int (nI bn)), (2, .int (nI mn))]) hx hb dX4_darkestHour_40 hl (k := 4) rfl (nI_1 (i)) (by decide) rfl (fun ls hl => ?_)
      refine lv_goto (tgt := 13) hx hb dX4_darkestHour_43 (by decide) ?_
      exact ih13 (by omega) _ (⟨_, by simp only [bd, ← emn]; first | (rw [if_pos (by omega)]; done) | (rw [if_neg (by omega)]; exact ebn), _, by simp only [bd, ← emn]; first | (rw [if_pos (by omega)]; done) | (rw [if_neg (by omega)]; exact emn), lv_sub hl [2, 3, 4, 0] rfl⟩)
    · skip
      refine lv_iload_n hx hb dX4_darkestHour_35 rfl (lv_at hl 4 rfl) ?_
      refine lv_istore_n (lv' := [(1, .int (nI i)), (4, .int (nI (pDn fh i))), (0, .ref x0), (2, .int (nI mn)), (3, .int (nI i))]) hx hb dX4_darkestHour_36 rfl hl (by decide) rfl (fun ls hl => ?_)
      refine lv_iload hx hb dX4_darkestHour_37 (lv_at hl 1 rfl) ?_
      refine lv_istore_n (lv' := [(2, .int (nI (pDn fh i))), (1, .int (nI i)), (4, .int (nI (pDn fh i))), (0, .ref x0), (3, .int (nI i))]) hx hb dX4_darkestHour_39 rfl hl (by decide) rfl (fun ls hl => ?_)
      refine lv_iinc (v := nI (i + 1)) (lv' := [(3, .int (nI (i + 1))), (2, .int (nI (pDn fh i))), (1, .int (nI i)), (4, .int (nI (pDn fh i))), (0, .ref x0)]) hx hb dX4_darkestHour_40 hl (k := 4) rfl (nI_1 (i)) (by decide) rfl (fun ls hl => ?_)
      refine lv_goto (tgt := 13) hx hb dX4_darkestHour_43 (by decide) ?_
      exact ih13 (by omega) _ (⟨_, by simp only [bd, ← emn]; first | (rw [if_pos (by omega)]; done) | (rw [if_neg (by omega)]; exact ebn), _, by simp only [bd, ← emn]; first | (rw [if_pos (by omega)]; done) | (rw [if_neg (by omega)]; exact emn), lv_sub hl [4, 2, 1, 0] rfl⟩)

set_option maxHeartbeats 4000000 in
set_option maxRecDepth 100000 in
theorem c_X4_darkShare_ok (l : Launch) (D : va_G) (cI cZ cL : ClassId) (x0 : Nat) (e1 : Nat) (e2 : Nat) (fl : Nat → Int32) (fk : Nat → Int32) (a0 : Nat) (a1 : Nat) (a2 : Nat) (a3 : Nat) (a4 : Nat) (fh : Nat → Int32) (fo : Nat → Int32) (fc : Nat → Int32) (fs : Nat → Int32) (hz : Nat) (mv : Nat) (tu : Int32) (rf : Int32) (b0 : Nat) (b1 : Nat) (fx : Nat → Int32) (ln : Nat) (d0 : Nat) (d1 : Nat) (fn : Nat → Int32) (od : Nat) (sz6 : Nat) (hhz : hz < 12) : Met l yX4_darkShare wsX4_darkShare ({ frames := 3, cells := 0, slots := 0, locals := 71 }) (va_Pc [.ref x0] (zWn D cI cZ cL [(x0, .inr (3, [.ref a0, .ref b0, .ref d0, .ref e1, .ref e2])), (a0, .inr (0, [.ref a1, .ref a2, .ref a3, .ref a4, .int (nI hz), .int (nI mv), .int tu, .int rf])), (a1, .inl (cI, 36, .inl fh)), (a2, .inl (cI, 36, .inl fo)), (a3, .inl (cI, 36, .inl fc)), (a4, .inl (cI, 2, .inl fs)), (b0, .inr (1, [.ref b1, .int (nI ln)])), (b1, .inl (cI, 60, .inl fx)), (d0, .inr (2, [.ref d1, .int (nI od), .int (nI sz6)])), (d1, .inl (cI, 684, .inl fn)), (e1, .inl (cI, 228, .inl fl)), (e2, .inl (cZ, 2, .inl fk))])) (zQd (pFq (pDn fh hz))) 0 0 (fun _ => False) := by
  refine Met.ofW (cc := cX4_darkShare) (maxL := 1) (ret := (some .double)) (by decide) rfl ?_
  intro p e s m args below meth c s₁ B hml hv
  obtain ⟨rfl, ⟨hP, hK⟩, hN⟩ := hv
  have hx := B.exec
  have hb := B.bytes
  have hr := B.returns
  have hts := atoms_spec (ws := wsX4_darkShare) B.pre
  have hown : s.vm.findClass RX4 = some m.cls := findClass_of_methodNamed B.named
  have hlocks := B.notSynchronized
  have in0 : ∀ w ∈ u_ws RX0 TX0 8, w ∈ wsX4_darkShare := by decide +kernel
  have in3 : ∀ w ∈ u_ws RX4 TX4 5, w ∈ wsX4_darkShare := by decide +kernel
  have fl10 := hts (.fieldLink RX4 10 "TowerShades" "field" "LTowerShades$Field;") (by decide +kernel)
  have hl := lv_entry ([.ref x0]) (n := 1) (Nat.le_of_ble_eq_true rfl)
  rw [lg_entry_eq]
  generalize (lg_sl ([.ref x0]) ++ List.replicate (1 - (lg_sl ([.ref x0])).length) Slot.unset).toArray = ls at hl ⊢
  have hl : lv_has ls 1 [(0, .ref x0)] := hl
  have hDn := pDn_le fh hz
  refine lv_aload_n hx hb dX4_darkShare_0 rfl (lv_at hl 0 rfl) ?_
  refine va_get (D := D) (ci := 3) (v := .ref a0) (C := RX4) (T := TX4) (N := 5) hx hb hts in3 hown hK hP 0 rfl rfl 0 (by decide) fl10 (fun _ h9 => h9) rfl dX4_darkShare_1 ?_
  refine lv_aload_n hx hb dX4_darkShare_4 rfl (lv_at hl 0 rfl) ?_
  refine va_get (D := D) (ci := 3) (v := .ref a0) (C := RX4) (T := TX4) (N := 5) hx hb hts in3 hown hK hP 0 rfl rfl 0 (by decide) fl10 (fun _ h9 => h9) rfl dX4_darkShare_5 ?_
  refine va_getN (D := D) (ci := 0) (v := .int (nI hz)) (C := RX0) (T := TX0) (N := 8) hx hb hts in0 hown hK hP 1 rfl rfl 4 (by decide) (hN.get (i := 87) (r := RX0) (n := "hourNow") (d := "I") (by decide)) (fun _ h9 => h9) rfl dX4_darkShare_8 ?_
  refine z_ci (va_runV (As := [.int (nI hz)]) (rest := []) ⟨hx, hb, hml, hown, hts⟩ (c_X0_darkSquares l D cI cZ cL (a0 := a0) (a1 := a1) (a2 := a2) (a3 := a3) (a4 := a4) (fh := fh) (fo := fo) (fc := fc) (fs := fs) (hz := hz) (mv := mv) (tu := tu) (rf := rf) (hu := hz) (hhu := by omega)) (cwV 1 hts gX4_darkShare_X0_darkSquares rfl rfl rfl (by decide +kernel) ⟨Nat.le_of_ble_eq_true rfl, Nat.le_of_ble_eq_true rfl⟩) (z_preV hK (hP.sub [1, 2, 3, 4, 5] rfl) 0 0 rfl rfl) rfl rfl hl.1 rfl (lv_room (Nat.le_of_ble_eq_true rfl)) dX4_darkShare_11 ⟨Nat.le_of_ble_eq_true rfl, Nat.le_of_ble_eq_true rfl⟩) ?_
  refine lv_i2d hx hb dX4_darkShare_14 ?_
  refine lv_ldc2d (v := 4630263366890291200) hx hb hown (hts (.constantDouble RX4 212 4630263366890291200) (by decide +kernel)) dX4_darkShare_15 ?_
  refine lv_ddiv hx hb dX4_darkShare_18 (pFq_4 _ (by omega)) ?_
  exact z_dret hx hb hr hlocks dX4_darkShare_19 (rfl)
