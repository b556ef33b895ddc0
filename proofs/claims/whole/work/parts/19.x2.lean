set_option maxHeartbeats 4000000 in
set_option maxRecDepth 100000 in
theorem c_X4_squareOf_ok (l : Launch) (D : va_G) (cI cZ cL : ClassId) (x0 : Nat) (e1 : Nat) (e2 : Nat) (fl : Nat → Int32) (fk : Nat → Int32) (a0 : Nat) (a1 : Nat) (a2 : Nat) (a3 : Nat) (a4 : Nat) (fh : Nat → Int32) (fo : Nat → Int32) (fc : Nat → Int32) (fs : Nat → Int32) (hz : Nat) (mv : Nat) (tu : Int32) (rf : Int32) (b0 : Nat) (b1 : Nat) (fx : Nat → Int32) (ln : Nat) (d0 : Nat) (d1 : Nat) (fn : Nat → Int32) (od : Nat) (sz6 : Nat) (q : Nat) (wh : Nat) (hq : q < 36) (hwh : wh < 8) (hhz : hz < 12) : Met l yX4_squareOf wsX4_squareOf ({ frames := 3, cells := 0, slots := 0, locals := 71 }) (va_Pc [.ref x0, .int (nI q), .int (nI wh)] (zWn D cI cZ cL [(x0, .inr (3, [.ref a0, .ref b0, .ref d0, .ref e1, .ref e2])), (a0, .inr (0, [.ref a1, .ref a2, .ref a3, .ref a4, .int (nI hz), .int (nI mv), .int tu, .int rf])), (a1, .inl (cI, 36, .inl fh)), (a2, .inl (cI, 36, .inl fo)), (a3, .inl (cI, 36, .inl fc)), (a4, .inl (cI, 2, .inl fs)), (b0, .inr (1, [.ref b1, .int (nI ln)])), (b1, .inl (cI, 60, .inl fx)), (d0, .inr (2, [.ref d1, .int (nI od), .int (nI sz6)])), (d1, .inl (cI, 684, .inl fn)), (e1, .inl (cI, 228, .inl fl)), (e2, .inl (cZ, 2, .inl fk))])) (zQi (cSq fh fo fc hz q wh)) 0 0 (fun _ => False) := by
  refine Met.ofW (cc := cX4_squareOf) (maxL := 3) (ret := (some .int)) (by decide) rfl ?_
  intro p e s m args below meth c s₁ B hml hv
  obtain ⟨rfl, ⟨hP, hK⟩, hN⟩ := hv
  have hx := B.exec
  have hb := B.bytes
  have hr := B.returns
  have hts := atoms_spec (ws := wsX4_squareOf) B.pre
  have hown : s.vm.findClass RX4 = some m.cls := findClass_of_methodNamed B.named
  have hlocks := B.notSynchronized
  have in0 : ∀ w ∈ u_ws RX0 TX0 8, w ∈ wsX4_squareOf := by decide +kernel
  have in3 : ∀ w ∈ u_ws RX4 TX4 5, w ∈ wsX4_squareOf := by decide +kernel
  have fl10 := hts (.fieldLink RX4 10 "TowerShades" "field" "LTowerShades$Field;") (by decide +kernel)
  have hl := lv_entry ([.ref x0, .int (nI q), .int (nI wh)]) (n := 3) (Nat.le_of_ble_eq_true rfl)
  rw [lg_entry_eq]
  generalize (lg_sl ([.ref x0, .int (nI q), .int (nI wh)]) ++ List.replicate (3 - (lg_sl ([.ref x0, .int (nI q), .int (nI wh)])).length) Slot.unset).toArray = ls at hl ⊢
  have hl : lv_has ls 3 [(0, .ref x0), (1, .int (nI q)), (2, .int (nI wh))] := hl
  refine lv_iload_n hx hb dX4_squareOf_0 rfl (lv_at hl 1 rfl) ?_
  refine z_ci (va_runS (As := [.int (nI q)]) (rest := []) ⟨hx, hb, hml, hown, hts⟩ (c_X4_isSquare l (p0 := nI q)) (va_cwS 1 hts gX4_squareOf_X4_isSquare rfl rfl rfl (by decide +kernel) ⟨Nat.le_of_ble_eq_true rfl, Nat.le_of_ble_eq_true rfl⟩) z_preS rfl rfl hl.1 rfl (lv_room (Nat.le_of_ble_eq_true rfl)) dX4_squareOf_1 ⟨Nat.le_of_ble_eq_true rfl, Nat.le_of_ble_eq_true rfl⟩) ?_
  refine z_top (y := 1) (by rw [sq_ok q hq]; rfl) ?_
  refine z_if_ne (tgt := 17) (P := False) hx hb dX4_squareOf_4 (by decide) (by decide) (fun c4 => ?_) (fun c4 => (show False from c4).elim)
  refine lv_iload_n hx hb dX4_squareOf_17 rfl (lv_at hl 2 rfl) ?_
  rcases (show wh = 0 ∨ wh = 1 ∨ wh = 2 ∨ wh = 3 ∨ wh = 4 ∨ wh = 5 ∨ wh = 6 ∨ wh = 7 by omega) with rfl | rfl | rfl | rfl | rfl | rfl | rfl | rfl
  · skip
    refine lv_tableIn (off := 46) (tgt := 64) hx hb dX4_squareOf_18 (by decide) (by decide) rfl (by decide) ?_
    refine lv_aload_n hx hb dX4_squareOf_64 rfl (lv_at hl 0 rfl) ?_
    refine va_get (D := D) (ci := 3) (v := .ref a0) (C := RX4) (T := TX4) (N := 5) hx hb hts in3 hown hK hP 0 rfl rfl 0 (by decide) fl10 (fun _ h9 => h9) rfl dX4_squareOf_65 ?_
    refine va_getN (D := D) (ci := 0) (v := .ref a1) (C := RX0) (T := TX0) (N := 8) hx hb hts in0 hown hK hP 1 rfl rfl 0 (by decide) (hN.get (i := 64) (r := RX0) (n := "heights") (d := "[I") (by decide)) (fun _ h9 => h9) rfl dX4_squareOf_68 ?_
    refine lv_iload_n hx hb dX4_squareOf_71 rfl (lv_at hl 1 rfl) ?_
    refine z_iald hx hb hK hP 2 0 rfl rfl (k := q) (rfl) (by omega) (by decide) dX4_squareOf_72 ?_
    exact z_iret hx hb hr hlocks dX4_squareOf_73 (by first | rfl | simp [cSq, zb, c4])
  · skip
    refine lv_tableIn (off := 56) (tgt := 74) hx hb dX4_squareOf_18 (by decide) (by decide) rfl (by decide) ?_
    refine lv_aload_n hx hb dX4_squareOf_74 rfl (lv_at hl 0 rfl) ?_
    refine va_get (D := D) (ci := 3) (v := .ref a0) (C := RX4) (T := TX4) (N := 5) hx hb hts in3 hown hK hP 0 rfl rfl 0 (by decide) fl10 (fun _ h9 => h9) rfl dX4_squareOf_75 ?_
    refine va_getN (D := D) (ci := 0) (v := .ref a2) (C := RX0) (T := TX0) (N := 8) hx hb hts in0 hown hK hP 1 rfl rfl 1 (by decide) (hN.get (i := 145) (r := RX0) (n := "owners") (d := "[I") (by decide)) (fun _ h9 => h9) rfl dX4_squareOf_78 ?_
    refine lv_iload_n hx hb dX4_squareOf_81 rfl (lv_at hl 1 rfl) ?_
    refine z_iald hx hb hK hP 3 0 rfl rfl (k := q) (rfl) (by omega) (by decide) dX4_squareOf_82 ?_
    exact z_iret hx hb hr hlocks dX4_squareOf_83 (by first | rfl | simp [cSq, zb, c4])
  · skip
    refine lv_tableIn (off := 66) (tgt := 84) hx hb dX4_squareOf_18 (by decide) (by decide) rfl (by decide) ?_
    refine lv_aload_n hx hb dX4_squareOf_84 rfl (lv_at hl 0 rfl) ?_
    refine va_get (D := D) (ci := 3) (v := .ref a0) (C := RX4) (T := TX4) (N := 5) hx hb hts in3 hown hK hP 0 rfl rfl 0 (by decide) fl10 (fun _ h9 => h9) rfl dX4_squareOf_85 ?_
    refine va_getN (D := D) (ci := 0) (v := .ref a3) (C := RX0) (T := TX0) (N := 8) hx hb hts in0 hown hK hP 1 rfl rfl 2 (by decide) (hN.get (i := 82) (r := RX0) (n := "crowds") (d := "[I") (by decide)) (fun _ h9 => h9) rfl dX4_squareOf_88 ?_
    refine lv_iload_n hx hb dX4_squareOf_91 rfl (lv_at hl 1 rfl) ?_
    refine z_iald hx hb hK hP 4 0 rfl rfl (k := q) (rfl) (by omega) (by decide) dX4_squareOf_92 ?_
    exact z_iret hx hb hr hlocks dX4_squareOf_93 (by first | rfl | simp [cSq, zb, c4])
  · skip
    refine lv_tableIn (off := 76) (tgt := 94) hx hb dX4_squareOf_18 (by decide) (by decide) rfl (by decide) ?_
    refine lv_aload_n hx hb dX4_squareOf_94 rfl (lv_at hl 0 rfl) ?_
    refine va_get (D := D) (ci := 3) (v := .ref a0) (C := RX4) (T := TX4) (N := 5) hx hb hts in3 hown hK hP 0 rfl rfl 0 (by decide) fl10 (fun _ h9 => h9) rfl dX4_squareOf_95 ?_
    refine lv_iload_n hx hb dX4_squareOf_98 rfl (lv_at hl 1 rfl) ?_
    refine lv_aload_n hx hb dX4_squareOf_99 rfl (lv_at hl 0 rfl) ?_
    refine va_get (D := D) (ci := 3) (v := .ref a0) (C := RX4) (T := TX4) (N := 5) hx hb hts in3 hown hK hP 0 rfl rfl 0 (by decide) fl10 (fun _ h9 => h9) rfl dX4_squareOf_100 ?_
    refine va_getN (D := D) (ci := 0) (v := .int (nI hz)) (C := RX0) (T := TX0) (N := 8) hx hb hts in0 hown hK hP 1 rfl rfl 4 (by decide) (hN.get (i := 87) (r := RX0) (n := "hourNow") (d := "I") (by decide)) (fun _ h9 => h9) rfl dX4_squareOf_103 ?_
    refine z_ci (va_runV (As := [.int (nI q), .int (nI hz)]) (rest := []) ⟨hx, hb, hml, hown, hts⟩ (c_X0_isDark l D cI cZ cL (a0 := a0) (a1 := a1) (a2 := a2) (a3 := a3) (a4 := a4) (fh := fh) (fo := fo) (fc := fc) (fs := fs) (hz := hz) (mv := mv) (tu := tu) (rf := rf) (q := q) (hu := hz) (hq := by omega) (hhu := by omega)) (cwV 2 hts gX4_squareOf_X0_isDark rfl rfl rfl (by decide +kernel) ⟨Nat.le_of_ble_eq_true rfl, Nat.le_of_ble_eq_true rfl⟩) (z_preV hK (hP.sub [1, 2, 3, 4, 5] rfl) 0 0 rfl rfl) rfl rfl hl.1 rfl (lv_room (Nat.le_of_ble_eq_true rfl)) dX4_squareOf_106 ⟨Nat.le_of_ble_eq_true rfl, Nat.le_of_ble_eq_true rfl⟩) ?_
    refine z_if_eq (tgt := 116) (P := (pDk fh q hz) = false) hx hb dX4_squareOf_109 (by decide) (zb_eq0) (fun c109 => ?_) (fun c109 => ?_)
    · skip
      refine lv_iconst (v := 0) hx hb dX4_squareOf_116 (by decide) ?_
      exact z_iret hx hb hr hlocks dX4_squareOf_117 (by first | rfl | simp [cSq, zb, c4, c109])
    · skip
      refine lv_iconst (v := 1) hx hb dX4_squareOf_112 (by decide) ?_
      refine lv_goto (tgt := 117) hx hb dX4_squareOf_113 (by decide) ?_
      exact z_iret hx hb hr hlocks dX4_squareOf_117 (by first | rfl | simp [cSq, zb, c4, c109])
  · skip
    refine lv_tableIn (off := 100) (tgt := 118) hx hb dX4_squareOf_18 (by decide) (by decide) rfl (by decide) ?_
    refine lv_aload_n hx hb dX4_squareOf_118 rfl (lv_at hl 0 rfl) ?_
    refine va_get (D := D) (ci := 3) (v := .ref a0) (C := RX4) (T := TX4) (N := 5) hx hb hts in3 hown hK hP 0 rfl rfl 0 (by decide) fl10 (fun _ h9 => h9) rfl dX4_squareOf_119 ?_
    refine lv_iload_n hx hb dX4_squareOf_122 rfl (lv_at hl 1 rfl) ?_
    refine lv_aload_n hx hb dX4_squareOf_123 rfl (lv_at hl 0 rfl) ?_
    refine va_get (D := D) (ci := 3) (v := .ref a0) (C := RX4) (T := TX4) (N := 5) hx hb hts in3 hown hK hP 0 rfl rfl 0 (by decide) fl10 (fun _ h9 => h9) rfl dX4_squareOf_124 ?_
    refine va_getN (D := D) (ci := 0) (v := .int (nI hz)) (C := RX0) (T := TX0) (N := 8) hx hb hts in0 hown hK hP 1 rfl rfl 4 (by decide) (hN.get (i := 87) (r := RX0) (n := "hourNow") (d := "I") (by decide)) (fun _ h9 => h9) rfl dX4_squareOf_127 ?_
    refine z_ci (va_runV (As := [.int (nI q), .int (nI hz)]) (rest := []) ⟨hx, hb, hml, hown, hts⟩ (c_X0_isDarkBySweep l D cI cZ cL (a0 := a0) (a1 := a1) (a2 := a2) (a3 := a3) (a4 := a4) (fh := fh) (fo := fo) (fc := fc) (fs := fs) (hz := hz) (mv := mv) (tu := tu) (rf := rf) (q := q) (hu := hz) (hq := by omega) (hhu := by omega)) (cwV 2 hts gX4_squareOf_X0_isDarkBySweep rfl rfl rfl (by decide +kernel) ⟨Nat.le_of_ble_eq_true rfl, Nat.le_of_ble_eq_true rfl⟩) (z_preV hK (hP.sub [1, 2, 3, 4, 5] rfl) 0 0 rfl rfl) rfl rfl hl.1 rfl (lv_room (Nat.le_of_ble_eq_true rfl)) dX4_squareOf_130 ⟨Nat.le_of_ble_eq_true rfl, Nat.le_of_ble_eq_true rfl⟩) ?_
    refine z_if_eq (tgt := 140) (P := (pDs fh q hz) = false) hx hb dX4_squareOf_133 (by decide) (zb_eq0) (fun c133 => ?_) (fun c133 => ?_)
    · skip
      refine lv_iconst (v := 0) hx hb dX4_squareOf_140 (by decide) ?_
      exact z_iret hx hb hr hlocks dX4_squareOf_141 (by first | rfl | simp [cSq, zb, c4, c133])
    · skip
      refine lv_iconst (v := 1) hx hb dX4_squareOf_136 (by decide) ?_
      refine lv_goto (tgt := 141) hx hb dX4_squareOf_137 (by decide) ?_
      exact z_iret hx hb hr hlocks dX4_squareOf_141 (by first | rfl | simp [cSq, zb, c4, c133])
  · skip
    refine lv_tableIn (off := 124) (tgt := 142) hx hb dX4_squareOf_18 (by decide) (by decide) rfl (by decide) ?_
    refine lv_aload_n hx hb dX4_squareOf_142 rfl (lv_at hl 0 rfl) ?_
    refine va_get (D := D) (ci := 3) (v := .ref a0) (C := RX4) (T := TX4) (N := 5) hx hb hts in3 hown hK hP 0 rfl rfl 0 (by decide) fl10 (fun _ h9 => h9) rfl dX4_squareOf_143 ?_
    refine lv_iload_n hx hb dX4_squareOf_146 rfl (lv_at hl 1 rfl) ?_
    refine lv_iconst (v := 0) hx hb dX4_squareOf_147 (by decide) ?_
    refine z_ci (va_runV (As := [.int (nI q), .int 0]) (rest := []) ⟨hx, hb, hml, hown, hts⟩ (c_X0_towersShading l D cI cZ cL (a0 := a0) (a1 := a1) (a2 := a2) (a3 := a3) (a4 := a4) (fh := fh) (fo := fo) (fc := fc) (fs := fs) (hz := hz) (mv := mv) (tu := tu) (rf := rf) (q := q) (pl := 0) (hq := by omega) (hpl := by omega) (hhz := by omega)) (cwV 2 hts gX4_squareOf_X0_towersShading rfl rfl rfl (by decide +kernel) ⟨Nat.le_of_ble_eq_true rfl, Nat.le_of_ble_eq_true rfl⟩) (z_preV hK (hP.sub [1, 2, 3, 4, 5] rfl) 0 0 rfl rfl) rfl rfl hl.1 rfl (lv_room (Nat.le_of_ble_eq_true rfl)) dX4_squareOf_148 ⟨Nat.le_of_ble_eq_true rfl, Nat.le_of_ble_eq_true rfl⟩) ?_
    refine lv_aload_n hx hb dX4_squareOf_151 rfl (lv_at hl 0 rfl) ?_
    refine va_get (D := D) (ci := 3) (v := .ref a0) (C := RX4) (T := TX4) (N := 5) hx hb hts in3 hown hK hP 0 rfl rfl 0 (by decide) fl10 (fun _ h9 => h9) rfl dX4_squareOf_152 ?_
    refine lv_iload_n hx hb dX4_squareOf_155 rfl (lv_at hl 1 rfl) ?_
    refine lv_iconst (v := 1) hx hb dX4_squareOf_156 (by decide) ?_
    refine z_ci (va_runV (As := [.int (nI q), .int 1]) (rest := [.int (nI (pTn fo fh 0 q hz))]) ⟨hx, hb, hml, hown, hts⟩ (c_X0_towersShading l D cI cZ cL (a0 := a0) (a1 := a1) (a2 := a2) (a3 := a3) (a4 := a4) (fh := fh) (fo := fo) (fc := fc) (fs := fs) (hz := hz) (mv := mv) (tu := tu) (rf := rf) (q := q) (pl := 1) (hq := by omega) (hpl := by omega) (hhz := by omega)) (cwV 2 hts gX4_squareOf_X0_towersShading rfl rfl rfl (by decide +kernel) ⟨Nat.le_of_ble_eq_true rfl, Nat.le_of_ble_eq_true rfl⟩) (z_preV hK (hP.sub [1, 2, 3, 4, 5] rfl) 0 0 rfl rfl) rfl rfl hl.1 rfl (lv_room (Nat.le_of_ble_eq_true rfl)) dX4_squareOf_157 ⟨Nat.le_of_ble_eq_true rfl, Nat.le_of_ble_eq_true rfl⟩) ?_
    refine z_iadd (v := nI (pTn fo fh 0 q hz + pTn fo fh 1 q hz)) hx hb dX4_squareOf_160 (nI_add (pTn fo fh 0 q hz) (pTn fo fh 1 q hz)) ?_
    exact z_iret hx hb hr hlocks dX4_squareOf_161 (by first | rfl | simp [cSq, zb, c4])
  · skip
    refine lv_tableIn (off := 144) (tgt := 162) hx hb dX4_squareOf_18 (by decide) (by decide) rfl (by decide) ?_
    refine lv_aload_n hx hb dX4_squareOf_162 rfl (lv_at hl 0 rfl) ?_
    refine va_get (D := D) (ci := 3) (v := .ref a0) (C := RX4) (T := TX4) (N := 5) hx hb hts in3 hown hK hP 0 rfl rfl 0 (by decide) fl10 (fun _ h9 => h9) rfl dX4_squareOf_163 ?_
    refine lv_iload_n hx hb dX4_squareOf_166 rfl (lv_at hl 1 rfl) ?_
    refine z_ci (va_runV (As := [.int (nI q)]) (rest := []) ⟨hx, hb, hml, hown, hts⟩ (c_X0_squaresShadedFrom l D cI cZ cL (a0 := a0) (a1 := a1) (a2 := a2) (a3 := a3) (a4 := a4) (fh := fh) (fo := fo) (fc := fc) (fs := fs) (hz := hz) (mv := mv) (tu := tu) (rf := rf) (q := q) (hq := by omega) (hhz := by omega)) (cwV 1 hts gX4_squareOf_X0_squaresShadedFrom rfl rfl rfl (by decide +kernel) ⟨Nat.le_of_ble_eq_true rfl, Nat.le_of_ble_eq_true rfl⟩) (z_preV hK (hP.sub [1, 2, 3, 4, 5] rfl) 0 0 rfl rfl) rfl rfl hl.1 rfl (lv_room (Nat.le_of_ble_eq_true rfl)) dX4_squareOf_167 ⟨Nat.le_of_ble_eq_true rfl, Nat.le_of_ble_eq_true rfl⟩) ?_
    exact z_iret hx hb hr hlocks dX4_squareOf_170 (by first | rfl | simp [cSq, zb, c4])
  · skip
    refine lv_tableIn (off := 153) (tgt := 171) hx hb dX4_squareOf_18 (by decide) (by decide) rfl (by decide) ?_
    refine lv_aload_n hx hb dX4_squareOf_171 rfl (lv_at hl 0 rfl) ?_
    refine va_get (D := D) (ci := 3) (v := .ref a0) (C := RX4) (T := TX4) (N := 5) hx hb hts in3 hown hK hP 0 rfl rfl 0 (by decide) fl10 (fun _ h9 => h9) rfl dX4_squareOf_172 ?_
    refine lv_iload_n hx hb dX4_squareOf_175 rfl (lv_at hl 1 rfl) ?_
    refine z_ci (va_runV (As := [.int (nI q)]) (rest := []) ⟨hx, hb, hml, hown, hts⟩ (c_X0_darkHourMask l D cI cZ cL (a0 := a0) (a1 := a1) (a2 := a2) (a3 := a3) (a4 := a4) (fh := fh) (fo := fo) (fc := fc) (fs := fs) (hz := hz) (mv := mv) (tu := tu) (rf := rf) (q := q) (hq := by omega)) (cwV 1 hts gX4_squareOf_X0_darkHourMask rfl rfl rfl (by decide +kernel) ⟨Nat.le_of_ble_eq_true rfl, Nat.le_of_ble_eq_true rfl⟩) (z_preV hK (hP.sub [1, 2, 3, 4, 5] rfl) 0 0 rfl rfl) rfl rfl hl.1 rfl (lv_room (Nat.le_of_ble_eq_true rfl)) dX4_squareOf_176 ⟨Nat.le_of_ble_eq_true rfl, Nat.le_of_ble_eq_true rfl⟩) ?_
    exact z_iret hx hb hr hlocks dX4_squareOf_179 (by first | rfl | simp [cSq, zb, c4])

set_option maxHeartbeats 4000000 in
set_option maxRecDepth 100000 in
theorem c_X4_playerOf_ok (l : Launch) (D : va_G) (cI cZ cL : ClassId) (x0 : Nat) (e1 : Nat) (e2 : Nat) (fl : Nat → Int32) (fk : Nat → Int32) (a0 : Nat) (a1 : Nat) (a2 : Nat) (a3 : Nat) (a4 : Nat) (fh : Nat → Int32) (fo : Nat → Int32) (fc : Nat → Int32) (fs : Nat → Int32) (hz : Nat) (mv : Nat) (tu : Int32) (rf : Int32) (b0 : Nat) (b1 : Nat) (fx : Nat → Int32) (ln : Nat) (d0 : Nat) (d1 : Nat) (fn : Nat → Int32) (od : Nat) (sz6 : Nat) (pl : Nat) (wh : Nat) (hpl : pl < 2) (hwh : wh < 6) (hhz : hz < 12) : Met l yX4_playerOf wsX4_playerOf ({ frames := 3, cells := 0, slots := 0, locals := 73 }) (va_Pc [.ref x0, .int (nI pl), .int (nI wh)] (zWn D cI cZ cL [(x0, .inr (3, [.ref a0, .ref b0, .ref d0, .ref e1, .ref e2])), (a0, .inr (0, [.ref a1, .ref a2, .ref a3, .ref a4, .int (nI hz), .int (nI mv), .int tu, .int rf])), (a1, .inl (cI, 36, .inl fh)), (a2, .inl (cI, 36, .inl fo)), (a3, .inl (cI, 36, .inl fc)), (a4, .inl (cI, 2, .inl fs)), (b0, .inr (1, [.ref b1, .int (nI ln)])), (b1, .inl (cI, 60, .inl fx)), (d0, .inr (2, [.ref d1, .int (nI od), .int (nI sz6)])), (d1, .inl (cI, 684, .inl fn)), (e1, .inl (cI, 228, .inl fl)), (e2, .inl (cZ, 2, .inl fk))])) (zQi (cPl fh fo fc fs hz pl wh)) 0 0 (fun _ => False) := by
  refine Met.ofW (cc := cX4_playerOf) (maxL := 3) (ret := (some .int)) (by decide) rfl ?_
  intro p e s m args below meth c s₁ B hml hv
  obtain ⟨rfl, ⟨hP, hK⟩, hN⟩ := hv
  have hx := B.exec
  have hb := B.bytes
  have hr := B.returns
  have hts := atoms_spec (ws := wsX4_playerOf) B.pre
  have hown : s.vm.findClass RX4 = some m.cls := findClass_of_methodNamed B.named
  have hlocks := B.notSynchronized
  have in0 : ∀ w ∈ u_ws RX0 TX0 8, w ∈ wsX4_playerOf := by decide +kernel
  have in3 : ∀ w ∈ u_ws RX4 TX4 5, w ∈ wsX4_playerOf := by decide +kernel
  have fl10 := hts (.fieldLink RX4 10 "TowerShades" "field" "LTowerShades$Field;") (by decide +kernel)
  have hl := lv_entry ([.ref x0, .int (nI pl), .int (nI wh)]) (n := 3) (Nat.le_of_ble_eq_true rfl)
  rw [lg_entry_eq]
  generalize (lg_sl ([.ref x0, .int (nI pl), .int (nI wh)]) ++ List.replicate (3 - (lg_sl ([.ref x0, .int (nI pl), .int (nI wh)])).length) Slot.unset).toArray = ls at hl ⊢
  have hl : lv_has ls 3 [(0, .ref x0), (1, .int (nI pl)), (2, .int (nI wh))] := hl
  refine lv_iload_n hx hb dX4_playerOf_0 rfl (lv_at hl 1 rfl) ?_
  refine z_if_lt (tgt := 9) (P := pl < 0) hx hb dX4_playerOf_1 (by decide) (nI_ltI (a := pl) (b := 0) (by omega) (by omega)) (fun c1 => (show False from absurd c1 (by omega)).elim) (fun c1 => ?_)
  refine lv_iload_n hx hb dX4_playerOf_4 rfl (lv_at hl 1 rfl) ?_
  refine lv_iconst (v := 2) hx hb dX4_playerOf_5 (by decide) ?_
  refine z_icmp_lt (tgt := 19) (P := pl < 2) hx hb dX4_playerOf_6 (by decide) (nI_ltI (a := pl) (b := 2) (by omega) (by omega)) (fun c6 => ?_) (fun c6 => (show False from c6 (by omega)).elim)
  refine lv_iload_n hx hb dX4_playerOf_19 rfl (lv_at hl 2 rfl) ?_
  rcases (show wh = 0 ∨ wh = 1 ∨ wh = 2 ∨ wh = 3 ∨ wh = 4 ∨ wh = 5 by omega) with rfl | rfl | rfl | rfl | rfl | rfl
  · skip
    refine lv_tableIn (off := 40) (tgt := 60) hx hb dX4_playerOf_20 (by decide) (by decide) rfl (by decide) ?_
    refine lv_aload_n hx hb dX4_playerOf_60 rfl (lv_at hl 0 rfl) ?_
    refine va_get (D := D) (ci := 3) (v := .ref a0) (C := RX4) (T := TX4) (N := 5) hx hb hts in3 hown hK hP 0 rfl rfl 0 (by decide) fl10 (fun _ h9 => h9) rfl dX4_playerOf_61 ?_
    refine va_getN (D := D) (ci := 0) (v := .ref a4) (C := RX0) (T := TX0) (N := 8) hx hb hts in0 hown hK hP 1 rfl rfl 3 (by decide) (hN.get (i := 169) (r := RX0) (n := "scores") (d := "[I") (by decide)) (fun _ h9 => h9) rfl dX4_playerOf_64 ?_
    refine lv_iload_n hx hb dX4_playerOf_67 rfl (lv_at hl 1 rfl) ?_
    refine z_iald hx hb hK hP 5 0 rfl rfl (k := pl) (rfl) (by omega) (by decide) dX4_playerOf_68 ?_
    exact z_iret hx hb hr hlocks dX4_playerOf_69 (rfl)
  · skip
    refine lv_tableIn (off := 50) (tgt := 70) hx hb dX4_playerOf_20 (by decide) (by decide) rfl (by decide) ?_
    refine lv_aload_n hx hb dX4_playerOf_70 rfl (lv_at hl 0 rfl) ?_
    refine va_get (D := D) (ci := 3) (v := .ref a0) (C := RX4) (T := TX4) (N := 5) hx hb hts in3 hown hK hP 0 rfl rfl 0 (by decide) fl10 (fun _ h9 => h9) rfl dX4_playerOf_71 ?_
    refine lv_iload_n hx hb dX4_playerOf_74 rfl (lv_at hl 1 rfl) ?_
    refine z_ci (va_runV (As := [.int (nI pl)]) (rest := []) ⟨hx, hb, hml, hown, hts⟩ (c_X0_towersOf l D cI cZ cL (a0 := a0) (a1 := a1) (a2 := a2) (a3 := a3) (a4 := a4) (fh := fh) (fo := fo) (fc := fc) (fs := fs) (hz := hz) (mv := mv) (tu := tu) (rf := rf) (pl := pl) (hpl := by omega)) (cwV 1 hts gX4_playerOf_X0_towersOf rfl rfl rfl (by decide +kernel) ⟨Nat.le_of_ble_eq_true rfl, Nat.le_of_ble_eq_true rfl⟩) (z_preV hK (hP.sub [1, 2, 3, 4, 5] rfl) 0 0 rfl rfl) rfl rfl hl.1 rfl (lv_room (Nat.le_of_ble_eq_true rfl)) dX4_playerOf_75 ⟨Nat.le_of_ble_eq_true rfl, Nat.le_of_ble_eq_true rfl⟩) ?_
    exact z_iret hx hb hr hlocks dX4_playerOf_78 (rfl)
  · skip
    refine lv_tableIn (off := 59) (tgt := 79) hx hb dX4_playerOf_20 (by decide) (by decide) rfl (by decide) ?_
    refine lv_aload_n hx hb dX4_playerOf_79 rfl (lv_at hl 0 rfl) ?_
    refine va_get (D := D) (ci := 3) (v := .ref a0) (C := RX4) (T := TX4) (N := 5) hx hb hts in3 hown hK hP 0 rfl rfl 0 (by decide) fl10 (fun _ h9 => h9) rfl dX4_playerOf_80 ?_
    refine lv_iload_n hx hb dX4_playerOf_83 rfl (lv_at hl 1 rfl) ?_
    refine z_ci (va_runV (As := [.int (nI pl)]) (rest := []) ⟨hx, hb, hml, hown, hts⟩ (c_X0_heightsOf l D cI cZ cL (a0 := a0) (a1 := a1) (a2 := a2) (a3 := a3) (a4 := a4) (fh := fh) (fo := fo) (fc := fc) (fs := fs) (hz := hz) (mv := mv) (tu := tu) (rf := rf) (pl := pl) (hpl := by omega)) (cwV 1 hts gX4_playerOf_X0_heightsOf rfl rfl rfl (by decide +kernel) ⟨Nat.le_of_ble_eq_true rfl, Nat.le_of_ble_eq_true rfl⟩) (z_preV hK (hP.sub [1, 2, 3, 4, 5] rfl) 0 0 rfl rfl) rfl rfl hl.1 rfl (lv_room (Nat.le_of_ble_eq_true rfl)) dX4_playerOf_84 ⟨Nat.le_of_ble_eq_true rfl, Nat.le_of_ble_eq_true rfl⟩) ?_
    exact z_iret hx hb hr hlocks dX4_playerOf_87 (rfl)
  · skip
    refine lv_tableIn (off := 68) (tgt := 88) hx hb dX4_playerOf_20 (by decide) (by decide) rfl (by decide) ?_
    refine lv_aload_n hx hb dX4_playerOf_88 rfl (lv_at hl 0 rfl) ?_
    refine va_get (D := D) (ci := 3) (v := .ref a0) (C := RX4) (T := TX4) (N := 5) hx hb hts in3 hown hK hP 0 rfl rfl 0 (by decide) fl10 (fun _ h9 => h9) rfl dX4_playerOf_89 ?_
    refine lv_iload_n hx hb dX4_playerOf_92 rfl (lv_at hl 1 rfl) ?_
    refine z_ci (va_runV (As := [.int (nI pl)]) (rest := []) ⟨hx, hb, hml, hown, hts⟩ (c_X0_darkTowersOf l D cI cZ cL (a0 := a0) (a1 := a1) (a2 := a2) (a3 := a3) (a4 := a4) (fh := fh) (fo := fo) (fc := fc) (fs := fs) (hz := hz) (mv := mv) (tu := tu) (rf := rf) (pl := pl) (hpl := by omega) (hhz := by omega)) (cwV 1 hts gX4_playerOf_X0_darkTowersOf rfl rfl rfl (by decide +kernel) ⟨Nat.le_of_ble_eq_true rfl, Nat.le_of_ble_eq_true rfl⟩) (z_preV hK (hP.sub [1, 2, 3, 4, 5] rfl) 0 0 rfl rfl) rfl rfl hl.1 rfl (lv_room (Nat.le_of_ble_eq_true rfl)) dX4_playerOf_93 ⟨Nat.le_of_ble_eq_true rfl, Nat.le_of_ble_eq_true rfl⟩) ?_
    exact z_iret hx hb hr hlocks dX4_playerOf_96 (rfl)
  · skip
    refine lv_tableIn (off := 77) (tgt := 97) hx hb dX4_playerOf_20 (by decide) (by decide) rfl (by decide) ?_
    refine lv_aload_n hx hb dX4_playerOf_97 rfl (lv_at hl 0 rfl) ?_
    refine va_get (D := D) (ci := 3) (v := .ref a0) (C := RX4) (T := TX4) (N := 5) hx hb hts in3 hown hK hP 0 rfl rfl 0 (by decide) fl10 (fun _ h9 => h9) rfl dX4_playerOf_98 ?_
    refine lv_iload_n hx hb dX4_playerOf_101 rfl (lv_at hl 1 rfl) ?_
    refine z_ci (va_runV (As := [.int (nI pl)]) (rest := []) ⟨hx, hb, hml, hown, hts⟩ (c_X0_payNow l D cI cZ cL (a0 := a0) (a1 := a1) (a2 := a2) (a3 := a3) (a4 := a4) (fh := fh) (fo := fo) (fc := fc) (fs := fs) (hz := hz) (mv := mv) (tu := tu) (rf := rf) (pl := pl) (hpl := by omega) (hhz := by omega)) (cwV 1 hts gX4_playerOf_X0_payNow rfl rfl rfl (by decide +kernel) ⟨Nat.le_of_ble_eq_true rfl, Nat.le_of_ble_eq_true rfl⟩) (z_preV hK (hP.sub [1, 2, 3, 4, 5] rfl) 0 0 rfl rfl) rfl rfl hl.1 rfl (lv_room (Nat.le_of_ble_eq_true rfl)) dX4_playerOf_102 ⟨Nat.le_of_ble_eq_true rfl, Nat.le_of_ble_eq_true rfl⟩) ?_
    exact z_iret hx hb hr hlocks dX4_playerOf_105 (rfl)
  · skip
    refine lv_tableIn (off := 86) (tgt := 106) hx hb dX4_playerOf_20 (by decide) (by decide) rfl (by decide) ?_
    refine lv_aload_n hx hb dX4_playerOf_106 rfl (lv_at hl 0 rfl) ?_
    refine va_get (D := D) (ci := 3) (v := .ref a0) (C := RX4) (T := TX4) (N := 5) hx hb hts in3 hown hK hP 0 rfl rfl 0 (by decide) fl10 (fun _ h9 => h9) rfl dX4_playerOf_107 ?_
    refine lv_iload_n hx hb dX4_playerOf_110 rfl (lv_at hl 1 rfl) ?_
    refine z_ci (va_runV (As := [.int (nI pl)]) (rest := []) ⟨hx, hb, hml, hown, hts⟩ (c_X0_rivalsShadedBy l D cI cZ cL (a0 := a0) (a1 := a1) (a2 := a2) (a3 := a3) (a4 := a4) (fh := fh) (fo := fo) (fc := fc) (fs := fs) (hz := hz) (mv := mv) (tu := tu) (rf := rf) (pl := pl) (hpl := by omega) (hhz := by omega)) (cwV 1 hts gX4_playerOf_X0_rivalsShadedBy rfl rfl rfl (by decide +kernel) ⟨Nat.le_of_ble_eq_true rfl, Nat.le_of_ble_eq_true rfl⟩) (z_preV hK (hP.sub [1, 2, 3, 4, 5] rfl) 0 0 rfl rfl) rfl rfl hl.1 rfl (lv_room (Nat.le_of_ble_eq_true rfl)) dX4_playerOf_111 ⟨Nat.le_of_ble_eq_true rfl, Nat.le_of_ble_eq_true rfl⟩) ?_
    exact z_iret hx hb hr hlocks dX4_playerOf_114 (rfl)

set_option maxHeartbeats 4000000 in
set_option maxRecDepth 100000 in
theorem c_X4_count_ok (l : Launch) (D : va_G) (cI cZ cL : ClassId) (x0 : Nat) (e1 : Nat) (e2 : Nat) (fl : Nat → Int32) (fk : Nat → Int32) (a0 : Nat) (a1 : Nat) (a2 : Nat) (a3 : Nat) (a4 : Nat) (fh : Nat → Int32) (fo : Nat → Int32) (fc : Nat → Int32) (fs : Nat → Int32) (hz : Nat) (mv : Nat) (tu : Int32) (rf : Int32) (b0 : Nat) (b1 : Nat) (fx : Nat → Int32) (ln : Nat) (d0 : Nat) (d1 : Nat) (fn : Nat → Int32) (od : Nat) (sz6 : Nat) (wh : Nat) (hwh : wh < 10) (hhz : hz < 12) : Met l yX4_count wsX4_count ({ frames := 3, cells := 0, slots := 0, locals := 71 }) (va_Pc [.ref x0, .int (nI wh)] (zWn D cI cZ cL [(x0, .inr (3, [.ref a0, .ref b0, .ref d0, .ref e1, .ref e2])), (a0, .inr (0, [.ref a1, .ref a2, .ref a3, .ref a4, .int (nI hz), .int (nI mv), .int tu, .int rf])), (a1, .inl (cI, 36, .inl fh)), (a2, .inl (cI, 36, .inl fo)), (a3, .inl (cI, 36, .inl fc)), (a4, .inl (cI, 2, .inl fs)), (b0, .inr (1, [.ref b1, .int (nI ln)])), (b1, .inl (cI, 60, .inl fx)), (d0, .inr (2, [.ref d1, .int (nI od), .int (nI sz6)])), (d1, .inl (cI, 684, .inl fn)), (e1, .inl (cI, 228, .inl fl)), (e2, .inl (cZ, 2, .inl fk))])) (zQi (cCo fh fo fc hz mv tu rf sz6 wh)) 0 0 (fun _ => False) := by
  refine Met.ofW (cc := cX4_count) (maxL := 2) (ret := (some .int)) (by decide) rfl ?_
  intro p e s m args below meth c s₁ B hml hv
  obtain ⟨rfl, ⟨hP, hK⟩, hN⟩ := hv
  have hx := B.exec
  have hb := B.bytes
  have hr := B.returns
  have hts := atoms_spec (ws := wsX4_count) B.pre
  have hown : s.vm.findClass RX4 = some m.cls := findClass_of_methodNamed B.named
  have hlocks := B.notSynchronized
  have in0 : ∀ w ∈ u_ws RX0 TX0 8, w ∈ wsX4_count := by decide +kernel
  have in2 : ∀ w ∈ u_ws RX2 TX2 3, w ∈ wsX4_count := by decide +kernel
  have in3 : ∀ w ∈ u_ws RX4 TX4 5, w ∈ wsX4_count := by decide +kernel
  have fl10 := hts (.fieldLink RX4 10 "TowerShades" "field" "LTowerShades$Field;") (by decide +kernel)
  have fl26 := hts (.fieldLink RX4 26 "TowerShades" "saved" "LTowerShades$SavedStates;") (by decide +kernel)
  have hl := lv_entry ([.ref x0, .int (nI wh)]) (n := 2) (Nat.le_of_ble_eq_true rfl)
  rw [lg_entry_eq]
  generalize (lg_sl ([.ref x0, .int (nI wh)]) ++ List.replicate (2 - (lg_sl ([.ref x0, .int (nI wh)])).length) Slot.unset).toArray = ls at hl ⊢
  have hl : lv_has ls 2 [(0, .ref x0), (1, .int (nI wh))] := hl
  refine lv_iload_n hx hb dX4_count_0 rfl (lv_at hl 1 rfl) ?_
  rcases (show wh = 0 ∨ wh = 1 ∨ wh = 2 ∨ wh = 3 ∨ wh = 4 ∨ wh = 5 ∨ wh = 6 ∨ wh = 7 ∨ wh = 8 ∨ wh = 9 by omega) with rfl | rfl | rfl | rfl | rfl | rfl | rfl | rfl | rfl | rfl
  · skip
    refine lv_tableIn (off := 55) (tgt := 56) hx hb dX4_count_1 (by decide) (by decide) rfl (by decide) ?_
    refine lv_aload_n hx hb dX4_count_56 rfl (lv_at hl 0 rfl) ?_
    refine va_get (D := D) (ci := 3) (v := .ref a0) (C := RX4) (T := TX4) (N := 5) hx hb hts in3 hown hK hP 0 rfl rfl 0 (by decide) fl10 (fun _ h9 => h9) rfl dX4_count_57 ?_
    refine va_getN (D := D) (ci := 0) (v := .int (nI hz)) (C := RX0) (T := TX0) (N := 8) hx hb hts in0 hown hK hP 1 rfl rfl 4 (by decide) (hN.get (i := 87) (r := RX0) (n := "hourNow") (d := "I") (by decide)) (fun _ h9 => h9) rfl dX4_count_60 ?_
    exact z_iret hx hb hr hlocks dX4_count_63 (rfl)
  · skip
    refine lv_tableIn (off := 63) (tgt := 64) hx hb dX4_count_1 (by decide) (by decide) rfl (by decide) ?_
    refine lv_aload_n hx hb dX4_count_64 rfl (lv_at hl 0 rfl) ?_
    refine va_get (D := D) (ci := 3) (v := .ref a0) (C := RX4) (T := TX4) (N := 5) hx hb hts in3 hown hK hP 0 rfl rfl 0 (by decide) fl10 (fun _ h9 => h9) rfl dX4_count_65 ?_
    refine va_getN (D := D) (ci := 0) (v := .int (nI hz)) (C := RX0) (T := TX0) (N := 8) hx hb hts in0 hown hK hP 1 rfl rfl 4 (by decide) (hN.get (i := 87) (r := RX0) (n := "hourNow") (d := "I") (by decide)) (fun _ h9 => h9) rfl dX4_count_68 ?_
    refine z_ci (va_runS (As := [.int (nI hz)]) (rest := []) ⟨hx, hb, hml, hown, hts⟩ (c_X3_side l (hz := hz) (hh := by omega)) (va_cwS 1 hts gX4_count_X3_side rfl rfl rfl (by decide +kernel) ⟨Nat.le_of_ble_eq_true rfl, Nat.le_of_ble_eq_true rfl⟩) z_preS rfl rfl hl.1 rfl (lv_room (Nat.le_of_ble_eq_true rfl)) dX4_count_71 ⟨Nat.le_of_ble_eq_true rfl, Nat.le_of_ble_eq_true rfl⟩) ?_
    exact z_iret hx hb hr hlocks dX4_count_74 (rfl)
  · skip
    refine lv_tableIn (off := 74) (tgt := 75) hx hb dX4_count_1 (by decide) (by decide) rfl (by decide) ?_
    refine lv_aload_n hx hb dX4_count_75 rfl (lv_at hl 0 rfl) ?_
    refine va_get (D := D) (ci := 3) (v := .ref a0) (C := RX4) (T := TX4) (N := 5) hx hb hts in3 hown hK hP 0 rfl rfl 0 (by decide) fl10 (fun _ h9 => h9) rfl dX4_count_76 ?_
    refine va_getN (D := D) (ci := 0) (v := .int (nI hz)) (C := RX0) (T := TX0) (N := 8) hx hb hts in0 hown hK hP 1 rfl rfl 4 (by decide) (hN.get (i := 87) (r := RX0) (n := "hourNow") (d := "I") (by decide)) (fun _ h9 => h9) rfl dX4_count_79 ?_
    refine z_ci (va_runS (As := [.int (nI hz)]) (rest := []) ⟨hx, hb, hml, hown, hts⟩ (c_X3_steepness l (hz := hz) (hh := by omega)) (va_cwS 1 hts gX4_count_X3_steepness rfl rfl rfl (by decide +kernel) ⟨Nat.le_of_ble_eq_true rfl, Nat.le_of_ble_eq_true rfl⟩) z_preS rfl rfl hl.1 rfl (lv_room (Nat.le_of_ble_eq_true rfl)) dX4_count_82 ⟨Nat.le_of_ble_eq_true rfl, Nat.le_of_ble_eq_true rfl⟩) ?_
    exact z_iret hx hb hr hlocks dX4_count_85 (rfl)
  · skip
    refine lv_tableIn (off := 85) (tgt := 86) hx hb dX4_count_1 (by decide) (by decide) rfl (by decide) ?_
    refine lv_aload_n hx hb dX4_count_86 rfl (lv_at hl 0 rfl) ?_
    refine va_get (D := D) (ci := 3) (v := .ref a0) (C := RX4) (T := TX4) (N := 5) hx hb hts in3 hown hK hP 0 rfl rfl 0 (by decide) fl10 (fun _ h9 => h9) rfl dX4_count_87 ?_
    refine va_getN (D := D) (ci := 0) (v := .int (nI mv)) (C := RX0) (T := TX0) (N := 8) hx hb hts in0 hown hK hP 1 rfl rfl 5 (by decide) (hN.get (i := 61) (r := RX0) (n := "mover") (d := "I") (by decide)) (fun _ h9 => h9) rfl dX4_count_90 ?_
    exact z_iret hx hb hr hlocks dX4_count_93 (rfl)
  · skip
    refine lv_tableIn (off := 93) (tgt := 94) hx hb dX4_count_1 (by decide) (by decide) rfl (by decide) ?_
    refine lv_aload_n hx hb dX4_count_94 rfl (lv_at hl 0 rfl) ?_
    refine va_get (D := D) (ci := 3) (v := .ref a0) (C := RX4) (T := TX4) (N := 5) hx hb hts in3 hown hK hP 0 rfl rfl 0 (by decide) fl10 (fun _ h9 => h9) rfl dX4_count_95 ?_
    refine va_getN (D := D) (ci := 0) (v := .int tu) (C := RX0) (T := TX0) (N := 8) hx hb hts in0 hown hK hP 1 rfl rfl 6 (by decide) (hN.get (i := 194) (r := RX0) (n := "turns") (d := "I") (by decide)) (fun _ h9 => h9) rfl dX4_count_98 ?_
    exact z_iret hx hb hr hlocks dX4_count_101 (rfl)
  · skip
    refine lv_tableIn (off := 101) (tgt := 102) hx hb dX4_count_1 (by decide) (by decide) rfl (by decide) ?_
    refine lv_aload_n hx hb dX4_count_102 rfl (lv_at hl 0 rfl) ?_
    refine va_get (D := D) (ci := 3) (v := .ref a0) (C := RX4) (T := TX4) (N := 5) hx hb hts in3 hown hK hP 0 rfl rfl 0 (by decide) fl10 (fun _ h9 => h9) rfl dX4_count_103 ?_
    refine lv_aload_n hx hb dX4_count_106 rfl (lv_at hl 0 rfl) ?_
    refine va_get (D := D) (ci := 3) (v := .ref a0) (C := RX4) (T := TX4) (N := 5) hx hb hts in3 hown hK hP 0 rfl rfl 0 (by decide) fl10 (fun _ h9 => h9) rfl dX4_count_107 ?_
    refine va_getN (D := D) (ci := 0) (v := .int (nI hz)) (C := RX0) (T := TX0) (N := 8) hx hb hts in0 hown hK hP 1 rfl rfl 4 (by decide) (hN.get (i := 87) (r := RX0) (n := "hourNow") (d := "I") (by decide)) (fun _ h9 => h9) rfl dX4_count_110 ?_
    refine z_ci (va_runV (As := [.int (nI hz)]) (rest := []) ⟨hx, hb, hml, hown, hts⟩ (c_X0_darkSquares l D cI cZ cL (a0 := a0) (a1 := a1) (a2 := a2) (a3 := a3) (a4 := a4) (fh := fh) (fo := fo) (fc := fc) (fs := fs) (hz := hz) (mv := mv) (tu := tu) (rf := rf) (hu := hz) (hhu := by omega)) (cwV 1 hts gX4_count_X0_darkSquares rfl rfl rfl (by decide +kernel) ⟨Nat.le_of_ble_eq_true rfl, Nat.le_of_ble_eq_true rfl⟩) (z_preV hK (hP.sub [1, 2, 3, 4, 5] rfl) 0 0 rfl rfl) rfl rfl hl.1 rfl (lv_room (Nat.le_of_ble_eq_true rfl)) dX4_count_113 ⟨Nat.le_of_ble_eq_true rfl, Nat.le_of_ble_eq_true rfl⟩) ?_
    exact z_iret hx hb hr hlocks dX4_count_116 (rfl)
  · skip
    refine lv_tableIn (off := 116) (tgt := 117) hx hb dX4_count_1 (by decide) (by decide) rfl (by decide) ?_
    refine lv_aload_n hx hb dX4_count_117 rfl (lv_at hl 0 rfl) ?_
    refine va_get (D := D) (ci := 3) (v := .ref a0) (C := RX4) (T := TX4) (N := 5) hx hb hts in3 hown hK hP 0 rfl rfl 0 (by decide) fl10 (fun _ h9 => h9) rfl dX4_count_118 ?_
    refine z_ci (va_runV (As := []) (rest := []) ⟨hx, hb, hml, hown, hts⟩ (c_X0_towers l D cI cZ cL (a0 := a0) (a1 := a1) (a2 := a2) (a3 := a3) (a4 := a4) (fh := fh) (fo := fo) (fc := fc) (fs := fs) (hz := hz) (mv := mv) (tu := tu) (rf := rf)) (cwV 0 hts gX4_count_X0_towers rfl rfl rfl (by decide +kernel) ⟨Nat.le_of_ble_eq_true rfl, Nat.le_of_ble_eq_true rfl⟩) (z_preV hK (hP.sub [1, 2, 3, 4, 5] rfl) 0 0 rfl rfl) rfl rfl hl.1 rfl (lv_room (Nat.le_of_ble_eq_true rfl)) dX4_count_121 ⟨Nat.le_of_ble_eq_true rfl, Nat.le_of_ble_eq_true rfl⟩) ?_
    exact z_iret hx hb hr hlocks dX4_count_124 (rfl)
  · skip
    refine lv_tableIn (off := 124) (tgt := 125) hx hb dX4_count_1 (by decide) (by decide) rfl (by decide) ?_
    refine lv_aload_n hx hb dX4_count_125 rfl (lv_at hl 0 rfl) ?_
    refine va_get (D := D) (ci := 3) (v := .ref a0) (C := RX4) (T := TX4) (N := 5) hx hb hts in3 hown hK hP 0 rfl rfl 0 (by decide) fl10 (fun _ h9 => h9) rfl dX4_count_126 ?_
    refine z_ci (va_runV (As := []) (rest := []) ⟨hx, hb, hml, hown, hts⟩ (c_X0_crowdsTogether l D cI cZ cL (a0 := a0) (a1 := a1) (a2 := a2) (a3 := a3) (a4 := a4) (fh := fh) (fo := fo) (fc := fc) (fs := fs) (hz := hz) (mv := mv) (tu := tu) (rf := rf)) (cwV 0 hts gX4_count_X0_crowdsTogether rfl rfl rfl (by decide +kernel) ⟨Nat.le_of_ble_eq_true rfl, Nat.le_of_ble_eq_true rfl⟩) (z_preV hK (hP.sub [1, 2, 3, 4, 5] rfl) 0 0 rfl rfl) rfl rfl hl.1 rfl (lv_room (Nat.le_of_ble_eq_true rfl)) dX4_count_129 ⟨Nat.le_of_ble_eq_true rfl, Nat.le_of_ble_eq_true rfl⟩) ?_
    exact z_iret hx hb hr hlocks dX4_count_132 (rfl)
  · skip
    refine lv_tableIn (off := 132) (tgt := 133) hx hb dX4_count_1 (by decide) (by decide) rfl (by decide) ?_
    refine lv_aload_n hx hb dX4_count_133 rfl (lv_at hl 0 rfl) ?_
    refine va_get (D := D) (ci := 3) (v := .ref a0) (C := RX4) (T := TX4) (N := 5) hx hb hts in3 hown hK hP 0 rfl rfl 0 (by decide) fl10 (fun _ h9 => h9) rfl dX4_count_134 ?_
    refine va_getN (D := D) (ci := 0) (v := .int rf) (C := RX0) (T := TX0) (N := 8) hx hb hts in0 hown hK hP 1 rfl rfl 7 (by decide) (hN.get (i := 57) (r := RX0) (n := "refused") (d := "I") (by decide)) (fun _ h9 => h9) rfl dX4_count_137 ?_
    exact z_iret hx hb hr hlocks dX4_count_140 (rfl)
  · skip
    refine lv_tableIn (off := 140) (tgt := 141) hx hb dX4_count_1 (by decide) (by decide) rfl (by decide) ?_
    refine lv_aload_n hx hb dX4_count_141 rfl (lv_at hl 0 rfl) ?_
    refine va_get (D := D) (ci := 3) (v := .ref d0) (C := RX4) (T := TX4) (N := 5) hx hb hts in3 hown hK hP 0 rfl rfl 2 (by decide) fl26 (fun _ h9 => h9) rfl dX4_count_142 ?_
    refine va_getN (D := D) (ci := 2) (v := .int (nI sz6)) (C := RX2) (T := TX2) (N := 3) hx hb hts in2 hown hK hP 8 rfl rfl 2 (by decide) (hN.get (i := 137) (r := RX2) (n := "size") (d := "I") (by decide)) (fun _ h9 => h9) rfl dX4_count_145 ?_
    exact z_iret hx hb hr hlocks dX4_count_148 (rfl)

set_option maxHeartbeats 4000000 in
set_option maxRecDepth 100000 in
theorem c_X4_whyNot_ok (l : Launch) (D : va_G) (cI cZ cL : ClassId) (x0 : Nat) (e1 : Nat) (e2 : Nat) (fl : Nat → Int32) (fk : Nat → Int32) (a0 : Nat) (a1 : Nat) (a2 : Nat) (a3 : Nat) (a4 : Nat) (fh : Nat → Int32) (fo : Nat → Int32) (fc : Nat → Int32) (fs : Nat → Int32) (hz : Nat) (mv : Nat) (tu : Int32) (rf : Int32) (b0 : Nat) (b1 : Nat) (fx : Nat → Int32) (ln : Nat) (d0 : Nat) (d1 : Nat) (fn : Nat → Int32) (od : Nat) (sz6 : Nat) (q : Nat) (hq : q < 36) (hhz : hz < 12) (hmv : mv < 2) : Met l yX4_whyNot wsX4_whyNot ({ frames := 3, cells := 0, slots := 0, locals := 69 }) (va_Pc [.ref x0, .int (nI q)] (zWn D cI cZ cL [(x0, .inr (3, [.ref a0, .ref b0, .ref d0, .ref e1, .ref e2])), (a0, .inr (0, [.ref a1, .ref a2, .ref a3, .ref a4, .int (nI hz), .int (nI mv), .int tu, .int rf])), (a1, .inl (cI, 36, .inl fh)), (a2, .inl (cI, 36, .inl fo)), (a3, .inl (cI, 36, .inl fc)), (a4, .inl (cI, 2, .inl fs)), (b0, .inr (1, [.ref b1, .int (nI ln)])), (b1, .inl (cI, 60, .inl fx)), (d0, .inr (2, [.ref d1, .int (nI od), .int (nI sz6)])), (d1, .inl (cI, 684, .inl fn)), (e1, .inl (cI, 228, .inl fl)), (e2, .inl (cZ, 2, .inl fk))])) (zQi (nI (pRe fo fh hz mv q))) 0 0 (fun _ => False) := by
  refine Met.ofW (cc := cX4_whyNot) (maxL := 2) (ret := (some .int)) (by decide) rfl ?_
  intro p e s m args below meth c s₁ B hml hv
  obtain ⟨rfl, ⟨hP, hK⟩, hN⟩ := hv
  have hx := B.exec
  have hb := B.bytes
  have hr := B.returns
  have hts := atoms_spec (ws := wsX4_whyNot) B.pre
  have hown : s.vm.findClass RX4 = some m.cls := findClass_of_methodNamed B.named
  have hlocks := B.notSynchronized
  have in3 : ∀ w ∈ u_ws RX4 TX4 5, w ∈ wsX4_whyNot := by decide +kernel
  have fl10 := hts (.fieldLink RX4 10 "TowerShades" "field" "LTowerShades$Field;") (by decide +kernel)
  have hl := lv_entry ([.ref x0, .int (nI q)]) (n := 2) (Nat.le_of_ble_eq_true rfl)
  rw [lg_entry_eq]
  generalize (lg_sl ([.ref x0, .int (nI q)]) ++ List.replicate (2 - (lg_sl ([.ref x0, .int (nI q)])).length) Slot.unset).toArray = ls at hl ⊢
  have hl : lv_has ls 2 [(0, .ref x0), (1, .int (nI q))] := hl
  refine lv_iload_n hx hb dX4_whyNot_0 rfl (lv_at hl 1 rfl) ?_
  refine z_ci (va_runS (As := [.int (nI q)]) (rest := []) ⟨hx, hb, hml, hown, hts⟩ (c_X4_isSquare l (p0 := nI q)) (va_cwS 1 hts gX4_whyNot_X4_isSquare rfl rfl rfl (by decide +kernel) ⟨Nat.le_of_ble_eq_true rfl, Nat.le_of_ble_eq_true rfl⟩) z_preS rfl rfl hl.1 rfl (lv_room (Nat.le_of_ble_eq_true rfl)) dX4_whyNot_1 ⟨Nat.le_of_ble_eq_true rfl, Nat.le_of_ble_eq_true rfl⟩) ?_
  refine z_top (y := 1) (by rw [sq_ok q hq]; rfl) ?_
  refine z_if_ne (tgt := 17) (P := False) hx hb dX4_whyNot_4 (by decide) (by decide) (fun c4 => ?_) (fun c4 => (show False from c4).elim)
  refine lv_aload_n hx hb dX4_whyNot_17 rfl (lv_at hl 0 rfl) ?_
  refine va_get (D := D) (ci := 3) (v := .ref a0) (C := RX4) (T := TX4) (N := 5) hx hb hts in3 hown hK hP 0 rfl rfl 0 (by decide) fl10 (fun _ h9 => h9) rfl dX4_whyNot_18 ?_
  refine lv_iload_n hx hb dX4_whyNot_21 rfl (lv_at hl 1 rfl) ?_
  refine z_ci (va_runV (As := [.int (nI q)]) (rest := []) ⟨hx, hb, hml, hown, hts⟩ (c_X0_refusalReason l D cI cZ cL (a0 := a0) (a1 := a1) (a2 := a2) (a3 := a3) (a4 := a4) (fh := fh) (fo := fo) (fc := fc) (fs := fs) (hz := hz) (mv := mv) (tu := tu) (rf := rf) (q := q) (hq := by omega) (hhz := by omega) (hmv := by omega)) (cwV 1 hts gX4_whyNot_X0_refusalReason rfl rfl rfl (by decide +kernel) ⟨Nat.le_of_ble_eq_true rfl, Nat.le_of_ble_eq_true rfl⟩) (z_preV hK (hP.sub [1, 2, 3, 4, 5] rfl) 0 0 rfl rfl) rfl rfl hl.1 rfl (lv_room (Nat.le_of_ble_eq_true rfl)) dX4_whyNot_22 ⟨Nat.le_of_ble_eq_true rfl, Nat.le_of_ble_eq_true rfl⟩) ?_
  exact z_iret hx hb hr hlocks dX4_whyNot_25 (rfl)

set_option maxHeartbeats 4000000 in
set_option maxRecDepth 100000 in
theorem c_X4_ifRaised_ok (l : Launch) (D : va_G) (cI cZ cL : ClassId) (sz : Nat) (x0 : Nat) (e1 : Nat) (e2 : Nat) (fl : Nat → Int32) (fk : Nat → Int32) (a0 : Nat) (a1 : Nat) (a2 : Nat) (a3 : Nat) (a4 : Nat) (fh : Nat → Int32) (fo : Nat → Int32) (fc : Nat → Int32) (fs : Nat → Int32) (hz : Nat) (mv : Nat) (tu : Int32) (rf : Int32) (b0 : Nat) (b1 : Nat) (fx : Nat → Int32) (ln : Nat) (d0 : Nat) (d1 : Nat) (fn : Nat → Int32) (od : Nat) (sz6 : Nat) (q : Nat) (hq : q < 36) (hhz : hz < 12) (hmv : mv < 2) : Met l yX4_ifRaised wsX4_ifRaised ({ frames := 4, cells := 0, slots := 0, locals := 95 }) (va_Pc [.ref x0, .int (nI q)] (zMn D cI cZ cL [(x0, .inr (3, [.ref a0, .ref b0, .ref d0, .ref e1, .ref e2])), (a0, .inr (0, [.ref a1, .ref a2, .ref a3, .ref a4, .int (nI hz), .int (nI mv), .int tu, .int rf])), (a1, .inl (cI, 36, .inl fh)), (a2, .inl (cI, 36, .inl fo)), (a3, .inl (cI, 36, .inl fc)), (a4, .inl (cI, 2, .inl fs)), (b0, .inr (1, [.ref b1, .int (nI ln)])), (b1, .inl (cI, 60, .inl fx)), (d0, .inr (2, [.ref d1, .int (nI od), .int (nI sz6)])), (d1, .inl (cI, 684, .inl fn)), (e1, .inl (cI, 228, .inl fl)), (e2, .inl (cZ, 2, .inl fk))] sz)) (zQmi D (cWo fo fh fc hz mv q) [(x0, .inr (3, [.ref a0, .ref b0, .ref d0, .ref e1, .ref e2])), (a0, .inr (0, [.ref a1, .ref a2, .ref a3, .ref a4, .int (nI hz), .int (nI mv), .int tu, .int rf])), (a1, .inl (cI, 36, .inl fh)), (a2, .inl (cI, 36, .inl fo)), (a3, .inl (cI, 36, .inl fc)), (a4, .inl (cI, 2, .inl fs)), (b0, .inr (1, [.ref b1, .int (nI ln)])), (b1, .inl (cI, 60, .inl fx)), (d0, .inr (2, [.ref d1, .int (nI od), .int (nI sz6)])), (d1, .inl (cI, 684, .inl fn)), (e1, .inl (cI, 228, .inl fl)), (e2, .inl (cZ, 2, .inl fk))] [(x0, .inr (3, [.ref a0, .ref b0, .ref d0, .ref e1, .ref e2])), (a0, .inr (0, [.ref a1, .ref a2, .ref a3, .ref a4, .int (nI hz), .int (nI mv), .int tu, .int rf])), (a1, .inl (cI, 36, .inl fh)), (a2, .inl (cI, 36, .inl fo)), (a3, .inl (cI, 36, .inl fc)), (a4, .inl (cI, 2, .inl fs)), (b0, .inr (1, [.ref b1, .int (nI ln)])), (b1, .inl (cI, 60, .inl fx)), (d0, .inr (2, [.ref d1, .int (nI od), .int (nI sz6)])), (d1, .inl (cI, 684, .inl fn)), (e1, .inl (cI, 228, .inl fl)), (e2, .inl (cZ, 2, .inl fk))] sz) 0 0 (va_A [(x0, .inr (3, [.ref a0, .ref b0, .ref d0, .ref e1, .ref e2])), (a0, .inr (0, [.ref a1, .ref a2, .ref a3, .ref a4, .int (nI hz), .int (nI mv), .int tu, .int rf])), (a1, .inl (cI, 36, .inl fh)), (a2, .inl (cI, 36, .inl fo)), (a3, .inl (cI, 36, .inl fc)), (a4, .inl (cI, 2, .inl fs)), (b0, .inr (1, [.ref b1, .int (nI ln)])), (b1, .inl (cI, 60, .inl fx)), (d0, .inr (2, [.ref d1, .int (nI od), .int (nI sz6)])), (d1, .inl (cI, 684, .inl fn)), (e1, .inl (cI, 228, .inl fl)), (e2, .inl (cZ, 2, .inl fk))] sz) := by
  refine Met.ofW (cc := cX4_ifRaised) (maxL := 2) (ret := (some .int)) (by decide) rfl ?_
  intro p e s m args below meth c s₁ B hml hv
  obtain ⟨rfl, hsz, ⟨⟨hP, hK⟩, hN⟩, hD0⟩ := hv
  have hx := B.exec
  have hb := B.bytes
  have hr := B.returns
  have hts := atoms_spec (ws := wsX4_ifRaised) B.pre
  have hown : s.vm.findClass RX4 = some m.cls := findClass_of_methodNamed B.named
  have hlocks := B.notSynchronized
  subst hsz
  have hD := hD0.self (sz := s.heap.size)
  generalize hAe : va_A [(x0, .inr (3, [.ref a0, .ref b0, .ref d0, .ref e1, .ref e2])), (a0, .inr (0, [.ref a1, .ref a2, .ref a3, .ref a4, .int (nI hz), .int (nI mv), .int tu, .int rf])), (a1, .inl (cI, 36, .inl fh)), (a2, .inl (cI, 36, .inl fo)), (a3, .inl (cI, 36, .inl fc)), (a4, .inl (cI, 2, .inl fs)), (b0, .inr (1, [.ref b1, .int (nI ln)])), (b1, .inl (cI, 60, .inl fx)), (d0, .inr (2, [.ref d1, .int (nI od), .int (nI sz6)])), (d1, .inl (cI, 684, .inl fn)), (e1, .inl (cI, 228, .inl fl)), (e2, .inl (cZ, 2, .inl fk))] s.heap.size = A at hD ⊢
  have hA : ∀ q : Nat, s.heap.size ≤ q → A q := fun q h => by rw [← hAe]; exact Or.inr h
  have hS : va_S A s.heap s.heap [] := va_S.rf
  have in3 : ∀ w ∈ u_ws RX4 TX4 5, w ∈ wsX4_ifRaised := by decide +kernel
  have fl10 := hts (.fieldLink RX4 10 "TowerShades" "field" "LTowerShades$Field;") (by decide +kernel)
  have hl := lv_entry ([.ref x0, .int (nI q)]) (n := 2) (Nat.le_of_ble_eq_true rfl)
  rw [lg_entry_eq]
  generalize (lg_sl ([.ref x0, .int (nI q)]) ++ List.replicate (2 - (lg_sl ([.ref x0, .int (nI q)])).length) Slot.unset).toArray = ls at hl ⊢
  have hl : lv_has ls 2 [(0, .ref x0), (1, .int (nI q))] := hl
  refine lv_iload_n hx hb dX4_ifRaised_0 rfl (lv_at hl 1 rfl) ?_
  refine z_ci (va_runS (As := [.int (nI q)]) (rest := []) ⟨hx, hb, hml, hown, hts⟩ (c_X4_isSquare l (p0 := nI q)) (va_cwS 1 hts gX4_ifRaised_X4_isSquare rfl rfl rfl (by decide +kernel) ⟨Nat.le_of_ble_eq_true rfl, Nat.le_of_ble_eq_true rfl⟩) z_preS rfl rfl hl.1 rfl (lv_room (Nat.le_of_ble_eq_true rfl)) dX4_ifRaised_1 ⟨Nat.le_of_ble_eq_true rfl, Nat.le_of_ble_eq_true rfl⟩) ?_
  refine z_top (y := 1) (by rw [sq_ok q hq]; rfl) ?_
  refine z_if_ne (tgt := 17) (P := False) hx hb dX4_ifRaised_4 (by decide) (by decide) (fun c4 => ?_) (fun c4 => (show False from c4).elim)
  refine lv_aload_n hx hb dX4_ifRaised_17 rfl (lv_at hl 0 rfl) ?_
  refine va_get (D := D) (ci := 3) (v := .ref a0) (C := RX4) (T := TX4) (N := 5) hx hb hts in3 hown hK hP 0 rfl rfl 0 (by decide) fl10 (fun _ h9 => h9) rfl dX4_ifRaised_18 ?_
  refine lv_iload_n hx hb dX4_ifRaised_21 rfl (lv_at hl 1 rfl) ?_
  refine z_cmi (wr := [(x0, .inr (3, [.ref a0, .ref b0, .ref d0, .ref e1, .ref e2])), (b0, .inr (1, [.ref b1, .int (nI ln)])), (b1, .inl (cI, 60, .inl fx)), (d0, .inr (2, [.ref d1, .int (nI od), .int (nI sz6)])), (d1, .inl (cI, 684, .inl fn)), (e1, .inl (cI, 228, .inl fl)), (e2, .inl (cZ, 2, .inl fk))]) (ws' := [(x0, .inr (3, [.ref a0, .ref b0, .ref d0, .ref e1, .ref e2])), (a0, .inr (0, [.ref a1, .ref a2, .ref a3, .ref a4, .int (nI hz), .int (nI mv), .int tu, .int rf])), (a1, .inl (cI, 36, .inl fh)), (a2, .inl (cI, 36, .inl fo)), (a3, .inl (cI, 36, .inl fc)), (a4, .inl (cI, 2, .inl fs)), (b0, .inr (1, [.ref b1, .int (nI ln)])), (b1, .inl (cI, 60, .inl fx)), (d0, .inr (2, [.ref d1, .int (nI od), .int (nI sz6)])), (d1, .inl (cI, 684, .inl fn)), (e1, .inl (cI, 228, .inl fl)), (e2, .inl (cZ, 2, .inl fk))]) (va_runV (As := [.int (nI q)]) (rest := []) ⟨hx, hb, hml, hown, hts⟩ (c_X0_worthOfRaising l D cI cZ cL _ (a0 := a0) (a1 := a1) (a2 := a2) (a3 := a3) (a4 := a4) (fh := fh) (fo := fo) (fc := fc) (fs := fs) (hz := hz) (mv := mv) (tu := tu) (rf := rf) (q := q) (hq := by omega) (hhz := by omega) (hmv := by omega)) (cwV 1 hts gX4_ifRaised_X0_worthOfRaising rfl rfl rfl (by decide +kernel) ⟨Nat.le_of_ble_eq_true rfl, Nat.le_of_ble_eq_true rfl⟩) (z_preMV hK (hP.sub [1, 2, 3, 4, 5] rfl) (hD.sub [1, 2, 3, 4, 5] (by decide) rfl) 0 0 rfl rfl) rfl rfl hl.1 rfl (lv_room (Nat.le_of_ble_eq_true rfl)) dX4_ifRaised_22 ⟨Nat.le_of_ble_eq_true rfl, Nat.le_of_ble_eq_true rfl⟩) hP hD hS hA [1, 2, 3, 4, 5] [0, 6, 7, 8, 9, 10, 11] [0, 7, 8, 9, 10, 11, 1, 2, 3, 4, 5, 6] rfl rfl (by decide) (by decide) rfl rfl (by decide) (fun H locs hP hD hS => ?_)
  have hP9 : va_P D vwCl [(x0, .inr (3, [.ref a0, .ref b0, .ref d0, .ref e1, .ref e2])), (a0, .inr (0, [.ref a1, .ref a2, .ref a3, .ref a4, .int (nI hz), .int (nI mv), .int tu, .int rf])), (a1, .inl (cI, 36, .inl fh)), (a2, .inl (cI, 36, .inl fo)), (a3, .inl (cI, 36, .inl fc)), (a4, .inl (cI, 2, .inl fs)), (b0, .inr (1, [.ref b1, .int (nI ln)])), (b1, .inl (cI, 60, .inl fx)), (d0, .inr (2, [.ref d1, .int (nI od), .int (nI sz6)])), (d1, .inl (cI, 684, .inl fn)), (e1, .inl (cI, 228, .inl fl)), (e2, .inl (cZ, 2, .inl fk))] _ := hP
  have hD9 : va_D A [(x0, .inr (3, [.ref a0, .ref b0, .ref d0, .ref e1, .ref e2])), (a0, .inr (0, [.ref a1, .ref a2, .ref a3, .ref a4, .int (nI hz), .int (nI mv), .int tu, .int rf])), (a1, .inl (cI, 36, .inl fh)), (a2, .inl (cI, 36, .inl fo)), (a3, .inl (cI, 36, .inl fc)), (a4, .inl (cI, 2, .inl fs)), (b0, .inr (1, [.ref b1, .int (nI ln)])), (b1, .inl (cI, 60, .inl fx)), (d0, .inr (2, [.ref d1, .int (nI od), .int (nI sz6)])), (d1, .inl (cI, 684, .inl fn)), (e1, .inl (cI, 228, .inl fl)), (e2, .inl (cZ, 2, .inl fk))] := hD
  subst hAe
  exact z_miret hx hb hr hlocks dX4_ifRaised_25 (rfl) hP9 hD9 hS

set_option maxHeartbeats 4000000 in
set_option maxRecDepth 100000 in
theorem c_X4_bestSquare_ok (l : Launch) (D : va_G) (cI cZ cL : ClassId) (sz : Nat) (x0 : Nat) (e1 : Nat) (e2 : Nat) (fl : Nat → Int32) (fk : Nat → Int32) (a0 : Nat) (a1 : Nat) (a2 : Nat) (a3 : Nat) (a4 : Nat) (fh : Nat → Int32) (fo : Nat → Int32) (fc : Nat → Int32) (fs : Nat → Int32) (hz : Nat) (mv : Nat) (tu : Int32) (rf : Int32) (b0 : Nat) (b1 : Nat) (fx : Nat → Int32) (ln : Nat) (d0 : Nat) (d1 : Nat) (fn : Nat → Int32) (od : Nat) (sz6 : Nat) (hhz : hz < 12) (hmv : mv < 2) : Met l yX4_bestSquare wsX4_bestSquare ({ frames := 4, cells := 0, slots := 0, locals := 95 }) (va_Pc [.ref x0] (zMn D cI cZ cL [(x0, .inr (3, [.ref a0, .ref b0, .ref d0, .ref e1, .ref e2])), (a0, .inr (0, [.ref a1, .ref a2, .ref a3, .ref a4, .int (nI hz), .int (nI mv), .int tu, .int rf])), (a1, .inl (cI, 36, .inl fh)), (a2, .inl (cI, 36, .inl fo)), (a3, .inl (cI, 36, .inl fc)), (a4, .inl (cI, 2, .inl fs)), (b0, .inr (1, [.ref b1, .int (nI ln)])), (b1, .inl (cI, 60, .inl fx)), (d0, .inr (2, [.ref d1, .int (nI od), .int (nI sz6)])), (d1, .inl (cI, 684, .inl fn)), (e1, .inl (cI, 228, .inl fl)), (e2, .inl (cZ, 2, .inl fk))] sz)) (zQmi D (be (cWo fo fh fc hz mv) 36) [(x0, .inr (3, [.ref a0, .ref b0, .ref d0, .ref e1, .ref e2])), (a0, .inr (0, [.ref a1, .ref a2, .ref a3, .ref a4, .int (nI hz), .int (nI mv), .int tu, .int rf])), (a1, .inl (cI, 36, .inl fh)), (a2, .inl (cI, 36, .inl fo)), (a3, .inl (cI, 36, .inl fc)), (a4, .inl (cI, 2, .inl fs)), (b0, .inr (1, [.ref b1, .int (nI ln)])), (b1, .inl (cI, 60, .inl fx)), (d0, .inr (2, [.ref d1, .int (nI od), .int (nI sz6)])), (d1, .inl (cI, 684, .inl fn)), (e1, .inl (cI, 228, .inl fl)), (e2, .inl (cZ, 2, .inl fk))] [(x0, .inr (3, [.ref a0, .ref b0, .ref d0, .ref e1, .ref e2])), (a0, .inr (0, [.ref a1, .ref a2, .ref a3, .ref a4, .int (nI hz), .int (nI mv), .int tu, .int rf])), (a1, .inl (cI, 36, .inl fh)), (a2, .inl (cI, 36, .inl fo)), (a3, .inl (cI, 36, .inl fc)), (a4, .inl (cI, 2, .inl fs)), (b0, .inr (1, [.ref b1, .int (nI ln)])), (b1, .inl (cI, 60, .inl fx)), (d0, .inr (2, [.ref d1, .int (nI od), .int (nI sz6)])), (d1, .inl (cI, 684, .inl fn)), (e1, .inl (cI, 228, .inl fl)), (e2, .inl (cZ, 2, .inl fk))] sz) 0 0 (va_A [(x0, .inr (3, [.ref a0, .ref b0, .ref d0, .ref e1, .ref e2])), (a0, .inr (0, [.ref a1, .ref a2, .ref a3, .ref a4, .int (nI hz), .int (nI mv), .int tu, .int rf])), (a1, .inl (cI, 36, .inl fh)), (a2, .inl (cI, 36, .inl fo)), (a3, .inl (cI, 36, .inl fc)), (a4, .inl (cI, 2, .inl fs)), (b0, .inr (1, [.ref b1, .int (nI ln)])), (b1, .inl (cI, 60, .inl fx)), (d0, .inr (2, [.ref d1, .int (nI od), .int (nI sz6)])), (d1, .inl (cI, 684, .inl fn)), (e1, .inl (cI, 228, .inl fl)), (e2, .inl (cZ, 2, .inl fk))] sz) := by
  refine Met.ofW (cc := cX4_bestSquare) (maxL := 5) (ret := (some .int)) (by decide) rfl ?_
  intro p e s m args below meth c s₁ B hml hv
  obtain ⟨rfl, hsz, ⟨⟨hP, hK⟩, hN⟩, hD0⟩ := hv
  have hx := B.exec
  have hb := B.bytes
  have hr := B.returns
  have hts := atoms_spec (ws := wsX4_bestSquare) B.pre
  have hown : s.vm.findClass RX4 = some m.cls := findClass_of_methodNamed B.named
  have hlocks := B.notSynchronized
  subst hsz
  have hD := hD0.self (sz := s.heap.size)
  generalize hAe : va_A [(x0, .inr (3, [.ref a0, .ref b0, .ref d0, .ref e1, .ref e2])), (a0, .inr (0, [.ref a1, .ref a2, .ref a3, .ref a4, .int (nI hz), .int (nI mv), .int tu, .int rf])), (a1, .inl (cI, 36, .inl fh)), (a2, .inl (cI, 36, .inl fo)), (a3, .inl (cI, 36, .inl fc)), (a4, .inl (cI, 2, .inl fs)), (b0, .inr (1, [.ref b1, .int (nI ln)])), (b1, .inl (cI, 60, .inl fx)), (d0, .inr (2, [.ref d1, .int (nI od), .int (nI sz6)])), (d1, .inl (cI, 684, .inl fn)), (e1, .inl (cI, 228, .inl fl)), (e2, .inl (cZ, 2, .inl fk))] s.heap.size = A at hD ⊢
  have hA : ∀ q : Nat, s.heap.size ≤ q → A q := fun q h => by rw [← hAe]; exact Or.inr h
  have hS : va_S A s.heap s.heap [] := va_S.rf
  have in3 : ∀ w ∈ u_ws RX4 TX4 5, w ∈ wsX4_bestSquare := by decide +kernel
  have fl10 := hts (.fieldLink RX4 10 "TowerShades" "field" "LTowerShades$Field;") (by decide +kernel)
  have hl := lv_entry ([.ref x0]) (n := 5) (Nat.le_of_ble_eq_true rfl)
  rw [lg_entry_eq]
  generalize (lg_sl ([.ref x0]) ++ List.replicate (5 - (lg_sl ([.ref x0])).length) Slot.unset).toArray = ls at hl ⊢
  have hl : lv_has ls 5 [(0, .ref x0)] := hl
  refine lv_iconst (v := (-1)) hx hb dX4_bestSquare_0 (by decide) ?_
  refine lv_istore_n (lv' := [(1, .int (-1)), (0, .ref x0)]) hx hb dX4_bestSquare_1 rfl hl (by decide) rfl (fun ls hl => ?_)
  refine lv_sipush (v := (-999)) hx hb dX4_bestSquare_2 (by decide) ?_
  refine lv_istore_n (lv' := [(2, .int (-999)), (1, .int (-1)), (0, .ref x0)]) hx hb dX4_bestSquare_5 rfl hl (by decide) rfl (fun ls hl => ?_)
  refine lv_iconst (v := 0) hx hb dX4_bestSquare_6 (by decide) ?_
  refine lv_istore_n (lv' := [(3, .int 0), (2, .int (-999)), (1, .int (-1)), (0, .ref x0)]) hx hb dX4_bestSquare_7 rfl hl (by decide) rfl (fun ls hl => ?_)
  refine z_upH (N := 36) (i0 := 0) (fun i H locs ls => ∃ xb : Int32, xb = be (cWo fo fh fc hz mv) i ∧ ∃ xq : Int32, xq = mo (cWo fo fh fc hz mv) i ∧ va_P D vwCl [(x0, .inr (3, [.ref a0, .ref b0, .ref d0, .ref e1, .ref e2])), (a0, .inr (0, [.ref a1, .ref a2, .ref a3, .ref a4, .int (nI hz), .int (nI mv), .int tu, .int rf])), (a1, .inl (cI, 36, .inl fh)), (a2, .inl (cI, 36, .inl fo)), (a3, .inl (cI, 36, .inl fc)), (a4, .inl (cI, 2, .inl fs)), (b0, .inr (1, [.ref b1, .int (nI ln)])), (b1, .inl (cI, 60, .inl fx)), (d0, .inr (2, [.ref d1, .int (nI od), .int (nI sz6)])), (d1, .inl (cI, 684, .inl fn)), (e1, .inl (cI, 228, .inl fl)), (e2, .inl (cZ, 2, .inl fk))] H ∧ va_D A [(x0, .inr (3, [.ref a0, .ref b0, .ref d0, .ref e1, .ref e2])), (a0, .inr (0, [.ref a1, .ref a2, .ref a3, .ref a4, .int (nI hz), .int (nI mv), .int tu, .int rf])), (a1, .inl (cI, 36, .inl fh)), (a2, .inl (cI, 36, .inl fo)), (a3, .inl (cI, 36, .inl fc)), (a4, .inl (cI, 2, .inl fs)), (b0, .inr (1, [.ref b1, .int (nI ln)])), (b1, .inl (cI, 60, .inl fx)), (d0, .inr (2, [.ref d1, .int (nI od), .int (nI sz6)])), (d1, .inl (cI, 684, .inl fn)), (e1, .inl (cI, 228, .inl fl)), (e2, .inl (cZ, 2, .inl fk))] ∧ va_S A s.heap H locs ∧ lv_has ls 5 [(0, .ref x0), (1, .int xb), (2, .int xq), (3, .int (nI i))]) (by omega) (⟨_, rfl, _, rfl, hP, hD, hS, lv_sub hl [3, 2, 1, 0] rfl⟩) (fun i H locs ls hi8 hI ih8 => ?_)
  obtain ⟨xb, exb, xq, exq, hP, hD, hS, hl⟩ := hI
  refine lv_iload_n hx hb dX4_bestSquare_8 rfl (lv_at hl 3 rfl) ?_
  refine lv_bipush (v := 36) hx hb dX4_bestSquare_9 (by decide) ?_
  refine z_icmp_ge (tgt := 41) (P := 36 ≤ i) hx hb dX4_bestSquare_11 (by decide) (nI_leI (a := 36) (b := i) (by omega) (by omega)) (fun c11 => ?_) (fun c11 => ?_)
  · skip
    obtain rfl : i = 36 := by omega
    refine lv_iload_n hx hb dX4_bestSquare_41 rfl (lv_at hl 1 rfl) ?_
    have hP9 : va_P D vwCl [(x0, .inr (3, [.ref a0, .ref b0, .ref d0, .ref e1, .ref e2])), (a0, .inr (0, [.ref a1, .ref a2, .ref a3, .ref a4, .int (nI hz), .int (nI mv), .int tu, .int rf])), (a1, .inl (cI, 36, .inl fh)), (a2, .inl (cI, 36, .inl fo)), (a3, .inl (cI, 36, .inl fc)), (a4, .inl (cI, 2, .inl fs)), (b0, .inr (1, [.ref b1, .int (nI ln)])), (b1, .inl (cI, 60, .inl fx)), (d0, .inr (2, [.ref d1, .int (nI od), .int (nI sz6)])), (d1, .inl (cI, 684, .inl fn)), (e1, .inl (cI, 228, .inl fl)), (e2, .inl (cZ, 2, .inl fk))] _ := hP
    have hD9 : va_D A [(x0, .inr (3, [.ref a0, .ref b0, .ref d0, .ref e1, .ref e2])), (a0, .inr (0, [.ref a1, .ref a2, .ref a3, .ref a4, .int (nI hz), .int (nI mv), .int tu, .int rf])), (a1, .inl (cI, 36, .inl fh)), (a2, .inl (cI, 36, .inl fo)), (a3, .inl (cI, 36, .inl fc)), (a4, .inl (cI, 2, .inl fs)), (b0, .inr (1, [.ref b1, .int (nI ln)])), (b1, .inl (cI, 60, .inl fx)), (d0, .inr (2, [.ref d1, .int (nI od), .int (nI sz6)])), (d1, .inl (cI, 684, .inl fn)), (e1, .inl (cI, 228, .inl fl)), (e2, .inl (cZ, 2, .inl fk))] := hD
    subst hAe
    exact z_miret hx hb hr hlocks dX4_bestSquare_42 (exb) hP9 hD9 hS
  · skip
    refine lv_aload_n hx hb dX4_bestSquare_14 rfl (lv_at hl 0 rfl) ?_
    refine va_get (D := D) (ci := 3) (v := .ref a0) (C := RX4) (T := TX4) (N := 5) hx hb hts in3 hown hK hP 0 rfl rfl 0 (by decide) fl10 (fun _ h9 => h9) rfl dX4_bestSquare_15 ?_
    refine lv_iload_n hx hb dX4_bestSquare_18 rfl (lv_at hl 3 rfl) ?_
    refine z_cmi (wr := [(x0, .inr (3, [.ref a0, .ref b0, .ref d0, .ref e1, .ref e2])), (b0, .inr (1, [.ref b1, .int (nI ln)])), (b1, .inl (cI, 60, .inl fx)), (d0, .inr (2, [.ref d1, .int (nI od), .int (nI sz6)])), (d1, .inl (cI, 684, .inl fn)), (e1, .inl (cI, 228, .inl fl)), (e2, .inl (cZ, 2, .inl fk))]) (ws' := [(x0, .inr (3, [.ref a0, .ref b0, .ref d0, .ref e1, .ref e2])), (a0, .inr (0, [.ref a1, .ref a2, .ref a3, .ref a4, .int (nI hz), .int (nI mv), .int tu, .int rf])), (a1, .inl (cI, 36, .inl fh)), (a2, .inl (cI, 36, .inl fo)), (a3, .inl (cI, 36, .inl fc)), (a4, .inl (cI, 2, .inl fs)), (b0, .inr (1, [.ref b1, .int (nI ln)])), (b1, .inl (cI, 60, .inl fx)), (d0, .inr (2, [.ref d1, .int (nI od), .int (nI sz6)])), (d1, .inl (cI, 684, .inl fn)), (e1, .inl (cI, 228, .inl fl)), (e2, .inl (cZ, 2, .inl fk))]) (va_runV (As := [.int (nI i)]) (rest := []) ⟨hx, hb, hml, hown, hts⟩ (c_X0_worthOfRaising l D cI cZ cL _ (a0 := a0) (a1 := a1) (a2 := a2) (a3 := a3) (a4 := a4) (fh := fh) (fo := fo) (fc := fc) (fs := fs) (hz := hz) (mv := mv) (tu := tu) (rf := rf) (q := i) (hq := by omega) (hhz := by omega) (hmv := by omega)) (cwV 1 hts gX4_bestSquare_X0_worthOfRaising rfl rfl rfl (by decide +kernel) ⟨Nat.le_of_ble_eq_true rfl, Nat.le_of_ble_eq_true rfl⟩) (z_preMV hK (hP.sub [1, 2, 3, 4, 5] rfl) (hD.sub [1, 2, 3, 4, 5] (by decide) rfl) 0 0 rfl rfl) rfl rfl hl.1 rfl (lv_room (Nat.le_of_ble_eq_true rfl)) dX4_bestSquare_19 ⟨Nat.le_of_ble_eq_true rfl, Nat.le_of_ble_eq_true rfl⟩) hP hD hS hA [1, 2, 3, 4, 5] [0, 6, 7, 8, 9, 10, 11] [0, 7, 8, 9, 10, 11, 1, 2, 3, 4, 5, 6] rfl rfl (by decide) (by decide) rfl rfl (by decide) (fun H locs hP hD hS => ?_)
    refine lv_istore (lv' := [(4, .int (cWo fo fh fc hz mv i)), (0, .ref x0), (1, .int xb), (2, .int xq), (3, .int (nI i))]) hx hb dX4_bestSquare_22 hl (by decide) rfl (fun ls hl => ?_)
    refine lv_iload hx hb dX4_bestSquare_24 (lv_at hl 0 rfl) ?_
    refine lv_iload_n hx hb dX4_bestSquare_26 rfl (lv_at hl 3 rfl) ?_
    refine z_icmp_le (tgt := 35) (P := (cWo fo fh fc hz mv i) ≤ xq) hx hb dX4_bestSquare_27 (by decide) (Iff.rfl) (fun c27 => ?_) (fun c27 => ?_)
    · skip
      refine lv_iinc (v := nI (i + 1)) (lv' := [(3, .int (nI (i + 1))), (4, .int (cWo fo fh fc hz mv i)), (0, .ref x0), (1, .int xb), (2, .int xq)]) hx hb dX4_bestSquare_35 hl (k := 4) rfl (nI_1 (i)) (by decide) rfl (fun ls hl => ?_)
      refine lv_goto (tgt := 8) hx hb dX4_bestSquare_38 (by decide) ?_
      exact ih8 (by omega) _ _ _ (⟨_, by simp only [be, ← exq]; first | (rw [if_pos c27]; exact exb) | (rw [if_neg c27]), _, by simp only [mo, ← exq]; first | rw [if_pos c27] | rw [if_neg c27], hP, hD, hS, lv_sub hl [2, 3, 4, 0] rfl⟩)
    · skip
      refine lv_iload_n hx hb dX4_bestSquare_30 rfl (lv_at hl 4 rfl) ?_
      refine lv_istore_n (lv' := [(1, .int (nI i)), (4, .int (cWo fo fh fc hz mv i)), (0, .ref x0), (2, .int xq), (3, .int (nI i))]) hx hb dX4_bestSquare_31 rfl hl (by decide) rfl (fun ls hl => ?_)
      refine lv_iload hx hb dX4_bestSquare_32 (lv_at hl 1 rfl) ?_
      refine lv_istore_n (lv' := [(2, .int (cWo fo fh fc hz mv i)), (1, .int (nI i)), (4, .int (cWo fo fh fc hz mv i)), (0, .ref x0), (3, .int (nI i))]) hx hb dX4_bestSquare_34 rfl hl (by decide) rfl (fun ls hl => ?_)
      refine lv_iinc (v := nI (i + 1)) (lv' := [(3, .int (nI (i + 1))), (2, .int (cWo fo fh fc hz mv i)), (1, .int (nI i)), (4, .int (cWo fo fh fc hz mv i)), (0, .ref x0)]) hx hb dX4_bestSquare_35 hl (k := 4) rfl (nI_1 (i)) (by decide) rfl (fun ls hl => ?_)
      refine lv_goto (tgt := 8) hx hb dX4_bestSquare_38 (by decide) ?_
      exact ih8 (by omega) _ _ _ (⟨_, by simp only [be, ← exq]; first | (rw [if_pos c27]; exact exb) | (rw [if_neg c27]), _, by simp only [mo, ← exq]; first | rw [if_pos c27] | rw [if_neg c27], hP, hD, hS, lv_sub hl [4, 2, 1, 0] rfl⟩)

set_option maxHeartbeats 4000000 in
set_option maxRecDepth 100000 in
theorem c_X4_needed_ok (l : Launch) (D : va_G) (cI cZ cL : ClassId) (x0 : Nat) (e1 : Nat) (e2 : Nat) (fl : Nat → Int32) (fk : Nat → Int32) (a0 : Nat) (a1 : Nat) (a2 : Nat) (a3 : Nat) (a4 : Nat) (fh : Nat → Int32) (fo : Nat → Int32) (fc : Nat → Int32) (fs : Nat → Int32) (hz : Nat) (mv : Nat) (tu : Int32) (rf : Int32) (b0 : Nat) (b1 : Nat) (fx : Nat → Int32) (ln : Nat) (d0 : Nat) (d1 : Nat) (fn : Nat → Int32) (od : Nat) (sz6 : Nat) (f : Nat) (q : Nat) (hf : f < 36) (hq : q < 36) (hhz : hz < 12) : Met l yX4_needed wsX4_needed ({ frames := 2, cells := 0, slots := 0, locals := 46 }) (va_Pc [.ref x0, .int (nI f), .int (nI q)] (zWn D cI cZ cL [(x0, .inr (3, [.ref a0, .ref b0, .ref d0, .ref e1, .ref e2])), (a0, .inr (0, [.ref a1, .ref a2, .ref a3, .ref a4, .int (nI hz), .int (nI mv), .int tu, .int rf])), (a1, .inl (cI, 36, .inl fh)), (a2, .inl (cI, 36, .inl fo)), (a3, .inl (cI, 36, .inl fc)), (a4, .inl (cI, 2, .inl fs)), (b0, .inr (1, [.ref b1, .int (nI ln)])), (b1, .inl (cI, 60, .inl fx)), (d0, .inr (2, [.ref d1, .int (nI od), .int (nI sz6)])), (d1, .inl (cI, 684, .inl fn)), (e1, .inl (cI, 228, .inl fl)), (e2, .inl (cZ, 2, .inl fk))])) (zQi (cLe fh hz f q)) 0 0 (fun _ => False) := by
  refine Met.ofW (cc := cX4_needed) (maxL := 5) (ret := (some .int)) (by decide) rfl ?_
  intro p e s m args below meth c s₁ B hml hv
  obtain ⟨rfl, ⟨hP, hK⟩, hN⟩ := hv
  have hx := B.exec
  have hb := B.bytes
  have hr := B.returns
  have hts := atoms_spec (ws := wsX4_needed) B.pre
  have hown : s.vm.findClass RX4 = some m.cls := findClass_of_methodNamed B.named
  have hlocks := B.notSynchronized
  have in0 : ∀ w ∈ u_ws RX0 TX0 8, w ∈ wsX4_needed := by decide +kernel
  have in3 : ∀ w ∈ u_ws RX4 TX4 5, w ∈ wsX4_needed := by decide +kernel
  have fl10 := hts (.fieldLink RX4 10 "TowerShades" "field" "LTowerShades$Field;") (by decide +kernel)
  have hl := lv_entry ([.ref x0, .int (nI f), .int (nI q)]) (n := 5) (Nat.le_of_ble_eq_true rfl)
  rw [lg_entry_eq]
  generalize (lg_sl ([.ref x0, .int (nI f), .int (nI q)]) ++ List.replicate (5 - (lg_sl ([.ref x0, .int (nI f), .int (nI q)])).length) Slot.unset).toArray = ls at hl ⊢
  have hl : lv_has ls 5 [(0, .ref x0), (1, .int (nI f)), (2, .int (nI q))] := hl
  have hDi := pDi_le (sd := hz / 3) (q := q) (f := f) (by omega) hq
  refine lv_iload_n hx hb dX4_needed_0 rfl (lv_at hl 1 rfl) ?_
  refine z_ci (va_runS (As := [.int (nI f)]) (rest := []) ⟨hx, hb, hml, hown, hts⟩ (c_X4_isSquare l (p0 := nI f)) (va_cwS 1 hts gX4_needed_X4_isSquare rfl rfl rfl (by decide +kernel) ⟨Nat.le_of_ble_eq_true rfl, Nat.le_of_ble_eq_true rfl⟩) z_preS rfl rfl hl.1 rfl (lv_room (Nat.le_of_ble_eq_true rfl)) dX4_needed_1 ⟨Nat.le_of_ble_eq_true rfl, Nat.le_of_ble_eq_true rfl⟩) ?_
  refine z_top (y := 1) (by rw [sq_ok f hf]; rfl) ?_
  refine z_if_eq (tgt := 14) (P := False) hx hb dX4_needed_4 (by decide) (by decide) (fun c4 => (show False from c4).elim) (fun c4 => ?_)
  refine lv_iload_n hx hb dX4_needed_7 rfl (lv_at hl 2 rfl) ?_
  refine z_ci (va_runS (As := [.int (nI q)]) (rest := []) ⟨hx, hb, hml, hown, hts⟩ (c_X4_isSquare l (p0 := nI q)) (va_cwS 1 hts gX4_needed_X4_isSquare rfl rfl rfl (by decide +kernel) ⟨Nat.le_of_ble_eq_true rfl, Nat.le_of_ble_eq_true rfl⟩) z_preS rfl rfl hl.1 rfl (lv_room (Nat.le_of_ble_eq_true rfl)) dX4_needed_8 ⟨Nat.le_of_ble_eq_true rfl, Nat.le_of_ble_eq_true rfl⟩) ?_
  refine z_top (y := 1) (by rw [sq_ok q hq]; rfl) ?_
  refine z_if_ne (tgt := 24) (P := False) hx hb dX4_needed_11 (by decide) (by decide) (fun c11 => ?_) (fun c11 => (show False from c11).elim)
  refine lv_aload_n hx hb dX4_needed_24 rfl (lv_at hl 0 rfl) ?_
  refine va_get (D := D) (ci := 3) (v := .ref a0) (C := RX4) (T := TX4) (N := 5) hx hb hts in3 hown hK hP 0 rfl rfl 0 (by decide) fl10 (fun _ h9 => h9) rfl dX4_needed_25 ?_
  refine va_getN (D := D) (ci := 0) (v := .int (nI hz)) (C := RX0) (T := TX0) (N := 8) hx hb hts in0 hown hK hP 1 rfl rfl 4 (by decide) (hN.get (i := 87) (r := RX0) (n := "hourNow") (d := "I") (by decide)) (fun _ h9 => h9) rfl dX4_needed_28 ?_
  refine z_ci (va_runS (As := [.int (nI hz)]) (rest := []) ⟨hx, hb, hml, hown, hts⟩ (c_X3_side l (hz := hz) (hh := by omega)) (va_cwS 1 hts gX4_needed_X3_side rfl rfl rfl (by decide +kernel) ⟨Nat.le_of_ble_eq_true rfl, Nat.le_of_ble_eq_true rfl⟩) z_preS rfl rfl hl.1 rfl (lv_room (Nat.le_of_ble_eq_true rfl)) dX4_needed_31 ⟨Nat.le_of_ble_eq_true rfl, Nat.le_of_ble_eq_true rfl⟩) ?_
  refine lv_iload_n hx hb dX4_needed_34 rfl (lv_at hl 2 rfl) ?_
  refine lv_iload_n hx hb dX4_needed_35 rfl (lv_at hl 1 rfl) ?_
  refine z_ci (va_runS (As := [.int (nI (hz / 3)), .int (nI q), .int (nI f)]) (rest := []) ⟨hx, hb, hml, hown, hts⟩ (c_X3_distanceTowardSun l (sd := hz / 3) (q := q) (f := f) (hs := by omega) (hq := by omega) (hf := by omega)) (va_cwS 3 hts gX4_needed_X3_distanceTowardSun rfl rfl rfl (by decide +kernel) ⟨Nat.le_of_ble_eq_true rfl, Nat.le_of_ble_eq_true rfl⟩) z_preS rfl rfl hl.1 rfl (lv_room (Nat.le_of_ble_eq_true rfl)) dX4_needed_36 ⟨Nat.le_of_ble_eq_true rfl, Nat.le_of_ble_eq_true rfl⟩) ?_
  refine lv_istore_n (lv' := [(3, .int (nI (pDi (hz / 3) q f))), (0, .ref x0), (1, .int (nI f)), (2, .int (nI q))]) hx hb dX4_needed_39 rfl hl (by decide) rfl (fun ls hl => ?_)
  refine lv_iload_n hx hb dX4_needed_40 rfl (lv_at hl 0 rfl) ?_
  refine z_if_ne (tgt := 46) (P := pDi (hz / 3) q f = 0) hx hb dX4_needed_41 (by decide) (nI_eq (a := pDi (hz / 3) q f) (b := 0) (by omega) (by omega)) (fun c41 => ?_) (fun c41 => ?_)
  · skip
    refine lv_aload_n hx hb dX4_needed_46 rfl (lv_at hl 1 rfl) ?_
    refine va_get (D := D) (ci := 3) (v := .ref a0) (C := RX4) (T := TX4) (N := 5) hx hb hts in3 hown hK hP 0 rfl rfl 0 (by decide) fl10 (fun _ h9 => h9) rfl dX4_needed_47 ?_
    refine va_getN (D := D) (ci := 0) (v := .ref a1) (C := RX0) (T := TX0) (N := 8) hx hb hts in0 hown hK hP 1 rfl rfl 0 (by decide) (hN.get (i := 64) (r := RX0) (n := "heights") (d := "[I") (by decide)) (fun _ h9 => h9) rfl dX4_needed_50 ?_
    refine lv_iload_n hx hb dX4_needed_53 rfl (lv_at hl 3 rfl) ?_
    refine z_iald hx hb hK hP 2 0 rfl rfl (k := q) (rfl) (by omega) (by decide) dX4_needed_54 ?_
    refine lv_iload_n hx hb dX4_needed_55 rfl (lv_at hl 0 rfl) ?_
    refine lv_aload_n hx hb dX4_needed_56 rfl (lv_at hl 1 rfl) ?_
    refine va_get (D := D) (ci := 3) (v := .ref a0) (C := RX4) (T := TX4) (N := 5) hx hb hts in3 hown hK hP 0 rfl rfl 0 (by decide) fl10 (fun _ h9 => h9) rfl dX4_needed_57 ?_
    refine va_getN (D := D) (ci := 0) (v := .int (nI hz)) (C := RX0) (T := TX0) (N := 8) hx hb hts in0 hown hK hP 1 rfl rfl 4 (by decide) (hN.get (i := 87) (r := RX0) (n := "hourNow") (d := "I") (by decide)) (fun _ h9 => h9) rfl dX4_needed_60 ?_
    refine z_ci (va_runS (As := [.int (nI hz)]) (rest := [.int (nI (pDi (hz / 3) q f)), .int (fh q)]) ⟨hx, hb, hml, hown, hts⟩ (c_X3_steepness l (hz := hz) (hh := by omega)) (va_cwS 1 hts gX4_needed_X3_steepness rfl rfl rfl (by decide +kernel) ⟨Nat.le_of_ble_eq_true rfl, Nat.le_of_ble_eq_true rfl⟩) z_preS rfl rfl hl.1 rfl (lv_room (Nat.le_of_ble_eq_true rfl)) dX4_needed_63 ⟨Nat.le_of_ble_eq_true rfl, Nat.le_of_ble_eq_true rfl⟩) ?_
    refine z_imul (v := nI (pDi (hz / 3) q f * pSt hz)) hx hb dX4_needed_66 (pk_mul (pDi (hz / 3) q f) (pSt hz)) ?_
    refine z_iadd (v := ((fh q) + (nI (pDi (hz / 3) q f * pSt hz)))) hx hb dX4_needed_67 (rfl) ?_
    refine lv_iconst (v := 1) hx hb dX4_needed_68 (by decide) ?_
    refine z_iadd (v := (((fh q) + (nI (pDi (hz / 3) q f * pSt hz))) + 1)) hx hb dX4_needed_69 (rfl) ?_
    refine lv_istore (lv' := [(4, .int (((fh q) + (nI (pDi (hz / 3) q f * pSt hz))) + 1)), (3, .int (nI (pDi (hz / 3) q f))), (0, .ref x0), (1, .int (nI f)), (2, .int (nI q))]) hx hb dX4_needed_70 hl (by decide) rfl (fun ls hl => ?_)
    refine lv_iload hx hb dX4_needed_72 (lv_at hl 0 rfl) ?_
    refine lv_bipush (v := 9) hx hb dX4_needed_74 (by decide) ?_
    refine z_icmp_le (tgt := 83) (P := (((fh q) + (nI (pDi (hz / 3) q f * pSt hz))) + 1) ≤ 9) hx hb dX4_needed_76 (by decide) (Iff.rfl) (fun c76 => ?_) (fun c76 => ?_)
    · skip
      refine lv_iload hx hb dX4_needed_83 (lv_at hl 0 rfl) ?_
      exact z_iret hx hb hr hlocks dX4_needed_85 (by simp [cLe, c4, c11, c41, c76])
    · skip
      refine lv_iconst (v := (-1)) hx hb dX4_needed_79 (by decide) ?_
      refine lv_goto (tgt := 85) hx hb dX4_needed_80 (by decide) ?_
      exact z_iret hx hb hr hlocks dX4_needed_85 (by simp [cLe, c4, c11, c41, c76])
  · skip
    refine lv_iconst (v := (-1)) hx hb dX4_needed_44 (by decide) ?_
    exact z_iret hx hb hr hlocks dX4_needed_45 (by simp [cLe, c4, c11, c41])

set_option maxHeartbeats 4000000 in
set_option maxRecDepth 100000 in
theorem c_X4_darkestHour_ok (l : Launch) (D : va_G) (cI cZ cL : ClassId) (x0 : Nat) (e1 : Nat) (e2 : Nat) (fl : Nat → Int32) (fk : Nat → Int32) (a0 : Nat) (a1 : Nat) (a2 : Nat) (a3 : Nat) (a4 : Nat) (fh : Nat → Int32) (fo : Nat → Int32) (fc : Nat → Int32) (fs : Nat → Int32) (hz : Nat) (mv : Nat) (tu : Int32) (rf : Int32) (b0 : Nat) (b1 : Nat) (fx : Nat → Int32) (ln : Nat) (d0 : Nat) (d1 : Nat) (fn : Nat → Int32) (od : Nat) (sz6 : Nat) : Met l yX4_darkestHour wsX4_darkestHour ({ frames := 3, cells := 0, slots := 0, locals := 71 }) (va_Pc [.ref x0] (zWn D cI cZ cL [(x0, .inr (3, [.ref a0, .ref b0, .ref d0, .ref e1, .ref e2])), (a0, .inr (0, [.ref a1, .ref a2, .ref a3, .ref a4, .int (nI hz), .int (nI mv), .int tu, .int rf])), (a1, .inl (cI, 36, .inl fh)), (a2, .inl (cI, 36, .inl fo)), (a3, .inl (cI, 36, .inl fc)), (a4, .inl (cI, 2, .inl fs)), (b0, .inr (1, [.ref b1, .int (nI ln)])), (b1, .inl (cI, 60, .inl fx)), (d0, .inr (2, [.ref d1, .int (nI od), .int (nI sz6)])), (d1, .inl (cI, 684, .inl fn)), (e1, .inl (cI, 228, .inl fl)), (e2, .inl (cZ, 2, .inl fk))])) (zQi (nI (bd (pDn fh) 12))) 0 0 (fun _ => False) := by
  refine Met.ofW (cc := cX4_darkestHour) (maxL := 5) (ret := (some .int)) (by decide) rfl ?_
  intro p e s m args below meth c s₁ B hml hv
  obtain ⟨rfl, ⟨hP, hK⟩, hN⟩ := hv
  have hx := B.exec
  have hb := B.bytes
  have hr := B.returns
  have hts := atoms_spec (ws := wsX4_darkestHour) B.pre
  have hown : s.vm.findClass RX4 = some m.cls := findClass_of_methodNamed B.named
  have hlocks := B.notSynchronized
  have in3 : ∀ w ∈ u_ws RX4 TX4 5, w ∈ wsX4_darkestHour := by decide +kernel
  have fl10 := hts (.fieldLink RX4 10 "TowerShades" "field" "LTowerShades$Field;") (by decide +kernel)
  have hl := lv_entry ([.ref x0]) (n := 5) (Nat.le_of_ble_eq_true rfl)
  rw [lg_entry_eq]
  generalize (lg_sl ([.ref x0]) ++ List.replicate (5 - (lg_sl ([.ref x0])).length) Slot.unset).toArray = ls at hl ⊢
  have hl : lv_has ls 5 [(0, .ref x0)] := hl
  refine lv_iconst (v := 0) hx hb dX4_darkestHour_0 (by decide) ?_
  refine lv_istore_n (lv' := [(1, .int 0), (0, .ref x0)]) hx hb dX4_darkestHour_1 rfl hl (by decide) rfl (fun ls hl => ?_)
  refine lv_aload_n hx hb dX4_darkestHour_2 rfl (lv_at hl 1 rfl) ?_
  refine va_get (D := D) (ci := 3) (v := .ref a0) (C := RX4) (T := TX4) (N := 5) hx hb hts in3 hown hK hP 0 rfl rfl 0 (by decide) fl10 (fun _ h9 => h9) rfl dX4_darkestHour_3 ?_
  refine lv_iconst (v := 0) hx hb dX4_darkestHour_6 (by decide) ?_
  refine z_ci (va_runV (As := [.int 0]) (rest := []) ⟨hx, hb, hml, hown, hts⟩ (c_X0_darkSquares l D cI cZ cL (a0 := a0) (a1 := a1) (a2 := a2) (a3 := a3) (a4 := a4) (fh := fh) (fo := fo) (fc := fc) (fs := fs) (hz := hz) (mv := mv) (tu := tu) (rf := rf) (hu := 0) (hhu := by omega)) (cwV 1 hts gX4_darkestHour_X0_darkSquares rfl rfl rfl (by decide +kernel) ⟨Nat.le_of_ble_eq_true rfl, Nat.le_of_ble_eq_true rfl⟩) (z_preV hK (hP.sub [1, 2, 3, 4, 5] rfl) 0 0 rfl rfl) rfl rfl hl.1 rfl (lv_room (Nat.le_of_ble_eq_true rfl)) dX4_darkestHour_7 ⟨Nat.le_of_ble_eq_true rfl, Nat.le_of_ble_eq_true rfl⟩) ?_
  refine lv_istore_n (lv' := [(2, .int (nI (pDn fh 0))), (1, .int 0), (0, .ref x0)]) hx hb dX4_darkestHour_10 rfl hl (by decide) rfl (fun ls hl => ?_)
  refine lv_iconst (v := 1) hx hb dX4_darkestHour_11 (by decide) ?_
  refine lv_istore_n (lv' := [(3, .int 1), (2, .int (nI (pDn fh 0))), (1, .int 0), (0, .ref x0)]) hx hb dX4_darkestHour_12 rfl hl (by decide) rfl (fun ls hl => ?_)
  refine z_up (N := 12) (i0 := 1) (fun i ls => ∃ bn : Nat, bn = bd (pDn fh) i ∧ ∃ mn : Nat, mn = pDn fh (bd (pDn fh) i) ∧ lv_has ls 5 [(0, .ref x0), (1, .int (nI bn)), (2, .int (nI mn)), (3, .int (nI i))]) (by omega) (⟨_, (bd_1 _).symm, _, by rw [bd_1], lv_sub hl [3, 2, 1, 0] rfl⟩) (fun i ls hi13 hI ih13 => ?_)
  obtain ⟨bn, ebn, mn, emn, hl⟩ := hI
  have hd1 := pDn_le fh i
  have hd2 : mn ≤ 36 := by rw [emn]; exact pDn_le _ _
  refine lv_iload_n hx hb dX4_darkestHour_13 rfl (lv_at hl 3 rfl) ?_
  refine lv_bipush (v := 12) hx hb dX4_darkestHour_14 (by decide) ?_
  refine z_icmp_ge (tgt := 46) (P := 12 ≤ i) hx hb dX4_darkestHour_16 (by decide) (nI_leI (a := 12) (b := i) (by omega) (by omega)) (fun c16 => ?_) (fun c16 => ?_)
  · skip
    obtain rfl : i = 12 := by omega
    refine lv_iload_n hx hb dX4_darkestHour_46 rfl (lv_at hl 1 rfl) ?_
    exact z_iret hx hb hr hlocks dX4_darkestHour_47 (by rw [ebn])
  · skip
    refine lv_aload_n hx hb dX4_darkestHour_19 rfl (lv_at hl 0 rfl) ?_
    refine va_get (D := D) (ci := 3) (v := .ref a0) (C := RX4) (T := TX4) (N := 5) hx hb hts in3 hown hK hP 0 rfl rfl 0 (by decide) fl10 (fun _ h9 => h9) rfl dX4_darkestHour_20 ?_
    refine lv_iload_n hx hb dX4_darkestHour_23 rfl (lv_at hl 3 rfl) ?_
    refine z_ci (va_runV (As := [.int (nI i)]) (rest := []) ⟨hx, hb, hml, hown, hts⟩ (c_X0_darkSquares l D cI cZ cL (a0 := a0) (a1 := a1) (a2 := a2) (a3 := a3) (a4 := a4) (fh := fh) (fo := fo) (fc := fc) (fs := fs) (hz := hz) (mv := mv) (tu := tu) (rf := rf) (hu := i) (hhu := by omega)) (cwV 1 hts gX4_darkestHour_X0_darkSquares rfl rfl rfl (by decide +kernel) ⟨Nat.le_of_ble_eq_true rfl, Nat.le_of_ble_eq_true rfl⟩) (z_preV hK (hP.sub [1, 2, 3, 4, 5] rfl) 0 0 rfl rfl) rfl rfl hl.1 rfl (lv_room (Nat.le_of_ble_eq_true rfl)) dX4_darkestHour_24 ⟨Nat.le_of_ble_eq_true rfl, Nat.le_of_ble_eq_true rfl⟩) ?_
    refine lv_istore (lv' := [(4, .int (nI (pDn fh i))), (0, .ref x0), (1, .int (nI bn)), (2, .int (nI mn)), (3, .int (nI i))]) hx hb dX4_darkestHour_27 hl (by decide) rfl (fun ls hl => ?_)
    refine lv_iload hx hb dX4_darkestHour_29 (lv_at hl 0 rfl) ?_
    refine lv_iload_n hx hb dX4_darkestHour_31 rfl (lv_at hl 3 rfl) ?_
    refine z_icmp_le (tgt := 40) (P := pDn fh i ≤ mn) hx hb dX4_darkestHour_32 (by decide) (nI_leI (a := pDn fh i) (b := mn) (by omega) (by omega)) (fun c32 => ?_) (fun c32 => ?_)
    · skip
      refine lv_iinc (v := nI (i + 1)) (lv' := [(3, .int (nI (i + 1))), (4, .int (nI (pDn fh i))), (0, .ref x0), (1, .int (nI bn)), (2, .int (nI mn))]) hx hb dX4_darkestHour_40 hl (k := 4) rfl (nI_1 (i)) (by decide) rfl (fun ls hl => ?_)
      refine lv_goto (tgt := 13) hx hb dX4_darkestHour_43 (by decide) ?_
      exact ih13 (by omega) _ (⟨_, by simp only [bd, ← emn]; first | (rw [if_pos (by omega)]; done) | (rw [if_neg (by omega)]; exact ebn), _, by simp only [bd, ← emn]; first | (rw [if_pos (by omega)]; done) | (rw [if_neg (by omega)]; exact emn), lv_sub hl [2, 3, 4, 0] rfl⟩)
    · skip
      refine lv_iload_n hx hb dX4_darkestHour_35 rfl (lv_at hl 4 rfl) ?_
      refine lv_istore_n (lv' := [(1, .int (nI i)), (4, .int (nI (pDn fh i))), (0, .ref x0), (2, .int (nI mn)), (3, .int (nI i))]) hx hb dX4_darkestHour_36 rfl hl (by decide) rfl (fun ls hl => ?_)
      refine lv_iload hx hb dX4_darkestHour_37 (lv_at hl 1 rfl) ?_
      refine lv_istore_n (lv' := [(2, .int (nI (pDn fh i))), (1, .int (nI i)), (4, .int (nI (pDn fh i))), (0, .ref x0), (3, .int (nI i))]) hx hb dX4_darkestHour_39 rfl hl (by decide) rfl (fun ls hl => ?_)
      refine lv_iinc (v := nI (i + 1)) (lv' := [(3, .int (nI (i + 1))), (2, .int (nI (pDn fh i))), (1, .int (nI i)), (4, .int (nI (pDn fh i))), (0, .ref x0)]) hx hb dX4_darkestHour_40 hl (k := 4) rfl (nI_1 (i)) (by decide) rfl (fun ls hl => ?_)
      refine lv_goto (tgt := 13) hx hb dX4_darkestHour_43 (by decide) ?_
      exact ih13 (by omega) _ (⟨_, by simp only [bd, ← emn]; first | (rw [if_pos (by omega)]; done) | (rw [if_neg (by omega)]; exact ebn), _, by simp only [bd, ← emn]; first | (rw [if_pos (by omega)]; done) | (rw [if_neg (by omega)]; exact emn), lv_sub hl [4, 2, 1, 0] rfl⟩)

set_option maxHeartbeats 4000000 in
set_option maxRecDepth 100000 in
theorem c_X4_darkShare_ok (l : Launch) (D : va_G) (cI cZ cL : ClassId) (x0 : Nat) (e1 : Nat) (e2 : Nat) (fl : Nat → Int32) (fk : Nat → Int32) (a0 : Nat) (a1 : Nat) (a2 : Nat) (a3 : Nat) (a4 : Nat) (fh : Nat → Int32) (fo : Nat → Int32) (fc : Nat → Int32) (fs : Nat → Int32) (hz : Nat) (mv : Nat) (tu : Int32) (rf : Int32) (b0 : Nat) (b1 : Nat) (fx : Nat → Int32) (ln : Nat) (d0 : Nat) (d1 : Nat) (fn : Nat → Int32) (od : Nat) (sz6 : Nat) (hhz : hz < 12) : Met l yX4_darkShare wsX4_darkShare ({ frames := 3, cells := 0, slots := 0, locals := 71 }) (va_Pc [.ref x0] (zWn D cI cZ cL [(x0, .inr (3, [.ref a0, .ref b0, .ref d0, .ref e1, .ref e2])), (a0, .inr (0, [.ref a1, .ref a2, .ref a3, .ref a4, .int (nI hz), .int (nI mv), .int tu, .int rf])), (a1, .inl (cI, 36, .inl fh)), (a2, .inl (cI, 36, .inl fo)), (a3, .inl (cI, 36, .inl fc)), (a4, .inl (cI, 2, .inl fs)), (b0, .inr (1, [.ref b1, .int (nI ln)])), (b1, .inl (cI, 60, .inl fx)), (d0, .inr (2, [.ref d1, .int (nI od), .int (nI sz6)])), (d1, .inl (cI, 684, .inl fn)), (e1, .inl (cI, 228, .inl fl)), (e2, .inl (cZ, 2, .inl fk))])) (zQd (pFq (pDn fh hz))) 0 0 (fun _ => False) := by
  refine Met.ofW (cc := cX4_darkShare) (maxL := 1) (ret := (some .double)) (by decide) rfl ?_
  intro p e s m args below meth c s₁ B hml hv
  obtain ⟨rfl, ⟨hP, hK⟩, hN⟩ := hv
  have hx := B.exec
  have hb := B.bytes
  have hr := B.returns
  have hts := atoms_spec (ws := wsX4_darkShare) B.pre
  have hown : s.vm.findClass RX4 = some m.cls := findClass_of_methodNamed B.named
  have hlocks := B.notSynchronized
  have in0 : ∀ w ∈ u_ws RX0 TX0 8, w ∈ wsX4_darkShare := by decide +kernel
  have in3 : ∀ w ∈ u_ws RX4 TX4 5, w ∈ wsX4_darkShare := by decide +kernel
  have fl10 := hts (.fieldLink RX4 10 "TowerShades" "field" "LTowerShades$Field;") (by decide +kernel)
  have hl := lv_entry ([.ref x0]) (n := 1) (Nat.le_of_ble_eq_true rfl)
  rw [lg_entry_eq]
  generalize (lg_sl ([.ref x0]) ++ List.replicate (1 - (lg_sl ([.ref x0])).length) Slot.unset).toArray = ls at hl ⊢
  have hl : lv_has ls 1 [(0, .ref x0)] := hl
  have hDn := pDn_le fh hz
  refine lv_aload_n hx hb dX4_darkShare_0 rfl (lv_at hl 0 rfl) ?_
  refine va_get (D := D) (ci := 3) (v := .ref a0) (C := RX4) (T := TX4) (N := 5) hx hb hts in3 hown hK hP 0 rfl rfl 0 (by decide) fl10 (fun _ h9 => h9) rfl dX4_darkShare_1 ?_
  refine lv_aload_n hx hb dX4_darkShare_4 rfl (lv_at hl 0 rfl) ?_
  refine va_get (D := D) (ci := 3) (v := .ref a0) (C := RX4) (T := TX4) (N := 5) hx hb hts in3 hown hK hP 0 rfl rfl 0 (by decide) fl10 (fun _ h9 => h9) rfl dX4_darkShare_5 ?_
  refine va_getN (D := D) (ci := 0) (v := .int (nI hz)) (C := RX0) (T := TX0) (N := 8) hx hb hts in0 hown hK hP 1 rfl rfl 4 (by decide) (hN.get (i := 87) (r := RX0) (n := "hourNow") (d := "I") (by decide)) (fun _ h9 => h9) rfl dX4_darkShare_8 ?_
  refine z_ci (va_runV (As := [.int (nI hz)]) (rest := []) ⟨hx, hb, hml, hown, hts⟩ (c_X0_darkSquares l D cI cZ cL (a0 := a0) (a1 := a1) (a2 := a2) (a3 := a3) (a4 := a4) (fh := fh) (fo := fo) (fc := fc) (fs := fs) (hz := hz) (mv := mv) (tu := tu) (rf := rf) (hu := hz) (hhu := by omega)) (cwV 1 hts gX4_darkShare_X0_darkSquares rfl rfl rfl (by decide +kernel) ⟨Nat.le_of_ble_eq_true rfl, Nat.le_of_ble_eq_true rfl⟩) (z_preV hK (hP.sub [1, 2, 3, 4, 5] rfl) 0 0 rfl rfl) rfl rfl hl.1 rfl (lv_room (Nat.le_of_ble_eq_true rfl)) dX4_darkShare_11 ⟨Nat.le_of_ble_eq_true rfl, Nat.le_of_ble_eq_true rfl⟩) ?_
  refine lv_i2d hx hb dX4_darkShare_14 ?_
  refine lv_ldc2d (v := 4630263366890291200) hx hb hown (hts (.constantDouble RX4 212 4630263366890291200) (by decide +kernel)) dX4_darkShare_15 ?_
  refine lv_ddiv hx hb dX4_darkShare_18 (pFq_4 _ (by omega)) ?_
  exact z_dret hx hb hr hlocks dX4_darkShare_19 (rfl)

set_option maxHeartbeats 4000000 in
set_option maxRecDepth 100000 in
/-- the bits of a share, by hand -/
theorem c_X4_bitsOfShare (l : Launch) (n : Nat) (hn37 : n < 37) : Met l yX4_bitsOfShare wsX4_bitsOfShare ({ frames := 0, cells := 0, slots := 0, locals := 0 }) (va_Pc [.double (pFq n)] (fun _ => True)) (zQl ((pFq n).toInt64)) 0 0 (fun _ => False) := by
  refine Met.ofW (cc := cX4_bitsOfShare) (maxL := 8) (ret := (some .long)) (by decide) rfl ?_
  intro p e s m args below meth c s₁ B hml hv
  obtain ⟨rfl, -⟩ := hv
  have hx := B.exec
  have hb := B.bytes
  have hr := B.returns
  have hts := atoms_spec (ws := wsX4_bitsOfShare) B.pre
  have hown : s.vm.findClass RX4 = some m.cls := findClass_of_methodNamed B.named
  have hlocks := B.notSynchronized
  have hl := lv_entry ([.double (pFq n)]) (n := 8) (Nat.le_of_ble_eq_true rfl)
  rw [lg_entry_eq]
  generalize (lg_sl ([.double (pFq n)]) ++ List.replicate (8 - (lg_sl ([.double (pFq n)])).length) Slot.unset).toArray = ls at hl ⊢
  have hl : lv_has ls 8 [(0, .double (pFq n))] := hl
  have hkb := kb_le n
  refine lv_dload_n hx hb dX4_bitsOfShare_0 rfl (lv_at hl 0 rfl) ?_
  refine lv_dconst0 hx hb dX4_bitsOfShare_1 ?_
  refine lv_dcmp hx hb dX4_bitsOfShare_2 ?_
  refine z_if_gt (tgt := 8) (P := ¬ n = 0) hx hb dX4_bitsOfShare_3 (by decide) (fr_0 n hn37) (fun c3 => ?_) (fun c3 => ?_)
  · skip
    refine lv_dload_n hx hb dX4_bitsOfShare_8 rfl (lv_at hl 0 rfl) ?_
    refine lv_dstore_n (lv' := [(2, .double (pFq n)), (0, .double (pFq n))]) hx hb dX4_bitsOfShare_9 rfl hl (by decide) rfl (fun ls hl => ?_)
    refine lv_ldc2 (v := 1023) hx hb hown (hts (.constantLong RX4 263 1023) (by decide +kernel)) dX4_bitsOfShare_10 ?_
    refine lv_lstore (lv' := [(4, .long 1023), (2, .double (pFq n)), (0, .double (pFq n))]) hx hb dX4_bitsOfShare_13 hl (by decide) rfl (fun ls hl => ?_)
    refine z_up (N := kb n) (i0 := 0) (fun i ls => lv_has ls 8 [(0, .double (pFq n)), (2, .double (fr n i)), (4, .long (lN (1023 - i)))]) (by omega) (lv_sub hl [2, 1, 0] rfl) (fun i ls hi15 hI ih15 => ?_)
    have hl : lv_has ls 8 [(0, .double (pFq n)), (2, .double (fr n i)), (4, .long (lN (1023 - i)))] := hI
    refine lv_dload_n hx hb dX4_bitsOfShare_15 rfl (lv_at hl 1 rfl) ?_
    refine lv_dconst1 hx hb dX4_bitsOfShare_16 ?_
    refine lv_dcmp hx hb dX4_bitsOfShare_17 ?_
    refine z_if_ge (tgt := 43) (P := ¬ i < kb n) hx hb dX4_bitsOfShare_18 (by decide) (fr_c n hn37 (by omega) i (by omega)) (fun c18 => ?_) (fun c18 => ?_)
    · skip
      obtain rfl : i = (kb n) := by omega
      refine lv_ldc2d (v := 4841369599423283200) hx hb hown (hts (.constantDouble RX4 267 4841369599423283200) (by decide +kernel)) dX4_bitsOfShare_43 ?_
      refine lv_dstore (lv' := [(6, .double 4841369599423283200), (0, .double (pFq n)), (2, .double (fr n (kb n))), (4, .long (lN (1023 - (kb n))))]) hx hb dX4_bitsOfShare_46 hl (by decide) rfl (fun ls hl => ?_)
      refine lv_lload hx hb dX4_bitsOfShare_48 (lv_at hl 3 rfl) ?_
      refine lv_bipush (v := 52) hx hb dX4_bitsOfShare_50 (by decide) ?_
      refine lv_lshl (v := ((lN (1023 - (kb n))) <<< ((52 : Int32).toInt64 &&& 63))) hx hb dX4_bitsOfShare_52 rfl ?_
      refine lv_dload_n hx hb dX4_bitsOfShare_53 rfl (lv_at hl 2 rfl) ?_
      refine lv_dconst1 hx hb dX4_bitsOfShare_54 ?_
      refine lv_dsub hx hb dX4_bitsOfShare_55 (fr_s n hn37 (by omega)) ?_
      refine lv_dload hx hb dX4_bitsOfShare_56 (lv_at hl 0 rfl) ?_
      refine lv_dmul hx hb dX4_bitsOfShare_58 (fr_m n hn37 (by omega)) ?_
      refine lv_d2l hx hb dX4_bitsOfShare_59 ?_
      refine lv_lor hx hb dX4_bitsOfShare_60 ?_
      exact z_lret hx hb hr hlocks dX4_bitsOfShare_61 (fr_e n hn37 (by omega))
    · skip
      replace c18 := Classical.not_not.mp c18
      refine lv_lload hx hb dX4_bitsOfShare_21 (lv_at hl 2 rfl) ?_
      refine lv_lconst (v := 1) hx hb dX4_bitsOfShare_23 (by decide) ?_
      refine W.lcmp hx hb dX4_bitsOfShare_24 ?_
      refine z_if_le (tgt := 43) (P := False) hx hb dX4_bitsOfShare_25 (by decide) (fr_l i (by omega)) (fun c25 => (show False from c25).elim) (fun c25 => ?_)
      refine lv_dload_n hx hb dX4_bitsOfShare_28 rfl (lv_at hl 1 rfl) ?_
      refine lv_ldc2d (v := 4611686018427387904) hx hb hown (hts (.constantDouble RX4 265 4611686018427387904) (by decide +kernel)) dX4_bitsOfShare_29 ?_
      refine lv_dmul hx hb dX4_bitsOfShare_32 (fr_n n hn37 (by omega) i (by omega)) ?_
      refine lv_dstore_n (lv' := [(2, .double (FP.dmul (fr n i) 4611686018427387904)), (0, .double (pFq n)), (4, .long (lN (1023 - i)))]) hx hb dX4_bitsOfShare_33 rfl hl (by decide) rfl (fun ls hl => ?_)
      refine lv_lload hx hb dX4_bitsOfShare_34 (lv_at hl 2 rfl) ?_
      refine lv_lconst (v := 1) hx hb dX4_bitsOfShare_36 (by decide) ?_
      refine lv_lsub hx hb dX4_bitsOfShare_37 ?_
      refine z_topl (y := (lN (1023 - (i + 1)))) (by rw [show 1023 - i = (1023 - (i + 1)) + 1 by omega]; exact lN_sub (a := (1023 - (i + 1)) + 1) (b := 1) (by omega)) ?_
      refine lv_lstore (lv' := [(4, .long (lN (1023 - (i + 1)))), (2, .double (FP.dmul (fr n i) 4611686018427387904)), (0, .double (pFq n))]) hx hb dX4_bitsOfShare_38 hl (by decide) rfl (fun ls hl => ?_)
      refine lv_goto (tgt := 15) hx hb dX4_bitsOfShare_40 (by decide) ?_
      exact ih15 (by omega) _ (lv_sub hl [2, 1, 0] rfl)
  · skip
    replace c3 := Classical.not_not.mp c3
    refine lv_lconst (v := 0) hx hb dX4_bitsOfShare_6 (by decide) ?_
    exact z_lret hx hb hr hlocks dX4_bitsOfShare_7 (by rw [show n = 0 by omega]; exact fr_z)

set_option maxHeartbeats 4000000 in
set_option maxRecDepth 100000 in
theorem c_X4_digestSquares_ok (l : Launch) (D : va_G) (cI cZ cL : ClassId) (sz : Nat) (x0 : Nat) (e1 : Nat) (e2 : Nat) (fl : Nat → Int32) (fk : Nat → Int32) (a0 : Nat) (a1 : Nat) (a2 : Nat) (a3 : Nat) (a4 : Nat) (fh : Nat → Int32) (fo : Nat → Int32) (fc : Nat → Int32) (fs : Nat → Int32) (hz : Nat) (mv : Nat) (tu : Int32) (rf : Int32) (b0 : Nat) (b1 : Nat) (fx : Nat → Int32) (ln : Nat) (d0 : Nat) (d1 : Nat) (fn : Nat → Int32) (od : Nat) (sz6 : Nat) (lv0 : Int64) (hhz : hz < 12) (hmv : mv < 2) : Met l yX4_digestSquares wsX4_digestSquares ({ frames := 5, cells := 0, slots := 0, locals := 116 }) (va_Pc [.ref x0, .long lv0] (zMn D cI cZ cL [(x0, .inr (3, [.ref a0, .ref b0, .ref d0, .ref e1, .ref e2])), (a0, .inr (0, [.ref a1, .ref a2, .ref a3, .ref a4, .int (nI hz), .int (nI mv), .int tu, .int rf])), (a1, .inl (cI, 36, .inl fh)), (a2, .inl (cI, 36, .inl fo)), (a3, .inl (cI, 36, .inl fc)), (a4, .inl (cI, 2, .inl fs)), (b0, .inr (1, [.ref b1, .int (nI ln)])), (b1, .inl (cI, 60, .inl fx)), (d0, .inr (2, [.ref d1, .int (nI od), .int (nI sz6)])), (d1, .inl (cI, 684, .inl fn)), (e1, .inl (cI, 228, .inl fl)), (e2, .inl (cZ, 2, .inl fk))] sz)) (zQml D (cHs (cSq fh fo fc hz) (fun q => nI (pRe fo fh hz mv q)) (cWo fo fh fc hz mv) 36 lv0) [(x0, .inr (3, [.ref a0, .ref b0, .ref d0, .ref e1, .ref e2])), (a0, .inr (0, [.ref a1, .ref a2, .ref a3, .ref a4, .int (nI hz), .int (nI mv), .int tu, .int rf])), (a1, .inl (cI, 36, .inl fh)), (a2, .inl (cI, 36, .inl fo)), (a3, .inl (cI, 36, .inl fc)), (a4, .inl (cI, 2, .inl fs)), (b0, .inr (1, [.ref b1, .int (nI ln)])), (b1, .inl (cI, 60, .inl fx)), (d0, .inr (2, [.ref d1, .int (nI od), .int (nI sz6)])), (d1, .inl (cI, 684, .inl fn)), (e1, .inl (cI, 228, .inl fl)), (e2, .inl (cZ, 2, .inl fk))] [(x0, .inr (3, [.ref a0, .ref b0, .ref d0, .ref e1, .ref e2])), (a0, .inr (0, [.ref a1, .ref a2, .ref a3, .ref a4, .int (nI hz), .int (nI mv), .int tu, .int rf])), (a1, .inl (cI, 36, .inl fh)), (a2, .inl (cI, 36, .inl fo)), (a3, .inl (cI, 36, .inl fc)), (a4, .inl (cI, 2, .inl fs)), (b0, .inr (1, [.ref b1, .int (nI ln)])), (b1, .inl (cI, 60, .inl fx)), (d0, .inr (2, [.ref d1, .int (nI od), .int (nI sz6)])), (d1, .inl (cI, 684, .inl fn)), (e1, .inl (cI, 228, .inl fl)), (e2, .inl (cZ, 2, .inl fk))] sz) 0 0 (va_A [(x0, .inr (3, [.ref a0, .ref b0, .ref d0, .ref e1, .ref e2])), (a0, .inr (0, [.ref a1, .ref a2, .ref a3, .ref a4, .int (nI hz), .int (nI mv), .int tu, .int rf])), (a1, .inl (cI, 36, .inl fh)), (a2, .inl (cI, 36, .inl fo)), (a3, .inl (cI, 36, .inl fc)), (a4, .inl (cI, 2, .inl fs)), (b0, .inr (1, [.ref b1, .int (nI ln)])), (b1, .inl (cI, 60, .inl fx)), (d0, .inr (2, [.ref d1, .int (nI od), .int (nI sz6)])), (d1, .inl (cI, 684, .inl fn)), (e1, .inl (cI, 228, .inl fl)), (e2, .inl (cZ, 2, .inl fk))] sz) := by
  refine Met.ofW (cc := cX4_digestSquares) (maxL := 7) (ret := (some .long)) (by decide) rfl ?_
  intro p e s m args below meth c s₁ B hml hv
  obtain ⟨rfl, hsz, ⟨⟨hP, hK⟩, hN⟩, hD0⟩ := hv
  have hx := B.exec
  have hb := B.bytes
  have hr := B.returns
  have hts := atoms_spec (ws := wsX4_digestSquares) B.pre
  have hown : s.vm.findClass RX4 = some m.cls := findClass_of_methodNamed B.named
  have hlocks := B.notSynchronized
  subst hsz
  have hD := hD0.self (sz := s.heap.size)
  generalize hAe : va_A [(x0, .inr (3, [.ref a0, .ref b0, .ref d0, .ref e1, .ref e2])), (a0, .inr (0, [.ref a1, .ref a2, .ref a3, .ref a4, .int (nI hz), .int (nI mv), .int tu, .int rf])), (a1, .inl (cI, 36, .inl fh)), (a2, .inl (cI, 36, .inl fo)), (a3, .inl (cI, 36, .inl fc)), (a4, .inl (cI, 2, .inl fs)), (b0, .inr (1, [.ref b1, .int (nI ln)])), (b1, .inl (cI, 60, .inl fx)), (d0, .inr (2, [.ref d1, .int (nI od), .int (nI sz6)])), (d1, .inl (cI, 684, .inl fn)), (e1, .inl (cI, 228, .inl fl)), (e2, .inl (cZ, 2, .inl fk))] s.heap.size = A at hD ⊢
  have hA : ∀ q : Nat, s.heap.size ≤ q → A q := fun q h => by rw [← hAe]; exact Or.inr h
  have hS : va_S A s.heap s.heap [] := va_S.rf
  have hl := lv_entry ([.ref x0, .long lv0]) (n := 7) (Nat.le_of_ble_eq_true rfl)
  rw [lg_entry_eq]
  generalize (lg_sl ([.ref x0, .long lv0]) ++ List.replicate (7 - (lg_sl ([.ref x0, .long lv0])).length) Slot.unset).toArray = ls at hl ⊢
  have hl : lv_has ls 7 [(0, .ref x0), (1, .long lv0)] := hl
  refine lv_lload_n hx hb dX4_digestSquares_0 rfl (lv_at hl 1 rfl) ?_
  refine lv_lstore_n (lv' := [(3, .long lv0), (0, .ref x0), (1, .long lv0)]) hx hb dX4_digestSquares_1 rfl hl (by decide) rfl (fun ls hl => ?_)
  refine lv_iconst (v := 0) hx hb dX4_digestSquares_2 (by decide) ?_
  refine lv_istore (lv' := [(5, .int 0), (3, .long lv0), (0, .ref x0), (1, .long lv0)]) hx hb dX4_digestSquares_3 hl (by decide) rfl (fun ls hl => ?_)
  refine z_upH (N := 36) (i0 := 0) (fun i H locs ls => va_P D vwCl [(x0, .inr (3, [.ref a0, .ref b0, .ref d0, .ref e1, .ref e2])), (a0, .inr (0, [.ref a1, .ref a2, .ref a3, .ref a4, .int (nI hz), .int (nI mv), .int tu, .int rf])), (a1, .inl (cI, 36, .inl fh)), (a2, .inl (cI, 36, .inl fo)), (a3, .inl (cI, 36, .inl fc)), (a4, .inl (cI, 2, .inl fs)), (b0, .inr (1, [.ref b1, .int (nI ln)])), (b1, .inl (cI, 60, .inl fx)), (d0, .inr (2, [.ref d1, .int (nI od), .int (nI sz6)])), (d1, .inl (cI, 684, .inl fn)), (e1, .inl (cI, 228, .inl fl)), (e2, .inl (cZ, 2, .inl fk))] H ∧ va_D A [(x0, .inr (3, [.ref a0, .ref b0, .ref d0, .ref e1, .ref e2])), (a0, .inr (0, [.ref a1, .ref a2, .ref a3, .ref a4, .int (nI hz), .int (nI mv), .int tu, .int rf])), (a1, .inl (cI, 36, .inl fh)), (a2, .inl (cI, 36, .inl fo)), (a3, .inl (cI, 36, .inl fc)), (a4, .inl (cI, 2, .inl fs)), (b0, .inr (1, [.ref b1, .int (nI ln)])), (b1, .inl (cI, 60, .inl fx)), (d0, .inr (2, [.ref d1, .int (nI od), .int (nI sz6)])), (d1, .inl (cI, 684, .inl fn)), (e1, .inl (cI, 228, .inl fl)), (e2, .inl (cZ, 2, .inl fk))] ∧ va_S A s.heap H locs ∧ lv_has ls 7 [(0, .ref x0), (1, .long lv0), (3, .long (cHs (cSq fh fo fc hz) (fun q => nI (pRe fo fh hz mv q)) (cWo fo fh fc hz mv) i lv0)), (5, .int (nI i))]) (by omega) (⟨hP, hD, hS, lv_sub hl [2, 3, 1, 0] rfl⟩) (fun i H locs ls hi5 hI ih5 => ?_)
  obtain ⟨hP, hD, hS, hl⟩ := hI
  refine lv_iload hx hb dX4_digestSquares_5 (lv_at hl 3 rfl) ?_
  refine lv_bipush (v := 36) hx hb dX4_digestSquares_7 (by decide) ?_
  refine z_icmp_ge (tgt := 78) (P := 36 ≤ i) hx hb dX4_digestSquares_9 (by decide) (nI_leI (a := 36) (b := i) (by omega) (by omega)) (fun c9 => ?_) (fun c9 => ?_)
  · skip
    obtain rfl : i = 36 := by omega
    refine lv_lload_n hx hb dX4_digestSquares_78 rfl (lv_at hl 2 rfl) ?_
    have hP9 : va_P D vwCl [(x0, .inr (3, [.ref a0, .ref b0, .ref d0, .ref e1, .ref e2])), (a0, .inr (0, [.ref a1, .ref a2, .ref a3, .ref a4, .int (nI hz), .int (nI mv), .int tu, .int rf])), (a1, .inl (cI, 36, .inl fh)), (a2, .inl (cI, 36, .inl fo)), (a3, .inl (cI, 36, .inl fc)), (a4, .inl (cI, 2, .inl fs)), (b0, .inr (1, [.ref b1, .int (nI ln)])), (b1, .inl (cI, 60, .inl fx)), (d0, .inr (2, [.ref d1, .int (nI od), .int (nI sz6)])), (d1, .inl (cI, 684, .inl fn)), (e1, .inl (cI, 228, .inl fl)), (e2, .inl (cZ, 2, .inl fk))] _ := hP
    have hD9 : va_D A [(x0, .inr (3, [.ref a0, .ref b0, .ref d0, .ref e1, .ref e2])), (a0, .inr (0, [.ref a1, .ref a2, .ref a3, .ref a4, .int (nI hz), .int (nI mv), .int tu, .int rf])), (a1, .inl (cI, 36, .inl fh)), (a2, .inl (cI, 36, .inl fo)), (a3, .inl (cI, 36, .inl fc)), (a4, .inl (cI, 2, .inl fs)), (b0, .inr (1, [.ref b1, .int (nI ln)])), (b1, .inl (cI, 60, .inl fx)), (d0, .inr (2, [.ref d1, .int (nI od), .int (nI sz6)])), (d1, .inl (cI, 684, .inl fn)), (e1, .inl (cI, 228, .inl fl)), (e2, .inl (cZ, 2, .inl fk))] := hD
    subst hAe
    exact z_mlret hx hb hr hlocks dX4_digestSquares_79 (rfl) hP9 hD9 hS
  · skip
    refine lv_iconst (v := 0) hx hb dX4_digestSquares_12 (by decide) ?_
    refine lv_istore (lv' := [(6, .int 0), (0, .ref x0), (1, .long lv0), (3, .long (cHs (cSq fh fo fc hz) (fun q => nI (pRe fo fh hz mv q)) (cWo fo fh fc hz mv) i lv0)), (5, .int (nI i))]) hx hb dX4_digestSquares_13 hl (by decide) rfl (fun ls hl => ?_)
    refine z_up (N := 8) (i0 := 0) (fun j ls => lv_has ls 7 [(0, .ref x0), (1, .long lv0), (3, .long (hf (cSq fh fo fc hz i) j (cHs (cSq fh fo fc hz) (fun q => nI (pRe fo fh hz mv q)) (cWo fo fh fc hz mv) i lv0))), (5, .int (nI i)), (6, .int (nI j))]) (by omega) (lv_sub hl [1, 2, 3, 4, 0] rfl) (fun j ls hi15 hI ih15 => ?_)
    have hl : lv_has ls 7 [(0, .ref x0), (1, .long lv0), (3, .long (hf (cSq fh fo fc hz i) j (cHs (cSq fh fo fc hz) (fun q => nI (pRe fo fh hz mv q)) (cWo fo fh fc hz mv) i lv0))), (5, .int (nI i)), (6, .int (nI j))] := hI
    refine lv_iload hx hb dX4_digestSquares_15 (lv_at hl 4 rfl) ?_
    refine lv_bipush (v := 7) hx hb dX4_digestSquares_17 (by decide) ?_
    refine z_icmp_gt (tgt := 44) (P := 7 < j) hx hb dX4_digestSquares_19 (by decide) (nI_ltI (a := 7) (b := j) (by omega) (by omega)) (fun c19 => ?_) (fun c19 => ?_)
    · skip
      obtain rfl : j = 8 := by omega
      refine lv_ldc2 (v := 31) hx hb hown (hts (.constantLong RX4 216 31) (by decide +kernel)) dX4_digestSquares_44 ?_
      refine lv_lload_n hx hb dX4_digestSquares_47 rfl (lv_at hl 2 rfl) ?_
      refine lv_lmul hx hb dX4_digestSquares_48 ?_
      refine lv_aload_n hx hb dX4_digestSquares_49 rfl (lv_at hl 0 rfl) ?_
      refine lv_iload hx hb dX4_digestSquares_50 (lv_at hl 3 rfl) ?_
      refine z_ci (va_runV (As := [.int (nI i)]) (rest := [.long (31 * (hf (cSq fh fo fc hz i) 8 (cHs (cSq fh fo fc hz) (fun q => nI (pRe fo fh hz mv q)) (cWo fo fh fc hz mv) i lv0)))]) ⟨hx, hb, hml, hown, hts⟩ (c_X4_whyNot_ok l D cI cZ cL (x0 := x0) (e1 := e1) (e2 := e2) (fl := fl) (fk := fk) (a0 := a0) (a1 := a1) (a2 := a2) (a3 := a3) (a4 := a4) (fh := fh) (fo := fo) (fc := fc) (fs := fs) (hz := hz) (mv := mv) (tu := tu) (rf := rf) (b0 := b0) (b1 := b1) (fx := fx) (ln := ln) (d0 := d0) (d1 := d1) (fn := fn) (od := od) (sz6 := sz6) (q := i) (hq := by omega) (hhz := by omega) (hmv := by omega)) (cwV 1 hts gX4_digestSquares_X4_whyNot rfl rfl rfl (by decide +kernel) ⟨Nat.le_of_ble_eq_true rfl, Nat.le_of_ble_eq_true rfl⟩) (z_preVn hN hK (hP.sub [0, 1, 2, 3, 4, 5, 6, 7, 8, 9, 10, 11] rfl) 0 3 rfl rfl) rfl rfl hl.1 rfl (lv_room (Nat.le_of_ble_eq_true rfl)) dX4_digestSquares_52 ⟨Nat.le_of_ble_eq_true rfl, Nat.le_of_ble_eq_true rfl⟩) ?_
      refine lv_i2l (v := (nI (pRe fo fh hz mv i)).toInt64) hx hb dX4_digestSquares_55 rfl ?_
      refine lv_ladd hx hb dX4_digestSquares_56 ?_
      refine lv_lstore_n (lv' := [(3, .long ((31 * (hf (cSq fh fo fc hz i) 8 (cHs (cSq fh fo fc hz) (fun q => nI (pRe fo fh hz mv q)) (cWo fo fh fc hz mv) i lv0))) + ((nI (pRe fo fh hz mv i)).toInt64))), (0, .ref x0), (1, .long lv0), (5, .int (nI i)), (6, .int (nI 8))]) hx hb dX4_digestSquares_57 rfl hl (by decide) rfl (fun ls hl => ?_)
      refine lv_ldc2 (v := 31) hx hb hown (hts (.constantLong RX4 216 31) (by decide +kernel)) dX4_digestSquares_58 ?_
      refine lv_lload_n hx hb dX4_digestSquares_61 rfl (lv_at hl 0 rfl) ?_
      refine lv_lmul hx hb dX4_digestSquares_62 ?_
      refine lv_aload_n hx hb dX4_digestSquares_63 rfl (lv_at hl 1 rfl) ?_
      refine lv_iload hx hb dX4_digestSquares_64 (lv_at hl 3 rfl) ?_
      refine z_cmi (wr := []) (ws' := [(x0, .inr (3, [.ref a0, .ref b0, .ref d0, .ref e1, .ref e2])), (a0, .inr (0, [.ref a1, .ref a2, .ref a3, .ref a4, .int (nI hz), .int (nI mv), .int tu, .int rf])), (a1, .inl (cI, 36, .inl fh)), (a2, .inl (cI, 36, .inl fo)), (a3, .inl (cI, 36, .inl fc)), (a4, .inl (cI, 2, .inl fs)), (b0, .inr (1, [.ref b1, .int (nI ln)])), (b1, .inl (cI, 60, .inl fx)), (d0, .inr (2, [.ref d1, .int (nI od), .int (nI sz6)])), (d1, .inl (cI, 684, .inl fn)), (e1, .inl (cI, 228, .inl fl)), (e2, .inl (cZ, 2, .inl fk))]) (va_runV (As := [.int (nI i)]) (rest := [.long (31 * ((31 * (hf (cSq fh fo fc hz i) 8 (cHs (cSq fh fo fc hz) (fun q => nI (pRe fo fh hz mv q)) (cWo fo fh fc hz mv) i lv0))) + ((nI (pRe fo fh hz mv i)).toInt64)))]) ⟨hx, hb, hml, hown, hts⟩ (c_X4_ifRaised_ok l D cI cZ cL _ (x0 := x0) (e1 := e1) (e2 := e2) (fl := fl) (fk := fk) (a0 := a0) (a1 := a1) (a2 := a2) (a3 := a3) (a4 := a4) (fh := fh) (fo := fo) (fc := fc) (fs := fs) (hz := hz) (mv := mv) (tu := tu) (rf := rf) (b0 := b0) (b1 := b1) (fx := fx) (ln := ln) (d0 := d0) (d1 := d1) (fn := fn) (od := od) (sz6 := sz6) (q := i) (hq := by omega) (hhz := by omega) (hmv := by omega)) (cwV 1 hts gX4_digestSquares_X4_ifRaised rfl rfl rfl (by decide +kernel) ⟨Nat.le_of_ble_eq_true rfl, Nat.le_of_ble_eq_true rfl⟩) (z_preMVn hN hK (hP.sub [0, 1, 2, 3, 4, 5, 6, 7, 8, 9, 10, 11] rfl) (hD.sub [0, 1, 2, 3, 4, 5, 6, 7, 8, 9, 10, 11] (by decide) rfl) 0 3 rfl rfl) rfl rfl hl.1 rfl (lv_room (Nat.le_of_ble_eq_true rfl)) dX4_digestSquares_66 ⟨Nat.le_of_ble_eq_true rfl, Nat.le_of_ble_eq_true rfl⟩) hP hD hS hA [0, 1, 2, 3, 4, 5, 6, 7, 8, 9, 10, 11] [] [0, 1, 2, 3, 4, 5, 6, 7, 8, 9, 10, 11] rfl rfl (by decide) (by decide) rfl rfl (by decide) (fun H locs hP hD hS => ?_)
      refine lv_i2l (v := ((cWo fo fh fc hz mv i)).toInt64) hx hb dX4_digestSquares_69 rfl ?_
      refine lv_ladd hx hb dX4_digestSquares_70 ?_
      refine lv_lstore_n (lv' := [(3, .long ((31 * ((31 * (hf (cSq fh fo fc hz i) 8 (cHs (cSq fh fo fc hz) (fun q => nI (pRe fo fh hz mv q)) (cWo fo fh fc hz mv) i lv0))) + ((nI (pRe fo fh hz mv i)).toInt64))) + (((cWo fo fh fc hz mv i)).toInt64))), (0, .ref x0), (1, .long lv0), (5, .int (nI i)), (6, .int (nI 8))]) hx hb dX4_digestSquares_71 rfl hl (by decide) rfl (fun ls hl => ?_)
      refine lv_iinc (v := nI (i + 1)) (lv' := [(5, .int (nI (i + 1))), (3, .long ((31 * ((31 * (hf (cSq fh fo fc hz i) 8 (cHs (cSq fh fo fc hz) (fun q => nI (pRe fo fh hz mv q)) (cWo fo fh fc hz mv) i lv0))) + ((nI (pRe fo fh hz mv i)).toInt64))) + (((cWo fo fh fc hz mv i)).toInt64))), (0, .ref x0), (1, .long lv0), (6, .int (nI 8))]) hx hb dX4_digestSquares_72 hl (k := 3) rfl (nI_1 (i)) (by decide) rfl (fun ls hl => ?_)
      refine lv_goto (tgt := 5) hx hb dX4_digestSquares_75 (by decide) ?_
      exact ih5 (by omega) _ _ _ (⟨hP, hD, hS, lv_sub hl [2, 3, 1, 0] rfl⟩)
    · skip
      refine lv_ldc2 (v := 31) hx hb hown (hts (.constantLong RX4 216 31) (by decide +kernel)) dX4_digestSquares_22 ?_
      refine lv_lload_n hx hb dX4_digestSquares_25 rfl (lv_at hl 2 rfl) ?_
      refine lv_lmul hx hb dX4_digestSquares_26 ?_
      refine lv_aload_n hx hb dX4_digestSquares_27 rfl (lv_at hl 0 rfl) ?_
      refine lv_iload hx hb dX4_digestSquares_28 (lv_at hl 3 rfl) ?_
      refine lv_iload hx hb dX4_digestSquares_30 (lv_at hl 4 rfl) ?_
      refine z_ci (va_runV (As := [.int (nI i), .int (nI j)]) (rest := [.long (31 * (hf (cSq fh fo fc hz i) j (cHs (cSq fh fo fc hz) (fun q => nI (pRe fo fh hz mv q)) (cWo fo fh fc hz mv) i lv0)))]) ⟨hx, hb, hml, hown, hts⟩ (c_X4_squareOf_ok l D cI cZ cL (x0 := x0) (e1 := e1) (e2 := e2) (fl := fl) (fk := fk) (a0 := a0) (a1 := a1) (a2 := a2) (a3 := a3) (a4 := a4) (fh := fh) (fo := fo) (fc := fc) (fs := fs) (hz := hz) (mv := mv) (tu := tu) (rf := rf) (b0 := b0) (b1 := b1) (fx := fx) (ln := ln) (d0 := d0) (d1 := d1) (fn := fn) (od := od) (sz6 := sz6) (q := i) (wh := j) (hq := by omega) (hwh := by omega) (hhz := by omega)) (cwV 2 hts gX4_digestSquares_X4_squareOf rfl rfl rfl (by decide +kernel) ⟨Nat.le_of_ble_eq_true rfl, Nat.le_of_ble_eq_true rfl⟩) (z_preVn hN hK (hP.sub [0, 1, 2, 3, 4, 5, 6, 7, 8, 9, 10, 11] rfl) 0 3 rfl rfl) rfl rfl hl.1 rfl (lv_room (Nat.le_of_ble_eq_true rfl)) dX4_digestSquares_32 ⟨Nat.le_of_ble_eq_true rfl, Nat.le_of_ble_eq_true rfl⟩) ?_
      refine lv_i2l (v := ((cSq fh fo fc hz i j)).toInt64) hx hb dX4_digestSquares_35 rfl ?_
      refine lv_ladd hx hb dX4_digestSquares_36 ?_
      refine lv_lstore_n (lv' := [(3, .long ((31 * (hf (cSq fh fo fc hz i) j (cHs (cSq fh fo fc hz) (fun q => nI (pRe fo fh hz mv q)) (cWo fo fh fc hz mv) i lv0))) + (((cSq fh fo fc hz i j)).toInt64))), (0, .ref x0), (1, .long lv0), (5, .int (nI i)), (6, .int (nI j))]) hx hb dX4_digestSquares_37 rfl hl (by decide) rfl (fun ls hl => ?_)
      refine lv_iinc (v := nI (j + 1)) (lv' := [(6, .int (nI (j + 1))), (3, .long ((31 * (hf (cSq fh fo fc hz i) j (cHs (cSq fh fo fc hz) (fun q => nI (pRe fo fh hz mv q)) (cWo fo fh fc hz mv) i lv0))) + (((cSq fh fo fc hz i j)).toInt64))), (0, .ref x0), (1, .long lv0), (5, .int (nI i))]) hx hb dX4_digestSquares_38 hl (k := 4) rfl (nI_1 (j)) (by decide) rfl (fun ls hl => ?_)
      refine lv_goto (tgt := 15) hx hb dX4_digestSquares_41 (by decide) ?_
      exact ih15 (by omega) _ (lv_sub hl [2, 3, 1, 4, 0] rfl)

set_option maxHeartbeats 4000000 in
set_option maxRecDepth 100000 in
theorem c_X4_digestPlayers_ok (l : Launch) (D : va_G) (cI cZ cL : ClassId) (x0 : Nat) (e1 : Nat) (e2 : Nat) (fl : Nat → Int32) (fk : Nat → Int32) (a0 : Nat) (a1 : Nat) (a2 : Nat) (a3 : Nat) (a4 : Nat) (fh : Nat → Int32) (fo : Nat → Int32) (fc : Nat → Int32) (fs : Nat → Int32) (hz : Nat) (mv : Nat) (tu : Int32) (rf : Int32) (b0 : Nat) (b1 : Nat) (fx : Nat → Int32) (ln : Nat) (d0 : Nat) (d1 : Nat) (fn : Nat → Int32) (od : Nat) (sz6 : Nat) (lv0 : Int64) (hhz : hz < 12) : Met l yX4_digestPlayers wsX4_digestPlayers ({ frames := 4, cells := 0, slots := 0, locals := 95 }) (va_Pc [.ref x0, .long lv0] (zWn D cI cZ cL [(x0, .inr (3, [.ref a0, .ref b0, .ref d0, .ref e1, .ref e2])), (a0, .inr (0, [.ref a1, .ref a2, .ref a3, .ref a4, .int (nI hz), .int (nI mv), .int tu, .int rf])), (a1, .inl (cI, 36, .inl fh)), (a2, .inl (cI, 36, .inl fo)), (a3, .inl (cI, 36, .inl fc)), (a4, .inl (cI, 2, .inl fs)), (b0, .inr (1, [.ref b1, .int (nI ln)])), (b1, .inl (cI, 60, .inl fx)), (d0, .inr (2, [.ref d1, .int (nI od), .int (nI sz6)])), (d1, .inl (cI, 684, .inl fn)), (e1, .inl (cI, 228, .inl fl)), (e2, .inl (cZ, 2, .inl fk))])) (zQl (cHp (cPl fh fo fc fs hz) 2 lv0)) 0 0 (fun _ => False) := by
  refine Met.ofW (cc := cX4_digestPlayers) (maxL := 7) (ret := (some .long)) (by decide) rfl ?_
  intro p e s m args below meth c s₁ B hml hv
  obtain ⟨rfl, ⟨hP, hK⟩, hN⟩ := hv
  have hx := B.exec
  have hb := B.bytes
  have hr := B.returns
  have hts := atoms_spec (ws := wsX4_digestPlayers) B.pre
  have hown : s.vm.findClass RX4 = some m.cls := findClass_of_methodNamed B.named
  have hlocks := B.notSynchronized
  have hl := lv_entry ([.ref x0, .long lv0]) (n := 7) (Nat.le_of_ble_eq_true rfl)
  rw [lg_entry_eq]
  generalize (lg_sl ([.ref x0, .long lv0]) ++ List.replicate (7 - (lg_sl ([.ref x0, .long lv0])).length) Slot.unset).toArray = ls at hl ⊢
  have hl : lv_has ls 7 [(0, .ref x0), (1, .long lv0)] := hl
  refine lv_lload_n hx hb dX4_digestPlayers_0 rfl (lv_at hl 1 rfl) ?_
  refine lv_lstore_n (lv' := [(3, .long lv0), (0, .ref x0), (1, .long lv0)]) hx hb dX4_digestPlayers_1 rfl hl (by decide) rfl (fun ls hl => ?_)
  refine lv_iconst (v := 0) hx hb dX4_digestPlayers_2 (by decide) ?_
  refine lv_istore (lv' := [(5, .int 0), (3, .long lv0), (0, .ref x0), (1, .long lv0)]) hx hb dX4_digestPlayers_3 hl (by decide) rfl (fun ls hl => ?_)
  refine z_up (N := 2) (i0 := 0) (fun i ls => lv_has ls 7 [(0, .ref x0), (1, .long lv0), (3, .long (cHp (cPl fh fo fc fs hz) i lv0)), (5, .int (nI i))]) (by omega) (lv_sub hl [2, 3, 1, 0] rfl) (fun i ls hi5 hI ih5 => ?_)
  have hl : lv_has ls 7 [(0, .ref x0), (1, .long lv0), (3, .long (cHp (cPl fh fo fc fs hz) i lv0)), (5, .int (nI i))] := hI
  refine lv_iload hx hb dX4_digestPlayers_5 (lv_at hl 3 rfl) ?_
  refine lv_iconst (v := 2) hx hb dX4_digestPlayers_7 (by decide) ?_
  refine z_icmp_ge (tgt := 48) (P := 2 ≤ i) hx hb dX4_digestPlayers_8 (by decide) (nI_leI (a := 2) (b := i) (by omega) (by omega)) (fun c8 => ?_) (fun c8 => ?_)
  · skip
    obtain rfl : i = 2 := by omega
    refine lv_lload_n hx hb dX4_digestPlayers_48 rfl (lv_at hl 2 rfl) ?_
    exact z_lret hx hb hr hlocks dX4_digestPlayers_49 (rfl)
  · skip
    refine lv_iconst (v := 0) hx hb dX4_digestPlayers_11 (by decide) ?_
    refine lv_istore (lv' := [(6, .int 0), (0, .ref x0), (1, .long lv0), (3, .long (cHp (cPl fh fo fc fs hz) i lv0)), (5, .int (nI i))]) hx hb dX4_digestPlayers_12 hl (by decide) rfl (fun ls hl => ?_)
    refine z_up (N := 6) (i0 := 0) (fun j ls => lv_has ls 7 [(0, .ref x0), (1, .long lv0), (3, .long (hf (cPl fh fo fc fs hz i) j (cHp (cPl fh fo fc fs hz) i lv0))), (5, .int (nI i)), (6, .int (nI j))]) (by omega) (lv_sub hl [1, 2, 3, 4, 0] rfl) (fun j ls hi14 hI ih14 => ?_)
    have hl : lv_has ls 7 [(0, .ref x0), (1, .long lv0), (3, .long (hf (cPl fh fo fc fs hz i) j (cHp (cPl fh fo fc fs hz) i lv0))), (5, .int (nI i)), (6, .int (nI j))] := hI
    refine lv_iload hx hb dX4_digestPlayers_14 (lv_at hl 4 rfl) ?_
    refine lv_iconst (v := 5) hx hb dX4_digestPlayers_16 (by decide) ?_
    refine z_icmp_gt (tgt := 42) (P := 5 < j) hx hb dX4_digestPlayers_17 (by decide) (nI_ltI (a := 5) (b := j) (by omega) (by omega)) (fun c17 => ?_) (fun c17 => ?_)
    · skip
      obtain rfl : j = 6 := by omega
      refine lv_iinc (v := nI (i + 1)) (lv' := [(5, .int (nI (i + 1))), (0, .ref x0), (1, .long lv0), (3, .long (hf (cPl fh fo fc fs hz i) 6 (cHp (cPl fh fo fc fs hz) i lv0))), (6, .int (nI 6))]) hx hb dX4_digestPlayers_42 hl (k := 3) rfl (nI_1 (i)) (by decide) rfl (fun ls hl => ?_)
      refine lv_goto (tgt := 5) hx hb dX4_digestPlayers_45 (by decide) ?_
      exact ih5 (by omega) _ (lv_sub hl [1, 2, 3, 0] rfl)
    · skip
      refine lv_ldc2 (v := 31) hx hb hown (hts (.constantLong RX4 216 31) (by decide +kernel)) dX4_digestPlayers_20 ?_
      refine lv_lload_n hx hb dX4_digestPlayers_23 rfl (lv_at hl 2 rfl) ?_
      refine lv_lmul hx hb dX4_digestPlayers_24 ?_
      refine lv_aload_n hx hb dX4_digestPlayers_25 rfl (lv_at hl 0 rfl) ?_
      refine lv_iload hx hb dX4_digestPlayers_26 (lv_at hl 3 rfl) ?_
      refine lv_iload hx hb dX4_digestPlayers_28 (lv_at hl 4 rfl) ?_
      refine z_ci (va_runV (As := [.int (nI i), .int (nI j)]) (rest := [.long (31 * (hf (cPl fh fo fc fs hz i) j (cHp (cPl fh fo fc fs hz) i lv0)))]) ⟨hx, hb, hml, hown, hts⟩ (c_X4_playerOf_ok l D cI cZ cL (x0 := x0) (e1 := e1) (e2 := e2) (fl := fl) (fk := fk) (a0 := a0) (a1 := a1) (a2 := a2) (a3 := a3) (a4 := a4) (fh := fh) (fo := fo) (fc := fc) (fs := fs) (hz := hz) (mv := mv) (tu := tu) (rf := rf) (b0 := b0) (b1 := b1) (fx := fx) (ln := ln) (d0 := d0) (d1 := d1) (fn := fn) (od := od) (sz6 := sz6) (pl := i) (wh := j) (hpl := by omega) (hwh := by omega) (hhz := by omega)) (cwV 2 hts gX4_digestPlayers_X4_playerOf rfl rfl rfl (by decide +kernel) ⟨Nat.le_of_ble_eq_true rfl, Nat.le_of_ble_eq_true rfl⟩) (z_preVn hN hK (hP.sub [0, 1, 2, 3, 4, 5, 6, 7, 8, 9, 10, 11] rfl) 0 3 rfl rfl) rfl rfl hl.1 rfl (lv_room (Nat.le_of_ble_eq_true rfl)) dX4_digestPlayers_30 ⟨Nat.le_of_ble_eq_true rfl, Nat.le_of_ble_eq_true rfl⟩) ?_
      refine lv_i2l (v := ((cPl fh fo fc fs hz i j)).toInt64) hx hb dX4_digestPlayers_33 rfl ?_
      refine lv_ladd hx hb dX4_digestPlayers_34 ?_
      refine lv_lstore_n (lv' := [(3, .long ((31 * (hf (cPl fh fo fc fs hz i) j (cHp (cPl fh fo fc fs hz) i lv0))) + (((cPl fh fo fc fs hz i j)).toInt64))), (0, .ref x0), (1, .long lv0), (5, .int (nI i)), (6, .int (nI j))]) hx hb dX4_digestPlayers_35 rfl hl (by decide) rfl (fun ls hl => ?_)
      refine lv_iinc (v := nI (j + 1)) (lv' := [(6, .int (nI (j + 1))), (3, .long ((31 * (hf (cPl fh fo fc fs hz i) j (cHp (cPl fh fo fc fs hz) i lv0))) + (((cPl fh fo fc fs hz i j)).toInt64))), (0, .ref x0), (1, .long lv0), (5, .int (nI i))]) hx hb dX4_digestPlayers_36 hl (k := 4) rfl (nI_1 (j)) (by decide) rfl (fun ls hl => ?_)
      refine lv_goto (tgt := 14) hx hb dX4_digestPlayers_39 (by decide) ?_
      exact ih14 (by omega) _ (lv_sub hl [2, 3, 1, 4, 0] rfl)

set_option maxHeartbeats 4000000 in
set_option maxRecDepth 100000 in
theorem c_X4_digestText_ok (l : Launch) (D : va_G) (cI cZ cL : ClassId) (x0 : Nat) (e1 : Nat) (e2 : Nat) (fl : Nat → Int32) (fk : Nat → Int32) (a0 : Nat) (a1 : Nat) (a2 : Nat) (a3 : Nat) (a4 : Nat) (fh : Nat → Int32) (fo : Nat → Int32) (fc : Nat → Int32) (fs : Nat → Int32) (hz : Nat) (mv : Nat) (tu : Int32) (rf : Int32) (b0 : Nat) (b1 : Nat) (fx : Nat → Int32) (ln : Nat) (d0 : Nat) (d1 : Nat) (fn : Nat → Int32) (od : Nat) (sz6 : Nat) (lv0 : Int64) (hln : ln ≤ 60) : Met l yX4_digestText wsX4_digestText ({ frames := 0, cells := 0, slots := 0, locals := 0 }) (va_Pc [.ref x0, .long lv0] (zWn D cI cZ cL [(x0, .inr (3, [.ref a0, .ref b0, .ref d0, .ref e1, .ref e2])), (a0, .inr (0, [.ref a1, .ref a2, .ref a3, .ref a4, .int (nI hz), .int (nI mv), .int tu, .int rf])), (a1, .inl (cI, 36, .inl fh)), (a2, .inl (cI, 36, .inl fo)), (a3, .inl (cI, 36, .inl fc)), (a4, .inl (cI, 2, .inl fs)), (b0, .inr (1, [.ref b1, .int (nI ln)])), (b1, .inl (cI, 60, .inl fx)), (d0, .inr (2, [.ref d1, .int (nI od), .int (nI sz6)])), (d1, .inl (cI, 684, .inl fn)), (e1, .inl (cI, 228, .inl fl)), (e2, .inl (cZ, 2, .inl fk))])) (zQl (hf fx ln ((31 * lv0) + (nI ln).toInt64))) 0 0 (fun _ => False) := by
  refine Met.ofW (cc := cX4_digestText) (maxL := 6) (ret := (some .long)) (by decide) rfl ?_
  intro p e s m args below meth c s₁ B hml hv
  obtain ⟨rfl, ⟨hP, hK⟩, hN⟩ := hv
  have hx := B.exec
  have hb := B.bytes
  have hr := B.returns
  have hts := atoms_spec (ws := wsX4_digestText) B.pre
  have hown : s.vm.findClass RX4 = some m.cls := findClass_of_methodNamed B.named
  have hlocks := B.notSynchronized
  have in1 : ∀ w ∈ u_ws RX1 TX1 2, w ∈ wsX4_digestText := by decide +kernel
  have in3 : ∀ w ∈ u_ws RX4 TX4 5, w ∈ wsX4_digestText := by decide +kernel
  have fl19 := hts (.fieldLink RX4 19 "TowerShades" "text" "LTowerShades$FieldText;") (by decide +kernel)
  have hl := lv_entry ([.ref x0, .long lv0]) (n := 6) (Nat.le_of_ble_eq_true rfl)
  rw [lg_entry_eq]
  generalize (lg_sl ([.ref x0, .long lv0]) ++ List.replicate (6 - (lg_sl ([.ref x0, .long lv0])).length) Slot.unset).toArray = ls at hl ⊢
  have hl : lv_has ls 6 [(0, .ref x0), (1, .long lv0)] := hl
  refine lv_ldc2 (v := 31) hx hb hown (hts (.constantLong RX4 216 31) (by decide +kernel)) dX4_digestText_0 ?_
  refine lv_lload_n hx hb dX4_digestText_3 rfl (lv_at hl 1 rfl) ?_
  refine lv_lmul hx hb dX4_digestText_4 ?_
  refine lv_aload_n hx hb dX4_digestText_5 rfl (lv_at hl 0 rfl) ?_
  refine va_get (D := D) (ci := 3) (v := .ref b0) (C := RX4) (T := TX4) (N := 5) hx hb hts in3 hown hK hP 0 rfl rfl 1 (by decide) fl19 (fun _ h9 => h9) rfl dX4_digestText_6 ?_
  refine va_getN (D := D) (ci := 1) (v := .int (nI ln)) (C := RX1) (T := TX1) (N := 2) hx hb hts in1 hown hK hP 6 rfl rfl 1 (by decide) (hN.get (i := 105) (r := RX1) (n := "length") (d := "I") (by decide)) (fun _ h9 => h9) rfl dX4_digestText_9 ?_
  refine lv_i2l (v := (nI ln).toInt64) hx hb dX4_digestText_12 rfl ?_
  refine lv_ladd hx hb dX4_digestText_13 ?_
  refine lv_lstore_n (lv' := [(3, .long ((31 * lv0) + ((nI ln).toInt64))), (0, .ref x0), (1, .long lv0)]) hx hb dX4_digestText_14 rfl hl (by decide) rfl (fun ls hl => ?_)
  refine lv_iconst (v := 0) hx hb dX4_digestText_15 (by decide) ?_
  refine lv_istore (lv' := [(5, .int 0), (3, .long ((31 * lv0) + ((nI ln).toInt64))), (0, .ref x0), (1, .long lv0)]) hx hb dX4_digestText_16 hl (by decide) rfl (fun ls hl => ?_)
  refine z_up (N := ln) (i0 := 0) (fun i ls => lv_has ls 6 [(0, .ref x0), (1, .long lv0), (3, .long (hf fx i ((31 * lv0) + (nI ln).toInt64))), (5, .int (nI i))]) (by omega) (lv_sub hl [2, 3, 1, 0] rfl) (fun i ls hi18 hI ih18 => ?_)
  have hl : lv_has ls 6 [(0, .ref x0), (1, .long lv0), (3, .long (hf fx i ((31 * lv0) + (nI ln).toInt64))), (5, .int (nI i))] := hI
  refine lv_iload hx hb dX4_digestText_18 (lv_at hl 3 rfl) ?_
  refine lv_aload_n hx hb dX4_digestText_20 rfl (lv_at hl 0 rfl) ?_
  refine va_get (D := D) (ci := 3) (v := .ref b0) (C := RX4) (T := TX4) (N := 5) hx hb hts in3 hown hK hP 0 rfl rfl 1 (by decide) fl19 (fun _ h9 => h9) rfl dX4_digestText_21 ?_
  refine va_getN (D := D) (ci := 1) (v := .int (nI ln)) (C := RX1) (T := TX1) (N := 2) hx hb hts in1 hown hK hP 6 rfl rfl 1 (by decide) (hN.get (i := 105) (r := RX1) (n := "length") (d := "I") (by decide)) (fun _ h9 => h9) rfl dX4_digestText_24 ?_
  refine z_icmp_ge (tgt := 54) (P := ln ≤ i) hx hb dX4_digestText_27 (by decide) (nI_leI (a := ln) (b := i) (by omega) (by omega)) (fun c27 => ?_) (fun c27 => ?_)
  · skip
    obtain rfl : ln = i := by omega
    refine lv_lload_n hx hb dX4_digestText_54 rfl (lv_at hl 2 rfl) ?_
    exact z_lret hx hb hr hlocks dX4_digestText_55 (rfl)
  · skip
    refine lv_ldc2 (v := 31) hx hb hown (hts (.constantLong RX4 216 31) (by decide +kernel)) dX4_digestText_30 ?_
    refine lv_lload_n hx hb dX4_digestText_33 rfl (lv_at hl 2 rfl) ?_
    refine lv_lmul hx hb dX4_digestText_34 ?_
    refine lv_aload_n hx hb dX4_digestText_35 rfl (lv_at hl 0 rfl) ?_
    refine va_get (D := D) (ci := 3) (v := .ref b0) (C := RX4) (T := TX4) (N := 5) hx hb hts in3 hown hK hP 0 rfl rfl 1 (by decide) fl19 (fun _ h9 => h9) rfl dX4_digestText_36 ?_
    refine va_getN (D := D) (ci := 1) (v := .ref b1) (C := RX1) (T := TX1) (N := 2) hx hb hts in1 hown hK hP 6 rfl rfl 0 (by decide) (hN.get (i := 260) (r := RX1) (n := "codes") (d := "[I") (by decide)) (fun _ h9 => h9) rfl dX4_digestText_39 ?_
    refine lv_iload hx hb dX4_digestText_42 (lv_at hl 3 rfl) ?_
    refine z_iald hx hb hK hP 7 0 rfl rfl (k := i) (rfl) (by omega) (by decide) dX4_digestText_44 ?_
    refine lv_i2l (v := (fx i).toInt64) hx hb dX4_digestText_45 rfl ?_
    refine lv_ladd hx hb dX4_digestText_46 ?_
    refine lv_lstore_n (lv' := [(3, .long ((31 * (hf fx i ((31 * lv0) + (nI ln).toInt64))) + ((fx i).toInt64))), (0, .ref x0), (1, .long lv0), (5, .int (nI i))]) hx hb dX4_digestText_47 rfl hl (by decide) rfl (fun ls hl => ?_)
    refine lv_iinc (v := nI (i + 1)) (lv' := [(5, .int (nI (i + 1))), (3, .long ((31 * (hf fx i ((31 * lv0) + (nI ln).toInt64))) + ((fx i).toInt64))), (0, .ref x0), (1, .long lv0)]) hx hb dX4_digestText_48 hl (k := 3) rfl (nI_1 (i)) (by decide) rfl (fun ls hl => ?_)
    refine lv_goto (tgt := 18) hx hb dX4_digestText_51 (by decide) ?_
    exact ih18 (by omega) _ (lv_sub hl [2, 3, 1, 0] rfl)

set_option maxHeartbeats 4000000 in
set_option maxRecDepth 100000 in
theorem c_X4_digest_ok (l : Launch) (D : va_G) (cI cZ cL : ClassId) (sz : Nat) (x0 : Nat) (e1 : Nat) (e2 : Nat) (fl : Nat → Int32) (fk : Nat → Int32) (a0 : Nat) (a1 : Nat) (a2 : Nat) (a3 : Nat) (a4 : Nat) (fh : Nat → Int32) (fo : Nat → Int32) (fc : Nat → Int32) (fs : Nat → Int32) (hz : Nat) (mv : Nat) (tu : Int32) (rf : Int32) (b0 : Nat) (b1 : Nat) (fx : Nat → Int32) (ln : Nat) (d0 : Nat) (d1 : Nat) (fn : Nat → Int32) (od : Nat) (sz6 : Nat) (hhz : hz < 12) (hmv : mv < 2) (hln : ln ≤ 60) : Met l yX4_digest wsX4_digest ({ frames := 6, cells := 0, slots := 0, locals := 142 }) (va_Pc [.ref x0] (zMn D cI cZ cL [(x0, .inr (3, [.ref a0, .ref b0, .ref d0, .ref e1, .ref e2])), (a0, .inr (0, [.ref a1, .ref a2, .ref a3, .ref a4, .int (nI hz), .int (nI mv), .int tu, .int rf])), (a1, .inl (cI, 36, .inl fh)), (a2, .inl (cI, 36, .inl fo)), (a3, .inl (cI, 36, .inl fc)), (a4, .inl (cI, 2, .inl fs)), (b0, .inr (1, [.ref b1, .int (nI ln)])), (b1, .inl (cI, 60, .inl fx)), (d0, .inr (2, [.ref d1, .int (nI od), .int (nI sz6)])), (d1, .inl (cI, 684, .inl fn)), (e1, .inl (cI, 228, .inl fl)), (e2, .inl (cZ, 2, .inl fk))] sz)) (zQml D (cDg fh fo fc fs hz mv tu rf sz6 fk fx ln) [(x0, .inr (3, [.ref a0, .ref b0, .ref d0, .ref e1, .ref e2])), (a0, .inr (0, [.ref a1, .ref a2, .ref a3, .ref a4, .int (nI hz), .int (nI mv), .int tu, .int rf])), (a1, .inl (cI, 36, .inl fh)), (a2, .inl (cI, 36, .inl fo)), (a3, .inl (cI, 36, .inl fc)), (a4, .inl (cI, 2, .inl fs)), (b0, .inr (1, [.ref b1, .int (nI ln)])), (b1, .inl (cI, 60, .inl fx)), (d0, .inr (2, [.ref d1, .int (nI od), .int (nI sz6)])), (d1, .inl (cI, 684, .inl fn)), (e1, .inl (cI, 228, .inl fl)), (e2, .inl (cZ, 2, .inl fk))] [(x0, .inr (3, [.ref a0, .ref b0, .ref d0, .ref e1, .ref e2])), (a0, .inr (0, [.ref a1, .ref a2, .ref a3, .ref a4, .int (nI hz), .int (nI mv), .int tu, .int rf])), (a1, .inl (cI, 36, .inl fh)), (a2, .inl (cI, 36, .inl fo)), (a3, .inl (cI, 36, .inl fc)), (a4, .inl (cI, 2, .inl fs)), (b0, .inr (1, [.ref b1, .int (nI ln)])), (b1, .inl (cI, 60, .inl fx)), (d0, .inr (2, [.ref d1, .int (nI od), .int (nI sz6)])), (d1, .inl (cI, 684, .inl fn)), (e1, .inl (cI, 228, .inl fl)), (e2, .inl (cZ, 2, .inl fk))] sz) 0 0 (va_A [(x0, .inr (3, [.ref a0, .ref b0, .ref d0, .ref e1, .ref e2])), (a0, .inr (0, [.ref a1, .ref a2, .ref a3, .ref a4, .int (nI hz), .int (nI mv), .int tu, .int rf])), (a1, .inl (cI, 36, .inl fh)), (a2, .inl (cI, 36, .inl fo)), (a3, .inl (cI, 36, .inl fc)), (a4, .inl (cI, 2, .inl fs)), (b0, .inr (1, [.ref b1, .int (nI ln)])), (b1, .inl (cI, 60, .inl fx)), (d0, .inr (2, [.ref d1, .int (nI od), .int (nI sz6)])), (d1, .inl (cI, 684, .inl fn)), (e1, .inl (cI, 228, .inl fl)), (e2, .inl (cZ, 2, .inl fk))] sz) := by
  refine Met.ofW (cc := cX4_digest) (maxL := 4) (ret := (some .long)) (by decide) rfl ?_
  intro p e s m args below meth c s₁ B hml hv
  obtain ⟨rfl, hsz, ⟨⟨hP, hK⟩, hN⟩, hD0⟩ := hv
  have hx := B.exec
  have hb := B.bytes
  have hr := B.returns
  have hts := atoms_spec (ws := wsX4_digest) B.pre
  have hown : s.vm.findClass RX4 = some m.cls := findClass_of_methodNamed B.named
  have hlocks := B.notSynchronized
  subst hsz
  have hD := hD0.self (sz := s.heap.size)
  generalize hAe : va_A [(x0, .inr (3, [.ref a0, .ref b0, .ref d0, .ref e1, .ref e2])), (a0, .inr (0, [.ref a1, .ref a2, .ref a3, .ref a4, .int (nI hz), .int (nI mv), .int tu, .int rf])), (a1, .inl (cI, 36, .inl fh)), (a2, .inl (cI, 36, .inl fo)), (a3, .inl (cI, 36, .inl fc)), (a4, .inl (cI, 2, .inl fs)), (b0, .inr (1, [.ref b1, .int (nI ln)])), (b1, .inl (cI, 60, .inl fx)), (d0, .inr (2, [.ref d1, .int (nI od), .int (nI sz6)])), (d1, .inl (cI, 684, .inl fn)), (e1, .inl (cI, 228, .inl fl)), (e2, .inl (cZ, 2, .inl fk))] s.heap.size = A at hD ⊢
  have hA : ∀ q : Nat, s.heap.size ≤ q → A q := fun q h => by rw [← hAe]; exact Or.inr h
  have hS : va_S A s.heap s.heap [] := va_S.rf
  have in3 : ∀ w ∈ u_ws RX4 TX4 5, w ∈ wsX4_digest := by decide +kernel
  have fl34 := hts (.fieldLink RX4 34 "TowerShades" "slotFilled" "[Z") (by decide +kernel)
  have hl := lv_entry ([.ref x0]) (n := 4) (Nat.le_of_ble_eq_true rfl)
  rw [lg_entry_eq]
  generalize (lg_sl ([.ref x0]) ++ List.replicate (4 - (lg_sl ([.ref x0])).length) Slot.unset).toArray = ls at hl ⊢
  have hl : lv_has ls 4 [(0, .ref x0)] := hl
  have hDn := pDn_le fh hz
  refine lv_ldc2 (v := 3631) hx hb hown (hts (.constantLong RX4 214 3631) (by decide +kernel)) dX4_digest_0 ?_
  refine lv_lstore_n (lv' := [(1, .long 3631), (0, .ref x0)]) hx hb dX4_digest_3 rfl hl (by decide) rfl (fun ls hl => ?_)
  refine lv_iconst (v := 0) hx hb dX4_digest_4 (by decide) ?_
  refine lv_istore_n (lv' := [(3, .int 0), (1, .long 3631), (0, .ref x0)]) hx hb dX4_digest_5 rfl hl (by decide) rfl (fun ls hl => ?_)
  refine z_up (N := 10) (i0 := 0) (fun i ls => lv_has ls 4 [(0, .ref x0), (1, .long (hf (cCo fh fo fc hz mv tu rf sz6) i 3631)), (3, .int (nI i))]) (by omega) (lv_sub hl [2, 1, 0] rfl) (fun i ls hi6 hI ih6 => ?_)
  have hl : lv_has ls 4 [(0, .ref x0), (1, .long (hf (cCo fh fo fc hz mv tu rf sz6) i 3631)), (3, .int (nI i))] := hI
  refine lv_iload_n hx hb dX4_digest_6 rfl (lv_at hl 2 rfl) ?_
  refine lv_bipush (v := 9) hx hb dX4_digest_7 (by decide) ?_
  refine z_icmp_gt (tgt := 31) (P := 9 < i) hx hb dX4_digest_9 (by decide) (nI_ltI (a := 9) (b := i) (by omega) (by omega)) (fun c9 => ?_) (fun c9 => ?_)
  · skip
    obtain rfl : i = 10 := by omega
    refine lv_aload_n hx hb dX4_digest_31 rfl (lv_at hl 0 rfl) ?_
    refine lv_lload_n hx hb dX4_digest_32 rfl (lv_at hl 1 rfl) ?_
    refine z_cml (wr := []) (ws' := [(x0, .inr (3, [.ref a0, .ref b0, .ref d0, .ref e1, .ref e2])), (a0, .inr (0, [.ref a1, .ref a2, .ref a3, .ref a4, .int (nI hz), .int (nI mv), .int tu, .int rf])), (a1, .inl (cI, 36, .inl fh)), (a2, .inl (cI, 36, .inl fo)), (a3, .inl (cI, 36, .inl fc)), (a4, .inl (cI, 2, .inl fs)), (b0, .inr (1, [.ref b1, .int (nI ln)])), (b1, .inl (cI, 60, .inl fx)), (d0, .inr (2, [.ref d1, .int (nI od), .int (nI sz6)])), (d1, .inl (cI, 684, .inl fn)), (e1, .inl (cI, 228, .inl fl)), (e2, .inl (cZ, 2, .inl fk))]) (va_runV (As := [.long (hf (cCo fh fo fc hz mv tu rf sz6) 10 3631)]) (rest := []) ⟨hx, hb, hml, hown, hts⟩ (c_X4_digestSquares_ok l D cI cZ cL _ (x0 := x0) (e1 := e1) (e2 := e2) (fl := fl) (fk := fk) (a0 := a0) (a1 := a1) (a2 := a2) (a3 := a3) (a4 := a4) (fh := fh) (fo := fo) (fc := fc) (fs := fs) (hz := hz) (mv := mv) (tu := tu) (rf := rf) (b0 := b0) (b1 := b1) (fx := fx) (ln := ln) (d0 := d0) (d1 := d1) (fn := fn) (od := od) (sz6 := sz6) (lv0 := (hf (cCo fh fo fc hz mv tu rf sz6) 10 3631)) (hhz := by omega) (hmv := by omega)) (cwV 1 hts gX4_digest_X4_digestSquares rfl rfl rfl (by decide +kernel) ⟨Nat.le_of_ble_eq_true rfl, Nat.le_of_ble_eq_true rfl⟩) (z_preMVn hN hK (hP.sub [0, 1, 2, 3, 4, 5, 6, 7, 8, 9, 10, 11] rfl) (hD.sub [0, 1, 2, 3, 4, 5, 6, 7, 8, 9, 10, 11] (by decide) rfl) 0 3 rfl rfl) rfl rfl hl.1 rfl (lv_room (Nat.le_of_ble_eq_true rfl)) dX4_digest_33 ⟨Nat.le_of_ble_eq_true rfl, Nat.le_of_ble_eq_true rfl⟩) hP hD hS hA [0, 1, 2, 3, 4, 5, 6, 7, 8, 9, 10, 11] [] [0, 1, 2, 3, 4, 5, 6, 7, 8, 9, 10, 11] rfl rfl (by decide) (by decide) rfl rfl (by decide) (fun H locs hP hD hS => ?_)
    refine lv_lstore_n (lv' := [(1, .long (cHs (cSq fh fo fc hz) (fun q => nI (pRe fo fh hz mv q)) (cWo fo fh fc hz mv) 36 (hf (cCo fh fo fc hz mv tu rf sz6) 10 3631))), (0, .ref x0), (3, .int (nI 10))]) hx hb dX4_digest_36 rfl hl (by decide) rfl (fun ls hl => ?_)
    refine lv_aload_n hx hb dX4_digest_37 rfl (lv_at hl 1 rfl) ?_
    refine lv_lload_n hx hb dX4_digest_38 rfl (lv_at hl 0 rfl) ?_
    refine z_cl (va_runV (As := [.long (cHs (cSq fh fo fc hz) (fun q => nI (pRe fo fh hz mv q)) (cWo fo fh fc hz mv) 36 (hf (cCo fh fo fc hz mv tu rf sz6) 10 3631))]) (rest := []) ⟨hx, hb, hml, hown, hts⟩ (c_X4_digestPlayers_ok l D cI cZ cL (x0 := x0) (e1 := e1) (e2 := e2) (fl := fl) (fk := fk) (a0 := a0) (a1 := a1) (a2 := a2) (a3 := a3) (a4 := a4) (fh := fh) (fo := fo) (fc := fc) (fs := fs) (hz := hz) (mv := mv) (tu := tu) (rf := rf) (b0 := b0) (b1 := b1) (fx := fx) (ln := ln) (d0 := d0) (d1 := d1) (fn := fn) (od := od) (sz6 := sz6) (lv0 := (cHs (cSq fh fo fc hz) (fun q => nI (pRe fo fh hz mv q)) (cWo fo fh fc hz mv) 36 (hf (cCo fh fo fc hz mv tu rf sz6) 10 3631))) (hhz := by omega)) (cwV 1 hts gX4_digest_X4_digestPlayers rfl rfl rfl (by decide +kernel) ⟨Nat.le_of_ble_eq_true rfl, Nat.le_of_ble_eq_true rfl⟩) (z_preVn hN hK (hP.sub [0, 1, 2, 3, 4, 5, 6, 7, 8, 9, 10, 11] rfl) 0 3 rfl rfl) rfl rfl hl.1 rfl (lv_room (Nat.le_of_ble_eq_true rfl)) dX4_digest_39 ⟨Nat.le_of_ble_eq_true rfl, Nat.le_of_ble_eq_true rfl⟩) ?_
    refine lv_lstore_n (lv' := [(1, .long (cHp (cPl fh fo fc fs hz) 2 (cHs (cSq fh fo fc hz) (fun q => nI (pRe fo fh hz mv q)) (cWo fo fh fc hz mv) 36 (hf (cCo fh fo fc hz mv tu rf sz6) 10 3631)))), (0, .ref x0), (3, .int (nI 10))]) hx hb dX4_digest_42 rfl hl (by decide) rfl (fun ls hl => ?_)
    refine lv_ldc2 (v := 31) hx hb hown (hts (.constantLong RX4 216 31) (by decide +kernel)) dX4_digest_43 ?_
    refine lv_lload_n hx hb dX4_digest_46 rfl (lv_at hl 0 rfl) ?_
    refine lv_lmul hx hb dX4_digest_47 ?_
    refine lv_aload_n hx hb dX4_digest_48 rfl (lv_at hl 1 rfl) ?_
    refine z_cmi (wr := []) (ws' := [(x0, .inr (3, [.ref a0, .ref b0, .ref d0, .ref e1, .ref e2])), (a0, .inr (0, [.ref a1, .ref a2, .ref a3, .ref a4, .int (nI hz), .int (nI mv), .int tu, .int rf])), (a1, .inl (cI, 36, .inl fh)), (a2, .inl (cI, 36, .inl fo)), (a3, .inl (cI, 36, .inl fc)), (a4, .inl (cI, 2, .inl fs)), (b0, .inr (1, [.ref b1, .int (nI ln)])), (b1, .inl (cI, 60, .inl fx)), (d0, .inr (2, [.ref d1, .int (nI od), .int (nI sz6)])), (d1, .inl (cI, 684, .inl fn)), (e1, .inl (cI, 228, .inl fl)), (e2, .inl (cZ, 2, .inl fk))]) (va_runV (As := []) (rest := [.long (31 * (cHp (cPl fh fo fc fs hz) 2 (cHs (cSq fh fo fc hz) (fun q => nI (pRe fo fh hz mv q)) (cWo fo fh fc hz mv) 36 (hf (cCo fh fo fc hz mv tu rf sz6) 10 3631))))]) ⟨hx, hb, hml, hown, hts⟩ (c_X4_bestSquare_ok l D cI cZ cL _ (x0 := x0) (e1 := e1) (e2 := e2) (fl := fl) (fk := fk) (a0 := a0) (a1 := a1) (a2 := a2) (a3 := a3) (a4 := a4) (fh := fh) (fo := fo) (fc := fc) (fs := fs) (hz := hz) (mv := mv) (tu := tu) (rf := rf) (b0 := b0) (b1 := b1) (fx := fx) (ln := ln) (d0 := d0) (d1 := d1) (fn := fn) (od := od) (sz6 := sz6) (hhz := by omega) (hmv := by omega)) (cwV 0 hts gX4_digest_X4_bestSquare rfl rfl rfl (by decide +kernel) ⟨Nat.le_of_ble_eq_true rfl, Nat.le_of_ble_eq_true rfl⟩) (z_preMVn hN hK (hP.sub [0, 1, 2, 3, 4, 5, 6, 7, 8, 9, 10, 11] rfl) (hD.sub [0, 1, 2, 3, 4, 5, 6, 7, 8, 9, 10, 11] (by decide) rfl) 0 3 rfl rfl) rfl rfl hl.1 rfl (lv_room (Nat.le_of_ble_eq_true rfl)) dX4_digest_49 ⟨Nat.le_of_ble_eq_true rfl, Nat.le_of_ble_eq_true rfl⟩) hP hD hS hA [0, 1, 2, 3, 4, 5, 6, 7, 8, 9, 10, 11] [] [0, 1, 2, 3, 4, 5, 6, 7, 8, 9, 10, 11] rfl rfl (by decide) (by decide) rfl rfl (by decide) (fun H locs hP hD hS => ?_)
    refine lv_i2l (v := ((be (cWo fo fh fc hz mv) 36)).toInt64) hx hb dX4_digest_52 rfl ?_
    refine lv_ladd hx hb dX4_digest_53 ?_
    refine lv_lstore_n (lv' := [(1, .long ((31 * (cHp (cPl fh fo fc fs hz) 2 (cHs (cSq fh fo fc hz) (fun q => nI (pRe fo fh hz mv q)) (cWo fo fh fc hz mv) 36 (hf (cCo fh fo fc hz mv tu rf sz6) 10 3631)))) + (((be (cWo fo fh fc hz mv) 36)).toInt64))), (0, .ref x0), (3, .int (nI 10))]) hx hb dX4_digest_54 rfl hl (by decide) rfl (fun ls hl => ?_)
    refine lv_ldc2 (v := 31) hx hb hown (hts (.constantLong RX4 216 31) (by decide +kernel)) dX4_digest_55 ?_
    refine lv_lload_n hx hb dX4_digest_58 rfl (lv_at hl 0 rfl) ?_
    refine lv_lmul hx hb dX4_digest_59 ?_
    refine lv_aload_n hx hb dX4_digest_60 rfl (lv_at hl 1 rfl) ?_
    refine lv_iconst (v := 0) hx hb dX4_digest_61 (by decide) ?_
    refine lv_iconst (v := 5) hx hb dX4_digest_62 (by decide) ?_
    refine z_ci (va_runV (As := [.int 0, .int 5]) (rest := [.long (31 * ((31 * (cHp (cPl fh fo fc fs hz) 2 (cHs (cSq fh fo fc hz) (fun q => nI (pRe fo fh hz mv q)) (cWo fo fh fc hz mv) 36 (hf (cCo fh fo fc hz mv tu rf sz6) 10 3631)))) + (((be (cWo fo fh fc hz mv) 36)).toInt64)))]) ⟨hx, hb, hml, hown, hts⟩ (c_X4_needed_ok l D cI cZ cL (x0 := x0) (e1 := e1) (e2 := e2) (fl := fl) (fk := fk) (a0 := a0) (a1 := a1) (a2 := a2) (a3 := a3) (a4 := a4) (fh := fh) (fo := fo) (fc := fc) (fs := fs) (hz := hz) (mv := mv) (tu := tu) (rf := rf) (b0 := b0) (b1 := b1) (fx := fx) (ln := ln) (d0 := d0) (d1 := d1) (fn := fn) (od := od) (sz6 := sz6) (f := 0) (q := 5) (hf := by omega) (hq := by omega) (hhz := by omega)) (cwV 2 hts gX4_digest_X4_needed rfl rfl rfl (by decide +kernel) ⟨Nat.le_of_ble_eq_true rfl, Nat.le_of_ble_eq_true rfl⟩) (z_preVn hN hK (hP.sub [0, 1, 2, 3, 4, 5, 6, 7, 8, 9, 10, 11] rfl) 0 3 rfl rfl) rfl rfl hl.1 rfl (lv_room (Nat.le_of_ble_eq_true rfl)) dX4_digest_63 ⟨Nat.le_of_ble_eq_true rfl, Nat.le_of_ble_eq_true rfl⟩) ?_
    refine lv_i2l (v := ((cLe fh hz 0 5)).toInt64) hx hb dX4_digest_66 rfl ?_
    refine lv_ladd hx hb dX4_digest_67 ?_
    refine lv_lstore_n (lv' := [(1, .long ((31 * ((31 * (cHp (cPl fh fo fc fs hz) 2 (cHs (cSq fh fo fc hz) (fun q => nI (pRe fo fh hz mv q)) (cWo fo fh fc hz mv) 36 (hf (cCo fh fo fc hz mv tu rf sz6) 10 3631)))) + (((be (cWo fo fh fc hz mv) 36)).toInt64))) + (((cLe fh hz 0 5)).toInt64))), (0, .ref x0), (3, .int (nI 10))]) hx hb dX4_digest_68 rfl hl (by decide) rfl (fun ls hl => ?_)
    refine lv_ldc2 (v := 31) hx hb hown (hts (.constantLong RX4 216 31) (by decide +kernel)) dX4_digest_69 ?_
    refine lv_lload_n hx hb dX4_digest_72 rfl (lv_at hl 0 rfl) ?_
    refine lv_lmul hx hb dX4_digest_73 ?_
    refine lv_aload_n hx hb dX4_digest_74 rfl (lv_at hl 1 rfl) ?_
    refine lv_iconst (v := 5) hx hb dX4_digest_75 (by decide) ?_
    refine lv_iconst (v := 0) hx hb dX4_digest_76 (by decide) ?_
    refine z_ci (va_runV (As := [.int 5, .int 0]) (rest := [.long (31 * ((31 * ((31 * (cHp (cPl fh fo fc fs hz) 2 (cHs (cSq fh fo fc hz) (fun q => nI (pRe fo fh hz mv q)) (cWo fo fh fc hz mv) 36 (hf (cCo fh fo fc hz mv tu rf sz6) 10 3631)))) + (((be (cWo fo fh fc hz mv) 36)).toInt64))) + (((cLe fh hz 0 5)).toInt64)))]) ⟨hx, hb, hml, hown, hts⟩ (c_X4_needed_ok l D cI cZ cL (x0 := x0) (e1 := e1) (e2 := e2) (fl := fl) (fk := fk) (a0 := a0) (a1 := a1) (a2 := a2) (a3 := a3) (a4 := a4) (fh := fh) (fo := fo) (fc := fc) (fs := fs) (hz := hz) (mv := mv) (tu := tu) (rf := rf) (b0 := b0) (b1 := b1) (fx := fx) (ln := ln) (d0 := d0) (d1 := d1) (fn := fn) (od := od) (sz6 := sz6) (f := 5) (q := 0) (hf := by omega) (hq := by omega) (hhz := by omega)) (cwV 2 hts gX4_digest_X4_needed rfl rfl rfl (by decide +kernel) ⟨Nat.le_of_ble_eq_true rfl, Nat.le_of_ble_eq_true rfl⟩) (z_preVn hN hK (hP.sub [0, 1, 2, 3, 4, 5, 6, 7, 8, 9, 10, 11] rfl) 0 3 rfl rfl) rfl rfl hl.1 rfl (lv_room (Nat.le_of_ble_eq_true rfl)) dX4_digest_77 ⟨Nat.le_of_ble_eq_true rfl, Nat.le_of_ble_eq_true rfl⟩) ?_
    refine lv_i2l (v := ((cLe fh hz 5 0)).toInt64) hx hb dX4_digest_80 rfl ?_
    refine lv_ladd hx hb dX4_digest_81 ?_
    refine lv_lstore_n (lv' := [(1, .long ((31 * ((31 * ((31 * (cHp (cPl fh fo fc fs hz) 2 (cHs (cSq fh fo fc hz) (fun q => nI (pRe fo fh hz mv q)) (cWo fo fh fc hz mv) 36 (hf (cCo fh fo fc hz mv tu rf sz6) 10 3631)))) + (((be (cWo fo fh fc hz mv) 36)).toInt64))) + (((cLe fh hz 0 5)).toInt64))) + (((cLe fh hz 5 0)).toInt64))), (0, .ref x0), (3, .int (nI 10))]) hx hb dX4_digest_82 rfl hl (by decide) rfl (fun ls hl => ?_)
    refine lv_ldc2 (v := 31) hx hb hown (hts (.constantLong RX4 216 31) (by decide +kernel)) dX4_digest_83 ?_
    refine lv_lload_n hx hb dX4_digest_86 rfl (lv_at hl 0 rfl) ?_
    refine lv_lmul hx hb dX4_digest_87 ?_
    refine lv_aload_n hx hb dX4_digest_88 rfl (lv_at hl 1 rfl) ?_
    refine lv_bipush (v := 30) hx hb dX4_digest_89 (by decide) ?_
    refine lv_iconst (v := 0) hx hb dX4_digest_91 (by decide) ?_
    refine z_ci (va_runV (As := [.int 30, .int 0]) (rest := [.long (31 * ((31 * ((31 * ((31 * (cHp (cPl fh fo fc fs hz) 2 (cHs (cSq fh fo fc hz) (fun q => nI (pRe fo fh hz mv q)) (cWo fo fh fc hz mv) 36 (hf (cCo fh fo fc hz mv tu rf sz6) 10 3631)))) + (((be (cWo fo fh fc hz mv) 36)).toInt64))) + (((cLe fh hz 0 5)).toInt64))) + (((cLe fh hz 5 0)).toInt64)))]) ⟨hx, hb, hml, hown, hts⟩ (c_X4_needed_ok l D cI cZ cL (x0 := x0) (e1 := e1) (e2 := e2) (fl := fl) (fk := fk) (a0 := a0) (a1 := a1) (a2 := a2) (a3 := a3) (a4 := a4) (fh := fh) (fo := fo) (fc := fc) (fs := fs) (hz := hz) (mv := mv) (tu := tu) (rf := rf) (b0 := b0) (b1 := b1) (fx := fx) (ln := ln) (d0 := d0) (d1 := d1) (fn := fn) (od := od) (sz6 := sz6) (f := 30) (q := 0) (hf := by omega) (hq := by omega) (hhz := by omega)) (cwV 2 hts gX4_digest_X4_needed rfl rfl rfl (by decide +kernel) ⟨Nat.le_of_ble_eq_true rfl, Nat.le_of_ble_eq_true rfl⟩) (z_preVn hN hK (hP.sub [0, 1, 2, 3, 4, 5, 6, 7, 8, 9, 10, 11] rfl) 0 3 rfl rfl) rfl rfl hl.1 rfl (lv_room (Nat.le_of_ble_eq_true rfl)) dX4_digest_92 ⟨Nat.le_of_ble_eq_true rfl, Nat.le_of_ble_eq_true rfl⟩) ?_
    refine lv_i2l (v := ((cLe fh hz 30 0)).toInt64) hx hb dX4_digest_95 rfl ?_
    refine lv_ladd hx hb dX4_digest_96 ?_
    refine lv_lstore_n (lv' := [(1, .long ((31 * ((31 * ((31 * ((31 * (cHp (cPl fh fo fc fs hz) 2 (cHs (cSq fh fo fc hz) (fun q => nI (pRe fo fh hz mv q)) (cWo fo fh fc hz mv) 36 (hf (cCo fh fo fc hz mv tu rf sz6) 10 3631)))) + (((be (cWo fo fh fc hz mv) 36)).toInt64))) + (((cLe fh hz 0 5)).toInt64))) + (((cLe fh hz 5 0)).toInt64))) + (((cLe fh hz 30 0)).toInt64))), (0, .ref x0), (3, .int (nI 10))]) hx hb dX4_digest_97 rfl hl (by decide) rfl (fun ls hl => ?_)
    refine lv_ldc2 (v := 31) hx hb hown (hts (.constantLong RX4 216 31) (by decide +kernel)) dX4_digest_98 ?_
    refine lv_lload_n hx hb dX4_digest_101 rfl (lv_at hl 0 rfl) ?_
    refine lv_lmul hx hb dX4_digest_102 ?_
    refine lv_aload_n hx hb dX4_digest_103 rfl (lv_at hl 1 rfl) ?_
    refine lv_iconst (v := 0) hx hb dX4_digest_104 (by decide) ?_
    refine lv_bipush (v := 30) hx hb dX4_digest_105 (by decide) ?_
    refine z_ci (va_runV (As := [.int 0, .int 30]) (rest := [.long (31 * ((31 * ((31 * ((31 * ((31 * (cHp (cPl fh fo fc fs hz) 2 (cHs (cSq fh fo fc hz) (fun q => nI (pRe fo fh hz mv q)) (cWo fo fh fc hz mv) 36 (hf (cCo fh fo fc hz mv tu rf sz6) 10 3631)))) + (((be (cWo fo fh fc hz mv) 36)).toInt64))) + (((cLe fh hz 0 5)).toInt64))) + (((cLe fh hz 5 0)).toInt64))) + (((cLe fh hz 30 0)).toInt64)))]) ⟨hx, hb, hml, hown, hts⟩ (c_X4_needed_ok l D cI cZ cL (x0 := x0) (e1 := e1) (e2 := e2) (fl := fl) (fk := fk) (a0 := a0) (a1 := a1) (a2 := a2) (a3 := a3) (a4 := a4) (fh := fh) (fo := fo) (fc := fc) (fs := fs) (hz := hz) (mv := mv) (tu := tu) (rf := rf) (b0 := b0) (b1 := b1) (fx := fx) (ln := ln) (d0 := d0) (d1 := d1) (fn := fn) (od := od) (sz6 := sz6) (f := 0) (q := 30) (hf := by omega) (hq := by omega) (hhz := by omega)) (cwV 2 hts gX4_digest_X4_needed rfl rfl rfl (by decide +kernel) ⟨Nat.le_of_ble_eq_true rfl, Nat.le_of_ble_eq_true rfl⟩) (z_preVn hN hK (hP.sub [0, 1, 2, 3, 4, 5, 6, 7, 8, 9, 10, 11] rfl) 0 3 rfl rfl) rfl rfl hl.1 rfl (lv_room (Nat.le_of_ble_eq_true rfl)) dX4_digest_107 ⟨Nat.le_of_ble_eq_true rfl, Nat.le_of_ble_eq_true rfl⟩) ?_
    refine lv_i2l (v := ((cLe fh hz 0 30)).toInt64) hx hb dX4_digest_110 rfl ?_
    refine lv_ladd hx hb dX4_digest_111 ?_
    refine lv_lstore_n (lv' := [(1, .long ((31 * ((31 * ((31 * ((31 * ((31 * (cHp (cPl fh fo fc fs hz) 2 (cHs (cSq fh fo fc hz) (fun q => nI (pRe fo fh hz mv q)) (cWo fo fh fc hz mv) 36 (hf (cCo fh fo fc hz mv tu rf sz6) 10 3631)))) + (((be (cWo fo fh fc hz mv) 36)).toInt64))) + (((cLe fh hz 0 5)).toInt64))) + (((cLe fh hz 5 0)).toInt64))) + (((cLe fh hz 30 0)).toInt64))) + (((cLe fh hz 0 30)).toInt64))), (0, .ref x0), (3, .int (nI 10))]) hx hb dX4_digest_112 rfl hl (by decide) rfl (fun ls hl => ?_)
    refine lv_ldc2 (v := 31) hx hb hown (hts (.constantLong RX4 216 31) (by decide +kernel)) dX4_digest_113 ?_
    refine lv_lload_n hx hb dX4_digest_116 rfl (lv_at hl 0 rfl) ?_
    refine lv_lmul hx hb dX4_digest_117 ?_
    refine lv_aload_n hx hb dX4_digest_118 rfl (lv_at hl 1 rfl) ?_
    refine z_ci (va_runV (As := []) (rest := [.long (31 * ((31 * ((31 * ((31 * ((31 * ((31 * (cHp (cPl fh fo fc fs hz) 2 (cHs (cSq fh fo fc hz) (fun q => nI (pRe fo fh hz mv q)) (cWo fo fh fc hz mv) 36 (hf (cCo fh fo fc hz mv tu rf sz6) 10 3631)))) + (((be (cWo fo fh fc hz mv) 36)).toInt64))) + (((cLe fh hz 0 5)).toInt64))) + (((cLe fh hz 5 0)).toInt64))) + (((cLe fh hz 30 0)).toInt64))) + (((cLe fh hz 0 30)).toInt64)))]) ⟨hx, hb, hml, hown, hts⟩ (c_X4_darkestHour_ok l D cI cZ cL (x0 := x0) (e1 := e1) (e2 := e2) (fl := fl) (fk := fk) (a0 := a0) (a1 := a1) (a2 := a2) (a3 := a3) (a4 := a4) (fh := fh) (fo := fo) (fc := fc) (fs := fs) (hz := hz) (mv := mv) (tu := tu) (rf := rf) (b0 := b0) (b1 := b1) (fx := fx) (ln := ln) (d0 := d0) (d1 := d1) (fn := fn) (od := od) (sz6 := sz6)) (cwV 0 hts gX4_digest_X4_darkestHour rfl rfl rfl (by decide +kernel) ⟨Nat.le_of_ble_eq_true rfl, Nat.le_of_ble_eq_true rfl⟩) (z_preVn hN hK (hP.sub [0, 1, 2, 3, 4, 5, 6, 7, 8, 9, 10, 11] rfl) 0 3 rfl rfl) rfl rfl hl.1 rfl (lv_room (Nat.le_of_ble_eq_true rfl)) dX4_digest_119 ⟨Nat.le_of_ble_eq_true rfl, Nat.le_of_ble_eq_true rfl⟩) ?_
    refine lv_i2l (v := (nI (bd (pDn fh) 12)).toInt64) hx hb dX4_digest_122 rfl ?_
    refine lv_ladd hx hb dX4_digest_123 ?_
    refine lv_lstore_n (lv' := [(1, .long ((31 * ((31 * ((31 * ((31 * ((31 * ((31 * (cHp (cPl fh fo fc fs hz) 2 (cHs (cSq fh fo fc hz) (fun q => nI (pRe fo fh hz mv q)) (cWo fo fh fc hz mv) 36 (hf (cCo fh fo fc hz mv tu rf sz6) 10 3631)))) + (((be (cWo fo fh fc hz mv) 36)).toInt64))) + (((cLe fh hz 0 5)).toInt64))) + (((cLe fh hz 5 0)).toInt64))) + (((cLe fh hz 30 0)).toInt64))) + (((cLe fh hz 0 30)).toInt64))) + ((nI (bd (pDn fh) 12)).toInt64))), (0, .ref x0), (3, .int (nI 10))]) hx hb dX4_digest_124 rfl hl (by decide) rfl (fun ls hl => ?_)
    refine lv_ldc2 (v := 31) hx hb hown (hts (.constantLong RX4 216 31) (by decide +kernel)) dX4_digest_125 ?_
    refine lv_lload_n hx hb dX4_digest_128 rfl (lv_at hl 0 rfl) ?_
    refine lv_lmul hx hb dX4_digest_129 ?_
    refine lv_aload_n hx hb dX4_digest_130 rfl (lv_at hl 1 rfl) ?_
    refine z_cd (va_runV (As := []) (rest := [.long (31 * ((31 * ((31 * ((31 * ((31 * ((31 * ((31 * (cHp (cPl fh fo fc fs hz) 2 (cHs (cSq fh fo fc hz) (fun q => nI (pRe fo fh hz mv q)) (cWo fo fh fc hz mv) 36 (hf (cCo fh fo fc hz mv tu rf sz6) 10 3631)))) + (((be (cWo fo fh fc hz mv) 36)).toInt64))) + (((cLe fh hz 0 5)).toInt64))) + (((cLe fh hz 5 0)).toInt64))) + (((cLe fh hz 30 0)).toInt64))) + (((cLe fh hz 0 30)).toInt64))) + ((nI (bd (pDn fh) 12)).toInt64)))]) ⟨hx, hb, hml, hown, hts⟩ (c_X4_darkShare_ok l D cI cZ cL (x0 := x0) (e1 := e1) (e2 := e2) (fl := fl) (fk := fk) (a0 := a0) (a1 := a1) (a2 := a2) (a3 := a3) (a4 := a4) (fh := fh) (fo := fo) (fc := fc) (fs := fs) (hz := hz) (mv := mv) (tu := tu) (rf := rf) (b0 := b0) (b1 := b1) (fx := fx) (ln := ln) (d0 := d0) (d1 := d1) (fn := fn) (od := od) (sz6 := sz6) (hhz := by omega)) (cwV 0 hts gX4_digest_X4_darkShare rfl rfl rfl (by decide +kernel) ⟨Nat.le_of_ble_eq_true rfl, Nat.le_of_ble_eq_true rfl⟩) (z_preVn hN hK (hP.sub [0, 1, 2, 3, 4, 5, 6, 7, 8, 9, 10, 11] rfl) 0 3 rfl rfl) rfl rfl hl.1 rfl (lv_room (Nat.le_of_ble_eq_true rfl)) dX4_digest_131 ⟨Nat.le_of_ble_eq_true rfl, Nat.le_of_ble_eq_true rfl⟩) ?_
    refine z_cl (va_runS (As := [.double (pFq (pDn fh hz))]) (rest := [.long (31 * ((31 * ((31 * ((31 * ((31 * ((31 * ((31 * (cHp (cPl fh fo fc fs hz) 2 (cHs (cSq fh fo fc hz) (fun q => nI (pRe fo fh hz mv q)) (cWo fo fh fc hz mv) 36 (hf (cCo fh fo fc hz mv tu rf sz6) 10 3631)))) + (((be (cWo fo fh fc hz mv) 36)).toInt64))) + (((cLe fh hz 0 5)).toInt64))) + (((cLe fh hz 5 0)).toInt64))) + (((cLe fh hz 30 0)).toInt64))) + (((cLe fh hz 0 30)).toInt64))) + ((nI (bd (pDn fh) 12)).toInt64)))]) ⟨hx, hb, hml, hown, hts⟩ (c_X4_bitsOfShare l (n := (pDn fh hz)) (hn37 := by omega)) (va_cwS 1 hts gX4_digest_X4_bitsOfShare rfl rfl rfl (by decide +kernel) ⟨Nat.le_of_ble_eq_true rfl, Nat.le_of_ble_eq_true rfl⟩) z_preS rfl rfl hl.1 rfl (lv_room (Nat.le_of_ble_eq_true rfl)) dX4_digest_134 ⟨Nat.le_of_ble_eq_true rfl, Nat.le_of_ble_eq_true rfl⟩) ?_
    refine lv_ladd hx hb dX4_digest_137 ?_
    refine lv_lstore_n (lv' := [(1, .long ((31 * ((31 * ((31 * ((31 * ((31 * ((31 * ((31 * (cHp (cPl fh fo fc fs hz) 2 (cHs (cSq fh fo fc hz) (fun q => nI (pRe fo fh hz mv q)) (cWo fo fh fc hz mv) 36 (hf (cCo fh fo fc hz mv tu rf sz6) 10 3631)))) + (((be (cWo fo fh fc hz mv) 36)).toInt64))) + (((cLe fh hz 0 5)).toInt64))) + (((cLe fh hz 5 0)).toInt64))) + (((cLe fh hz 30 0)).toInt64))) + (((cLe fh hz 0 30)).toInt64))) + ((nI (bd (pDn fh) 12)).toInt64))) + ((pFq (pDn fh hz)).toInt64))), (0, .ref x0), (3, .int (nI 10))]) hx hb dX4_digest_138 rfl hl (by decide) rfl (fun ls hl => ?_)
    refine lv_iconst (v := 0) hx hb dX4_digest_139 (by decide) ?_
    refine lv_istore_n (lv' := [(3, .int 0), (1, .long ((31 * ((31 * ((31 * ((31 * ((31 * ((31 * ((31 * (cHp (cPl fh fo fc fs hz) 2 (cHs (cSq fh fo fc hz) (fun q => nI (pRe fo fh hz mv q)) (cWo fo fh fc hz mv) 36 (hf (cCo fh fo fc hz mv tu rf sz6) 10 3631)))) + (((be (cWo fo fh fc hz mv) 36)).toInt64))) + (((cLe fh hz 0 5)).toInt64))) + (((cLe fh hz 5 0)).toInt64))) + (((cLe fh hz 30 0)).toInt64))) + (((cLe fh hz 0 30)).toInt64))) + ((nI (bd (pDn fh) 12)).toInt64))) + ((pFq (pDn fh hz)).toInt64))), (0, .ref x0)]) hx hb dX4_digest_140 rfl hl (by decide) rfl (fun ls hl => ?_)
    refine z_up (N := 2) (i0 := 0) (fun j ls => lv_has ls 4 [(0, .ref x0), (1, .long (hf (fun k => kb1 (fk k)) j ((31 * ((31 * ((31 * ((31 * ((31 * ((31 * ((31 * (cHp (cPl fh fo fc fs hz) 2 (cHs (cSq fh fo fc hz) (fun q => nI (pRe fo fh hz mv q)) (cWo fo fh fc hz mv) 36 (hf (cCo fh fo fc hz mv tu rf sz6) 10 3631)))) + (((be (cWo fo fh fc hz mv) 36)).toInt64))) + (((cLe fh hz 0 5)).toInt64))) + (((cLe fh hz 5 0)).toInt64))) + (((cLe fh hz 30 0)).toInt64))) + (((cLe fh hz 0 30)).toInt64))) + ((nI (bd (pDn fh) 12)).toInt64))) + ((pFq (pDn fh hz)).toInt64)))), (3, .int (nI j))]) (by omega) (lv_sub hl [2, 1, 0] rfl) (fun j ls hi141 hI ih141 => ?_)
    have hl : lv_has ls 4 [(0, .ref x0), (1, .long (hf (fun k => kb1 (fk k)) j ((31 * ((31 * ((31 * ((31 * ((31 * ((31 * ((31 * (cHp (cPl fh fo fc fs hz) 2 (cHs (cSq fh fo fc hz) (fun q => nI (pRe fo fh hz mv q)) (cWo fo fh fc hz mv) 36 (hf (cCo fh fo fc hz mv tu rf sz6) 10 3631)))) + (((be (cWo fo fh fc hz mv) 36)).toInt64))) + (((cLe fh hz 0 5)).toInt64))) + (((cLe fh hz 5 0)).toInt64))) + (((cLe fh hz 30 0)).toInt64))) + (((cLe fh hz 0 30)).toInt64))) + ((nI (bd (pDn fh) 12)).toInt64))) + ((pFq (pDn fh hz)).toInt64)))), (3, .int (nI j))] := hI
    refine lv_iload_n hx hb dX4_digest_141 rfl (lv_at hl 2 rfl) ?_
    refine lv_iconst (v := 2) hx hb dX4_digest_142 (by decide) ?_
    refine z_icmp_ge (tgt := 174) (P := 2 ≤ j) hx hb dX4_digest_143 (by decide) (nI_leI (a := 2) (b := j) (by omega) (by omega)) (fun c143 => ?_) (fun c143 => ?_)
    · skip
      obtain rfl : j = 2 := by omega
      refine lv_aload_n hx hb dX4_digest_174 rfl (lv_at hl 0 rfl) ?_
      refine lv_lload_n hx hb dX4_digest_175 rfl (lv_at hl 1 rfl) ?_
      refine z_cl (va_runV (As := [.long (hf (fun k => kb1 (fk k)) 2 ((31 * ((31 * ((31 * ((31 * ((31 * ((31 * ((31 * (cHp (cPl fh fo fc fs hz) 2 (cHs (cSq fh fo fc hz) (fun q => nI (pRe fo fh hz mv q)) (cWo fo fh fc hz mv) 36 (hf (cCo fh fo fc hz mv tu rf sz6) 10 3631)))) + (((be (cWo fo fh fc hz mv) 36)).toInt64))) + (((cLe fh hz 0 5)).toInt64))) + (((cLe fh hz 5 0)).toInt64))) + (((cLe fh hz 30 0)).toInt64))) + (((cLe fh hz 0 30)).toInt64))) + ((nI (bd (pDn fh) 12)).toInt64))) + ((pFq (pDn fh hz)).toInt64)))]) (rest := []) ⟨hx, hb, hml, hown, hts⟩ (c_X4_digestText_ok l D cI cZ cL (x0 := x0) (e1 := e1) (e2 := e2) (fl := fl) (fk := fk) (a0 := a0) (a1 := a1) (a2 := a2) (a3 := a3) (a4 := a4) (fh := fh) (fo := fo) (fc := fc) (fs := fs) (hz := hz) (mv := mv) (tu := tu) (rf := rf) (b0 := b0) (b1 := b1) (fx := fx) (ln := ln) (d0 := d0) (d1 := d1) (fn := fn) (od := od) (sz6 := sz6) (lv0 := (hf (fun k => kb1 (fk k)) 2 ((31 * ((31 * ((31 * ((31 * ((31 * ((31 * ((31 * (cHp (cPl fh fo fc fs hz) 2 (cHs (cSq fh fo fc hz) (fun q => nI (pRe fo fh hz mv q)) (cWo fo fh fc hz mv) 36 (hf (cCo fh fo fc hz mv tu rf sz6) 10 3631)))) + (((be (cWo fo fh fc hz mv) 36)).toInt64))) + (((cLe fh hz 0 5)).toInt64))) + (((cLe fh hz 5 0)).toInt64))) + (((cLe fh hz 30 0)).toInt64))) + (((cLe fh hz 0 30)).toInt64))) + ((nI (bd (pDn fh) 12)).toInt64))) + ((pFq (pDn fh hz)).toInt64)))) (hln := by omega)) (cwV 1 hts gX4_digest_X4_digestText rfl rfl rfl (by decide +kernel) ⟨Nat.le_of_ble_eq_true rfl, Nat.le_of_ble_eq_true rfl⟩) (z_preVn hN hK (hP.sub [0, 1, 2, 3, 4, 5, 6, 7, 8, 9, 10, 11] rfl) 0 3 rfl rfl) rfl rfl hl.1 rfl (lv_room (Nat.le_of_ble_eq_true rfl)) dX4_digest_176 ⟨Nat.le_of_ble_eq_true rfl, Nat.le_of_ble_eq_true rfl⟩) ?_
      have hP9 : va_P D vwCl [(x0, .inr (3, [.ref a0, .ref b0, .ref d0, .ref e1, .ref e2])), (a0, .inr (0, [.ref a1, .ref a2, .ref a3, .ref a4, .int (nI hz), .int (nI mv), .int tu, .int rf])), (a1, .inl (cI, 36, .inl fh)), (a2, .inl (cI, 36, .inl fo)), (a3, .inl (cI, 36, .inl fc)), (a4, .inl (cI, 2, .inl fs)), (b0, .inr (1, [.ref b1, .int (nI ln)])), (b1, .inl (cI, 60, .inl fx)), (d0, .inr (2, [.ref d1, .int (nI od), .int (nI sz6)])), (d1, .inl (cI, 684, .inl fn)), (e1, .inl (cI, 228, .inl fl)), (e2, .inl (cZ, 2, .inl fk))] _ := hP
      have hD9 : va_D A [(x0, .inr (3, [.ref a0, .ref b0, .ref d0, .ref e1, .ref e2])), (a0, .inr (0, [.ref a1, .ref a2, .ref a3, .ref a4, .int (nI hz), .int (nI mv), .int tu, .int rf])), (a1, .inl (cI, 36, .inl fh)), (a2, .inl (cI, 36, .inl fo)), (a3, .inl (cI, 36, .inl fc)), (a4, .inl (cI, 2, .inl fs)), (b0, .inr (1, [.ref b1, .int (nI ln)])), (b1, .inl (cI, 60, .inl fx)), (d0, .inr (2, [.ref d1, .int (nI od), .int (nI sz6)])), (d1, .inl (cI, 684, .inl fn)), (e1, .inl (cI, 228, .inl fl)), (e2, .inl (cZ, 2, .inl fk))] := hD
      subst hAe
      exact z_mlret hx hb hr hlocks dX4_digest_179 (rfl) hP9 hD9 hS
    · skip
      refine lv_ldc2 (v := 31) hx hb hown (hts (.constantLong RX4 216 31) (by decide +kernel)) dX4_digest_146 ?_
      refine lv_lload_n hx hb dX4_digest_149 rfl (lv_at hl 1 rfl) ?_
      refine lv_lmul hx hb dX4_digest_150 ?_
      refine lv_aload_n hx hb dX4_digest_151 rfl (lv_at hl 0 rfl) ?_
      refine va_get (D := D) (ci := 3) (v := .ref e2) (C := RX4) (T := TX4) (N := 5) hx hb hts in3 hown hK hP 0 rfl rfl 4 (by decide) fl34 (fun _ h9 => h9) rfl dX4_digest_152 ?_
      refine lv_iload_n hx hb dX4_digest_155 rfl (lv_at hl 2 rfl) ?_
      refine z_zald hx hb hK hP 11 1 rfl rfl (k := j) (rfl) (by omega) (by decide) dX4_digest_156 ?_
      refine z_if_eq (tgt := 164) (P := (fk j) = 0) hx hb dX4_digest_157 (by decide) (Iff.rfl) (fun c157 => ?_) (fun c157 => ?_)
      · skip
        refine lv_iconst (v := 0) hx hb dX4_digest_164 (by decide) ?_
        refine z_top (y := (kb1 (fk j))) (by simp [kb1, c157]) ?_
        refine lv_i2l (v := ((kb1 (fk j))).toInt64) hx hb dX4_digest_165 rfl ?_
        refine lv_ladd hx hb dX4_digest_166 ?_
        refine lv_lstore_n (lv' := [(1, .long ((31 * (hf (fun k => kb1 (fk k)) j ((31 * ((31 * ((31 * ((31 * ((31 * ((31 * ((31 * (cHp (cPl fh fo fc fs hz) 2 (cHs (cSq fh fo fc hz) (fun q => nI (pRe fo fh hz mv q)) (cWo fo fh fc hz mv) 36 (hf (cCo fh fo fc hz mv tu rf sz6) 10 3631)))) + (((be (cWo fo fh fc hz mv) 36)).toInt64))) + (((cLe fh hz 0 5)).toInt64))) + (((cLe fh hz 5 0)).toInt64))) + (((cLe fh hz 30 0)).toInt64))) + (((cLe fh hz 0 30)).toInt64))) + ((nI (bd (pDn fh) 12)).toInt64))) + ((pFq (pDn fh hz)).toInt64)))) + (((kb1 (fk j))).toInt64))), (0, .ref x0), (3, .int (nI j))]) hx hb dX4_digest_167 rfl hl (by decide) rfl (fun ls hl => ?_)
        refine lv_iinc (v := nI (j + 1)) (lv' := [(3, .int (nI (j + 1))), (1, .long ((31 * (hf (fun k => kb1 (fk k)) j ((31 * ((31 * ((31 * ((31 * ((31 * ((31 * ((31 * (cHp (cPl fh fo fc fs hz) 2 (cHs (cSq fh fo fc hz) (fun q => nI (pRe fo fh hz mv q)) (cWo fo fh fc hz mv) 36 (hf (cCo fh fo fc hz mv tu rf sz6) 10 3631)))) + (((be (cWo fo fh fc hz mv) 36)).toInt64))) + (((cLe fh hz 0 5)).toInt64))) + (((cLe fh hz 5 0)).toInt64))) + (((cLe fh hz 30 0)).toInt64))) + (((cLe fh hz 0 30)).toInt64))) + ((nI (bd (pDn fh) 12)).toInt64))) + ((pFq (pDn fh hz)).toInt64)))) + (((kb1 (fk j))).toInt64))), (0, .ref x0)]) hx hb dX4_digest_168 hl (k := 2) rfl (nI_1 (j)) (by decide) rfl (fun ls hl => ?_)
        refine lv_goto (tgt := 141) hx hb dX4_digest_171 (by decide) ?_
        exact ih141 (by omega) _ (lv_sub hl [2, 1, 0] rfl)
      · skip
        refine lv_iconst (v := 1) hx hb dX4_digest_160 (by decide) ?_
        refine lv_goto (tgt := 165) hx hb dX4_digest_161 (by decide) ?_
        refine z_top (y := (kb1 (fk j))) (by simp [kb1, c157]) ?_
        refine lv_i2l (v := ((kb1 (fk j))).toInt64) hx hb dX4_digest_165 rfl ?_
        refine lv_ladd hx hb dX4_digest_166 ?_
        refine lv_lstore_n (lv' := [(1, .long ((31 * (hf (fun k => kb1 (fk k)) j ((31 * ((31 * ((31 * ((31 * ((31 * ((31 * ((31 * (cHp (cPl fh fo fc fs hz) 2 (cHs (cSq fh fo fc hz) (fun q => nI (pRe fo fh hz mv q)) (cWo fo fh fc hz mv) 36 (hf (cCo fh fo fc hz mv tu rf sz6) 10 3631)))) + (((be (cWo fo fh fc hz mv) 36)).toInt64))) + (((cLe fh hz 0 5)).toInt64))) + (((cLe fh hz 5 0)).toInt64))) + (((cLe fh hz 30 0)).toInt64))) + (((cLe fh hz 0 30)).toInt64))) + ((nI (bd (pDn fh) 12)).toInt64))) + ((pFq (pDn fh hz)).toInt64)))) + (((kb1 (fk j))).toInt64))), (0, .ref x0), (3, .int (nI j))]) hx hb dX4_digest_167 rfl hl (by decide) rfl (fun ls hl => ?_)
        refine lv_iinc (v := nI (j + 1)) (lv' := [(3, .int (nI (j + 1))), (1, .long ((31 * (hf (fun k => kb1 (fk k)) j ((31 * ((31 * ((31 * ((31 * ((31 * ((31 * ((31 * (cHp (cPl fh fo fc fs hz) 2 (cHs (cSq fh fo fc hz) (fun q => nI (pRe fo fh hz mv q)) (cWo fo fh fc hz mv) 36 (hf (cCo fh fo fc hz mv tu rf sz6) 10 3631)))) + (((be (cWo fo fh fc hz mv) 36)).toInt64))) + (((cLe fh hz 0 5)).toInt64))) + (((cLe fh hz 5 0)).toInt64))) + (((cLe fh hz 30 0)).toInt64))) + (((cLe fh hz 0 30)).toInt64))) + ((nI (bd (pDn fh) 12)).toInt64))) + ((pFq (pDn fh hz)).toInt64)))) + (((kb1 (fk j))).toInt64))), (0, .ref x0)]) hx hb dX4_digest_168 hl (k := 2) rfl (nI_1 (j)) (by decide) rfl (fun ls hl => ?_)
        refine lv_goto (tgt := 141) hx hb dX4_digest_171 (by decide) ?_
        exact ih141 (by omega) _ (lv_sub hl [2, 1, 0] rfl)
  · skip
    refine lv_ldc2 (v := 31) hx hb hown (hts (.constantLong RX4 216 31) (by decide +kernel)) dX4_digest_12 ?_
    refine lv_lload_n hx hb dX4_digest_15 rfl (lv_at hl 1 rfl) ?_
    refine lv_lmul hx hb dX4_digest_16 ?_
    refine lv_aload_n hx hb dX4_digest_17 rfl (lv_at hl 0 rfl) ?_
    refine lv_iload_n hx hb dX4_digest_18 rfl (lv_at hl 2 rfl) ?_
    refine z_ci (va_runV (As := [.int (nI i)]) (rest := [.long (31 * (hf (cCo fh fo fc hz mv tu rf sz6) i 3631))]) ⟨hx, hb, hml, hown, hts⟩ (c_X4_count_ok l D cI cZ cL (x0 := x0) (e1 := e1) (e2 := e2) (fl := fl) (fk := fk) (a0 := a0) (a1 := a1) (a2 := a2) (a3 := a3) (a4 := a4) (fh := fh) (fo := fo) (fc := fc) (fs := fs) (hz := hz) (mv := mv) (tu := tu) (rf := rf) (b0 := b0) (b1 := b1) (fx := fx) (ln := ln) (d0 := d0) (d1 := d1) (fn := fn) (od := od) (sz6 := sz6) (wh := i) (hwh := by omega) (hhz := by omega)) (cwV 1 hts gX4_digest_X4_count rfl rfl rfl (by decide +kernel) ⟨Nat.le_of_ble_eq_true rfl, Nat.le_of_ble_eq_true rfl⟩) (z_preVn hN hK (hP.sub [0, 1, 2, 3, 4, 5, 6, 7, 8, 9, 10, 11] rfl) 0 3 rfl rfl) rfl rfl hl.1 rfl (lv_room (Nat.le_of_ble_eq_true rfl)) dX4_digest_19 ⟨Nat.le_of_ble_eq_true rfl, Nat.le_of_ble_eq_true rfl⟩) ?_
    refine lv_i2l (v := ((cCo fh fo fc hz mv tu rf sz6 i)).toInt64) hx hb dX4_digest_22 rfl ?_
    refine lv_ladd hx hb dX4_digest_23 ?_
    refine lv_lstore_n (lv' := [(1, .long ((31 * (hf (cCo fh fo fc hz mv tu rf sz6) i 3631)) + (((cCo fh fo fc hz mv tu rf sz6 i)).toInt64))), (0, .ref x0), (3, .int (nI i))]) hx hb dX4_digest_24 rfl hl (by decide) rfl (fun ls hl => ?_)
    refine lv_iinc (v := nI (i + 1)) (lv' := [(3, .int (nI (i + 1))), (1, .long ((31 * (hf (cCo fh fo fc hz mv tu rf sz6) i 3631)) + (((cCo fh fo fc hz mv tu rf sz6 i)).toInt64))), (0, .ref x0)]) hx hb dX4_digest_25 hl (k := 2) rfl (nI_1 (i)) (by decide) rfl (fun ls hl => ?_)
    refine lv_goto (tgt := 6) hx hb dX4_digest_28 (by decide) ?_
    exact ih6 (by omega) _ (lv_sub hl [2, 1, 0] rfl)
