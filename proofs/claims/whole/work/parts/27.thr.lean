set_option maxHeartbeats 4000000 in
set_option maxRecDepth 100000 in
theorem x_X4_raise_bad (l : Launch) (hlt : l.stackTraces = false) (D : va_G) (cI cZ cL : ClassId) (x0 : Nat) (e1 : Nat) (e2 : Nat) (fl : Nat → Int32) (fk : Nat → Int32) (a0 : Nat) (a1 : Nat) (a2 : Nat) (a3 : Nat) (a4 : Nat) (fh : Nat → Int32) (fo : Nat → Int32) (fc : Nat → Int32) (fs : Nat → Int32) (hz : Nat) (mv : Nat) (tu : Int32) (rf : Int32) (b0 : Nat) (b1 : Nat) (fx : Nat → Int32) (ln : Nat) (d0 : Nat) (d1 : Nat) (fn : Nat → Int32) (od : Nat) (sz6 : Nat) (p0 : Int32) (hbad : (decide (0 ≤ p0) && decide (p0 ≤ 35)) = false) : vx_Met l yX4_raise wsX4_raise ({ frames := 6, cells := 1, slots := 6, locals := 82 }) (va_Pc [.ref x0, .int p0] (zWx D cI cZ cL [(x0, .inr (3, [.ref a0, .ref b0, .ref d0, .ref e1, .ref e2])), (a0, .inr (0, [.ref a1, .ref a2, .ref a3, .ref a4, .int (nI hz), .int (nI mv), .int tu, .int rf])), (a1, .inl (cI, 36, .inl fh)), (a2, .inl (cI, 36, .inl fo)), (a3, .inl (cI, 36, .inl fc)), (a4, .inl (cI, 2, .inl fs)), (b0, .inr (1, [.ref b1, .int (nI ln)])), (b1, .inl (cI, 60, .inl fx)), (d0, .inr (2, [.ref d1, .int (nI od), .int (nI sz6)])), (d1, .inl (cI, 684, .inl fn)), (e1, .inl (cI, 228, .inl fl)), (e2, .inl (cZ, 2, .inl fk))])) (fun _ _ _ _ => False) (xXC xOOB) 1 6 (fun _ => False) := by
  refine vx_ofW (cc := cX4_raise) (maxL := 3) (ret := (some .int)) (by decide) rfl ?_
  intro p e s m args below meth c s₁ B hml ht0 hv
  obtain ⟨rfl, ⟨⟨hP, hK⟩, hN⟩, hXN, hUS⟩ := hv
  have hx := B.exec
  have hb := B.bytes
  have hr := B.returns
  have hts := atoms_spec (ws := wsX4_raise) B.pre
  have hown : s.vm.findClass RX4 = some m.cls := findClass_of_methodNamed B.named
  have hlocks := B.notSynchronized
  have hl := lv_entry ([.ref x0, .int p0]) (n := 3) (Nat.le_of_ble_eq_true rfl)
  rw [lg_entry_eq]
  generalize (lg_sl ([.ref x0, .int p0]) ++ List.replicate (3 - (lg_sl ([.ref x0, .int p0])).length) Slot.unset).toArray = ls at hl ⊢
  have hl : lv_has ls 3 [(0, .ref x0), (1, .int p0)] := hl
  refine lv_iload_n hx hb dX4_raise_0 rfl (lv_at hl 1 rfl) ?_
  refine z_ci (va_runS (As := [.int p0]) (rest := []) ⟨hx, hb, hml, hown, hts⟩ (c_X4_isSquare l (p0 := p0)) (va_cwS 1 hts gX4_raise_X4_isSquare rfl rfl rfl (by decide +kernel) ⟨Nat.le_of_ble_eq_true rfl, Nat.le_of_ble_eq_true rfl⟩) z_preS rfl rfl hl.1 rfl (lv_room (Nat.le_of_ble_eq_true rfl)) dX4_raise_1 ⟨Nat.le_of_ble_eq_true rfl, Nat.le_of_ble_eq_true rfl⟩) ?_
  refine z_top (y := 0) (by rw [hbad]; rfl) ?_
  refine z_if_ne (tgt := 17) (P := True) hx hb dX4_raise_4 (by decide) (by decide) (fun c4 => (show False from c4 trivial).elim) (fun c4 => ?_)
  obtain ⟨sa, hsa⟩ := hXN.2.2 (44, "no such square") (by decide)
  exact vx_throwS (own := RX4) (cls := xOOB) (text := "no such square") (names := xNm) (ik := 42) (is := 44) (ic := 46) (A := fun _ => False) hx hb hlt hown (by decide) (by decide) (hts (.classLink RX4 42 xOOB) (by decide +kernel)) (hts (.initialized xOOB) (by decide +kernel)) hsa (vx_hat (fun w hw => hts w (List.mem_cons_of_mem _ (List.mem_append_right _ hw))) x_b46 (hXN.use (by decide))) x_g46 hUS.1 hUS.2 va_S.rf (hl.1.trans hml.symm) dX4_raise_7 dX4_raise_10 dX4_raise_11 dX4_raise_13 dX4_raise_16 (x_cov ht0) (Nat.le_of_ble_eq_true rfl) (Nat.le_of_ble_eq_true rfl) (Nat.le_of_ble_eq_true rfl) (Nat.le_of_ble_eq_true rfl) hlocks (x_hx rfl) (fun z hz => nomatch hz) (by decide) (by decide)

set_option maxHeartbeats 4000000 in
set_option maxRecDepth 100000 in
theorem x_X4_crowd_bad (l : Launch) (hlt : l.stackTraces = false) (D : va_G) (cI cZ cL : ClassId) (x0 : Nat) (e1 : Nat) (e2 : Nat) (fl : Nat → Int32) (fk : Nat → Int32) (a0 : Nat) (a1 : Nat) (a2 : Nat) (a3 : Nat) (a4 : Nat) (fh : Nat → Int32) (fo : Nat → Int32) (fc : Nat → Int32) (fs : Nat → Int32) (hz : Nat) (mv : Nat) (tu : Int32) (rf : Int32) (b0 : Nat) (b1 : Nat) (fx : Nat → Int32) (ln : Nat) (d0 : Nat) (d1 : Nat) (fn : Nat → Int32) (od : Nat) (sz6 : Nat) (p0 : Int32) (p1 : Int32) (hbad : (decide (0 ≤ p0) && decide (p0 ≤ 35)) = false) : vx_Met l yX4_crowd wsX4_crowd ({ frames := 6, cells := 1, slots := 6, locals := 82 }) (va_Pc [.ref x0, .int p0, .int p1] (zWx D cI cZ cL [(x0, .inr (3, [.ref a0, .ref b0, .ref d0, .ref e1, .ref e2])), (a0, .inr (0, [.ref a1, .ref a2, .ref a3, .ref a4, .int (nI hz), .int (nI mv), .int tu, .int rf])), (a1, .inl (cI, 36, .inl fh)), (a2, .inl (cI, 36, .inl fo)), (a3, .inl (cI, 36, .inl fc)), (a4, .inl (cI, 2, .inl fs)), (b0, .inr (1, [.ref b1, .int (nI ln)])), (b1, .inl (cI, 60, .inl fx)), (d0, .inr (2, [.ref d1, .int (nI od), .int (nI sz6)])), (d1, .inl (cI, 684, .inl fn)), (e1, .inl (cI, 228, .inl fl)), (e2, .inl (cZ, 2, .inl fk))])) (fun _ _ _ _ => False) (xXC xOOB) 1 6 (fun _ => False) := by
  refine vx_ofW (cc := cX4_crowd) (maxL := 4) (ret := (some .int)) (by decide) rfl ?_
  intro p e s m args below meth c s₁ B hml ht0 hv
  obtain ⟨rfl, ⟨⟨hP, hK⟩, hN⟩, hXN, hUS⟩ := hv
  have hx := B.exec
  have hb := B.bytes
  have hr := B.returns
  have hts := atoms_spec (ws := wsX4_crowd) B.pre
  have hown : s.vm.findClass RX4 = some m.cls := findClass_of_methodNamed B.named
  have hlocks := B.notSynchronized
  have hl := lv_entry ([.ref x0, .int p0, .int p1]) (n := 4) (Nat.le_of_ble_eq_true rfl)
  rw [lg_entry_eq]
  generalize (lg_sl ([.ref x0, .int p0, .int p1]) ++ List.replicate (4 - (lg_sl ([.ref x0, .int p0, .int p1])).length) Slot.unset).toArray = ls at hl ⊢
  have hl : lv_has ls 4 [(0, .ref x0), (1, .int p0), (2, .int p1)] := hl
  refine lv_iload_n hx hb dX4_crowd_0 rfl (lv_at hl 1 rfl) ?_
  refine z_ci (va_runS (As := [.int p0]) (rest := []) ⟨hx, hb, hml, hown, hts⟩ (c_X4_isSquare l (p0 := p0)) (va_cwS 1 hts gX4_crowd_X4_isSquare rfl rfl rfl (by decide +kernel) ⟨Nat.le_of_ble_eq_true rfl, Nat.le_of_ble_eq_true rfl⟩) z_preS rfl rfl hl.1 rfl (lv_room (Nat.le_of_ble_eq_true rfl)) dX4_crowd_1 ⟨Nat.le_of_ble_eq_true rfl, Nat.le_of_ble_eq_true rfl⟩) ?_
  refine z_top (y := 0) (by rw [hbad]; rfl) ?_
  refine z_if_ne (tgt := 17) (P := True) hx hb dX4_crowd_4 (by decide) (by decide) (fun c4 => (show False from c4 trivial).elim) (fun c4 => ?_)
  obtain ⟨sa, hsa⟩ := hXN.2.2 (44, "no such square") (by decide)
  exact vx_throwS (own := RX4) (cls := xOOB) (text := "no such square") (names := xNm) (ik := 42) (is := 44) (ic := 46) (A := fun _ => False) hx hb hlt hown (by decide) (by decide) (hts (.classLink RX4 42 xOOB) (by decide +kernel)) (hts (.initialized xOOB) (by decide +kernel)) hsa (vx_hat (fun w hw => hts w (List.mem_cons_of_mem _ (List.mem_append_left _ (List.mem_append_right _ hw)))) x_b46 (hXN.use (by decide))) x_g46 hUS.1 hUS.2 va_S.rf (hl.1.trans hml.symm) dX4_crowd_7 dX4_crowd_10 dX4_crowd_11 dX4_crowd_13 dX4_crowd_16 (x_cov ht0) (Nat.le_of_ble_eq_true rfl) (Nat.le_of_ble_eq_true rfl) (Nat.le_of_ble_eq_true rfl) (Nat.le_of_ble_eq_true rfl) hlocks (x_hx rfl) (fun z hz => nomatch hz) (by decide) (by decide)

set_option maxHeartbeats 4000000 in
set_option maxRecDepth 100000 in
theorem x_X4_crowd_out (l : Launch) (hlt : l.stackTraces = false) (D : va_G) (cI cZ cL : ClassId) (x0 : Nat) (e1 : Nat) (e2 : Nat) (fl : Nat → Int32) (fk : Nat → Int32) (a0 : Nat) (a1 : Nat) (a2 : Nat) (a3 : Nat) (a4 : Nat) (fh : Nat → Int32) (fo : Nat → Int32) (fc : Nat → Int32) (fs : Nat → Int32) (hz : Nat) (mv : Nat) (tu : Int32) (rf : Int32) (b0 : Nat) (b1 : Nat) (fx : Nat → Int32) (ln : Nat) (d0 : Nat) (d1 : Nat) (fn : Nat → Int32) (od : Nat) (sz6 : Nat) (q : Nat) (p1 : Int32) (hq : q < 36) (hout : 0 ≤ p1 → p1 ≤ 9 → False) : vx_Met l yX4_crowd wsX4_crowd ({ frames := 6, cells := 1, slots := 6, locals := 82 }) (va_Pc [.ref x0, .int (nI q), .int p1] (zWx D cI cZ cL [(x0, .inr (3, [.ref a0, .ref b0, .ref d0, .ref e1, .ref e2])), (a0, .inr (0, [.ref a1, .ref a2, .ref a3, .ref a4, .int (nI hz), .int (nI mv), .int tu, .int rf])), (a1, .inl (cI, 36, .inl fh)), (a2, .inl (cI, 36, .inl fo)), (a3, .inl (cI, 36, .inl fc)), (a4, .inl (cI, 2, .inl fs)), (b0, .inr (1, [.ref b1, .int (nI ln)])), (b1, .inl (cI, 60, .inl fx)), (d0, .inr (2, [.ref d1, .int (nI od), .int (nI sz6)])), (d1, .inl (cI, 684, .inl fn)), (e1, .inl (cI, 228, .inl fl)), (e2, .inl (cZ, 2, .inl fk))])) (fun _ _ _ _ => False) (xXC xIAE) 1 6 (fun _ => False) := by
  refine vx_ofW (cc := cX4_crowd) (maxL := 4) (ret := (some .int)) (by decide) rfl ?_
  intro p e s m args below meth c s₁ B hml ht0 hv
  obtain ⟨rfl, ⟨⟨hP, hK⟩, hN⟩, hXN, hUS⟩ := hv
  have hx := B.exec
  have hb := B.bytes
  have hr := B.returns
  have hts := atoms_spec (ws := wsX4_crowd) B.pre
  have hown : s.vm.findClass RX4 = some m.cls := findClass_of_methodNamed B.named
  have hlocks := B.notSynchronized
  have hl := lv_entry ([.ref x0, .int (nI q), .int p1]) (n := 4) (Nat.le_of_ble_eq_true rfl)
  rw [lg_entry_eq]
  generalize (lg_sl ([.ref x0, .int (nI q), .int p1]) ++ List.replicate (4 - (lg_sl ([.ref x0, .int (nI q), .int p1])).length) Slot.unset).toArray = ls at hl ⊢
  have hl : lv_has ls 4 [(0, .ref x0), (1, .int (nI q)), (2, .int p1)] := hl
  refine lv_iload_n hx hb dX4_crowd_0 rfl (lv_at hl 1 rfl) ?_
  refine z_ci (va_runS (As := [.int (nI q)]) (rest := []) ⟨hx, hb, hml, hown, hts⟩ (c_X4_isSquare l (p0 := nI q)) (va_cwS 1 hts gX4_crowd_X4_isSquare rfl rfl rfl (by decide +kernel) ⟨Nat.le_of_ble_eq_true rfl, Nat.le_of_ble_eq_true rfl⟩) z_preS rfl rfl hl.1 rfl (lv_room (Nat.le_of_ble_eq_true rfl)) dX4_crowd_1 ⟨Nat.le_of_ble_eq_true rfl, Nat.le_of_ble_eq_true rfl⟩) ?_
  refine z_top (y := 1) (by rw [sq_ok q hq]; rfl) ?_
  refine z_if_ne (tgt := 17) (P := False) hx hb dX4_crowd_4 (by decide) (by decide) (fun c4 => ?_) (fun c4 => (show False from c4).elim)
  refine lv_iload_n hx hb dX4_crowd_17 rfl (lv_at hl 2 rfl) ?_
  refine z_if_lt (tgt := 27) (P := ¬ 0 ≤ p1) hx hb dX4_crowd_18 (by decide) (Int32.not_le.symm) (fun c18 => ?_) (fun c18 => ?_)
  · skip
    obtain ⟨sa, hsa⟩ := hXN.2.2 (79, "crowd is not 0 to 9") (by decide)
    exact vx_throwS (own := RX4) (cls := xIAE) (text := "crowd is not 0 to 9") (names := xNm) (ik := 77) (is := 79) (ic := 81) (A := fun _ => False) hx hb hlt hown (by decide) (by decide) (hts (.classLink RX4 77 xIAE) (by decide +kernel)) (hts (.initialized xIAE) (by decide +kernel)) hsa (vx_hat (fun w hw => hts w (List.mem_cons_of_mem _ (List.mem_append_right _ hw))) x_b81 (hXN.use (by decide))) x_g81 hUS.1 hUS.2 va_S.rf (hl.1.trans hml.symm) dX4_crowd_27 dX4_crowd_30 dX4_crowd_31 dX4_crowd_33 dX4_crowd_36 (x_cov ht0) (Nat.le_of_ble_eq_true rfl) (Nat.le_of_ble_eq_true rfl) (Nat.le_of_ble_eq_true rfl) (Nat.le_of_ble_eq_true rfl) hlocks (x_hx rfl) (fun z hz => nomatch hz) (by decide) (by decide)
  · skip
    replace c18 := Classical.not_not.mp c18
    refine lv_iload_n hx hb dX4_crowd_21 rfl (lv_at hl 2 rfl) ?_
    refine lv_bipush (v := 9) hx hb dX4_crowd_22 (by decide) ?_
    refine z_icmp_le (tgt := 37) (P := p1 ≤ 9) hx hb dX4_crowd_24 (by decide) (Iff.rfl) (fun c24 => (show False from hout c18 c24).elim) (fun c24 => ?_)
    obtain ⟨sa, hsa⟩ := hXN.2.2 (79, "crowd is not 0 to 9") (by decide)
    exact vx_throwS (own := RX4) (cls := xIAE) (text := "crowd is not 0 to 9") (names := xNm) (ik := 77) (is := 79) (ic := 81) (A := fun _ => False) hx hb hlt hown (by decide) (by decide) (hts (.classLink RX4 77 xIAE) (by decide +kernel)) (hts (.initialized xIAE) (by decide +kernel)) hsa (vx_hat (fun w hw => hts w (List.mem_cons_of_mem _ (List.mem_append_right _ hw))) x_b81 (hXN.use (by decide))) x_g81 hUS.1 hUS.2 va_S.rf (hl.1.trans hml.symm) dX4_crowd_27 dX4_crowd_30 dX4_crowd_31 dX4_crowd_33 dX4_crowd_36 (x_cov ht0) (Nat.le_of_ble_eq_true rfl) (Nat.le_of_ble_eq_true rfl) (Nat.le_of_ble_eq_true rfl) (Nat.le_of_ble_eq_true rfl) hlocks (x_hx rfl) (fun z hz => nomatch hz) (by decide) (by decide)

set_option maxHeartbeats 4000000 in
set_option maxRecDepth 100000 in
theorem x_X4_tear_bad (l : Launch) (hlt : l.stackTraces = false) (D : va_G) (cI cZ cL : ClassId) (x0 : Nat) (e1 : Nat) (e2 : Nat) (fl : Nat → Int32) (fk : Nat → Int32) (a0 : Nat) (a1 : Nat) (a2 : Nat) (a3 : Nat) (a4 : Nat) (fh : Nat → Int32) (fo : Nat → Int32) (fc : Nat → Int32) (fs : Nat → Int32) (hz : Nat) (mv : Nat) (tu : Int32) (rf : Int32) (b0 : Nat) (b1 : Nat) (fx : Nat → Int32) (ln : Nat) (d0 : Nat) (d1 : Nat) (fn : Nat → Int32) (od : Nat) (sz6 : Nat) (p0 : Int32) (hbad : (decide (0 ≤ p0) && decide (p0 ≤ 35)) = false) : vx_Met l yX4_tear wsX4_tear ({ frames := 6, cells := 1, slots := 6, locals := 82 }) (va_Pc [.ref x0, .int p0] (zWx D cI cZ cL [(x0, .inr (3, [.ref a0, .ref b0, .ref d0, .ref e1, .ref e2])), (a0, .inr (0, [.ref a1, .ref a2, .ref a3, .ref a4, .int (nI hz), .int (nI mv), .int tu, .int rf])), (a1, .inl (cI, 36, .inl fh)), (a2, .inl (cI, 36, .inl fo)), (a3, .inl (cI, 36, .inl fc)), (a4, .inl (cI, 2, .inl fs)), (b0, .inr (1, [.ref b1, .int (nI ln)])), (b1, .inl (cI, 60, .inl fx)), (d0, .inr (2, [.ref d1, .int (nI od), .int (nI sz6)])), (d1, .inl (cI, 684, .inl fn)), (e1, .inl (cI, 228, .inl fl)), (e2, .inl (cZ, 2, .inl fk))])) (fun _ _ _ _ => False) (xXC xOOB) 1 6 (fun _ => False) := by
  refine vx_ofW (cc := cX4_tear) (maxL := 3) (ret := (some .int)) (by decide) rfl ?_
  intro p e s m args below meth c s₁ B hml ht0 hv
  obtain ⟨rfl, ⟨⟨hP, hK⟩, hN⟩, hXN, hUS⟩ := hv
  have hx := B.exec
  have hb := B.bytes
  have hr := B.returns
  have hts := atoms_spec (ws := wsX4_tear) B.pre
  have hown : s.vm.findClass RX4 = some m.cls := findClass_of_methodNamed B.named
  have hlocks := B.notSynchronized
  have hl := lv_entry ([.ref x0, .int p0]) (n := 3) (Nat.le_of_ble_eq_true rfl)
  rw [lg_entry_eq]
  generalize (lg_sl ([.ref x0, .int p0]) ++ List.replicate (3 - (lg_sl ([.ref x0, .int p0])).length) Slot.unset).toArray = ls at hl ⊢
  have hl : lv_has ls 3 [(0, .ref x0), (1, .int p0)] := hl
  refine lv_iload_n hx hb dX4_tear_0 rfl (lv_at hl 1 rfl) ?_
  refine z_ci (va_runS (As := [.int p0]) (rest := []) ⟨hx, hb, hml, hown, hts⟩ (c_X4_isSquare l (p0 := p0)) (va_cwS 1 hts gX4_tear_X4_isSquare rfl rfl rfl (by decide +kernel) ⟨Nat.le_of_ble_eq_true rfl, Nat.le_of_ble_eq_true rfl⟩) z_preS rfl rfl hl.1 rfl (lv_room (Nat.le_of_ble_eq_true rfl)) dX4_tear_1 ⟨Nat.le_of_ble_eq_true rfl, Nat.le_of_ble_eq_true rfl⟩) ?_
  refine z_top (y := 0) (by rw [hbad]; rfl) ?_
  refine z_if_ne (tgt := 17) (P := True) hx hb dX4_tear_4 (by decide) (by decide) (fun c4 => (show False from c4 trivial).elim) (fun c4 => ?_)
  obtain ⟨sa, hsa⟩ := hXN.2.2 (44, "no such square") (by decide)
  exact vx_throwS (own := RX4) (cls := xOOB) (text := "no such square") (names := xNm) (ik := 42) (is := 44) (ic := 46) (A := fun _ => False) hx hb hlt hown (by decide) (by decide) (hts (.classLink RX4 42 xOOB) (by decide +kernel)) (hts (.initialized xOOB) (by decide +kernel)) hsa (vx_hat (fun w hw => hts w (List.mem_cons_of_mem _ (List.mem_append_right _ hw))) x_b46 (hXN.use (by decide))) x_g46 hUS.1 hUS.2 va_S.rf (hl.1.trans hml.symm) dX4_tear_7 dX4_tear_10 dX4_tear_11 dX4_tear_13 dX4_tear_16 (x_cov ht0) (Nat.le_of_ble_eq_true rfl) (Nat.le_of_ble_eq_true rfl) (Nat.le_of_ble_eq_true rfl) (Nat.le_of_ble_eq_true rfl) hlocks (x_hx rfl) (fun z hz => nomatch hz) (by decide) (by decide)

set_option maxHeartbeats 4000000 in
set_option maxRecDepth 100000 in
theorem x_X4_hour_out (l : Launch) (hlt : l.stackTraces = false) (D : va_G) (cI cZ cL : ClassId) (x0 : Nat) (e1 : Nat) (e2 : Nat) (fl : Nat → Int32) (fk : Nat → Int32) (a0 : Nat) (a1 : Nat) (a2 : Nat) (a3 : Nat) (a4 : Nat) (fh : Nat → Int32) (fo : Nat → Int32) (fc : Nat → Int32) (fs : Nat → Int32) (hz : Nat) (mv : Nat) (tu : Int32) (rf : Int32) (b0 : Nat) (b1 : Nat) (fx : Nat → Int32) (ln : Nat) (d0 : Nat) (d1 : Nat) (fn : Nat → Int32) (od : Nat) (sz6 : Nat) (p0 : Int32) (hout : 0 ≤ p0 → ¬ 12 ≤ p0 → False) : vx_Met l yX4_hour wsX4_hour ({ frames := 6, cells := 1, slots := 6, locals := 82 }) (va_Pc [.ref x0, .int p0] (zWx D cI cZ cL [(x0, .inr (3, [.ref a0, .ref b0, .ref d0, .ref e1, .ref e2])), (a0, .inr (0, [.ref a1, .ref a2, .ref a3, .ref a4, .int (nI hz), .int (nI mv), .int tu, .int rf])), (a1, .inl (cI, 36, .inl fh)), (a2, .inl (cI, 36, .inl fo)), (a3, .inl (cI, 36, .inl fc)), (a4, .inl (cI, 2, .inl fs)), (b0, .inr (1, [.ref b1, .int (nI ln)])), (b1, .inl (cI, 60, .inl fx)), (d0, .inr (2, [.ref d1, .int (nI od), .int (nI sz6)])), (d1, .inl (cI, 684, .inl fn)), (e1, .inl (cI, 228, .inl fl)), (e2, .inl (cZ, 2, .inl fk))])) (fun _ _ _ _ => False) (xXC xIAE) 1 6 (fun _ => False) := by
  refine vx_ofW (cc := cX4_hour) (maxL := 3) (ret := (some .int)) (by decide) rfl ?_
  intro p e s m args below meth c s₁ B hml ht0 hv
  obtain ⟨rfl, ⟨⟨hP, hK⟩, hN⟩, hXN, hUS⟩ := hv
  have hx := B.exec
  have hb := B.bytes
  have hr := B.returns
  have hts := atoms_spec (ws := wsX4_hour) B.pre
  have hown : s.vm.findClass RX4 = some m.cls := findClass_of_methodNamed B.named
  have hlocks := B.notSynchronized
  have hl := lv_entry ([.ref x0, .int p0]) (n := 3) (Nat.le_of_ble_eq_true rfl)
  rw [lg_entry_eq]
  generalize (lg_sl ([.ref x0, .int p0]) ++ List.replicate (3 - (lg_sl ([.ref x0, .int p0])).length) Slot.unset).toArray = ls at hl ⊢
  have hl : lv_has ls 3 [(0, .ref x0), (1, .int p0)] := hl
  refine lv_iload_n hx hb dX4_hour_0 rfl (lv_at hl 1 rfl) ?_
  refine z_if_lt (tgt := 10) (P := ¬ 0 ≤ p0) hx hb dX4_hour_1 (by decide) (Int32.not_le.symm) (fun c1 => ?_) (fun c1 => ?_)
  · skip
    obtain ⟨sa, hsa⟩ := hXN.2.2 (85, "hour is not 0 to 11") (by decide)
    exact vx_throwS (own := RX4) (cls := xIAE) (text := "hour is not 0 to 11") (names := xNm) (ik := 77) (is := 85) (ic := 81) (A := fun _ => False) hx hb hlt hown (by decide) (by decide) (hts (.classLink RX4 77 xIAE) (by decide +kernel)) (hts (.initialized xIAE) (by decide +kernel)) hsa (vx_hat (fun w hw => hts w (List.mem_cons_of_mem _ (List.mem_append_right _ hw))) x_b81 (hXN.use (by decide))) x_g81 hUS.1 hUS.2 va_S.rf (hl.1.trans hml.symm) dX4_hour_10 dX4_hour_13 dX4_hour_14 dX4_hour_16 dX4_hour_19 (x_cov ht0) (Nat.le_of_ble_eq_true rfl) (Nat.le_of_ble_eq_true rfl) (Nat.le_of_ble_eq_true rfl) (Nat.le_of_ble_eq_true rfl) hlocks (x_hx rfl) (fun z hz => nomatch hz) (by decide) (by decide)
  · skip
    replace c1 := Classical.not_not.mp c1
    refine lv_iload_n hx hb dX4_hour_4 rfl (lv_at hl 1 rfl) ?_
    refine lv_bipush (v := 12) hx hb dX4_hour_5 (by decide) ?_
    refine z_icmp_lt (tgt := 20) (P := ¬ 12 ≤ p0) hx hb dX4_hour_7 (by decide) (Int32.not_le.symm) (fun c7 => (show False from hout c1 c7).elim) (fun c7 => ?_)
    obtain ⟨sa, hsa⟩ := hXN.2.2 (85, "hour is not 0 to 11") (by decide)
    exact vx_throwS (own := RX4) (cls := xIAE) (text := "hour is not 0 to 11") (names := xNm) (ik := 77) (is := 85) (ic := 81) (A := fun _ => False) hx hb hlt hown (by decide) (by decide) (hts (.classLink RX4 77 xIAE) (by decide +kernel)) (hts (.initialized xIAE) (by decide +kernel)) hsa (vx_hat (fun w hw => hts w (List.mem_cons_of_mem _ (List.mem_append_right _ hw))) x_b81 (hXN.use (by decide))) x_g81 hUS.1 hUS.2 va_S.rf (hl.1.trans hml.symm) dX4_hour_10 dX4_hour_13 dX4_hour_14 dX4_hour_16 dX4_hour_19 (x_cov ht0) (Nat.le_of_ble_eq_true rfl) (Nat.le_of_ble_eq_true rfl) (Nat.le_of_ble_eq_true rfl) (Nat.le_of_ble_eq_true rfl) hlocks (x_hx rfl) (fun z hz => nomatch hz) (by decide) (by decide)

set_option maxHeartbeats 4000000 in
set_option maxRecDepth 100000 in
theorem x_X4_append_out (l : Launch) (hlt : l.stackTraces = false) (D : va_G) (cI cZ cL : ClassId) (x0 : Nat) (e1 : Nat) (e2 : Nat) (fl : Nat → Int32) (fk : Nat → Int32) (a0 : Nat) (a1 : Nat) (a2 : Nat) (a3 : Nat) (a4 : Nat) (fh : Nat → Int32) (fo : Nat → Int32) (fc : Nat → Int32) (fs : Nat → Int32) (hz : Nat) (mv : Nat) (tu : Int32) (rf : Int32) (b0 : Nat) (b1 : Nat) (fx : Nat → Int32) (ln : Nat) (d0 : Nat) (d1 : Nat) (fn : Nat → Int32) (od : Nat) (sz6 : Nat) (p0 : Int32) (hout : 33 ≤ p0 → p0 ≤ 126 → False) : vx_Met l yX4_append wsX4_append ({ frames := 6, cells := 1, slots := 6, locals := 82 }) (va_Pc [.ref x0, .int p0] (zWx D cI cZ cL [(x0, .inr (3, [.ref a0, .ref b0, .ref d0, .ref e1, .ref e2])), (a0, .inr (0, [.ref a1, .ref a2, .ref a3, .ref a4, .int (nI hz), .int (nI mv), .int tu, .int rf])), (a1, .inl (cI, 36, .inl fh)), (a2, .inl (cI, 36, .inl fo)), (a3, .inl (cI, 36, .inl fc)), (a4, .inl (cI, 2, .inl fs)), (b0, .inr (1, [.ref b1, .int (nI ln)])), (b1, .inl (cI, 60, .inl fx)), (d0, .inr (2, [.ref d1, .int (nI od), .int (nI sz6)])), (d1, .inl (cI, 684, .inl fn)), (e1, .inl (cI, 228, .inl fl)), (e2, .inl (cZ, 2, .inl fk))])) (fun _ _ _ _ => False) (xXC xIAE) 1 6 (fun _ => False) := by
  refine vx_ofW (cc := cX4_append) (maxL := 2) (ret := (some .int)) (by decide) rfl ?_
  intro p e s m args below meth c s₁ B hml ht0 hv
  obtain ⟨rfl, ⟨⟨hP, hK⟩, hN⟩, hXN, hUS⟩ := hv
  have hx := B.exec
  have hb := B.bytes
  have hr := B.returns
  have hts := atoms_spec (ws := wsX4_append) B.pre
  have hown : s.vm.findClass RX4 = some m.cls := findClass_of_methodNamed B.named
  have hlocks := B.notSynchronized
  have hl := lv_entry ([.ref x0, .int p0]) (n := 2) (Nat.le_of_ble_eq_true rfl)
  rw [lg_entry_eq]
  generalize (lg_sl ([.ref x0, .int p0]) ++ List.replicate (2 - (lg_sl ([.ref x0, .int p0])).length) Slot.unset).toArray = ls at hl ⊢
  have hl : lv_has ls 2 [(0, .ref x0), (1, .int p0)] := hl
  refine lv_iload_n hx hb dX4_append_0 rfl (lv_at hl 1 rfl) ?_
  refine lv_bipush (v := 33) hx hb dX4_append_1 (by decide) ?_
  refine z_icmp_lt (tgt := 12) (P := ¬ 33 ≤ p0) hx hb dX4_append_3 (by decide) (Int32.not_le.symm) (fun c3 => ?_) (fun c3 => ?_)
  · skip
    obtain ⟨sa, hsa⟩ := hXN.2.2 (90, "code is not 33 to 126") (by decide)
    exact vx_throwS (own := RX4) (cls := xIAE) (text := "code is not 33 to 126") (names := xNm) (ik := 77) (is := 90) (ic := 81) (A := fun _ => False) hx hb hlt hown (by decide) (by decide) (hts (.classLink RX4 77 xIAE) (by decide +kernel)) (hts (.initialized xIAE) (by decide +kernel)) hsa (vx_hat (fun w hw => hts w (List.mem_cons_of_mem _ (List.mem_append_left _ (List.mem_append_right _ hw)))) x_b81 (hXN.use (by decide))) x_g81 hUS.1 hUS.2 va_S.rf (hl.1.trans hml.symm) dX4_append_12 dX4_append_15 dX4_append_16 dX4_append_18 dX4_append_21 (x_cov ht0) (Nat.le_of_ble_eq_true rfl) (Nat.le_of_ble_eq_true rfl) (Nat.le_of_ble_eq_true rfl) (Nat.le_of_ble_eq_true rfl) hlocks (x_hx rfl) (fun z hz => nomatch hz) (by decide) (by decide)
  · skip
    replace c3 := Classical.not_not.mp c3
    refine lv_iload_n hx hb dX4_append_6 rfl (lv_at hl 1 rfl) ?_
    refine lv_bipush (v := 126) hx hb dX4_append_7 (by decide) ?_
    refine z_icmp_le (tgt := 22) (P := p0 ≤ 126) hx hb dX4_append_9 (by decide) (Iff.rfl) (fun c9 => (show False from hout c3 c9).elim) (fun c9 => ?_)
    obtain ⟨sa, hsa⟩ := hXN.2.2 (90, "code is not 33 to 126") (by decide)
    exact vx_throwS (own := RX4) (cls := xIAE) (text := "code is not 33 to 126") (names := xNm) (ik := 77) (is := 90) (ic := 81) (A := fun _ => False) hx hb hlt hown (by decide) (by decide) (hts (.classLink RX4 77 xIAE) (by decide +kernel)) (hts (.initialized xIAE) (by decide +kernel)) hsa (vx_hat (fun w hw => hts w (List.mem_cons_of_mem _ (List.mem_append_left _ (List.mem_append_right _ hw)))) x_b81 (hXN.use (by decide))) x_g81 hUS.1 hUS.2 va_S.rf (hl.1.trans hml.symm) dX4_append_12 dX4_append_15 dX4_append_16 dX4_append_18 dX4_append_21 (x_cov ht0) (Nat.le_of_ble_eq_true rfl) (Nat.le_of_ble_eq_true rfl) (Nat.le_of_ble_eq_true rfl) (Nat.le_of_ble_eq_true rfl) hlocks (x_hx rfl) (fun z hz => nomatch hz) (by decide) (by decide)

set_option maxHeartbeats 4000000 in
set_option maxRecDepth 100000 in
theorem x_X4_append_full (l : Launch) (hlt : l.stackTraces = false) (D : va_G) (cI cZ cL : ClassId) (x0 : Nat) (e1 : Nat) (e2 : Nat) (fl : Nat → Int32) (fk : Nat → Int32) (a0 : Nat) (a1 : Nat) (a2 : Nat) (a3 : Nat) (a4 : Nat) (fh : Nat → Int32) (fo : Nat → Int32) (fc : Nat → Int32) (fs : Nat → Int32) (hz : Nat) (mv : Nat) (tu : Int32) (rf : Int32) (b0 : Nat) (b1 : Nat) (fx : Nat → Int32) (ln : Nat) (d0 : Nat) (d1 : Nat) (fn : Nat → Int32) (od : Nat) (sz6 : Nat) (p0 : Int32) (h33 : 33 ≤ p0) (h126 : p0 ≤ 126) (hfu : ln = 60) : vx_Met l yX4_append wsX4_append ({ frames := 6, cells := 1, slots := 6, locals := 82 }) (va_Pc [.ref x0, .int p0] (zWx D cI cZ cL [(x0, .inr (3, [.ref a0, .ref b0, .ref d0, .ref e1, .ref e2])), (a0, .inr (0, [.ref a1, .ref a2, .ref a3, .ref a4, .int (nI hz), .int (nI mv), .int tu, .int rf])), (a1, .inl (cI, 36, .inl fh)), (a2, .inl (cI, 36, .inl fo)), (a3, .inl (cI, 36, .inl fc)), (a4, .inl (cI, 2, .inl fs)), (b0, .inr (1, [.ref b1, .int (nI ln)])), (b1, .inl (cI, 60, .inl fx)), (d0, .inr (2, [.ref d1, .int (nI od), .int (nI sz6)])), (d1, .inl (cI, 684, .inl fn)), (e1, .inl (cI, 228, .inl fl)), (e2, .inl (cZ, 2, .inl fk))])) (fun _ _ _ _ => False) (xXC xISE) 1 6 (fun _ => False) := by
  refine vx_ofW (cc := cX4_append) (maxL := 2) (ret := (some .int)) (by decide) rfl ?_
  intro p e s m args below meth c s₁ B hml ht0 hv
  obtain ⟨rfl, ⟨⟨hP, hK⟩, hN⟩, hXN, hUS⟩ := hv
  have hx := B.exec
  have hb := B.bytes
  have hr := B.returns
  have hts := atoms_spec (ws := wsX4_append) B.pre
  have hown : s.vm.findClass RX4 = some m.cls := findClass_of_methodNamed B.named
  have hlocks := B.notSynchronized
  have in3 : ∀ w ∈ u_ws RX4 TX4 5, w ∈ wsX4_append := by decide +kernel
  have fl19 := hts (.fieldLink RX4 19 "TowerShades" "text" "LTowerShades$FieldText;") (by decide +kernel)
  have hl := lv_entry ([.ref x0, .int p0]) (n := 2) (Nat.le_of_ble_eq_true rfl)
  rw [lg_entry_eq]
  generalize (lg_sl ([.ref x0, .int p0]) ++ List.replicate (2 - (lg_sl ([.ref x0, .int p0])).length) Slot.unset).toArray = ls at hl ⊢
  have hl : lv_has ls 2 [(0, .ref x0), (1, .int p0)] := hl
  refine lv_iload_n hx hb dX4_append_0 rfl (lv_at hl 1 rfl) ?_
  refine lv_bipush (v := 33) hx hb dX4_append_1 (by decide) ?_
  refine z_icmp_lt (tgt := 12) (P := ¬ 33 ≤ p0) hx hb dX4_append_3 (by decide) (Int32.not_le.symm) (fun c3 => (show False from c3 h33).elim) (fun c3 => ?_)
  refine lv_iload_n hx hb dX4_append_6 rfl (lv_at hl 1 rfl) ?_
  refine lv_bipush (v := 126) hx hb dX4_append_7 (by decide) ?_
  refine z_icmp_le (tgt := 22) (P := p0 ≤ 126) hx hb dX4_append_9 (by decide) (Iff.rfl) (fun c9 => ?_) (fun c9 => (show False from c9 h126).elim)
  refine lv_aload_n hx hb dX4_append_22 rfl (lv_at hl 0 rfl) ?_
  refine va_get (D := D) (ci := 3) (v := .ref b0) (C := RX4) (T := TX4) (N := 5) hx hb hts in3 hown hK hP 0 rfl rfl 1 (by decide) fl19 (fun _ h9 => h9) rfl dX4_append_23 ?_
  refine z_ci (va_runV (As := []) (rest := []) ⟨hx, hb, hml, hown, hts⟩ (c_X1_isFull l D cI cZ cL (b0 := b0) (b1 := b1) (fx := fx) (ln := ln) (hln := by omega)) (cwV 0 hts gX4_append_X1_isFull rfl rfl rfl (by decide +kernel) ⟨Nat.le_of_ble_eq_true rfl, Nat.le_of_ble_eq_true rfl⟩) (z_preV hK (hP.sub [6, 7] rfl) 0 1 rfl rfl) rfl rfl hl.1 rfl (lv_room (Nat.le_of_ble_eq_true rfl)) dX4_append_26 ⟨Nat.le_of_ble_eq_true rfl, Nat.le_of_ble_eq_true rfl⟩) ?_
  refine z_if_eq (tgt := 42) (P := (decide (60 ≤ ln)) = false) hx hb dX4_append_29 (by decide) (zb_eq0) (fun c29 => (show False from by simp at c29; omega).elim) (fun c29 => ?_)
  obtain ⟨sa, hsa⟩ := hXN.2.2 (98, "the buffer is full") (by decide)
  exact vx_throwS (own := RX4) (cls := xISE) (text := "the buffer is full") (names := xNm) (ik := 96) (is := 98) (ic := 100) (A := fun _ => False) hx hb hlt hown (by decide) (by decide) (hts (.classLink RX4 96 xISE) (by decide +kernel)) (hts (.initialized xISE) (by decide +kernel)) hsa (vx_hat (fun w hw => hts w (List.mem_cons_of_mem _ (List.mem_append_right _ hw))) x_b100 (hXN.use (by decide))) x_g100 hUS.1 hUS.2 va_S.rf (hl.1.trans hml.symm) dX4_append_32 dX4_append_35 dX4_append_36 dX4_append_38 dX4_append_41 (x_cov ht0) (Nat.le_of_ble_eq_true rfl) (Nat.le_of_ble_eq_true rfl) (Nat.le_of_ble_eq_true rfl) (Nat.le_of_ble_eq_true rfl) hlocks (x_hx rfl) (fun z hz => nomatch hz) (by decide) (by decide)

set_option maxHeartbeats 4000000 in
set_option maxRecDepth 100000 in
theorem x_X4_load_bad (l : Launch) (hlt : l.stackTraces = false) (D : va_G) (cI cZ cL : ClassId) (x0 : Nat) (e1 : Nat) (e2 : Nat) (fl : Nat → Int32) (fk : Nat → Int32) (a0 : Nat) (a1 : Nat) (a2 : Nat) (a3 : Nat) (a4 : Nat) (fh : Nat → Int32) (fo : Nat → Int32) (fc : Nat → Int32) (fs : Nat → Int32) (hz : Nat) (mv : Nat) (tu : Int32) (rf : Int32) (b0 : Nat) (b1 : Nat) (fx : Nat → Int32) (ln : Nat) (d0 : Nat) (d1 : Nat) (fn : Nat → Int32) (od : Nat) (sz6 : Nat) (hw : pWh fx ln = false) (hln : ln ≤ 60) : vx_Met l yX4_load wsX4_load ({ frames := 6, cells := 1, slots := 6, locals := 83 }) (va_Pc [.ref x0] (zWx D cI cZ cL [(x0, .inr (3, [.ref a0, .ref b0, .ref d0, .ref e1, .ref e2])), (a0, .inr (0, [.ref a1, .ref a2, .ref a3, .ref a4, .int (nI hz), .int (nI mv), .int tu, .int rf])), (a1, .inl (cI, 36, .inl fh)), (a2, .inl (cI, 36, .inl fo)), (a3, .inl (cI, 36, .inl fc)), (a4, .inl (cI, 2, .inl fs)), (b0, .inr (1, [.ref b1, .int (nI ln)])), (b1, .inl (cI, 60, .inl fx)), (d0, .inr (2, [.ref d1, .int (nI od), .int (nI sz6)])), (d1, .inl (cI, 684, .inl fn)), (e1, .inl (cI, 228, .inl fl)), (e2, .inl (cZ, 2, .inl fk))])) (fun _ _ _ _ => False) (xXC xIAE) 1 6 (fun _ => False) := by
  refine vx_ofW (cc := cX4_load) (maxL := 3) (ret := (some .int)) (by decide) rfl ?_
  intro p e s m args below meth c s₁ B hml ht0 hv
  obtain ⟨rfl, ⟨⟨hP, hK⟩, hN⟩, hXN, hUS⟩ := hv
  have hx := B.exec
  have hb := B.bytes
  have hr := B.returns
  have hts := atoms_spec (ws := wsX4_load) B.pre
  have hown : s.vm.findClass RX4 = some m.cls := findClass_of_methodNamed B.named
  have hlocks := B.notSynchronized
  have in3 : ∀ w ∈ u_ws RX4 TX4 5, w ∈ wsX4_load := by decide +kernel
  have fl19 := hts (.fieldLink RX4 19 "TowerShades" "text" "LTowerShades$FieldText;") (by decide +kernel)
  have hl := lv_entry ([.ref x0]) (n := 3) (Nat.le_of_ble_eq_true rfl)
  rw [lg_entry_eq]
  generalize (lg_sl ([.ref x0]) ++ List.replicate (3 - (lg_sl ([.ref x0])).length) Slot.unset).toArray = ls at hl ⊢
  have hl : lv_has ls 3 [(0, .ref x0)] := hl
  refine lv_aload_n hx hb dX4_load_0 rfl (lv_at hl 0 rfl) ?_
  refine va_get (D := D) (ci := 3) (v := .ref b0) (C := RX4) (T := TX4) (N := 5) hx hb hts in3 hown hK hP 0 rfl rfl 1 (by decide) fl19 (fun _ h9 => h9) rfl dX4_load_1 ?_
  refine z_ci (va_runV (As := []) (rest := []) ⟨hx, hb, hml, hown, hts⟩ (c_X1_isWhole l D cI cZ cL (b0 := b0) (b1 := b1) (fx := fx) (ln := ln) (hln := by omega)) (cwV 0 hts gX4_load_X1_isWhole rfl rfl rfl (by decide +kernel) ⟨Nat.le_of_ble_eq_true rfl, Nat.le_of_ble_eq_true rfl⟩) (z_preV hK (hP.sub [6, 7] rfl) 0 1 rfl rfl) rfl rfl hl.1 rfl (lv_room (Nat.le_of_ble_eq_true rfl)) dX4_load_4 ⟨Nat.le_of_ble_eq_true rfl, Nat.le_of_ble_eq_true rfl⟩) ?_
  refine z_top (y := 0) (by rw [hw]; rfl) ?_
  refine z_if_ne (tgt := 20) (P := True) hx hb dX4_load_7 (by decide) (by decide) (fun c7 => (show False from c7 trivial).elim) (fun c7 => ?_)
  obtain ⟨sa, hsa⟩ := hXN.2.2 (115, "the buffer tells no field") (by decide)
  exact vx_throwS (own := RX4) (cls := xIAE) (text := "the buffer tells no field") (names := xNm) (ik := 77) (is := 115) (ic := 81) (A := fun _ => False) hx hb hlt hown (by decide) (by decide) (hts (.classLink RX4 77 xIAE) (by decide +kernel)) (hts (.initialized xIAE) (by decide +kernel)) hsa (vx_hat (fun w hw => hts w (List.mem_cons_of_mem _ (List.mem_append_right _ hw))) x_b81 (hXN.use (by decide))) x_g81 hUS.1 hUS.2 va_S.rf (hl.1.trans hml.symm) dX4_load_10 dX4_load_13 dX4_load_14 dX4_load_16 dX4_load_19 (x_cov ht0) (Nat.le_of_ble_eq_true rfl) (Nat.le_of_ble_eq_true rfl) (Nat.le_of_ble_eq_true rfl) (Nat.le_of_ble_eq_true rfl) hlocks (x_hx rfl) (fun z hz => nomatch hz) (by decide) (by decide)

set_option maxHeartbeats 4000000 in
set_option maxRecDepth 100000 in
theorem x_X4_keep_out (l : Launch) (hlt : l.stackTraces = false) (D : va_G) (cI cZ cL : ClassId) (x0 : Nat) (e1 : Nat) (e2 : Nat) (fl : Nat → Int32) (fk : Nat → Int32) (a0 : Nat) (a1 : Nat) (a2 : Nat) (a3 : Nat) (a4 : Nat) (fh : Nat → Int32) (fo : Nat → Int32) (fc : Nat → Int32) (fs : Nat → Int32) (hz : Nat) (mv : Nat) (tu : Int32) (rf : Int32) (b0 : Nat) (b1 : Nat) (fx : Nat → Int32) (ln : Nat) (d0 : Nat) (d1 : Nat) (fn : Nat → Int32) (od : Nat) (sz6 : Nat) (p0 : Int32) (hout : 0 ≤ p0 → ¬ 2 ≤ p0 → False) : vx_Met l yX4_keep wsX4_keep ({ frames := 6, cells := 1, slots := 6, locals := 82 }) (va_Pc [.ref x0, .int p0] (zWx D cI cZ cL [(x0, .inr (3, [.ref a0, .ref b0, .ref d0, .ref e1, .ref e2])), (a0, .inr (0, [.ref a1, .ref a2, .ref a3, .ref a4, .int (nI hz), .int (nI mv), .int tu, .int rf])), (a1, .inl (cI, 36, .inl fh)), (a2, .inl (cI, 36, .inl fo)), (a3, .inl (cI, 36, .inl fc)), (a4, .inl (cI, 2, .inl fs)), (b0, .inr (1, [.ref b1, .int (nI ln)])), (b1, .inl (cI, 60, .inl fx)), (d0, .inr (2, [.ref d1, .int (nI od), .int (nI sz6)])), (d1, .inl (cI, 684, .inl fn)), (e1, .inl (cI, 228, .inl fl)), (e2, .inl (cZ, 2, .inl fk))])) (fun _ _ _ _ => False) (xXC xIAE) 1 6 (fun _ => False) := by
  refine vx_ofW (cc := cX4_keep) (maxL := 2) (ret := (some .int)) (by decide) rfl ?_
  intro p e s m args below meth c s₁ B hml ht0 hv
  obtain ⟨rfl, ⟨⟨hP, hK⟩, hN⟩, hXN, hUS⟩ := hv
  have hx := B.exec
  have hb := B.bytes
  have hr := B.returns
  have hts := atoms_spec (ws := wsX4_keep) B.pre
  have hown : s.vm.findClass RX4 = some m.cls := findClass_of_methodNamed B.named
  have hlocks := B.notSynchronized
  have hl := lv_entry ([.ref x0, .int p0]) (n := 2) (Nat.le_of_ble_eq_true rfl)
  rw [lg_entry_eq]
  generalize (lg_sl ([.ref x0, .int p0]) ++ List.replicate (2 - (lg_sl ([.ref x0, .int p0])).length) Slot.unset).toArray = ls at hl ⊢
  have hl : lv_has ls 2 [(0, .ref x0), (1, .int p0)] := hl
  refine lv_iload_n hx hb dX4_keep_0 rfl (lv_at hl 1 rfl) ?_
  refine z_if_lt (tgt := 9) (P := ¬ 0 ≤ p0) hx hb dX4_keep_1 (by decide) (Int32.not_le.symm) (fun c1 => ?_) (fun c1 => ?_)
  · skip
    obtain ⟨sa, hsa⟩ := hXN.2.2 (126, "slot is not 0 or 1") (by decide)
    exact vx_throwS (own := RX4) (cls := xIAE) (text := "slot is not 0 or 1") (names := xNm) (ik := 77) (is := 126) (ic := 81) (A := fun _ => False) hx hb hlt hown (by decide) (by decide) (hts (.classLink RX4 77 xIAE) (by decide +kernel)) (hts (.initialized xIAE) (by decide +kernel)) hsa (vx_hat (fun w hw => hts w (List.mem_cons_of_mem _ (List.mem_append_right _ hw))) x_b81 (hXN.use (by decide))) x_g81 hUS.1 hUS.2 va_S.rf (hl.1.trans hml.symm) dX4_keep_9 dX4_keep_12 dX4_keep_13 dX4_keep_15 dX4_keep_18 (x_cov ht0) (Nat.le_of_ble_eq_true rfl) (Nat.le_of_ble_eq_true rfl) (Nat.le_of_ble_eq_true rfl) (Nat.le_of_ble_eq_true rfl) hlocks (x_hx rfl) (fun z hz => nomatch hz) (by decide) (by decide)
  · skip
    replace c1 := Classical.not_not.mp c1
    refine lv_iload_n hx hb dX4_keep_4 rfl (lv_at hl 1 rfl) ?_
    refine lv_iconst (v := 2) hx hb dX4_keep_5 (by decide) ?_
    refine z_icmp_lt (tgt := 19) (P := ¬ 2 ≤ p0) hx hb dX4_keep_6 (by decide) (Int32.not_le.symm) (fun c6 => (show False from hout c1 c6).elim) (fun c6 => ?_)
    obtain ⟨sa, hsa⟩ := hXN.2.2 (126, "slot is not 0 or 1") (by decide)
    exact vx_throwS (own := RX4) (cls := xIAE) (text := "slot is not 0 or 1") (names := xNm) (ik := 77) (is := 126) (ic := 81) (A := fun _ => False) hx hb hlt hown (by decide) (by decide) (hts (.classLink RX4 77 xIAE) (by decide +kernel)) (hts (.initialized xIAE) (by decide +kernel)) hsa (vx_hat (fun w hw => hts w (List.mem_cons_of_mem _ (List.mem_append_right _ hw))) x_b81 (hXN.use (by decide))) x_g81 hUS.1 hUS.2 va_S.rf (hl.1.trans hml.symm) dX4_keep_9 dX4_keep_12 dX4_keep_13 dX4_keep_15 dX4_keep_18 (x_cov ht0) (Nat.le_of_ble_eq_true rfl) (Nat.le_of_ble_eq_true rfl) (Nat.le_of_ble_eq_true rfl) (Nat.le_of_ble_eq_true rfl) hlocks (x_hx rfl) (fun z hz => nomatch hz) (by decide) (by decide)

set_option maxHeartbeats 4000000 in
set_option maxRecDepth 100000 in
theorem x_X4_goBack_out (l : Launch) (hlt : l.stackTraces = false) (D : va_G) (cI cZ cL : ClassId) (x0 : Nat) (e1 : Nat) (e2 : Nat) (fl : Nat → Int32) (fk : Nat → Int32) (a0 : Nat) (a1 : Nat) (a2 : Nat) (a3 : Nat) (a4 : Nat) (fh : Nat → Int32) (fo : Nat → Int32) (fc : Nat → Int32) (fs : Nat → Int32) (hz : Nat) (mv : Nat) (tu : Int32) (rf : Int32) (b0 : Nat) (b1 : Nat) (fx : Nat → Int32) (ln : Nat) (d0 : Nat) (d1 : Nat) (fn : Nat → Int32) (od : Nat) (sz6 : Nat) (p0 : Int32) (hout : 0 ≤ p0 → ¬ 2 ≤ p0 → False) : vx_Met l yX4_goBack wsX4_goBack ({ frames := 6, cells := 1, slots := 6, locals := 82 }) (va_Pc [.ref x0, .int p0] (zWx D cI cZ cL [(x0, .inr (3, [.ref a0, .ref b0, .ref d0, .ref e1, .ref e2])), (a0, .inr (0, [.ref a1, .ref a2, .ref a3, .ref a4, .int (nI hz), .int (nI mv), .int tu, .int rf])), (a1, .inl (cI, 36, .inl fh)), (a2, .inl (cI, 36, .inl fo)), (a3, .inl (cI, 36, .inl fc)), (a4, .inl (cI, 2, .inl fs)), (b0, .inr (1, [.ref b1, .int (nI ln)])), (b1, .inl (cI, 60, .inl fx)), (d0, .inr (2, [.ref d1, .int (nI od), .int (nI sz6)])), (d1, .inl (cI, 684, .inl fn)), (e1, .inl (cI, 228, .inl fl)), (e2, .inl (cZ, 2, .inl fk))])) (fun _ _ _ _ => False) (xXC xIAE) 1 6 (fun _ => False) := by
  refine vx_ofW (cc := cX4_goBack) (maxL := 2) (ret := (some .int)) (by decide) rfl ?_
  intro p e s m args below meth c s₁ B hml ht0 hv
  obtain ⟨rfl, ⟨⟨hP, hK⟩, hN⟩, hXN, hUS⟩ := hv
  have hx := B.exec
  have hb := B.bytes
  have hr := B.returns
  have hts := atoms_spec (ws := wsX4_goBack) B.pre
  have hown : s.vm.findClass RX4 = some m.cls := findClass_of_methodNamed B.named
  have hlocks := B.notSynchronized
  have hl := lv_entry ([.ref x0, .int p0]) (n := 2) (Nat.le_of_ble_eq_true rfl)
  rw [lg_entry_eq]
  generalize (lg_sl ([.ref x0, .int p0]) ++ List.replicate (2 - (lg_sl ([.ref x0, .int p0])).length) Slot.unset).toArray = ls at hl ⊢
  have hl : lv_has ls 2 [(0, .ref x0), (1, .int p0)] := hl
  refine lv_iload_n hx hb dX4_goBack_0 rfl (lv_at hl 1 rfl) ?_
  refine z_if_lt (tgt := 9) (P := ¬ 0 ≤ p0) hx hb dX4_goBack_1 (by decide) (Int32.not_le.symm) (fun c1 => ?_) (fun c1 => ?_)
  · skip
    obtain ⟨sa, hsa⟩ := hXN.2.2 (126, "slot is not 0 or 1") (by decide)
    exact vx_throwS (own := RX4) (cls := xIAE) (text := "slot is not 0 or 1") (names := xNm) (ik := 77) (is := 126) (ic := 81) (A := fun _ => False) hx hb hlt hown (by decide) (by decide) (hts (.classLink RX4 77 xIAE) (by decide +kernel)) (hts (.initialized xIAE) (by decide +kernel)) hsa (vx_hat (fun w hw => hts w (List.mem_cons_of_mem _ (List.mem_append_left _ (List.mem_append_right _ hw)))) x_b81 (hXN.use (by decide))) x_g81 hUS.1 hUS.2 va_S.rf (hl.1.trans hml.symm) dX4_goBack_9 dX4_goBack_12 dX4_goBack_13 dX4_goBack_15 dX4_goBack_18 (x_cov ht0) (Nat.le_of_ble_eq_true rfl) (Nat.le_of_ble_eq_true rfl) (Nat.le_of_ble_eq_true rfl) (Nat.le_of_ble_eq_true rfl) hlocks (x_hx rfl) (fun z hz => nomatch hz) (by decide) (by decide)
  · skip
    replace c1 := Classical.not_not.mp c1
    refine lv_iload_n hx hb dX4_goBack_4 rfl (lv_at hl 1 rfl) ?_
    refine lv_iconst (v := 2) hx hb dX4_goBack_5 (by decide) ?_
    refine z_icmp_lt (tgt := 19) (P := ¬ 2 ≤ p0) hx hb dX4_goBack_6 (by decide) (Int32.not_le.symm) (fun c6 => (show False from hout c1 c6).elim) (fun c6 => ?_)
    obtain ⟨sa, hsa⟩ := hXN.2.2 (126, "slot is not 0 or 1") (by decide)
    exact vx_throwS (own := RX4) (cls := xIAE) (text := "slot is not 0 or 1") (names := xNm) (ik := 77) (is := 126) (ic := 81) (A := fun _ => False) hx hb hlt hown (by decide) (by decide) (hts (.classLink RX4 77 xIAE) (by decide +kernel)) (hts (.initialized xIAE) (by decide +kernel)) hsa (vx_hat (fun w hw => hts w (List.mem_cons_of_mem _ (List.mem_append_left _ (List.mem_append_right _ hw)))) x_b81 (hXN.use (by decide))) x_g81 hUS.1 hUS.2 va_S.rf (hl.1.trans hml.symm) dX4_goBack_9 dX4_goBack_12 dX4_goBack_13 dX4_goBack_15 dX4_goBack_18 (x_cov ht0) (Nat.le_of_ble_eq_true rfl) (Nat.le_of_ble_eq_true rfl) (Nat.le_of_ble_eq_true rfl) (Nat.le_of_ble_eq_true rfl) hlocks (x_hx rfl) (fun z hz => nomatch hz) (by decide) (by decide)

set_option maxHeartbeats 4000000 in
set_option maxRecDepth 100000 in
theorem x_X4_goBack_none (l : Launch) (hlt : l.stackTraces = false) (D : va_G) (cI cZ cL : ClassId) (x0 : Nat) (e1 : Nat) (e2 : Nat) (fl : Nat → Int32) (fk : Nat → Int32) (a0 : Nat) (a1 : Nat) (a2 : Nat) (a3 : Nat) (a4 : Nat) (fh : Nat → Int32) (fo : Nat → Int32) (fc : Nat → Int32) (fs : Nat → Int32) (hz : Nat) (mv : Nat) (tu : Int32) (rf : Int32) (b0 : Nat) (b1 : Nat) (fx : Nat → Int32) (ln : Nat) (d0 : Nat) (d1 : Nat) (fn : Nat → Int32) (od : Nat) (sz6 : Nat) (sl : Nat) (hsl : sl < 2) (hgk : fk sl = 0) : vx_Met l yX4_goBack wsX4_goBack ({ frames := 6, cells := 1, slots := 6, locals := 82 }) (va_Pc [.ref x0, .int (nI sl)] (zWx D cI cZ cL [(x0, .inr (3, [.ref a0, .ref b0, .ref d0, .ref e1, .ref e2])), (a0, .inr (0, [.ref a1, .ref a2, .ref a3, .ref a4, .int (nI hz), .int (nI mv), .int tu, .int rf])), (a1, .inl (cI, 36, .inl fh)), (a2, .inl (cI, 36, .inl fo)), (a3, .inl (cI, 36, .inl fc)), (a4, .inl (cI, 2, .inl fs)), (b0, .inr (1, [.ref b1, .int (nI ln)])), (b1, .inl (cI, 60, .inl fx)), (d0, .inr (2, [.ref d1, .int (nI od), .int (nI sz6)])), (d1, .inl (cI, 684, .inl fn)), (e1, .inl (cI, 228, .inl fl)), (e2, .inl (cZ, 2, .inl fk))])) (fun _ _ _ _ => False) (xXC xISE) 1 6 (fun _ => False) := by
  refine vx_ofW (cc := cX4_goBack) (maxL := 2) (ret := (some .int)) (by decide) rfl ?_
  intro p e s m args below meth c s₁ B hml ht0 hv
  obtain ⟨rfl, ⟨⟨hP, hK⟩, hN⟩, hXN, hUS⟩ := hv
  have hx := B.exec
  have hb := B.bytes
  have hr := B.returns
  have hts := atoms_spec (ws := wsX4_goBack) B.pre
  have hown : s.vm.findClass RX4 = some m.cls := findClass_of_methodNamed B.named
  have hlocks := B.notSynchronized
  have in3 : ∀ w ∈ u_ws RX4 TX4 5, w ∈ wsX4_goBack := by decide +kernel
  have fl34 := hts (.fieldLink RX4 34 "TowerShades" "slotFilled" "[Z") (by decide +kernel)
  have hl := lv_entry ([.ref x0, .int (nI sl)]) (n := 2) (Nat.le_of_ble_eq_true rfl)
  rw [lg_entry_eq]
  generalize (lg_sl ([.ref x0, .int (nI sl)]) ++ List.replicate (2 - (lg_sl ([.ref x0, .int (nI sl)])).length) Slot.unset).toArray = ls at hl ⊢
  have hl : lv_has ls 2 [(0, .ref x0), (1, .int (nI sl))] := hl
  refine lv_iload_n hx hb dX4_goBack_0 rfl (lv_at hl 1 rfl) ?_
  refine z_if_lt (tgt := 9) (P := sl < 0) hx hb dX4_goBack_1 (by decide) (nI_ltI (a := sl) (b := 0) (by omega) (by omega)) (fun c1 => (show False from absurd c1 (by omega)).elim) (fun c1 => ?_)
  refine lv_iload_n hx hb dX4_goBack_4 rfl (lv_at hl 1 rfl) ?_
  refine lv_iconst (v := 2) hx hb dX4_goBack_5 (by decide) ?_
  refine z_icmp_lt (tgt := 19) (P := sl < 2) hx hb dX4_goBack_6 (by decide) (nI_ltI (a := sl) (b := 2) (by omega) (by omega)) (fun c6 => ?_) (fun c6 => (show False from c6 (by omega)).elim)
  refine lv_aload_n hx hb dX4_goBack_19 rfl (lv_at hl 0 rfl) ?_
  refine va_get (D := D) (ci := 3) (v := .ref e2) (C := RX4) (T := TX4) (N := 5) hx hb hts in3 hown hK hP 0 rfl rfl 4 (by decide) fl34 (fun _ h9 => h9) rfl dX4_goBack_20 ?_
  refine lv_iload_n hx hb dX4_goBack_23 rfl (lv_at hl 1 rfl) ?_
  refine z_zald hx hb hK hP 11 1 rfl rfl (k := sl) (rfl) (by omega) (by decide) dX4_goBack_24 ?_
  refine z_if_ne (tgt := 38) (P := (fk sl) = 0) hx hb dX4_goBack_25 (by decide) (Iff.rfl) (fun c25 => (show False from absurd hgk c25).elim) (fun c25 => ?_)
  obtain ⟨sa, hsa⟩ := hXN.2.2 (132, "no snapshot in the slot") (by decide)
  exact vx_throwS (own := RX4) (cls := xISE) (text := "no snapshot in the slot") (names := xNm) (ik := 96) (is := 132) (ic := 100) (A := fun _ => False) hx hb hlt hown (by decide) (by decide) (hts (.classLink RX4 96 xISE) (by decide +kernel)) (hts (.initialized xISE) (by decide +kernel)) hsa (vx_hat (fun w hw => hts w (List.mem_cons_of_mem _ (List.mem_append_right _ hw))) x_b100 (hXN.use (by decide))) x_g100 hUS.1 hUS.2 va_S.rf (hl.1.trans hml.symm) dX4_goBack_28 dX4_goBack_31 dX4_goBack_32 dX4_goBack_34 dX4_goBack_37 (x_cov ht0) (Nat.le_of_ble_eq_true rfl) (Nat.le_of_ble_eq_true rfl) (Nat.le_of_ble_eq_true rfl) (Nat.le_of_ble_eq_true rfl) hlocks (x_hx rfl) (fun z hz => nomatch hz) (by decide) (by decide)

set_option maxHeartbeats 4000000 in
set_option maxRecDepth 100000 in
theorem x_X4_undo_none (l : Launch) (hlt : l.stackTraces = false) (D : va_G) (cI cZ cL : ClassId) (x0 : Nat) (e1 : Nat) (e2 : Nat) (fl : Nat → Int32) (fk : Nat → Int32) (a0 : Nat) (a1 : Nat) (a2 : Nat) (a3 : Nat) (a4 : Nat) (fh : Nat → Int32) (fo : Nat → Int32) (fc : Nat → Int32) (fs : Nat → Int32) (hz : Nat) (mv : Nat) (tu : Int32) (rf : Int32) (b0 : Nat) (b1 : Nat) (fx : Nat → Int32) (ln : Nat) (d0 : Nat) (d1 : Nat) (fn : Nat → Int32) (od : Nat) (sz6 : Nat) (h06 : sz6 = 0) : vx_Met l yX4_undo wsX4_undo ({ frames := 6, cells := 1, slots := 6, locals := 82 }) (va_Pc [.ref x0] (zWx D cI cZ cL [(x0, .inr (3, [.ref a0, .ref b0, .ref d0, .ref e1, .ref e2])), (a0, .inr (0, [.ref a1, .ref a2, .ref a3, .ref a4, .int (nI hz), .int (nI mv), .int tu, .int rf])), (a1, .inl (cI, 36, .inl fh)), (a2, .inl (cI, 36, .inl fo)), (a3, .inl (cI, 36, .inl fc)), (a4, .inl (cI, 2, .inl fs)), (b0, .inr (1, [.ref b1, .int (nI ln)])), (b1, .inl (cI, 60, .inl fx)), (d0, .inr (2, [.ref d1, .int (nI od), .int (nI sz6)])), (d1, .inl (cI, 684, .inl fn)), (e1, .inl (cI, 228, .inl fl)), (e2, .inl (cZ, 2, .inl fk))])) (fun _ _ _ _ => False) (xXC xISE) 1 6 (fun _ => False) := by
  refine vx_ofW (cc := cX4_undo) (maxL := 1) (ret := (some .int)) (by decide) rfl ?_
  intro p e s m args below meth c s₁ B hml ht0 hv
  obtain ⟨rfl, ⟨⟨hP, hK⟩, hN⟩, hXN, hUS⟩ := hv
  have hx := B.exec
  have hb := B.bytes
  have hr := B.returns
  have hts := atoms_spec (ws := wsX4_undo) B.pre
  have hown : s.vm.findClass RX4 = some m.cls := findClass_of_methodNamed B.named
  have hlocks := B.notSynchronized
  have in2 : ∀ w ∈ u_ws RX2 TX2 3, w ∈ wsX4_undo := by decide +kernel
  have in3 : ∀ w ∈ u_ws RX4 TX4 5, w ∈ wsX4_undo := by decide +kernel
  have fl26 := hts (.fieldLink RX4 26 "TowerShades" "saved" "LTowerShades$SavedStates;") (by decide +kernel)
  have hl := lv_entry ([.ref x0]) (n := 1) (Nat.le_of_ble_eq_true rfl)
  rw [lg_entry_eq]
  generalize (lg_sl ([.ref x0]) ++ List.replicate (1 - (lg_sl ([.ref x0])).length) Slot.unset).toArray = ls at hl ⊢
  have hl : lv_has ls 1 [(0, .ref x0)] := hl
  refine lv_aload_n hx hb dX4_undo_0 rfl (lv_at hl 0 rfl) ?_
  refine va_get (D := D) (ci := 3) (v := .ref d0) (C := RX4) (T := TX4) (N := 5) hx hb hts in3 hown hK hP 0 rfl rfl 2 (by decide) fl26 (fun _ h9 => h9) rfl dX4_undo_1 ?_
  refine va_getN (D := D) (ci := 2) (v := .int (nI sz6)) (C := RX2) (T := TX2) (N := 3) hx hb hts in2 hown hK hP 8 rfl rfl 2 (by decide) (hN.get (i := 137) (r := RX2) (n := "size") (d := "I") (by decide)) (fun _ h9 => h9) rfl dX4_undo_4 ?_
  refine z_if_ne (tgt := 20) (P := sz6 = 0) hx hb dX4_undo_7 (by decide) (nI_eq (a := sz6) (b := 0) (by omega) (by omega)) (fun c7 => (show False from by omega).elim) (fun c7 => ?_)
  obtain ⟨sa, hsa⟩ := hXN.2.2 (140, "no saved state") (by decide)
  exact vx_throwS (own := RX4) (cls := xISE) (text := "no saved state") (names := xNm) (ik := 96) (is := 140) (ic := 100) (A := fun _ => False) hx hb hlt hown (by decide) (by decide) (hts (.classLink RX4 96 xISE) (by decide +kernel)) (hts (.initialized xISE) (by decide +kernel)) hsa (vx_hat (fun w hw => hts w (List.mem_cons_of_mem _ (List.mem_append_right _ hw))) x_b100 (hXN.use (by decide))) x_g100 hUS.1 hUS.2 va_S.rf (hl.1.trans hml.symm) dX4_undo_10 dX4_undo_13 dX4_undo_14 dX4_undo_16 dX4_undo_19 (x_cov ht0) (Nat.le_of_ble_eq_true rfl) (Nat.le_of_ble_eq_true rfl) (Nat.le_of_ble_eq_true rfl) (Nat.le_of_ble_eq_true rfl) hlocks (x_hx rfl) (fun z hz => nomatch hz) (by decide) (by decide)

set_option maxHeartbeats 4000000 in
set_option maxRecDepth 100000 in
theorem x_X4_squareOf_bad (l : Launch) (hlt : l.stackTraces = false) (D : va_G) (cI cZ cL : ClassId) (x0 : Nat) (e1 : Nat) (e2 : Nat) (fl : Nat → Int32) (fk : Nat → Int32) (a0 : Nat) (a1 : Nat) (a2 : Nat) (a3 : Nat) (a4 : Nat) (fh : Nat → Int32) (fo : Nat → Int32) (fc : Nat → Int32) (fs : Nat → Int32) (hz : Nat) (mv : Nat) (tu : Int32) (rf : Int32) (b0 : Nat) (b1 : Nat) (fx : Nat → Int32) (ln : Nat) (d0 : Nat) (d1 : Nat) (fn : Nat → Int32) (od : Nat) (sz6 : Nat) (p0 : Int32) (p1 : Int32) (hbad : (decide (0 ≤ p0) && decide (p0 ≤ 35)) = false) : vx_Met l yX4_squareOf wsX4_squareOf ({ frames := 6, cells := 1, slots := 6, locals := 82 }) (va_Pc [.ref x0, .int p0, .int p1] (zWx D cI cZ cL [(x0, .inr (3, [.ref a0, .ref b0, .ref d0, .ref e1, .ref e2])), (a0, .inr (0, [.ref a1, .ref a2, .ref a3, .ref a4, .int (nI hz), .int (nI mv), .int tu, .int rf])), (a1, .inl (cI, 36, .inl fh)), (a2, .inl (cI, 36, .inl fo)), (a3, .inl (cI, 36, .inl fc)), (a4, .inl (cI, 2, .inl fs)), (b0, .inr (1, [.ref b1, .int (nI ln)])), (b1, .inl (cI, 60, .inl fx)), (d0, .inr (2, [.ref d1, .int (nI od), .int (nI sz6)])), (d1, .inl (cI, 684, .inl fn)), (e1, .inl (cI, 228, .inl fl)), (e2, .inl (cZ, 2, .inl fk))])) (fun _ _ _ _ => False) (xXC xOOB) 1 6 (fun _ => False) := by
  refine vx_ofW (cc := cX4_squareOf) (maxL := 3) (ret := (some .int)) (by decide) rfl ?_
  intro p e s m args below meth c s₁ B hml ht0 hv
  obtain ⟨rfl, ⟨⟨hP, hK⟩, hN⟩, hXN, hUS⟩ := hv
  have hx := B.exec
  have hb := B.bytes
  have hr := B.returns
  have hts := atoms_spec (ws := wsX4_squareOf) B.pre
  have hown : s.vm.findClass RX4 = some m.cls := findClass_of_methodNamed B.named
  have hlocks := B.notSynchronized
  have hl := lv_entry ([.ref x0, .int p0, .int p1]) (n := 3) (Nat.le_of_ble_eq_true rfl)
  rw [lg_entry_eq]
  generalize (lg_sl ([.ref x0, .int p0, .int p1]) ++ List.replicate (3 - (lg_sl ([.ref x0, .int p0, .int p1])).length) Slot.unset).toArray = ls at hl ⊢
  have hl : lv_has ls 3 [(0, .ref x0), (1, .int p0), (2, .int p1)] := hl
  refine lv_iload_n hx hb dX4_squareOf_0 rfl (lv_at hl 1 rfl) ?_
  refine z_ci (va_runS (As := [.int p0]) (rest := []) ⟨hx, hb, hml, hown, hts⟩ (c_X4_isSquare l (p0 := p0)) (va_cwS 1 hts gX4_squareOf_X4_isSquare rfl rfl rfl (by decide +kernel) ⟨Nat.le_of_ble_eq_true rfl, Nat.le_of_ble_eq_true rfl⟩) z_preS rfl rfl hl.1 rfl (lv_room (Nat.le_of_ble_eq_true rfl)) dX4_squareOf_1 ⟨Nat.le_of_ble_eq_true rfl, Nat.le_of_ble_eq_true rfl⟩) ?_
  refine z_top (y := 0) (by rw [hbad]; rfl) ?_
  refine z_if_ne (tgt := 17) (P := True) hx hb dX4_squareOf_4 (by decide) (by decide) (fun c4 => (show False from c4 trivial).elim) (fun c4 => ?_)
  obtain ⟨sa, hsa⟩ := hXN.2.2 (44, "no such square") (by decide)
  exact vx_throwS (own := RX4) (cls := xOOB) (text := "no such square") (names := xNm) (ik := 42) (is := 44) (ic := 46) (A := fun _ => False) hx hb hlt hown (by decide) (by decide) (hts (.classLink RX4 42 xOOB) (by decide +kernel)) (hts (.initialized xOOB) (by decide +kernel)) hsa (vx_hat (fun w hw => hts w (List.mem_cons_of_mem _ (List.mem_append_left _ (List.mem_append_right _ hw)))) x_b46 (hXN.use (by decide))) x_g46 hUS.1 hUS.2 va_S.rf (hl.1.trans hml.symm) dX4_squareOf_7 dX4_squareOf_10 dX4_squareOf_11 dX4_squareOf_13 dX4_squareOf_16 (x_cov ht0) (Nat.le_of_ble_eq_true rfl) (Nat.le_of_ble_eq_true rfl) (Nat.le_of_ble_eq_true rfl) (Nat.le_of_ble_eq_true rfl) hlocks (x_hx rfl) (fun z hz => nomatch hz) (by decide) (by decide)

set_option maxHeartbeats 4000000 in
set_option maxRecDepth 100000 in
theorem x_X4_squareOf_out (l : Launch) (hlt : l.stackTraces = false) (D : va_G) (cI cZ cL : ClassId) (x0 : Nat) (e1 : Nat) (e2 : Nat) (fl : Nat → Int32) (fk : Nat → Int32) (a0 : Nat) (a1 : Nat) (a2 : Nat) (a3 : Nat) (a4 : Nat) (fh : Nat → Int32) (fo : Nat → Int32) (fc : Nat → Int32) (fs : Nat → Int32) (hz : Nat) (mv : Nat) (tu : Int32) (rf : Int32) (b0 : Nat) (b1 : Nat) (fx : Nat → Int32) (ln : Nat) (d0 : Nat) (d1 : Nat) (fn : Nat → Int32) (od : Nat) (sz6 : Nat) (q : Nat) (p1 : Int32) (hq : q < 36) (hout : p1.toInt < 0 ∨ 7 < p1.toInt) : vx_Met l yX4_squareOf wsX4_squareOf ({ frames := 6, cells := 1, slots := 6, locals := 82 }) (va_Pc [.ref x0, .int (nI q), .int p1] (zWx D cI cZ cL [(x0, .inr (3, [.ref a0, .ref b0, .ref d0, .ref e1, .ref e2])), (a0, .inr (0, [.ref a1, .ref a2, .ref a3, .ref a4, .int (nI hz), .int (nI mv), .int tu, .int rf])), (a1, .inl (cI, 36, .inl fh)), (a2, .inl (cI, 36, .inl fo)), (a3, .inl (cI, 36, .inl fc)), (a4, .inl (cI, 2, .inl fs)), (b0, .inr (1, [.ref b1, .int (nI ln)])), (b1, .inl (cI, 60, .inl fx)), (d0, .inr (2, [.ref d1, .int (nI od), .int (nI sz6)])), (d1, .inl (cI, 684, .inl fn)), (e1, .inl (cI, 228, .inl fl)), (e2, .inl (cZ, 2, .inl fk))])) (fun _ _ _ _ => False) (xXC xIAE) 1 6 (fun _ => False) := by
  refine vx_ofW (cc := cX4_squareOf) (maxL := 3) (ret := (some .int)) (by decide) rfl ?_
  intro p e s m args below meth c s₁ B hml ht0 hv
  obtain ⟨rfl, ⟨⟨hP, hK⟩, hN⟩, hXN, hUS⟩ := hv
  have hx := B.exec
  have hb := B.bytes
  have hr := B.returns
  have hts := atoms_spec (ws := wsX4_squareOf) B.pre
  have hown : s.vm.findClass RX4 = some m.cls := findClass_of_methodNamed B.named
  have hlocks := B.notSynchronized
  have hl := lv_entry ([.ref x0, .int (nI q), .int p1]) (n := 3) (Nat.le_of_ble_eq_true rfl)
  rw [lg_entry_eq]
  generalize (lg_sl ([.ref x0, .int (nI q), .int p1]) ++ List.replicate (3 - (lg_sl ([.ref x0, .int (nI q), .int p1])).length) Slot.unset).toArray = ls at hl ⊢
  have hl : lv_has ls 3 [(0, .ref x0), (1, .int (nI q)), (2, .int p1)] := hl
  refine lv_iload_n hx hb dX4_squareOf_0 rfl (lv_at hl 1 rfl) ?_
  refine z_ci (va_runS (As := [.int (nI q)]) (rest := []) ⟨hx, hb, hml, hown, hts⟩ (c_X4_isSquare l (p0 := nI q)) (va_cwS 1 hts gX4_squareOf_X4_isSquare rfl rfl rfl (by decide +kernel) ⟨Nat.le_of_ble_eq_true rfl, Nat.le_of_ble_eq_true rfl⟩) z_preS rfl rfl hl.1 rfl (lv_room (Nat.le_of_ble_eq_true rfl)) dX4_squareOf_1 ⟨Nat.le_of_ble_eq_true rfl, Nat.le_of_ble_eq_true rfl⟩) ?_
  refine z_top (y := 1) (by rw [sq_ok q hq]; rfl) ?_
  refine z_if_ne (tgt := 17) (P := False) hx hb dX4_squareOf_4 (by decide) (by decide) (fun c4 => ?_) (fun c4 => (show False from c4).elim)
  refine lv_iload_n hx hb dX4_squareOf_17 rfl (lv_at hl 2 rfl) ?_
  · skip
    refine lv_tableOut (tgt := 180) hx hb dX4_squareOf_18 (hout) (by decide) ?_
    obtain ⟨sa, hsa⟩ := hXN.2.2 (165, "what is not 0 to 7") (by decide)
    exact vx_throwS (own := RX4) (cls := xIAE) (text := "what is not 0 to 7") (names := xNm) (ik := 77) (is := 165) (ic := 81) (A := fun _ => False) hx hb hlt hown (by decide) (by decide) (hts (.classLink RX4 77 xIAE) (by decide +kernel)) (hts (.initialized xIAE) (by decide +kernel)) hsa (vx_hat (fun w hw => hts w (List.mem_cons_of_mem _ (List.mem_append_right _ hw))) x_b81 (hXN.use (by decide))) x_g81 hUS.1 hUS.2 va_S.rf (hl.1.trans hml.symm) dX4_squareOf_180 dX4_squareOf_183 dX4_squareOf_184 dX4_squareOf_186 dX4_squareOf_189 (x_cov ht0) (Nat.le_of_ble_eq_true rfl) (Nat.le_of_ble_eq_true rfl) (Nat.le_of_ble_eq_true rfl) (Nat.le_of_ble_eq_true rfl) hlocks (x_hx rfl) (fun z hz => nomatch hz) (by decide) (by decide)

set_option maxHeartbeats 4000000 in
set_option maxRecDepth 100000 in
theorem x_X4_playerOf_bad (l : Launch) (hlt : l.stackTraces = false) (D : va_G) (cI cZ cL : ClassId) (x0 : Nat) (e1 : Nat) (e2 : Nat) (fl : Nat → Int32) (fk : Nat → Int32) (a0 : Nat) (a1 : Nat) (a2 : Nat) (a3 : Nat) (a4 : Nat) (fh : Nat → Int32) (fo : Nat → Int32) (fc : Nat → Int32) (fs : Nat → Int32) (hz : Nat) (mv : Nat) (tu : Int32) (rf : Int32) (b0 : Nat) (b1 : Nat) (fx : Nat → Int32) (ln : Nat) (d0 : Nat) (d1 : Nat) (fn : Nat → Int32) (od : Nat) (sz6 : Nat) (p0 : Int32) (p1 : Int32) (hout : 0 ≤ p0 → ¬ 2 ≤ p0 → False) : vx_Met l yX4_playerOf wsX4_playerOf ({ frames := 6, cells := 1, slots := 6, locals := 82 }) (va_Pc [.ref x0, .int p0, .int p1] (zWx D cI cZ cL [(x0, .inr (3, [.ref a0, .ref b0, .ref d0, .ref e1, .ref e2])), (a0, .inr (0, [.ref a1, .ref a2, .ref a3, .ref a4, .int (nI hz), .int (nI mv), .int tu, .int rf])), (a1, .inl (cI, 36, .inl fh)), (a2, .inl (cI, 36, .inl fo)), (a3, .inl (cI, 36, .inl fc)), (a4, .inl (cI, 2, .inl fs)), (b0, .inr (1, [.ref b1, .int (nI ln)])), (b1, .inl (cI, 60, .inl fx)), (d0, .inr (2, [.ref d1, .int (nI od), .int (nI sz6)])), (d1, .inl (cI, 684, .inl fn)), (e1, .inl (cI, 228, .inl fl)), (e2, .inl (cZ, 2, .inl fk))])) (fun _ _ _ _ => False) (xXC xOOB) 1 6 (fun _ => False) := by
  refine vx_ofW (cc := cX4_playerOf) (maxL := 3) (ret := (some .int)) (by decide) rfl ?_
  intro p e s m args below meth c s₁ B hml ht0 hv
  obtain ⟨rfl, ⟨⟨hP, hK⟩, hN⟩, hXN, hUS⟩ := hv
  have hx := B.exec
  have hb := B.bytes
  have hr := B.returns
  have hts := atoms_spec (ws := wsX4_playerOf) B.pre
  have hown : s.vm.findClass RX4 = some m.cls := findClass_of_methodNamed B.named
  have hlocks := B.notSynchronized
  have hl := lv_entry ([.ref x0, .int p0, .int p1]) (n := 3) (Nat.le_of_ble_eq_true rfl)
  rw [lg_entry_eq]
  generalize (lg_sl ([.ref x0, .int p0, .int p1]) ++ List.replicate (3 - (lg_sl ([.ref x0, .int p0, .int p1])).length) Slot.unset).toArray = ls at hl ⊢
  have hl : lv_has ls 3 [(0, .ref x0), (1, .int p0), (2, .int p1)] := hl
  refine lv_iload_n hx hb dX4_playerOf_0 rfl (lv_at hl 1 rfl) ?_
  refine z_if_lt (tgt := 9) (P := ¬ 0 ≤ p0) hx hb dX4_playerOf_1 (by decide) (Int32.not_le.symm) (fun c1 => ?_) (fun c1 => ?_)
  · skip
    obtain ⟨sa, hsa⟩ := hXN.2.2 (167, "no such player") (by decide)
    exact vx_throwS (own := RX4) (cls := xOOB) (text := "no such player") (names := xNm) (ik := 42) (is := 167) (ic := 46) (A := fun _ => False) hx hb hlt hown (by decide) (by decide) (hts (.classLink RX4 42 xOOB) (by decide +kernel)) (hts (.initialized xOOB) (by decide +kernel)) hsa (vx_hat (fun w hw => hts w (List.mem_cons_of_mem _ (List.mem_append_left _ (List.mem_append_right _ hw)))) x_b46 (hXN.use (by decide))) x_g46 hUS.1 hUS.2 va_S.rf (hl.1.trans hml.symm) dX4_playerOf_9 dX4_playerOf_12 dX4_playerOf_13 dX4_playerOf_15 dX4_playerOf_18 (x_cov ht0) (Nat.le_of_ble_eq_true rfl) (Nat.le_of_ble_eq_true rfl) (Nat.le_of_ble_eq_true rfl) (Nat.le_of_ble_eq_true rfl) hlocks (x_hx rfl) (fun z hz => nomatch hz) (by decide) (by decide)
  · skip
    replace c1 := Classical.not_not.mp c1
    refine lv_iload_n hx hb dX4_playerOf_4 rfl (lv_at hl 1 rfl) ?_
    refine lv_iconst (v := 2) hx hb dX4_playerOf_5 (by decide) ?_
    refine z_icmp_lt (tgt := 19) (P := ¬ 2 ≤ p0) hx hb dX4_playerOf_6 (by decide) (Int32.not_le.symm) (fun c6 => (show False from hout c1 c6).elim) (fun c6 => ?_)
    obtain ⟨sa, hsa⟩ := hXN.2.2 (167, "no such player") (by decide)
    exact vx_throwS (own := RX4) (cls := xOOB) (text := "no such player") (names := xNm) (ik := 42) (is := 167) (ic := 46) (A := fun _ => False) hx hb hlt hown (by decide) (by decide) (hts (.classLink RX4 42 xOOB) (by decide +kernel)) (hts (.initialized xOOB) (by decide +kernel)) hsa (vx_hat (fun w hw => hts w (List.mem_cons_of_mem _ (List.mem_append_left _ (List.mem_append_right _ hw)))) x_b46 (hXN.use (by decide))) x_g46 hUS.1 hUS.2 va_S.rf (hl.1.trans hml.symm) dX4_playerOf_9 dX4_playerOf_12 dX4_playerOf_13 dX4_playerOf_15 dX4_playerOf_18 (x_cov ht0) (Nat.le_of_ble_eq_true rfl) (Nat.le_of_ble_eq_true rfl) (Nat.le_of_ble_eq_true rfl) (Nat.le_of_ble_eq_true rfl) hlocks (x_hx rfl) (fun z hz => nomatch hz) (by decide) (by decide)

set_option maxHeartbeats 4000000 in
set_option maxRecDepth 100000 in
theorem x_X4_playerOf_out (l : Launch) (hlt : l.stackTraces = false) (D : va_G) (cI cZ cL : ClassId) (x0 : Nat) (e1 : Nat) (e2 : Nat) (fl : Nat → Int32) (fk : Nat → Int32) (a0 : Nat) (a1 : Nat) (a2 : Nat) (a3 : Nat) (a4 : Nat) (fh : Nat → Int32) (fo : Nat → Int32) (fc : Nat → Int32) (fs : Nat → Int32) (hz : Nat) (mv : Nat) (tu : Int32) (rf : Int32) (b0 : Nat) (b1 : Nat) (fx : Nat → Int32) (ln : Nat) (d0 : Nat) (d1 : Nat) (fn : Nat → Int32) (od : Nat) (sz6 : Nat) (pl : Nat) (p1 : Int32) (hpl : pl < 2) (hout : p1.toInt < 0 ∨ 5 < p1.toInt) : vx_Met l yX4_playerOf wsX4_playerOf ({ frames := 6, cells := 1, slots := 6, locals := 82 }) (va_Pc [.ref x0, .int (nI pl), .int p1] (zWx D cI cZ cL [(x0, .inr (3, [.ref a0, .ref b0, .ref d0, .ref e1, .ref e2])), (a0, .inr (0, [.ref a1, .ref a2, .ref a3, .ref a4, .int (nI hz), .int (nI mv), .int tu, .int rf])), (a1, .inl (cI, 36, .inl fh)), (a2, .inl (cI, 36, .inl fo)), (a3, .inl (cI, 36, .inl fc)), (a4, .inl (cI, 2, .inl fs)), (b0, .inr (1, [.ref b1, .int (nI ln)])), (b1, .inl (cI, 60, .inl fx)), (d0, .inr (2, [.ref d1, .int (nI od), .int (nI sz6)])), (d1, .inl (cI, 684, .inl fn)), (e1, .inl (cI, 228, .inl fl)), (e2, .inl (cZ, 2, .inl fk))])) (fun _ _ _ _ => False) (xXC xIAE) 1 6 (fun _ => False) := by
  refine vx_ofW (cc := cX4_playerOf) (maxL := 3) (ret := (some .int)) (by decide) rfl ?_
  intro p e s m args below meth c s₁ B hml ht0 hv
  obtain ⟨rfl, ⟨⟨hP, hK⟩, hN⟩, hXN, hUS⟩ := hv
  have hx := B.exec
  have hb := B.bytes
  have hr := B.returns
  have hts := atoms_spec (ws := wsX4_playerOf) B.pre
  have hown : s.vm.findClass RX4 = some m.cls := findClass_of_methodNamed B.named
  have hlocks := B.notSynchronized
  have hl := lv_entry ([.ref x0, .int (nI pl), .int p1]) (n := 3) (Nat.le_of_ble_eq_true rfl)
  rw [lg_entry_eq]
  generalize (lg_sl ([.ref x0, .int (nI pl), .int p1]) ++ List.replicate (3 - (lg_sl ([.ref x0, .int (nI pl), .int p1])).length) Slot.unset).toArray = ls at hl ⊢
  have hl : lv_has ls 3 [(0, .ref x0), (1, .int (nI pl)), (2, .int p1)] := hl
  refine lv_iload_n hx hb dX4_playerOf_0 rfl (lv_at hl 1 rfl) ?_
  refine z_if_lt (tgt := 9) (P := pl < 0) hx hb dX4_playerOf_1 (by decide) (nI_ltI (a := pl) (b := 0) (by omega) (by omega)) (fun c1 => (show False from absurd c1 (by omega)).elim) (fun c1 => ?_)
  refine lv_iload_n hx hb dX4_playerOf_4 rfl (lv_at hl 1 rfl) ?_
  refine lv_iconst (v := 2) hx hb dX4_playerOf_5 (by decide) ?_
  refine z_icmp_lt (tgt := 19) (P := pl < 2) hx hb dX4_playerOf_6 (by decide) (nI_ltI (a := pl) (b := 2) (by omega) (by omega)) (fun c6 => ?_) (fun c6 => (show False from c6 (by omega)).elim)
  refine lv_iload_n hx hb dX4_playerOf_19 rfl (lv_at hl 2 rfl) ?_
  · skip
    refine lv_tableOut (tgt := 115) hx hb dX4_playerOf_20 (hout) (by decide) ?_
    obtain ⟨sa, hsa⟩ := hXN.2.2 (184, "what is not 0 to 5") (by decide)
    exact vx_throwS (own := RX4) (cls := xIAE) (text := "what is not 0 to 5") (names := xNm) (ik := 77) (is := 184) (ic := 81) (A := fun _ => False) hx hb hlt hown (by decide) (by decide) (hts (.classLink RX4 77 xIAE) (by decide +kernel)) (hts (.initialized xIAE) (by decide +kernel)) hsa (vx_hat (fun w hw => hts w (List.mem_cons_of_mem _ (List.mem_append_right _ hw))) x_b81 (hXN.use (by decide))) x_g81 hUS.1 hUS.2 va_S.rf (hl.1.trans hml.symm) dX4_playerOf_115 dX4_playerOf_118 dX4_playerOf_119 dX4_playerOf_121 dX4_playerOf_124 (x_cov ht0) (Nat.le_of_ble_eq_true rfl) (Nat.le_of_ble_eq_true rfl) (Nat.le_of_ble_eq_true rfl) (Nat.le_of_ble_eq_true rfl) hlocks (x_hx rfl) (fun z hz => nomatch hz) (by decide) (by decide)

set_option maxHeartbeats 4000000 in
set_option maxRecDepth 100000 in
theorem x_X4_count_out (l : Launch) (hlt : l.stackTraces = false) (D : va_G) (cI cZ cL : ClassId) (x0 : Nat) (e1 : Nat) (e2 : Nat) (fl : Nat → Int32) (fk : Nat → Int32) (a0 : Nat) (a1 : Nat) (a2 : Nat) (a3 : Nat) (a4 : Nat) (fh : Nat → Int32) (fo : Nat → Int32) (fc : Nat → Int32) (fs : Nat → Int32) (hz : Nat) (mv : Nat) (tu : Int32) (rf : Int32) (b0 : Nat) (b1 : Nat) (fx : Nat → Int32) (ln : Nat) (d0 : Nat) (d1 : Nat) (fn : Nat → Int32) (od : Nat) (sz6 : Nat) (p0 : Int32) (hout : p0.toInt < 0 ∨ 9 < p0.toInt) : vx_Met l yX4_count wsX4_count ({ frames := 6, cells := 1, slots := 6, locals := 82 }) (va_Pc [.ref x0, .int p0] (zWx D cI cZ cL [(x0, .inr (3, [.ref a0, .ref b0, .ref d0, .ref e1, .ref e2])), (a0, .inr (0, [.ref a1, .ref a2, .ref a3, .ref a4, .int (nI hz), .int (nI mv), .int tu, .int rf])), (a1, .inl (cI, 36, .inl fh)), (a2, .inl (cI, 36, .inl fo)), (a3, .inl (cI, 36, .inl fc)), (a4, .inl (cI, 2, .inl fs)), (b0, .inr (1, [.ref b1, .int (nI ln)])), (b1, .inl (cI, 60, .inl fx)), (d0, .inr (2, [.ref d1, .int (nI od), .int (nI sz6)])), (d1, .inl (cI, 684, .inl fn)), (e1, .inl (cI, 228, .inl fl)), (e2, .inl (cZ, 2, .inl fk))])) (fun _ _ _ _ => False) (xXC xIAE) 1 6 (fun _ => False) := by
  refine vx_ofW (cc := cX4_count) (maxL := 2) (ret := (some .int)) (by decide) rfl ?_
  intro p e s m args below meth c s₁ B hml ht0 hv
  obtain ⟨rfl, ⟨⟨hP, hK⟩, hN⟩, hXN, hUS⟩ := hv
  have hx := B.exec
  have hb := B.bytes
  have hr := B.returns
  have hts := atoms_spec (ws := wsX4_count) B.pre
  have hown : s.vm.findClass RX4 = some m.cls := findClass_of_methodNamed B.named
  have hlocks := B.notSynchronized
  have hl := lv_entry ([.ref x0, .int p0]) (n := 2) (Nat.le_of_ble_eq_true rfl)
  rw [lg_entry_eq]
  generalize (lg_sl ([.ref x0, .int p0]) ++ List.replicate (2 - (lg_sl ([.ref x0, .int p0])).length) Slot.unset).toArray = ls at hl ⊢
  have hl : lv_has ls 2 [(0, .ref x0), (1, .int p0)] := hl
  refine lv_iload_n hx hb dX4_count_0 rfl (lv_at hl 1 rfl) ?_
  · skip
    refine lv_tableOut (tgt := 149) hx hb dX4_count_1 (hout) (by decide) ?_
    obtain ⟨sa, hsa⟩ := hXN.2.2 (203, "what is not 0 to 9") (by decide)
    exact vx_throwS (own := RX4) (cls := xIAE) (text := "what is not 0 to 9") (names := xNm) (ik := 77) (is := 203) (ic := 81) (A := fun _ => False) hx hb hlt hown (by decide) (by decide) (hts (.classLink RX4 77 xIAE) (by decide +kernel)) (hts (.initialized xIAE) (by decide +kernel)) hsa (vx_hat (fun w hw => hts w (List.mem_cons_of_mem _ (List.mem_append_right _ hw))) x_b81 (hXN.use (by decide))) x_g81 hUS.1 hUS.2 va_S.rf (hl.1.trans hml.symm) dX4_count_149 dX4_count_152 dX4_count_153 dX4_count_155 dX4_count_158 (x_cov ht0) (Nat.le_of_ble_eq_true rfl) (Nat.le_of_ble_eq_true rfl) (Nat.le_of_ble_eq_true rfl) (Nat.le_of_ble_eq_true rfl) hlocks (x_hx rfl) (fun z hz => nomatch hz) (by decide) (by decide)

set_option maxHeartbeats 4000000 in
set_option maxRecDepth 100000 in
theorem x_X4_whyNot_bad (l : Launch) (hlt : l.stackTraces = false) (D : va_G) (cI cZ cL : ClassId) (x0 : Nat) (e1 : Nat) (e2 : Nat) (fl : Nat → Int32) (fk : Nat → Int32) (a0 : Nat) (a1 : Nat) (a2 : Nat) (a3 : Nat) (a4 : Nat) (fh : Nat → Int32) (fo : Nat → Int32) (fc : Nat → Int32) (fs : Nat → Int32) (hz : Nat) (mv : Nat) (tu : Int32) (rf : Int32) (b0 : Nat) (b1 : Nat) (fx : Nat → Int32) (ln : Nat) (d0 : Nat) (d1 : Nat) (fn : Nat → Int32) (od : Nat) (sz6 : Nat) (p0 : Int32) (hbad : (decide (0 ≤ p0) && decide (p0 ≤ 35)) = false) : vx_Met l yX4_whyNot wsX4_whyNot ({ frames := 6, cells := 1, slots := 6, locals := 82 }) (va_Pc [.ref x0, .int p0] (zWx D cI cZ cL [(x0, .inr (3, [.ref a0, .ref b0, .ref d0, .ref e1, .ref e2])), (a0, .inr (0, [.ref a1, .ref a2, .ref a3, .ref a4, .int (nI hz), .int (nI mv), .int tu, .int rf])), (a1, .inl (cI, 36, .inl fh)), (a2, .inl (cI, 36, .inl fo)), (a3, .inl (cI, 36, .inl fc)), (a4, .inl (cI, 2, .inl fs)), (b0, .inr (1, [.ref b1, .int (nI ln)])), (b1, .inl (cI, 60, .inl fx)), (d0, .inr (2, [.ref d1, .int (nI od), .int (nI sz6)])), (d1, .inl (cI, 684, .inl fn)), (e1, .inl (cI, 228, .inl fl)), (e2, .inl (cZ, 2, .inl fk))])) (fun _ _ _ _ => False) (xXC xOOB) 1 6 (fun _ => False) := by
  refine vx_ofW (cc := cX4_whyNot) (maxL := 2) (ret := (some .int)) (by decide) rfl ?_
  intro p e s m args below meth c s₁ B hml ht0 hv
  obtain ⟨rfl, ⟨⟨hP, hK⟩, hN⟩, hXN, hUS⟩ := hv
  have hx := B.exec
  have hb := B.bytes
  have hr := B.returns
  have hts := atoms_spec (ws := wsX4_whyNot) B.pre
  have hown : s.vm.findClass RX4 = some m.cls := findClass_of_methodNamed B.named
  have hlocks := B.notSynchronized
  have hl := lv_entry ([.ref x0, .int p0]) (n := 2) (Nat.le_of_ble_eq_true rfl)
  rw [lg_entry_eq]
  generalize (lg_sl ([.ref x0, .int p0]) ++ List.replicate (2 - (lg_sl ([.ref x0, .int p0])).length) Slot.unset).toArray = ls at hl ⊢
  have hl : lv_has ls 2 [(0, .ref x0), (1, .int p0)] := hl
  refine lv_iload_n hx hb dX4_whyNot_0 rfl (lv_at hl 1 rfl) ?_
  refine z_ci (va_runS (As := [.int p0]) (rest := []) ⟨hx, hb, hml, hown, hts⟩ (c_X4_isSquare l (p0 := p0)) (va_cwS 1 hts gX4_whyNot_X4_isSquare rfl rfl rfl (by decide +kernel) ⟨Nat.le_of_ble_eq_true rfl, Nat.le_of_ble_eq_true rfl⟩) z_preS rfl rfl hl.1 rfl (lv_room (Nat.le_of_ble_eq_true rfl)) dX4_whyNot_1 ⟨Nat.le_of_ble_eq_true rfl, Nat.le_of_ble_eq_true rfl⟩) ?_
  refine z_top (y := 0) (by rw [hbad]; rfl) ?_
  refine z_if_ne (tgt := 17) (P := True) hx hb dX4_whyNot_4 (by decide) (by decide) (fun c4 => (show False from c4 trivial).elim) (fun c4 => ?_)
  obtain ⟨sa, hsa⟩ := hXN.2.2 (44, "no such square") (by decide)
  exact vx_throwS (own := RX4) (cls := xOOB) (text := "no such square") (names := xNm) (ik := 42) (is := 44) (ic := 46) (A := fun _ => False) hx hb hlt hown (by decide) (by decide) (hts (.classLink RX4 42 xOOB) (by decide +kernel)) (hts (.initialized xOOB) (by decide +kernel)) hsa (vx_hat (fun w hw => hts w (List.mem_cons_of_mem _ (List.mem_append_right _ hw))) x_b46 (hXN.use (by decide))) x_g46 hUS.1 hUS.2 va_S.rf (hl.1.trans hml.symm) dX4_whyNot_7 dX4_whyNot_10 dX4_whyNot_11 dX4_whyNot_13 dX4_whyNot_16 (x_cov ht0) (Nat.le_of_ble_eq_true rfl) (Nat.le_of_ble_eq_true rfl) (Nat.le_of_ble_eq_true rfl) (Nat.le_of_ble_eq_true rfl) hlocks (x_hx rfl) (fun z hz => nomatch hz) (by decide) (by decide)

set_option maxHeartbeats 4000000 in
set_option maxRecDepth 100000 in
theorem x_X4_ifRaised_bad (l : Launch) (hlt : l.stackTraces = false) (D : va_G) (cI cZ cL : ClassId) (x0 : Nat) (e1 : Nat) (e2 : Nat) (fl : Nat → Int32) (fk : Nat → Int32) (a0 : Nat) (a1 : Nat) (a2 : Nat) (a3 : Nat) (a4 : Nat) (fh : Nat → Int32) (fo : Nat → Int32) (fc : Nat → Int32) (fs : Nat → Int32) (hz : Nat) (mv : Nat) (tu : Int32) (rf : Int32) (b0 : Nat) (b1 : Nat) (fx : Nat → Int32) (ln : Nat) (d0 : Nat) (d1 : Nat) (fn : Nat → Int32) (od : Nat) (sz6 : Nat) (p0 : Int32) (hbad : (decide (0 ≤ p0) && decide (p0 ≤ 35)) = false) : vx_Met l yX4_ifRaised wsX4_ifRaised ({ frames := 6, cells := 1, slots := 6, locals := 82 }) (va_Pc [.ref x0, .int p0] (zWx D cI cZ cL [(x0, .inr (3, [.ref a0, .ref b0, .ref d0, .ref e1, .ref e2])), (a0, .inr (0, [.ref a1, .ref a2, .ref a3, .ref a4, .int (nI hz), .int (nI mv), .int tu, .int rf])), (a1, .inl (cI, 36, .inl fh)), (a2, .inl (cI, 36, .inl fo)), (a3, .inl (cI, 36, .inl fc)), (a4, .inl (cI, 2, .inl fs)), (b0, .inr (1, [.ref b1, .int (nI ln)])), (b1, .inl (cI, 60, .inl fx)), (d0, .inr (2, [.ref d1, .int (nI od), .int (nI sz6)])), (d1, .inl (cI, 684, .inl fn)), (e1, .inl (cI, 228, .inl fl)), (e2, .inl (cZ, 2, .inl fk))])) (fun _ _ _ _ => False) (xXC xOOB) 1 6 (fun _ => False) := by
  refine vx_ofW (cc := cX4_ifRaised) (maxL := 2) (ret := (some .int)) (by decide) rfl ?_
  intro p e s m args below meth c s₁ B hml ht0 hv
  obtain ⟨rfl, ⟨⟨hP, hK⟩, hN⟩, hXN, hUS⟩ := hv
  have hx := B.exec
  have hb := B.bytes
  have hr := B.returns
  have hts := atoms_spec (ws := wsX4_ifRaised) B.pre
  have hown : s.vm.findClass RX4 = some m.cls := findClass_of_methodNamed B.named
  have hlocks := B.notSynchronized
  have hl := lv_entry ([.ref x0, .int p0]) (n := 2) (Nat.le_of_ble_eq_true rfl)
  rw [lg_entry_eq]
  generalize (lg_sl ([.ref x0, .int p0]) ++ List.replicate (2 - (lg_sl ([.ref x0, .int p0])).length) Slot.unset).toArray = ls at hl ⊢
  have hl : lv_has ls 2 [(0, .ref x0), (1, .int p0)] := hl
  refine lv_iload_n hx hb dX4_ifRaised_0 rfl (lv_at hl 1 rfl) ?_
  refine z_ci (va_runS (As := [.int p0]) (rest := []) ⟨hx, hb, hml, hown, hts⟩ (c_X4_isSquare l (p0 := p0)) (va_cwS 1 hts gX4_ifRaised_X4_isSquare rfl rfl rfl (by decide +kernel) ⟨Nat.le_of_ble_eq_true rfl, Nat.le_of_ble_eq_true rfl⟩) z_preS rfl rfl hl.1 rfl (lv_room (Nat.le_of_ble_eq_true rfl)) dX4_ifRaised_1 ⟨Nat.le_of_ble_eq_true rfl, Nat.le_of_ble_eq_true rfl⟩) ?_
  refine z_top (y := 0) (by rw [hbad]; rfl) ?_
  refine z_if_ne (tgt := 17) (P := True) hx hb dX4_ifRaised_4 (by decide) (by decide) (fun c4 => (show False from c4 trivial).elim) (fun c4 => ?_)
  obtain ⟨sa, hsa⟩ := hXN.2.2 (44, "no such square") (by decide)
  exact vx_throwS (own := RX4) (cls := xOOB) (text := "no such square") (names := xNm) (ik := 42) (is := 44) (ic := 46) (A := fun _ => False) hx hb hlt hown (by decide) (by decide) (hts (.classLink RX4 42 xOOB) (by decide +kernel)) (hts (.initialized xOOB) (by decide +kernel)) hsa (vx_hat (fun w hw => hts w (List.mem_cons_of_mem _ (List.mem_append_right _ hw))) x_b46 (hXN.use (by decide))) x_g46 hUS.1 hUS.2 va_S.rf (hl.1.trans hml.symm) dX4_ifRaised_7 dX4_ifRaised_10 dX4_ifRaised_11 dX4_ifRaised_13 dX4_ifRaised_16 (x_cov ht0) (Nat.le_of_ble_eq_true rfl) (Nat.le_of_ble_eq_true rfl) (Nat.le_of_ble_eq_true rfl) (Nat.le_of_ble_eq_true rfl) hlocks (x_hx rfl) (fun z hz => nomatch hz) (by decide) (by decide)

set_option maxHeartbeats 4000000 in
set_option maxRecDepth 100000 in
theorem x_X4_needed_bad (l : Launch) (hlt : l.stackTraces = false) (D : va_G) (cI cZ cL : ClassId) (x0 : Nat) (e1 : Nat) (e2 : Nat) (fl : Nat → Int32) (fk : Nat → Int32) (a0 : Nat) (a1 : Nat) (a2 : Nat) (a3 : Nat) (a4 : Nat) (fh : Nat → Int32) (fo : Nat → Int32) (fc : Nat → Int32) (fs : Nat → Int32) (hz : Nat) (mv : Nat) (tu : Int32) (rf : Int32) (b0 : Nat) (b1 : Nat) (fx : Nat → Int32) (ln : Nat) (d0 : Nat) (d1 : Nat) (fn : Nat → Int32) (od : Nat) (sz6 : Nat) (p0 : Int32) (p1 : Int32) (hbad2 : ((decide (0 ≤ p0) && decide (p0 ≤ 35)) && (decide (0 ≤ p1) && decide (p1 ≤ 35))) = false) : vx_Met l yX4_needed wsX4_needed ({ frames := 6, cells := 1, slots := 6, locals := 82 }) (va_Pc [.ref x0, .int p0, .int p1] (zWx D cI cZ cL [(x0, .inr (3, [.ref a0, .ref b0, .ref d0, .ref e1, .ref e2])), (a0, .inr (0, [.ref a1, .ref a2, .ref a3, .ref a4, .int (nI hz), .int (nI mv), .int tu, .int rf])), (a1, .inl (cI, 36, .inl fh)), (a2, .inl (cI, 36, .inl fo)), (a3, .inl (cI, 36, .inl fc)), (a4, .inl (cI, 2, .inl fs)), (b0, .inr (1, [.ref b1, .int (nI ln)])), (b1, .inl (cI, 60, .inl fx)), (d0, .inr (2, [.ref d1, .int (nI od), .int (nI sz6)])), (d1, .inl (cI, 684, .inl fn)), (e1, .inl (cI, 228, .inl fl)), (e2, .inl (cZ, 2, .inl fk))])) (fun _ _ _ _ => False) (xXC xOOB) 1 6 (fun _ => False) := by
  refine vx_ofW (cc := cX4_needed) (maxL := 5) (ret := (some .int)) (by decide) rfl ?_
  intro p e s m args below meth c s₁ B hml ht0 hv
  obtain ⟨rfl, ⟨⟨hP, hK⟩, hN⟩, hXN, hUS⟩ := hv
  have hx := B.exec
  have hb := B.bytes
  have hr := B.returns
  have hts := atoms_spec (ws := wsX4_needed) B.pre
  have hown : s.vm.findClass RX4 = some m.cls := findClass_of_methodNamed B.named
  have hlocks := B.notSynchronized
  have hl := lv_entry ([.ref x0, .int p0, .int p1]) (n := 5) (Nat.le_of_ble_eq_true rfl)
  rw [lg_entry_eq]
  generalize (lg_sl ([.ref x0, .int p0, .int p1]) ++ List.replicate (5 - (lg_sl ([.ref x0, .int p0, .int p1])).length) Slot.unset).toArray = ls at hl ⊢
  have hl : lv_has ls 5 [(0, .ref x0), (1, .int p0), (2, .int p1)] := hl
  refine lv_iload_n hx hb dX4_needed_0 rfl (lv_at hl 1 rfl) ?_
  refine z_ci (va_runS (As := [.int p0]) (rest := []) ⟨hx, hb, hml, hown, hts⟩ (c_X4_isSquare l (p0 := p0)) (va_cwS 1 hts gX4_needed_X4_isSquare rfl rfl rfl (by decide +kernel) ⟨Nat.le_of_ble_eq_true rfl, Nat.le_of_ble_eq_true rfl⟩) z_preS rfl rfl hl.1 rfl (lv_room (Nat.le_of_ble_eq_true rfl)) dX4_needed_1 ⟨Nat.le_of_ble_eq_true rfl, Nat.le_of_ble_eq_true rfl⟩) ?_
  refine z_if_eq (tgt := 14) (P := (decide (0 ≤ p0) && decide (p0 ≤ 35)) = false) hx hb dX4_needed_4 (by decide) (zb_eq0) (fun c4 => ?_) (fun c4 => ?_)
  · skip
    obtain ⟨sa, hsa⟩ := hXN.2.2 (44, "no such square") (by decide)
    exact vx_throwS (own := RX4) (cls := xOOB) (text := "no such square") (names := xNm) (ik := 42) (is := 44) (ic := 46) (A := fun _ => False) hx hb hlt hown (by decide) (by decide) (hts (.classLink RX4 42 xOOB) (by decide +kernel)) (hts (.initialized xOOB) (by decide +kernel)) hsa (vx_hat (fun w hw => hts w (List.mem_cons_of_mem _ (List.mem_append_right _ hw))) x_b46 (hXN.use (by decide))) x_g46 hUS.1 hUS.2 va_S.rf (hl.1.trans hml.symm) dX4_needed_14 dX4_needed_17 dX4_needed_18 dX4_needed_20 dX4_needed_23 (x_cov ht0) (Nat.le_of_ble_eq_true rfl) (Nat.le_of_ble_eq_true rfl) (Nat.le_of_ble_eq_true rfl) (Nat.le_of_ble_eq_true rfl) hlocks (x_hx rfl) (fun z hz => nomatch hz) (by decide) (by decide)
  · skip
    refine lv_iload_n hx hb dX4_needed_7 rfl (lv_at hl 2 rfl) ?_
    refine z_ci (va_runS (As := [.int p1]) (rest := []) ⟨hx, hb, hml, hown, hts⟩ (c_X4_isSquare l (p0 := p1)) (va_cwS 1 hts gX4_needed_X4_isSquare rfl rfl rfl (by decide +kernel) ⟨Nat.le_of_ble_eq_true rfl, Nat.le_of_ble_eq_true rfl⟩) z_preS rfl rfl hl.1 rfl (lv_room (Nat.le_of_ble_eq_true rfl)) dX4_needed_8 ⟨Nat.le_of_ble_eq_true rfl, Nat.le_of_ble_eq_true rfl⟩) ?_
    refine z_if_ne (tgt := 24) (P := (decide (0 ≤ p1) && decide (p1 ≤ 35)) = false) hx hb dX4_needed_11 (by decide) (zb_eq0) (fun c11 => (show False from and_ff hbad2 c4 c11).elim) (fun c11 => ?_)
    obtain ⟨sa, hsa⟩ := hXN.2.2 (44, "no such square") (by decide)
    exact vx_throwS (own := RX4) (cls := xOOB) (text := "no such square") (names := xNm) (ik := 42) (is := 44) (ic := 46) (A := fun _ => False) hx hb hlt hown (by decide) (by decide) (hts (.classLink RX4 42 xOOB) (by decide +kernel)) (hts (.initialized xOOB) (by decide +kernel)) hsa (vx_hat (fun w hw => hts w (List.mem_cons_of_mem _ (List.mem_append_right _ hw))) x_b46 (hXN.use (by decide))) x_g46 hUS.1 hUS.2 va_S.rf (hl.1.trans hml.symm) dX4_needed_14 dX4_needed_17 dX4_needed_18 dX4_needed_20 dX4_needed_23 (x_cov ht0) (Nat.le_of_ble_eq_true rfl) (Nat.le_of_ble_eq_true rfl) (Nat.le_of_ble_eq_true rfl) (Nat.le_of_ble_eq_true rfl) hlocks (x_hx rfl) (fun z hz => nomatch hz) (by decide) (by decide)
