set_option maxHeartbeats 4000000 in
set_option maxRecDepth 100000 in
/-- whether a square is dark at an hour -/
theorem c_X0_isDark (l : Launch) (D : va_G) (cI cZ cL : ClassId) (a0 : Nat) (a1 : Nat) (a2 : Nat) (a3 : Nat) (a4 : Nat) (fh : Nat → Int32) (fo : Nat → Int32) (fc : Nat → Int32) (fs : Nat → Int32) (hz : Nat) (mv : Nat) (tu : Int32) (rf : Int32) (q : Nat) (hu : Nat) (hq : q < 36) (hhu : hu < 12) : Met l yX0_isDark wsX0_isDark ({ frames := 1, cells := 0, slots := 0, locals := 21 }) (va_Pc [.ref a0, .int (nI q), .int (nI hu)] (zW D cI cZ cL [(a0, .inr (0, [.ref a1, .ref a2, .ref a3, .ref a4, .int (nI hz), .int (nI mv), .int tu, .int rf])), (a1, .inl (cI, 36, .inl fh)), (a2, .inl (cI, 36, .inl fo)), (a3, .inl (cI, 36, .inl fc)), (a4, .inl (cI, 2, .inl fs))])) (zQi (zb (pDk fh q hu))) 0 0 (fun _ => False) := by
  refine Met.ofW (cc := cX0_isDark) (maxL := 8) (ret := (some .boolean)) (by decide) rfl ?_
  intro p e s m args below meth c s₁ B hml hv
  obtain ⟨rfl, hP, hK⟩ := hv
  have hx := B.exec
  have hb := B.bytes
  have hr := B.returns
  have hts := atoms_spec (ws := wsX0_isDark) B.pre
  have hown : s.vm.findClass RX0 = some m.cls := findClass_of_methodNamed B.named
  have hlocks := B.notSynchronized
  have in0 : ∀ w ∈ u_ws RX0 TX0 8, w ∈ wsX0_isDark := by decide +kernel
  have fl9 := hts (.fieldLink RX0 9 "TowerShades$Field" "heights" "[I") (by decide +kernel)
  have hl := lv_entry ([.ref a0, .int (nI q), .int (nI hu)]) (n := 8) (Nat.le_of_ble_eq_true rfl)
  rw [lg_entry_eq]
  generalize (lg_sl ([.ref a0, .int (nI q), .int (nI hu)]) ++ List.replicate (8 - (lg_sl ([.ref a0, .int (nI q), .int (nI hu)])).length) Slot.unset).toArray = ls at hl ⊢
  have hl : lv_has ls 8 [(0, .ref a0), (1, .int (nI q)), (2, .int (nI hu))] := hl
  have hR := pR_le (hu / 3) (by omega) q hq
  have hSt := pSt_le hu
  refine lv_iload_n hx hb dX0_isDark_0 rfl (lv_at hl 2 rfl) ?_
  refine z_ci (va_runS (As := [.int (nI hu)]) (rest := []) ⟨hx, hb, hml, hown, hts⟩ (c_X3_side l (hz := hu) (hh := by omega)) (va_cwS 1 hts gX0_isDark_X3_side rfl rfl rfl (by decide +kernel) ⟨Nat.le_of_ble_eq_true rfl, Nat.le_of_ble_eq_true rfl⟩) z_preS rfl rfl hl.1 rfl (lv_room (Nat.le_of_ble_eq_true rfl)) dX0_isDark_1 ⟨Nat.le_of_ble_eq_true rfl, Nat.le_of_ble_eq_true rfl⟩) ?_
  refine lv_istore_n (lv' := [(3, .int (nI (hu / 3))), (0, .ref a0), (1, .int (nI q)), (2, .int (nI hu))]) hx hb dX0_isDark_4 rfl hl (by decide) rfl (fun ls hl => ?_)
  refine lv_iload_n hx hb dX0_isDark_5 rfl (lv_at hl 3 rfl) ?_
  refine z_ci (va_runS (As := [.int (nI hu)]) (rest := []) ⟨hx, hb, hml, hown, hts⟩ (c_X3_steepness l (hz := hu) (hh := by omega)) (va_cwS 1 hts gX0_isDark_X3_steepness rfl rfl rfl (by decide +kernel) ⟨Nat.le_of_ble_eq_true rfl, Nat.le_of_ble_eq_true rfl⟩) z_preS rfl rfl hl.1 rfl (lv_room (Nat.le_of_ble_eq_true rfl)) dX0_isDark_6 ⟨Nat.le_of_ble_eq_true rfl, Nat.le_of_ble_eq_true rfl⟩) ?_
  refine lv_istore (lv' := [(4, .int (nI (pSt hu))), (3, .int (nI (hu / 3))), (0, .ref a0), (1, .int (nI q)), (2, .int (nI hu))]) hx hb dX0_isDark_9 hl (by decide) rfl (fun ls hl => ?_)
  refine lv_iload_n hx hb dX0_isDark_11 rfl (lv_at hl 1 rfl) ?_
  refine z_ci (va_runS (As := [.int (nI (hu / 3))]) (rest := []) ⟨hx, hb, hml, hown, hts⟩ (c_X3_stepTowardSun l (sd := hu / 3) (hs := by omega)) (va_cwS 1 hts gX0_isDark_X3_stepTowardSun rfl rfl rfl (by decide +kernel) ⟨Nat.le_of_ble_eq_true rfl, Nat.le_of_ble_eq_true rfl⟩) z_preS rfl rfl hl.1 rfl (lv_room (Nat.le_of_ble_eq_true rfl)) dX0_isDark_12 ⟨Nat.le_of_ble_eq_true rfl, Nat.le_of_ble_eq_true rfl⟩) ?_
  refine lv_istore (lv' := [(5, .int (pStep (hu / 3))), (4, .int (nI (pSt hu))), (3, .int (nI (hu / 3))), (0, .ref a0), (1, .int (nI q)), (2, .int (nI hu))]) hx hb dX0_isDark_15 hl (by decide) rfl (fun ls hl => ?_)
  refine lv_iload_n hx hb dX0_isDark_17 rfl (lv_at hl 2 rfl) ?_
  refine lv_iload_n hx hb dX0_isDark_18 rfl (lv_at hl 4 rfl) ?_
  refine z_ci (va_runS (As := [.int (nI (hu / 3)), .int (nI q)]) (rest := []) ⟨hx, hb, hml, hown, hts⟩ (c_X3_squaresTowardSun l (sd := hu / 3) (q := q) (hs := by omega) (hq := by omega)) (va_cwS 2 hts gX0_isDark_X3_squaresTowardSun rfl rfl rfl (by decide +kernel) ⟨Nat.le_of_ble_eq_true rfl, Nat.le_of_ble_eq_true rfl⟩) z_preS rfl rfl hl.1 rfl (lv_room (Nat.le_of_ble_eq_true rfl)) dX0_isDark_19 ⟨Nat.le_of_ble_eq_true rfl, Nat.le_of_ble_eq_true rfl⟩) ?_
  refine lv_istore (lv' := [(6, .int (nI (pR (hu / 3) q))), (5, .int (pStep (hu / 3))), (4, .int (nI (pSt hu))), (3, .int (nI (hu / 3))), (0, .ref a0), (1, .int (nI q)), (2, .int (nI hu))]) hx hb dX0_isDark_22 hl (by decide) rfl (fun ls hl => ?_)
  refine lv_iconst (v := 1) hx hb dX0_isDark_24 (by decide) ?_
  refine lv_istore (lv' := [(7, .int 1), (6, .int (nI (pR (hu / 3) q))), (5, .int (pStep (hu / 3))), (4, .int (nI (pSt hu))), (3, .int (nI (hu / 3))), (0, .ref a0), (1, .int (nI q)), (2, .int (nI hu))]) hx hb dX0_isDark_25 hl (by decide) rfl (fun ls hl => ?_)
  refine z_up (N := pR (hu / 3) q) (i0 := 0) (fun i ls => (an (pSi fh q hu) i = false) ∧ lv_has ls 8 [(0, .ref a0), (1, .int (nI q)), (2, .int (nI hu)), (3, .int (nI (hu / 3))), (4, .int (nI (pSt hu))), (5, .int (pStep (hu / 3))), (6, .int (nI (pR (hu / 3) q))), (7, .int (nI (i + 1)))]) (by omega) (⟨rfl, lv_sub hl [5, 6, 7, 4, 3, 2, 1, 0] rfl⟩) (fun i ls hi27 hI ih27 => ?_)
  obtain ⟨hn, hl⟩ := hI
  refine lv_iload hx hb dX0_isDark_27 (lv_at hl 7 rfl) ?_
  refine lv_iload hx hb dX0_isDark_29 (lv_at hl 6 rfl) ?_
  refine z_icmp_gt (tgt := 69) (P := pR (hu / 3) q < (i + 1)) hx hb dX0_isDark_31 (by decide) (nI_ltI (a := pR (hu / 3) q) (b := (i + 1)) (by omega) (by omega)) (fun c31 => ?_) (fun c31 => ?_)
  · skip
    refine lv_iconst (v := 0) hx hb dX0_isDark_69 (by decide) ?_
    exact z_zret hx hb hr hlocks dX0_isDark_70 (by rw [pDk, show pR (hu / 3) q = i by omega, hn]; rfl)
  · skip
    refine lv_aload_n hx hb dX0_isDark_34 rfl (lv_at hl 0 rfl) ?_
    refine va_get (D := D) (ci := 0) (v := .ref a1) (C := RX0) (T := TX0) (N := 8) hx hb hts in0 hown hK hP 0 rfl rfl 0 (by decide) fl9 (fun _ h9 => h9) rfl dX0_isDark_35 ?_
    refine lv_iload_n hx hb dX0_isDark_38 rfl (lv_at hl 1 rfl) ?_
    refine lv_iload hx hb dX0_isDark_39 (lv_at hl 7 rfl) ?_
    refine lv_iload hx hb dX0_isDark_41 (lv_at hl 5 rfl) ?_
    refine z_imul (v := ((nI (i + 1)) * (pStep (hu / 3)))) hx hb dX0_isDark_43 (rfl) ?_
    refine z_iadd (v := nI (pT (hu / 3) q (i + 1))) hx hb dX0_isDark_44 ((pT_ok (hu / 3) (by omega) q hq (i + 1) (by omega)).1) ?_
    refine z_iald hx hb hK hP 1 0 rfl rfl (k := (pT (hu / 3) q (i + 1))) (rfl) ((pT_ok (hu / 3) (by omega) q hq (i + 1) (by omega)).2) (by decide) dX0_isDark_45 ?_
    refine lv_iload hx hb dX0_isDark_46 (lv_at hl 7 rfl) ?_
    refine lv_iload hx hb dX0_isDark_48 (lv_at hl 4 rfl) ?_
    refine z_imul (v := nI ((i + 1) * pSt hu)) hx hb dX0_isDark_50 (pk_mul ((i + 1)) (pSt hu)) ?_
    refine z_isub (v := ((fh (pT (hu / 3) q (i + 1))) - (nI ((i + 1) * pSt hu)))) hx hb dX0_isDark_51 (rfl) ?_
    refine lv_aload_n hx hb dX0_isDark_52 rfl (lv_at hl 0 rfl) ?_
    refine va_get (D := D) (ci := 0) (v := .ref a1) (C := RX0) (T := TX0) (N := 8) hx hb hts in0 hown hK hP 0 rfl rfl 0 (by decide) fl9 (fun _ h9 => h9) rfl dX0_isDark_53 ?_
    refine lv_iload_n hx hb dX0_isDark_56 rfl (lv_at hl 1 rfl) ?_
    refine z_iald hx hb hK hP 1 0 rfl rfl (k := q) (rfl) (by omega) (by decide) dX0_isDark_57 ?_
    refine z_icmp_le (tgt := 63) (P := ((fh (pT (hu / 3) q (i + 1))) - (nI ((i + 1) * pSt hu))) ≤ (fh q)) hx hb dX0_isDark_58 (by decide) (Iff.rfl) (fun c58 => ?_) (fun c58 => ?_)
    · skip
      refine lv_iinc (v := nI ((i + 1) + 1)) (lv' := [(7, .int (nI ((i + 1) + 1))), (0, .ref a0), (1, .int (nI q)), (2, .int (nI hu)), (3, .int (nI (hu / 3))), (4, .int (nI (pSt hu))), (5, .int (pStep (hu / 3))), (6, .int (nI (pR (hu / 3) q)))]) hx hb dX0_isDark_63 hl (k := 7) rfl (nI_1 ((i + 1))) (by decide) rfl (fun ls hl => ?_)
      refine lv_goto (tgt := 27) hx hb dX0_isDark_66 (by decide) ?_
      exact ih27 (by omega) _ (⟨by simp only [an, hn, Bool.false_or]; exact pSi_f c58, lv_sub hl [1, 2, 3, 4, 5, 6, 7, 0] rfl⟩)
    · skip
      refine lv_iconst (v := 1) hx hb dX0_isDark_61 (by decide) ?_
      exact z_zret hx hb hr hlocks dX0_isDark_62 (by rw [pDk, an_t (P := pSi fh q hu) (i := i) (pSi_t c58) (by omega)]; rfl)

set_option maxHeartbeats 4000000 in
set_option maxRecDepth 100000 in
/-- the same by the shadow that sinks -/
theorem c_X0_isDarkBySweep (l : Launch) (D : va_G) (cI cZ cL : ClassId) (a0 : Nat) (a1 : Nat) (a2 : Nat) (a3 : Nat) (a4 : Nat) (fh : Nat → Int32) (fo : Nat → Int32) (fc : Nat → Int32) (fs : Nat → Int32) (hz : Nat) (mv : Nat) (tu : Int32) (rf : Int32) (q : Nat) (hu : Nat) (hq : q < 36) (hhu : hu < 12) : Met l yX0_isDarkBySweep wsX0_isDarkBySweep ({ frames := 1, cells := 0, slots := 0, locals := 21 }) (va_Pc [.ref a0, .int (nI q), .int (nI hu)] (zW D cI cZ cL [(a0, .inr (0, [.ref a1, .ref a2, .ref a3, .ref a4, .int (nI hz), .int (nI mv), .int tu, .int rf])), (a1, .inl (cI, 36, .inl fh)), (a2, .inl (cI, 36, .inl fo)), (a3, .inl (cI, 36, .inl fc)), (a4, .inl (cI, 2, .inl fs))])) (zQi (zb (pDs fh q hu))) 0 0 (fun _ => False) := by
  refine Met.ofW (cc := cX0_isDarkBySweep) (maxL := 8) (ret := (some .boolean)) (by decide) rfl ?_
  intro p e s m args below meth c s₁ B hml hv
  obtain ⟨rfl, hP, hK⟩ := hv
  have hx := B.exec
  have hb := B.bytes
  have hr := B.returns
  have hts := atoms_spec (ws := wsX0_isDarkBySweep) B.pre
  have hown : s.vm.findClass RX0 = some m.cls := findClass_of_methodNamed B.named
  have hlocks := B.notSynchronized
  have in0 : ∀ w ∈ u_ws RX0 TX0 8, w ∈ wsX0_isDarkBySweep := by decide +kernel
  have fl9 := hts (.fieldLink RX0 9 "TowerShades$Field" "heights" "[I") (by decide +kernel)
  have hl := lv_entry ([.ref a0, .int (nI q), .int (nI hu)]) (n := 8) (Nat.le_of_ble_eq_true rfl)
  rw [lg_entry_eq]
  generalize (lg_sl ([.ref a0, .int (nI q), .int (nI hu)]) ++ List.replicate (8 - (lg_sl ([.ref a0, .int (nI q), .int (nI hu)])).length) Slot.unset).toArray = ls at hl ⊢
  have hl : lv_has ls 8 [(0, .ref a0), (1, .int (nI q)), (2, .int (nI hu))] := hl
  have hR := pR_le (hu / 3) (by omega) q hq
  refine lv_iload_n hx hb dX0_isDarkBySweep_0 rfl (lv_at hl 2 rfl) ?_
  refine z_ci (va_runS (As := [.int (nI hu)]) (rest := []) ⟨hx, hb, hml, hown, hts⟩ (c_X3_side l (hz := hu) (hh := by omega)) (va_cwS 1 hts gX0_isDarkBySweep_X3_side rfl rfl rfl (by decide +kernel) ⟨Nat.le_of_ble_eq_true rfl, Nat.le_of_ble_eq_true rfl⟩) z_preS rfl rfl hl.1 rfl (lv_room (Nat.le_of_ble_eq_true rfl)) dX0_isDarkBySweep_1 ⟨Nat.le_of_ble_eq_true rfl, Nat.le_of_ble_eq_true rfl⟩) ?_
  refine lv_istore_n (lv' := [(3, .int (nI (hu / 3))), (0, .ref a0), (1, .int (nI q)), (2, .int (nI hu))]) hx hb dX0_isDarkBySweep_4 rfl hl (by decide) rfl (fun ls hl => ?_)
  refine lv_iload_n hx hb dX0_isDarkBySweep_5 rfl (lv_at hl 3 rfl) ?_
  refine z_ci (va_runS (As := [.int (nI hu)]) (rest := []) ⟨hx, hb, hml, hown, hts⟩ (c_X3_steepness l (hz := hu) (hh := by omega)) (va_cwS 1 hts gX0_isDarkBySweep_X3_steepness rfl rfl rfl (by decide +kernel) ⟨Nat.le_of_ble_eq_true rfl, Nat.le_of_ble_eq_true rfl⟩) z_preS rfl rfl hl.1 rfl (lv_room (Nat.le_of_ble_eq_true rfl)) dX0_isDarkBySweep_6 ⟨Nat.le_of_ble_eq_true rfl, Nat.le_of_ble_eq_true rfl⟩) ?_
  refine lv_istore (lv' := [(4, .int (nI (pSt hu))), (3, .int (nI (hu / 3))), (0, .ref a0), (1, .int (nI q)), (2, .int (nI hu))]) hx hb dX0_isDarkBySweep_9 hl (by decide) rfl (fun ls hl => ?_)
  refine lv_iload_n hx hb dX0_isDarkBySweep_11 rfl (lv_at hl 1 rfl) ?_
  refine z_ci (va_runS (As := [.int (nI (hu / 3))]) (rest := []) ⟨hx, hb, hml, hown, hts⟩ (c_X3_stepTowardSun l (sd := hu / 3) (hs := by omega)) (va_cwS 1 hts gX0_isDarkBySweep_X3_stepTowardSun rfl rfl rfl (by decide +kernel) ⟨Nat.le_of_ble_eq_true rfl, Nat.le_of_ble_eq_true rfl⟩) z_preS rfl rfl hl.1 rfl (lv_room (Nat.le_of_ble_eq_true rfl)) dX0_isDarkBySweep_12 ⟨Nat.le_of_ble_eq_true rfl, Nat.le_of_ble_eq_true rfl⟩) ?_
  refine lv_istore (lv' := [(5, .int (pStep (hu / 3))), (4, .int (nI (pSt hu))), (3, .int (nI (hu / 3))), (0, .ref a0), (1, .int (nI q)), (2, .int (nI hu))]) hx hb dX0_isDarkBySweep_15 hl (by decide) rfl (fun ls hl => ?_)
  refine lv_iconst (v := 0) hx hb dX0_isDarkBySweep_17 (by decide) ?_
  refine lv_istore (lv' := [(6, .int 0), (5, .int (pStep (hu / 3))), (4, .int (nI (pSt hu))), (3, .int (nI (hu / 3))), (0, .ref a0), (1, .int (nI q)), (2, .int (nI hu))]) hx hb dX0_isDarkBySweep_18 hl (by decide) rfl (fun ls hl => ?_)
  refine lv_iload_n hx hb dX0_isDarkBySweep_20 rfl (lv_at hl 3 rfl) ?_
  refine lv_iload_n hx hb dX0_isDarkBySweep_21 rfl (lv_at hl 5 rfl) ?_
  refine z_ci (va_runS (As := [.int (nI (hu / 3)), .int (nI q)]) (rest := []) ⟨hx, hb, hml, hown, hts⟩ (c_X3_squaresTowardSun l (sd := hu / 3) (q := q) (hs := by omega) (hq := by omega)) (va_cwS 2 hts gX0_isDarkBySweep_X3_squaresTowardSun rfl rfl rfl (by decide +kernel) ⟨Nat.le_of_ble_eq_true rfl, Nat.le_of_ble_eq_true rfl⟩) z_preS rfl rfl hl.1 rfl (lv_room (Nat.le_of_ble_eq_true rfl)) dX0_isDarkBySweep_22 ⟨Nat.le_of_ble_eq_true rfl, Nat.le_of_ble_eq_true rfl⟩) ?_
  refine lv_istore (lv' := [(7, .int (nI (pR (hu / 3) q))), (6, .int 0), (5, .int (pStep (hu / 3))), (4, .int (nI (pSt hu))), (3, .int (nI (hu / 3))), (0, .ref a0), (1, .int (nI q)), (2, .int (nI hu))]) hx hb dX0_isDarkBySweep_25 hl (by decide) rfl (fun ls hl => ?_)
  refine z_up (N := pR (hu / 3) q) (i0 := 0) (fun i ls => lv_has ls 8 [(0, .ref a0), (1, .int (nI q)), (2, .int (nI hu)), (3, .int (nI (hu / 3))), (4, .int (nI (pSt hu))), (5, .int (pStep (hu / 3))), (6, .int (pSw fh (pSt hu) (hu / 3) q i)), (7, .int (nI (pR (hu / 3) q - i)))]) (by omega) (lv_sub hl [5, 6, 7, 4, 3, 2, 1, 0] rfl) (fun i ls hi27 hI ih27 => ?_)
  have hl : lv_has ls 8 [(0, .ref a0), (1, .int (nI q)), (2, .int (nI hu)), (3, .int (nI (hu / 3))), (4, .int (nI (pSt hu))), (5, .int (pStep (hu / 3))), (6, .int (pSw fh (pSt hu) (hu / 3) q i)), (7, .int (nI (pR (hu / 3) q - i)))] := hI
  refine lv_iload hx hb dX0_isDarkBySweep_27 (lv_at hl 7 rfl) ?_
  refine lv_iconst (v := 1) hx hb dX0_isDarkBySweep_29 (by decide) ?_
  refine z_icmp_lt (tgt := 61) (P := (pR (hu / 3) q - i) < 1) hx hb dX0_isDarkBySweep_30 (by decide) (nI_ltI (a := (pR (hu / 3) q - i)) (b := 1) (by omega) (by omega)) (fun c30 => ?_) (fun c30 => ?_)
  · skip
    refine lv_iload hx hb dX0_isDarkBySweep_61 (lv_at hl 6 rfl) ?_
    refine lv_aload_n hx hb dX0_isDarkBySweep_63 rfl (lv_at hl 0 rfl) ?_
    refine va_get (D := D) (ci := 0) (v := .ref a1) (C := RX0) (T := TX0) (N := 8) hx hb hts in0 hown hK hP 0 rfl rfl 0 (by decide) fl9 (fun _ h9 => h9) rfl dX0_isDarkBySweep_64 ?_
    refine lv_iload_n hx hb dX0_isDarkBySweep_67 rfl (lv_at hl 1 rfl) ?_
    refine z_iald hx hb hK hP 1 0 rfl rfl (k := q) (rfl) (by omega) (by decide) dX0_isDarkBySweep_68 ?_
    refine z_icmp_le (tgt := 76) (P := (pSw fh (pSt hu) (hu / 3) q i) ≤ (fh q)) hx hb dX0_isDarkBySweep_69 (by decide) (Iff.rfl) (fun c69 => ?_) (fun c69 => ?_)
    · skip
      refine lv_iconst (v := 0) hx hb dX0_isDarkBySweep_76 (by decide) ?_
      exact z_zret hx hb hr hlocks dX0_isDarkBySweep_77 (by rw [pDs, ← show i = pR (hu / 3) q by omega]; simp [zb, c30, c69])
    · skip
      refine lv_iconst (v := 1) hx hb dX0_isDarkBySweep_72 (by decide) ?_
      refine lv_goto (tgt := 77) hx hb dX0_isDarkBySweep_73 (by decide) ?_
      exact z_zret hx hb hr hlocks dX0_isDarkBySweep_77 (by rw [pDs, ← show i = pR (hu / 3) q by omega]; simp [zb, c30, c69])
  · skip
    refine lv_iload hx hb dX0_isDarkBySweep_33 (lv_at hl 6 rfl) ?_
    refine lv_aload_n hx hb dX0_isDarkBySweep_35 rfl (lv_at hl 0 rfl) ?_
    refine va_get (D := D) (ci := 0) (v := .ref a1) (C := RX0) (T := TX0) (N := 8) hx hb hts in0 hown hK hP 0 rfl rfl 0 (by decide) fl9 (fun _ h9 => h9) rfl dX0_isDarkBySweep_36 ?_
    refine lv_iload_n hx hb dX0_isDarkBySweep_39 rfl (lv_at hl 1 rfl) ?_
    refine lv_iload hx hb dX0_isDarkBySweep_40 (lv_at hl 7 rfl) ?_
    refine lv_iload hx hb dX0_isDarkBySweep_42 (lv_at hl 5 rfl) ?_
    refine z_imul (v := ((nI (pR (hu / 3) q - i)) * (pStep (hu / 3)))) hx hb dX0_isDarkBySweep_44 (rfl) ?_
    refine z_iadd (v := nI (pT (hu / 3) q (pR (hu / 3) q - i))) hx hb dX0_isDarkBySweep_45 ((pT_ok (hu / 3) (by omega) q hq (pR (hu / 3) q - i) (by omega)).1) ?_
    refine z_iald hx hb hK hP 1 0 rfl rfl (k := (pT (hu / 3) q (pR (hu / 3) q - i))) (rfl) ((pT_ok (hu / 3) (by omega) q hq (pR (hu / 3) q - i) (by omega)).2) (by decide) dX0_isDarkBySweep_46 ?_
    refine va_mmax hx hb (hml.trans hl.1.symm) hown (hts (.methodLink RX0 73 Lib.Math.max.name) (by decide +kernel)) (hts (.static Lib.Math.max.name) (by decide +kernel)) (hts (.initialized "java/lang/Math") (by decide +kernel)) (hts (.code Lib.Math.max.name Lib.Math.max.code 2 (some .int)) (by decide +kernel)) (Nat.le_of_ble_eq_true rfl) (Nat.le_of_ble_eq_true rfl) (Nat.le_of_ble_eq_true rfl) (Nat.le_of_ble_eq_true rfl) dX0_isDarkBySweep_47 ?_
    refine lv_iload hx hb dX0_isDarkBySweep_50 (lv_at hl 4 rfl) ?_
    refine z_isub (v := ((if (pSw fh (pSt hu) (hu / 3) q i) < fh (pT (hu / 3) q (pR (hu / 3) q - i)) then fh (pT (hu / 3) q (pR (hu / 3) q - i)) else (pSw fh (pSt hu) (hu / 3) q i)) - (nI (pSt hu)))) hx hb dX0_isDarkBySweep_52 (rfl) ?_
    refine z_top (y := (pSw fh (pSt hu) (hu / 3) q (i + 1))) rfl ?_
    refine lv_istore (lv' := [(6, .int (pSw fh (pSt hu) (hu / 3) q (i + 1))), (0, .ref a0), (1, .int (nI q)), (2, .int (nI hu)), (3, .int (nI (hu / 3))), (4, .int (nI (pSt hu))), (5, .int (pStep (hu / 3))), (7, .int (nI (pR (hu / 3) q - i)))]) hx hb dX0_isDarkBySweep_53 hl (by decide) rfl (fun ls hl => ?_)
    refine lv_iinc (v := nI (pR (hu / 3) q - (i + 1))) (lv' := [(7, .int (nI (pR (hu / 3) q - (i + 1)))), (6, .int (pSw fh (pSt hu) (hu / 3) q (i + 1))), (0, .ref a0), (1, .int (nI q)), (2, .int (nI hu)), (3, .int (nI (hu / 3))), (4, .int (nI (pSt hu))), (5, .int (pStep (hu / 3)))]) hx hb dX0_isDarkBySweep_55 hl (k := 7) rfl (by rw [show pR (hu / 3) q - i = (pR (hu / 3) q - (i + 1)) + 1 by omega]; exact pk_m1 _) (by decide) rfl (fun ls hl => ?_)
    refine lv_goto (tgt := 27) hx hb dX0_isDarkBySweep_58 (by decide) ?_
    exact ih27 (by omega) _ (lv_sub hl [2, 3, 4, 5, 6, 7, 1, 0] rfl)

set_option maxHeartbeats 4000000 in
set_option maxRecDepth 100000 in
/-- a player's towers that shade a square -/
theorem c_X0_towersShading (l : Launch) (D : va_G) (cI cZ cL : ClassId) (a0 : Nat) (a1 : Nat) (a2 : Nat) (a3 : Nat) (a4 : Nat) (fh : Nat → Int32) (fo : Nat → Int32) (fc : Nat → Int32) (fs : Nat → Int32) (hz : Nat) (mv : Nat) (tu : Int32) (rf : Int32) (q : Nat) (pl : Nat) (hq : q < 36) (hpl : pl < 2) (hhz : hz < 12) : Met l yX0_towersShading wsX0_towersShading ({ frames := 1, cells := 0, slots := 0, locals := 21 }) (va_Pc [.ref a0, .int (nI q), .int (nI pl)] (zW D cI cZ cL [(a0, .inr (0, [.ref a1, .ref a2, .ref a3, .ref a4, .int (nI hz), .int (nI mv), .int tu, .int rf])), (a1, .inl (cI, 36, .inl fh)), (a2, .inl (cI, 36, .inl fo)), (a3, .inl (cI, 36, .inl fc)), (a4, .inl (cI, 2, .inl fs))])) (zQi (nI (pTn fo fh pl q hz))) 0 0 (fun _ => False) := by
  refine Met.ofW (cc := cX0_towersShading) (maxL := 10) (ret := (some .int)) (by decide) rfl ?_
  intro p e s m args below meth c s₁ B hml hv
  obtain ⟨rfl, hP, hK⟩ := hv
  have hx := B.exec
  have hb := B.bytes
  have hr := B.returns
  have hts := atoms_spec (ws := wsX0_towersShading) B.pre
  have hown : s.vm.findClass RX0 = some m.cls := findClass_of_methodNamed B.named
  have hlocks := B.notSynchronized
  have in0 : ∀ w ∈ u_ws RX0 TX0 8, w ∈ wsX0_towersShading := by decide +kernel
  have fl9 := hts (.fieldLink RX0 9 "TowerShades$Field" "heights" "[I") (by decide +kernel)
  have fl15 := hts (.fieldLink RX0 15 "TowerShades$Field" "owners" "[I") (by decide +kernel)
  have fl30 := hts (.fieldLink RX0 30 "TowerShades$Field" "hourNow" "I") (by decide +kernel)
  have hl := lv_entry ([.ref a0, .int (nI q), .int (nI pl)]) (n := 10) (Nat.le_of_ble_eq_true rfl)
  rw [lg_entry_eq]
  generalize (lg_sl ([.ref a0, .int (nI q), .int (nI pl)]) ++ List.replicate (10 - (lg_sl ([.ref a0, .int (nI q), .int (nI pl)])).length) Slot.unset).toArray = ls at hl ⊢
  have hl : lv_has ls 10 [(0, .ref a0), (1, .int (nI q)), (2, .int (nI pl))] := hl
  have hR := pR_le (hz / 3) (by omega) q hq
  refine lv_aload_n hx hb dX0_towersShading_0 rfl (lv_at hl 0 rfl) ?_
  refine va_get (D := D) (ci := 0) (v := .int (nI hz)) (C := RX0) (T := TX0) (N := 8) hx hb hts in0 hown hK hP 0 rfl rfl 4 (by decide) fl30 (fun _ h9 => h9) rfl dX0_towersShading_1 ?_
  refine z_ci (va_runS (As := [.int (nI hz)]) (rest := []) ⟨hx, hb, hml, hown, hts⟩ (c_X3_side l (hz := hz) (hh := by omega)) (va_cwS 1 hts gX0_towersShading_X3_side rfl rfl rfl (by decide +kernel) ⟨Nat.le_of_ble_eq_true rfl, Nat.le_of_ble_eq_true rfl⟩) z_preS rfl rfl hl.1 rfl (lv_room (Nat.le_of_ble_eq_true rfl)) dX0_towersShading_4 ⟨Nat.le_of_ble_eq_true rfl, Nat.le_of_ble_eq_true rfl⟩) ?_
  refine lv_istore_n (lv' := [(3, .int (nI (hz / 3))), (0, .ref a0), (1, .int (nI q)), (2, .int (nI pl))]) hx hb dX0_towersShading_7 rfl hl (by decide) rfl (fun ls hl => ?_)
  refine lv_aload_n hx hb dX0_towersShading_8 rfl (lv_at hl 1 rfl) ?_
  refine va_get (D := D) (ci := 0) (v := .int (nI hz)) (C := RX0) (T := TX0) (N := 8) hx hb hts in0 hown hK hP 0 rfl rfl 4 (by decide) fl30 (fun _ h9 => h9) rfl dX0_towersShading_9 ?_
  refine z_ci (va_runS (As := [.int (nI hz)]) (rest := []) ⟨hx, hb, hml, hown, hts⟩ (c_X3_steepness l (hz := hz) (hh := by omega)) (va_cwS 1 hts gX0_towersShading_X3_steepness rfl rfl rfl (by decide +kernel) ⟨Nat.le_of_ble_eq_true rfl, Nat.le_of_ble_eq_true rfl⟩) z_preS rfl rfl hl.1 rfl (lv_room (Nat.le_of_ble_eq_true rfl)) dX0_towersShading_12 ⟨Nat.le_of_ble_eq_true rfl, Nat.le_of_ble_eq_true rfl⟩) ?_
  refine lv_istore (lv' := [(4, .int (nI (pSt hz))), (3, .int (nI (hz / 3))), (0, .ref a0), (1, .int (nI q)), (2, .int (nI pl))]) hx hb dX0_towersShading_15 hl (by decide) rfl (fun ls hl => ?_)
  refine lv_iload_n hx hb dX0_towersShading_17 rfl (lv_at hl 1 rfl) ?_
  refine z_ci (va_runS (As := [.int (nI (hz / 3))]) (rest := []) ⟨hx, hb, hml, hown, hts⟩ (c_X3_stepTowardSun l (sd := hz / 3) (hs := by omega)) (va_cwS 1 hts gX0_towersShading_X3_stepTowardSun rfl rfl rfl (by decide +kernel) ⟨Nat.le_of_ble_eq_true rfl, Nat.le_of_ble_eq_true rfl⟩) z_preS rfl rfl hl.1 rfl (lv_room (Nat.le_of_ble_eq_true rfl)) dX0_towersShading_18 ⟨Nat.le_of_ble_eq_true rfl, Nat.le_of_ble_eq_true rfl⟩) ?_
  refine lv_istore (lv' := [(5, .int (pStep (hz / 3))), (4, .int (nI (pSt hz))), (3, .int (nI (hz / 3))), (0, .ref a0), (1, .int (nI q)), (2, .int (nI pl))]) hx hb dX0_towersShading_21 hl (by decide) rfl (fun ls hl => ?_)
  refine lv_iload_n hx hb dX0_towersShading_23 rfl (lv_at hl 2 rfl) ?_
  refine lv_iload_n hx hb dX0_towersShading_24 rfl (lv_at hl 4 rfl) ?_
  refine z_ci (va_runS (As := [.int (nI (hz / 3)), .int (nI q)]) (rest := []) ⟨hx, hb, hml, hown, hts⟩ (c_X3_squaresTowardSun l (sd := hz / 3) (q := q) (hs := by omega) (hq := by omega)) (va_cwS 2 hts gX0_towersShading_X3_squaresTowardSun rfl rfl rfl (by decide +kernel) ⟨Nat.le_of_ble_eq_true rfl, Nat.le_of_ble_eq_true rfl⟩) z_preS rfl rfl hl.1 rfl (lv_room (Nat.le_of_ble_eq_true rfl)) dX0_towersShading_25 ⟨Nat.le_of_ble_eq_true rfl, Nat.le_of_ble_eq_true rfl⟩) ?_
  refine lv_istore (lv' := [(6, .int (nI (pR (hz / 3) q))), (5, .int (pStep (hz / 3))), (4, .int (nI (pSt hz))), (3, .int (nI (hz / 3))), (0, .ref a0), (1, .int (nI q)), (2, .int (nI pl))]) hx hb dX0_towersShading_28 hl (by decide) rfl (fun ls hl => ?_)
  refine lv_iconst (v := 0) hx hb dX0_towersShading_30 (by decide) ?_
  refine lv_istore (lv' := [(7, .int 0), (6, .int (nI (pR (hz / 3) q))), (5, .int (pStep (hz / 3))), (4, .int (nI (pSt hz))), (3, .int (nI (hz / 3))), (0, .ref a0), (1, .int (nI q)), (2, .int (nI pl))]) hx hb dX0_towersShading_31 hl (by decide) rfl (fun ls hl => ?_)
  refine lv_iconst (v := 1) hx hb dX0_towersShading_33 (by decide) ?_
  refine lv_istore (lv' := [(8, .int 1), (7, .int 0), (6, .int (nI (pR (hz / 3) q))), (5, .int (pStep (hz / 3))), (4, .int (nI (pSt hz))), (3, .int (nI (hz / 3))), (0, .ref a0), (1, .int (nI q)), (2, .int (nI pl))]) hx hb dX0_towersShading_34 hl (by decide) rfl (fun ls hl => ?_)
  refine z_up (N := pR (hz / 3) q) (i0 := 0) (fun i ls => ∃ xn : Int32, xn = nI (cn (pTs fo fh pl q hz) i) ∧ lv_has ls 10 [(0, .ref a0), (1, .int (nI q)), (2, .int (nI pl)), (3, .int (nI (hz / 3))), (4, .int (nI (pSt hz))), (5, .int (pStep (hz / 3))), (6, .int (nI (pR (hz / 3) q))), (7, .int xn), (8, .int (nI (i + 1)))]) (by omega) (⟨_, rfl, lv_sub hl [6, 7, 8, 5, 4, 3, 2, 1, 0] rfl⟩) (fun i ls hi36 hI ih36 => ?_)
  obtain ⟨xn, exn, hl⟩ := hI
  refine lv_iload hx hb dX0_towersShading_36 (lv_at hl 8 rfl) ?_
  refine lv_iload hx hb dX0_towersShading_38 (lv_at hl 6 rfl) ?_
  refine z_icmp_gt (tgt := 94) (P := pR (hz / 3) q < (i + 1)) hx hb dX0_towersShading_40 (by decide) (nI_ltI (a := pR (hz / 3) q) (b := (i + 1)) (by omega) (by omega)) (fun c40 => ?_) (fun c40 => ?_)
  · skip
    refine lv_iload hx hb dX0_towersShading_94 (lv_at hl 7 rfl) ?_
    exact z_iret hx hb hr hlocks dX0_towersShading_96 (by rw [exn, pTn, ← show i = pR (hz / 3) q by omega])
  · skip
    refine lv_iload_n hx hb dX0_towersShading_43 rfl (lv_at hl 1 rfl) ?_
    refine lv_iload hx hb dX0_towersShading_44 (lv_at hl 8 rfl) ?_
    refine lv_iload hx hb dX0_towersShading_46 (lv_at hl 5 rfl) ?_
    refine z_imul (v := ((nI (i + 1)) * (pStep (hz / 3)))) hx hb dX0_towersShading_48 (rfl) ?_
    refine z_iadd (v := nI (pT (hz / 3) q (i + 1))) hx hb dX0_towersShading_49 ((pT_ok (hz / 3) (by omega) q hq (i + 1) (by omega)).1) ?_
    refine lv_istore (lv' := [(9, .int (nI (pT (hz / 3) q (i + 1)))), (0, .ref a0), (1, .int (nI q)), (2, .int (nI pl)), (3, .int (nI (hz / 3))), (4, .int (nI (pSt hz))), (5, .int (pStep (hz / 3))), (6, .int (nI (pR (hz / 3) q))), (7, .int xn), (8, .int (nI (i + 1)))]) hx hb dX0_towersShading_50 hl (by decide) rfl (fun ls hl => ?_)
    refine lv_aload_n hx hb dX0_towersShading_52 rfl (lv_at hl 1 rfl) ?_
    refine va_get (D := D) (ci := 0) (v := .ref a2) (C := RX0) (T := TX0) (N := 8) hx hb hts in0 hown hK hP 0 rfl rfl 1 (by decide) fl15 (fun _ h9 => h9) rfl dX0_towersShading_53 ?_
    refine lv_iload hx hb dX0_towersShading_56 (lv_at hl 0 rfl) ?_
    refine z_iald hx hb hK hP 2 0 rfl rfl (k := (pT (hz / 3) q (i + 1))) (rfl) ((pT_ok (hz / 3) (by omega) q hq (i + 1) (by omega)).2) (by decide) dX0_towersShading_58 ?_
    refine lv_iload_n hx hb dX0_towersShading_59 rfl (lv_at hl 3 rfl) ?_
    refine z_icmp_ne (tgt := 88) (P := (fo (pT (hz / 3) q (i + 1))) = (nI pl)) hx hb dX0_towersShading_60 (by decide) (Iff.rfl) (fun c60 => ?_) (fun c60 => ?_)
    · skip
      refine lv_iinc (v := nI ((i + 1) + 1)) (lv' := [(8, .int (nI ((i + 1) + 1))), (9, .int (nI (pT (hz / 3) q (i + 1)))), (0, .ref a0), (1, .int (nI q)), (2, .int (nI pl)), (3, .int (nI (hz / 3))), (4, .int (nI (pSt hz))), (5, .int (pStep (hz / 3))), (6, .int (nI (pR (hz / 3) q))), (7, .int xn)]) hx hb dX0_towersShading_88 hl (k := 9) rfl (nI_1 ((i + 1))) (by decide) rfl (fun ls hl => ?_)
      refine lv_goto (tgt := 36) hx hb dX0_towersShading_91 (by decide) ?_
      exact ih36 (by omega) _ (⟨_, by simp [exn, cn, pTs, pSi, pSh, nI_1, c40, c60], lv_sub hl [2, 3, 4, 5, 6, 7, 8, 9, 0] rfl⟩)
    · skip
      refine lv_aload_n hx hb dX0_towersShading_63 rfl (lv_at hl 1 rfl) ?_
      refine va_get (D := D) (ci := 0) (v := .ref a1) (C := RX0) (T := TX0) (N := 8) hx hb hts in0 hown hK hP 0 rfl rfl 0 (by decide) fl9 (fun _ h9 => h9) rfl dX0_towersShading_64 ?_
      refine lv_iload hx hb dX0_towersShading_67 (lv_at hl 0 rfl) ?_
      refine z_iald hx hb hK hP 1 0 rfl rfl (k := (pT (hz / 3) q (i + 1))) (rfl) ((pT_ok (hz / 3) (by omega) q hq (i + 1) (by omega)).2) (by decide) dX0_towersShading_69 ?_
      refine lv_iload hx hb dX0_towersShading_70 (lv_at hl 9 rfl) ?_
      refine lv_iload hx hb dX0_towersShading_72 (lv_at hl 5 rfl) ?_
      refine z_imul (v := nI ((i + 1) * pSt hz)) hx hb dX0_towersShading_74 (pk_mul ((i + 1)) (pSt hz)) ?_
      refine z_isub (v := ((fh (pT (hz / 3) q (i + 1))) - (nI ((i + 1) * pSt hz)))) hx hb dX0_towersShading_75 (rfl) ?_
      refine lv_aload_n hx hb dX0_towersShading_76 rfl (lv_at hl 1 rfl) ?_
      refine va_get (D := D) (ci := 0) (v := .ref a1) (C := RX0) (T := TX0) (N := 8) hx hb hts in0 hown hK hP 0 rfl rfl 0 (by decide) fl9 (fun _ h9 => h9) rfl dX0_towersShading_77 ?_
      refine lv_iload_n hx hb dX0_towersShading_80 rfl (lv_at hl 2 rfl) ?_
      refine z_iald hx hb hK hP 1 0 rfl rfl (k := q) (rfl) (by omega) (by decide) dX0_towersShading_81 ?_
      refine z_icmp_le (tgt := 88) (P := ((fh (pT (hz / 3) q (i + 1))) - (nI ((i + 1) * pSt hz))) ≤ (fh q)) hx hb dX0_towersShading_82 (by decide) (Iff.rfl) (fun c82 => ?_) (fun c82 => ?_)
      · skip
        refine lv_iinc (v := nI ((i + 1) + 1)) (lv' := [(8, .int (nI ((i + 1) + 1))), (9, .int (nI (pT (hz / 3) q (i + 1)))), (0, .ref a0), (1, .int (nI q)), (2, .int (nI pl)), (3, .int (nI (hz / 3))), (4, .int (nI (pSt hz))), (5, .int (pStep (hz / 3))), (6, .int (nI (pR (hz / 3) q))), (7, .int xn)]) hx hb dX0_towersShading_88 hl (k := 9) rfl (nI_1 ((i + 1))) (by decide) rfl (fun ls hl => ?_)
        refine lv_goto (tgt := 36) hx hb dX0_towersShading_91 (by decide) ?_
        exact ih36 (by omega) _ (⟨_, by simp [exn, cn, pTs, pSi, pSh, nI_1, c40, c60, c82], lv_sub hl [2, 3, 4, 5, 6, 7, 8, 9, 0] rfl⟩)
      · skip
        refine lv_iinc (v := xn + 1) (lv' := [(7, .int (xn + 1)), (9, .int (nI (pT (hz / 3) q (i + 1)))), (0, .ref a0), (1, .int (nI q)), (2, .int (nI pl)), (3, .int (nI (hz / 3))), (4, .int (nI (pSt hz))), (5, .int (pStep (hz / 3))), (6, .int (nI (pR (hz / 3) q))), (8, .int (nI (i + 1)))]) hx hb dX0_towersShading_85 hl (k := 8) rfl (rfl) (by decide) rfl (fun ls hl => ?_)
        refine lv_iinc (v := nI ((i + 1) + 1)) (lv' := [(8, .int (nI ((i + 1) + 1))), (7, .int (xn + 1)), (9, .int (nI (pT (hz / 3) q (i + 1)))), (0, .ref a0), (1, .int (nI q)), (2, .int (nI pl)), (3, .int (nI (hz / 3))), (4, .int (nI (pSt hz))), (5, .int (pStep (hz / 3))), (6, .int (nI (pR (hz / 3) q)))]) hx hb dX0_towersShading_88 hl (k := 9) rfl (nI_1 ((i + 1))) (by decide) rfl (fun ls hl => ?_)
        refine lv_goto (tgt := 36) hx hb dX0_towersShading_91 (by decide) ?_
        exact ih36 (by omega) _ (⟨_, by simp [exn, cn, pTs, pSi, pSh, nI_1, c40, c60, c82], lv_sub hl [3, 4, 5, 6, 7, 8, 9, 1, 0] rfl⟩)

set_option maxHeartbeats 4000000 in
set_option maxRecDepth 100000 in
/-- the squares that a tower shades -/
theorem c_X0_squaresShadedFrom (l : Launch) (D : va_G) (cI cZ cL : ClassId) (a0 : Nat) (a1 : Nat) (a2 : Nat) (a3 : Nat) (a4 : Nat) (fh : Nat → Int32) (fo : Nat → Int32) (fc : Nat → Int32) (fs : Nat → Int32) (hz : Nat) (mv : Nat) (tu : Int32) (rf : Int32) (q : Nat) (hq : q < 36) (hhz : hz < 12) : Met l yX0_squaresShadedFrom wsX0_squaresShadedFrom ({ frames := 1, cells := 0, slots := 0, locals := 21 }) (va_Pc [.ref a0, .int (nI q)] (zW D cI cZ cL [(a0, .inr (0, [.ref a1, .ref a2, .ref a3, .ref a4, .int (nI hz), .int (nI mv), .int tu, .int rf])), (a1, .inl (cI, 36, .inl fh)), (a2, .inl (cI, 36, .inl fo)), (a3, .inl (cI, 36, .inl fc)), (a4, .inl (cI, 2, .inl fs))])) (zQi (nI (pBn fh q hz))) 0 0 (fun _ => False) := by
  refine Met.ofW (cc := cX0_squaresShadedFrom) (maxL := 8) (ret := (some .int)) (by decide) rfl ?_
  intro p e s m args below meth c s₁ B hml hv
  obtain ⟨rfl, hP, hK⟩ := hv
  have hx := B.exec
  have hb := B.bytes
  have hr := B.returns
  have hts := atoms_spec (ws := wsX0_squaresShadedFrom) B.pre
  have hown : s.vm.findClass RX0 = some m.cls := findClass_of_methodNamed B.named
  have hlocks := B.notSynchronized
  have in0 : ∀ w ∈ u_ws RX0 TX0 8, w ∈ wsX0_squaresShadedFrom := by decide +kernel
  have fl9 := hts (.fieldLink RX0 9 "TowerShades$Field" "heights" "[I") (by decide +kernel)
  have fl30 := hts (.fieldLink RX0 30 "TowerShades$Field" "hourNow" "I") (by decide +kernel)
  have hl := lv_entry ([.ref a0, .int (nI q)]) (n := 8) (Nat.le_of_ble_eq_true rfl)
  rw [lg_entry_eq]
  generalize (lg_sl ([.ref a0, .int (nI q)]) ++ List.replicate (8 - (lg_sl ([.ref a0, .int (nI q)])).length) Slot.unset).toArray = ls at hl ⊢
  have hl : lv_has ls 8 [(0, .ref a0), (1, .int (nI q))] := hl
  have hR := pR_le (hz / 3) (by omega) q hq
  refine lv_aload_n hx hb dX0_squaresShadedFrom_0 rfl (lv_at hl 0 rfl) ?_
  refine va_get (D := D) (ci := 0) (v := .int (nI hz)) (C := RX0) (T := TX0) (N := 8) hx hb hts in0 hown hK hP 0 rfl rfl 4 (by decide) fl30 (fun _ h9 => h9) rfl dX0_squaresShadedFrom_1 ?_
  refine z_ci (va_runS (As := [.int (nI hz)]) (rest := []) ⟨hx, hb, hml, hown, hts⟩ (c_X3_side l (hz := hz) (hh := by omega)) (va_cwS 1 hts gX0_squaresShadedFrom_X3_side rfl rfl rfl (by decide +kernel) ⟨Nat.le_of_ble_eq_true rfl, Nat.le_of_ble_eq_true rfl⟩) z_preS rfl rfl hl.1 rfl (lv_room (Nat.le_of_ble_eq_true rfl)) dX0_squaresShadedFrom_4 ⟨Nat.le_of_ble_eq_true rfl, Nat.le_of_ble_eq_true rfl⟩) ?_
  refine lv_istore_n (lv' := [(2, .int (nI (hz / 3))), (0, .ref a0), (1, .int (nI q))]) hx hb dX0_squaresShadedFrom_7 rfl hl (by decide) rfl (fun ls hl => ?_)
  refine lv_aload_n hx hb dX0_squaresShadedFrom_8 rfl (lv_at hl 1 rfl) ?_
  refine va_get (D := D) (ci := 0) (v := .int (nI hz)) (C := RX0) (T := TX0) (N := 8) hx hb hts in0 hown hK hP 0 rfl rfl 4 (by decide) fl30 (fun _ h9 => h9) rfl dX0_squaresShadedFrom_9 ?_
  refine z_ci (va_runS (As := [.int (nI hz)]) (rest := []) ⟨hx, hb, hml, hown, hts⟩ (c_X3_steepness l (hz := hz) (hh := by omega)) (va_cwS 1 hts gX0_squaresShadedFrom_X3_steepness rfl rfl rfl (by decide +kernel) ⟨Nat.le_of_ble_eq_true rfl, Nat.le_of_ble_eq_true rfl⟩) z_preS rfl rfl hl.1 rfl (lv_room (Nat.le_of_ble_eq_true rfl)) dX0_squaresShadedFrom_12 ⟨Nat.le_of_ble_eq_true rfl, Nat.le_of_ble_eq_true rfl⟩) ?_
  refine lv_istore_n (lv' := [(3, .int (nI (pSt hz))), (2, .int (nI (hz / 3))), (0, .ref a0), (1, .int (nI q))]) hx hb dX0_squaresShadedFrom_15 rfl hl (by decide) rfl (fun ls hl => ?_)
  refine lv_iload_n hx hb dX0_squaresShadedFrom_16 rfl (lv_at hl 1 rfl) ?_
  refine z_ci (va_runS (As := [.int (nI (hz / 3))]) (rest := []) ⟨hx, hb, hml, hown, hts⟩ (c_X3_stepTowardSun l (sd := hz / 3) (hs := by omega)) (va_cwS 1 hts gX0_squaresShadedFrom_X3_stepTowardSun rfl rfl rfl (by decide +kernel) ⟨Nat.le_of_ble_eq_true rfl, Nat.le_of_ble_eq_true rfl⟩) z_preS rfl rfl hl.1 rfl (lv_room (Nat.le_of_ble_eq_true rfl)) dX0_squaresShadedFrom_17 ⟨Nat.le_of_ble_eq_true rfl, Nat.le_of_ble_eq_true rfl⟩) ?_
  refine lv_istore (lv' := [(4, .int (pStep (hz / 3))), (3, .int (nI (pSt hz))), (2, .int (nI (hz / 3))), (0, .ref a0), (1, .int (nI q))]) hx hb dX0_squaresShadedFrom_20 hl (by decide) rfl (fun ls hl => ?_)
  refine lv_iconst (v := 5) hx hb dX0_squaresShadedFrom_22 (by decide) ?_
  refine lv_iload_n hx hb dX0_squaresShadedFrom_23 rfl (lv_at hl 2 rfl) ?_
  refine lv_iload_n hx hb dX0_squaresShadedFrom_24 rfl (lv_at hl 4 rfl) ?_
  refine z_ci (va_runS (As := [.int (nI (hz / 3)), .int (nI q)]) (rest := [.int 5]) ⟨hx, hb, hml, hown, hts⟩ (c_X3_squaresTowardSun l (sd := hz / 3) (q := q) (hs := by omega) (hq := by omega)) (va_cwS 2 hts gX0_squaresShadedFrom_X3_squaresTowardSun rfl rfl rfl (by decide +kernel) ⟨Nat.le_of_ble_eq_true rfl, Nat.le_of_ble_eq_true rfl⟩) z_preS rfl rfl hl.1 rfl (lv_room (Nat.le_of_ble_eq_true rfl)) dX0_squaresShadedFrom_25 ⟨Nat.le_of_ble_eq_true rfl, Nat.le_of_ble_eq_true rfl⟩) ?_
  refine z_isub (v := nI (5 - pR (hz / 3) q)) hx hb dX0_squaresShadedFrom_28 (pk_sub (a := 5) (b := pR (hz / 3) q) (by omega)) ?_
  refine lv_istore (lv' := [(5, .int (nI (5 - pR (hz / 3) q))), (4, .int (pStep (hz / 3))), (3, .int (nI (pSt hz))), (2, .int (nI (hz / 3))), (0, .ref a0), (1, .int (nI q))]) hx hb dX0_squaresShadedFrom_29 hl (by decide) rfl (fun ls hl => ?_)
  refine lv_iconst (v := 0) hx hb dX0_squaresShadedFrom_31 (by decide) ?_
  refine lv_istore (lv' := [(6, .int 0), (5, .int (nI (5 - pR (hz / 3) q))), (4, .int (pStep (hz / 3))), (3, .int (nI (pSt hz))), (2, .int (nI (hz / 3))), (0, .ref a0), (1, .int (nI q))]) hx hb dX0_squaresShadedFrom_32 hl (by decide) rfl (fun ls hl => ?_)
  refine lv_iconst (v := 1) hx hb dX0_squaresShadedFrom_34 (by decide) ?_
  refine lv_istore (lv' := [(7, .int 1), (6, .int 0), (5, .int (nI (5 - pR (hz / 3) q))), (4, .int (pStep (hz / 3))), (3, .int (nI (pSt hz))), (2, .int (nI (hz / 3))), (0, .ref a0), (1, .int (nI q))]) hx hb dX0_squaresShadedFrom_35 hl (by decide) rfl (fun ls hl => ?_)
  refine z_up (N := 5 - pR (hz / 3) q) (i0 := 0) (fun i ls => ∃ xn : Int32, xn = nI (cn (pBi fh q hz) i) ∧ lv_has ls 8 [(0, .ref a0), (1, .int (nI q)), (2, .int (nI (hz / 3))), (3, .int (nI (pSt hz))), (4, .int (pStep (hz / 3))), (5, .int (nI (5 - pR (hz / 3) q))), (6, .int xn), (7, .int (nI (i + 1)))]) (by omega) (⟨_, rfl, lv_sub hl [6, 7, 5, 4, 3, 2, 1, 0] rfl⟩) (fun i ls hi37 hI ih37 => ?_)
  obtain ⟨xn, exn, hl⟩ := hI
  refine lv_iload hx hb dX0_squaresShadedFrom_37 (lv_at hl 7 rfl) ?_
  refine lv_iload hx hb dX0_squaresShadedFrom_39 (lv_at hl 5 rfl) ?_
  refine z_icmp_gt (tgt := 79) (P := (5 - pR (hz / 3) q) < (i + 1)) hx hb dX0_squaresShadedFrom_41 (by decide) (nI_ltI (a := (5 - pR (hz / 3) q)) (b := (i + 1)) (by omega) (by omega)) (fun c41 => ?_) (fun c41 => ?_)
  · skip
    refine lv_iload hx hb dX0_squaresShadedFrom_79 (lv_at hl 6 rfl) ?_
    exact z_iret hx hb hr hlocks dX0_squaresShadedFrom_81 (by rw [exn, pBn, ← show i = 5 - pR (hz / 3) q by omega])
  · skip
    refine lv_aload_n hx hb dX0_squaresShadedFrom_44 rfl (lv_at hl 0 rfl) ?_
    refine va_get (D := D) (ci := 0) (v := .ref a1) (C := RX0) (T := TX0) (N := 8) hx hb hts in0 hown hK hP 0 rfl rfl 0 (by decide) fl9 (fun _ h9 => h9) rfl dX0_squaresShadedFrom_45 ?_
    refine lv_iload_n hx hb dX0_squaresShadedFrom_48 rfl (lv_at hl 1 rfl) ?_
    refine z_iald hx hb hK hP 1 0 rfl rfl (k := q) (rfl) (by omega) (by decide) dX0_squaresShadedFrom_49 ?_
    refine lv_iload hx hb dX0_squaresShadedFrom_50 (lv_at hl 7 rfl) ?_
    refine lv_iload_n hx hb dX0_squaresShadedFrom_52 rfl (lv_at hl 3 rfl) ?_
    refine z_imul (v := nI ((i + 1) * pSt hz)) hx hb dX0_squaresShadedFrom_53 (pk_mul ((i + 1)) (pSt hz)) ?_
    refine z_isub (v := ((fh q) - (nI ((i + 1) * pSt hz)))) hx hb dX0_squaresShadedFrom_54 (rfl) ?_
    refine lv_aload_n hx hb dX0_squaresShadedFrom_55 rfl (lv_at hl 0 rfl) ?_
    refine va_get (D := D) (ci := 0) (v := .ref a1) (C := RX0) (T := TX0) (N := 8) hx hb hts in0 hown hK hP 0 rfl rfl 0 (by decide) fl9 (fun _ h9 => h9) rfl dX0_squaresShadedFrom_56 ?_
    refine lv_iload_n hx hb dX0_squaresShadedFrom_59 rfl (lv_at hl 1 rfl) ?_
    refine lv_iload hx hb dX0_squaresShadedFrom_60 (lv_at hl 7 rfl) ?_
    refine lv_iload hx hb dX0_squaresShadedFrom_62 (lv_at hl 4 rfl) ?_
    refine z_imul (v := ((nI (i + 1)) * (pStep (hz / 3)))) hx hb dX0_squaresShadedFrom_64 (rfl) ?_
    refine z_isub (v := nI (pT ((hz / 3 + 2) % 4) q (i + 1))) hx hb dX0_squaresShadedFrom_65 ((pB_ok (hz / 3) (by omega) q hq (i + 1) (by omega)).1) ?_
    refine z_iald hx hb hK hP 1 0 rfl rfl (k := (pT ((hz / 3 + 2) % 4) q (i + 1))) (rfl) ((pB_ok (hz / 3) (by omega) q hq (i + 1) (by omega)).2) (by decide) dX0_squaresShadedFrom_66 ?_
    refine z_icmp_le (tgt := 73) (P := ((fh q) - (nI ((i + 1) * pSt hz))) ≤ (fh (pT ((hz / 3 + 2) % 4) q (i + 1)))) hx hb dX0_squaresShadedFrom_67 (by decide) (Iff.rfl) (fun c67 => ?_) (fun c67 => ?_)
    · skip
      refine lv_iinc (v := nI ((i + 1) + 1)) (lv' := [(7, .int (nI ((i + 1) + 1))), (0, .ref a0), (1, .int (nI q)), (2, .int (nI (hz / 3))), (3, .int (nI (pSt hz))), (4, .int (pStep (hz / 3))), (5, .int (nI (5 - pR (hz / 3) q))), (6, .int xn)]) hx hb dX0_squaresShadedFrom_73 hl (k := 7) rfl (nI_1 ((i + 1))) (by decide) rfl (fun ls hl => ?_)
      refine lv_goto (tgt := 37) hx hb dX0_squaresShadedFrom_76 (by decide) ?_
      exact ih37 (by omega) _ (⟨_, by simp [exn, cn, pBi, pSh, nI_1, c41, c67], lv_sub hl [1, 2, 3, 4, 5, 6, 7, 0] rfl⟩)
    · skip
      refine lv_iinc (v := xn + 1) (lv' := [(6, .int (xn + 1)), (0, .ref a0), (1, .int (nI q)), (2, .int (nI (hz / 3))), (3, .int (nI (pSt hz))), (4, .int (pStep (hz / 3))), (5, .int (nI (5 - pR (hz / 3) q))), (7, .int (nI (i + 1)))]) hx hb dX0_squaresShadedFrom_70 hl (k := 6) rfl (rfl) (by decide) rfl (fun ls hl => ?_)
      refine lv_iinc (v := nI ((i + 1) + 1)) (lv' := [(7, .int (nI ((i + 1) + 1))), (6, .int (xn + 1)), (0, .ref a0), (1, .int (nI q)), (2, .int (nI (hz / 3))), (3, .int (nI (pSt hz))), (4, .int (pStep (hz / 3))), (5, .int (nI (5 - pR (hz / 3) q)))]) hx hb dX0_squaresShadedFrom_73 hl (k := 7) rfl (nI_1 ((i + 1))) (by decide) rfl (fun ls hl => ?_)
      refine lv_goto (tgt := 37) hx hb dX0_squaresShadedFrom_76 (by decide) ?_
      exact ih37 (by omega) _ (⟨_, by simp [exn, cn, pBi, pSh, nI_1, c41, c67], lv_sub hl [2, 3, 4, 5, 6, 7, 1, 0] rfl⟩)

set_option maxHeartbeats 4000000 in
set_option maxRecDepth 100000 in
/-- the hours in which it is dark -/
theorem c_X0_darkHourMask (l : Launch) (D : va_G) (cI cZ cL : ClassId) (a0 : Nat) (a1 : Nat) (a2 : Nat) (a3 : Nat) (a4 : Nat) (fh : Nat → Int32) (fo : Nat → Int32) (fc : Nat → Int32) (fs : Nat → Int32) (hz : Nat) (mv : Nat) (tu : Int32) (rf : Int32) (q : Nat) (hq : q < 36) : Met l yX0_darkHourMask wsX0_darkHourMask ({ frames := 2, cells := 0, slots := 0, locals := 48 }) (va_Pc [.ref a0, .int (nI q)] (zW D cI cZ cL [(a0, .inr (0, [.ref a1, .ref a2, .ref a3, .ref a4, .int (nI hz), .int (nI mv), .int tu, .int rf])), (a1, .inl (cI, 36, .inl fh)), (a2, .inl (cI, 36, .inl fo)), (a3, .inl (cI, 36, .inl fc)), (a4, .inl (cI, 2, .inl fs))])) (zQi (pMk fh q)) 0 0 (fun _ => False) := by
  refine Met.ofW (cc := cX0_darkHourMask) (maxL := 4) (ret := (some .int)) (by decide) rfl ?_
  intro p e s m args below meth c s₁ B hml hv
  obtain ⟨rfl, hP, hK⟩ := hv
  have hx := B.exec
  have hb := B.bytes
  have hr := B.returns
  have hts := atoms_spec (ws := wsX0_darkHourMask) B.pre
  have hown : s.vm.findClass RX0 = some m.cls := findClass_of_methodNamed B.named
  have hlocks := B.notSynchronized
  have hl := lv_entry ([.ref a0, .int (nI q)]) (n := 4) (Nat.le_of_ble_eq_true rfl)
  rw [lg_entry_eq]
  generalize (lg_sl ([.ref a0, .int (nI q)]) ++ List.replicate (4 - (lg_sl ([.ref a0, .int (nI q)])).length) Slot.unset).toArray = ls at hl ⊢
  have hl : lv_has ls 4 [(0, .ref a0), (1, .int (nI q))] := hl
  refine lv_iconst (v := 0) hx hb dX0_darkHourMask_0 (by decide) ?_
  refine lv_istore_n (lv' := [(2, .int 0), (0, .ref a0), (1, .int (nI q))]) hx hb dX0_darkHourMask_1 rfl hl (by decide) rfl (fun ls hl => ?_)
  refine lv_iconst (v := 0) hx hb dX0_darkHourMask_2 (by decide) ?_
  refine lv_istore_n (lv' := [(3, .int 0), (2, .int 0), (0, .ref a0), (1, .int (nI q))]) hx hb dX0_darkHourMask_3 rfl hl (by decide) rfl (fun ls hl => ?_)
  refine z_up (N := 12) (i0 := 0) (fun i ls => ∃ xn : Int32, xn = om (fun k => if pDk fh q k then (1 : Int32) <<< (nI k &&& 31) else 0) i ∧ lv_has ls 4 [(0, .ref a0), (1, .int (nI q)), (2, .int xn), (3, .int (nI i))]) (by omega) (⟨_, rfl, lv_sub hl [2, 3, 1, 0] rfl⟩) (fun i ls hi4 hI ih4 => ?_)
  obtain ⟨xn, exn, hl⟩ := hI
  refine lv_iload_n hx hb dX0_darkHourMask_4 rfl (lv_at hl 3 rfl) ?_
  refine lv_bipush (v := 12) hx hb dX0_darkHourMask_5 (by decide) ?_
  refine z_icmp_ge (tgt := 31) (P := 12 ≤ i) hx hb dX0_darkHourMask_7 (by decide) (nI_leI (a := 12) (b := i) (by omega) (by omega)) (fun c7 => ?_) (fun c7 => ?_)
  · skip
    refine lv_iload_n hx hb dX0_darkHourMask_31 rfl (lv_at hl 2 rfl) ?_
    exact z_iret hx hb hr hlocks dX0_darkHourMask_32 (by rw [exn, pMk, show i = 12 by omega])
  · skip
    refine lv_aload_n hx hb dX0_darkHourMask_10 rfl (lv_at hl 0 rfl) ?_
    refine lv_iload_n hx hb dX0_darkHourMask_11 rfl (lv_at hl 1 rfl) ?_
    refine lv_iload_n hx hb dX0_darkHourMask_12 rfl (lv_at hl 3 rfl) ?_
    refine z_ci (va_runV (As := [.int (nI q), .int (nI i)]) (rest := []) ⟨hx, hb, hml, hown, hts⟩ (c_X0_isDark l D cI cZ cL (a0 := a0) (a1 := a1) (a2 := a2) (a3 := a3) (a4 := a4) (fh := fh) (fo := fo) (fc := fc) (fs := fs) (hz := hz) (mv := mv) (tu := tu) (rf := rf) (q := q) (hu := i) (hq := by omega) (hhu := by omega)) (cwV 2 hts gX0_darkHourMask_X0_isDark rfl rfl rfl (by decide +kernel) ⟨Nat.le_of_ble_eq_true rfl, Nat.le_of_ble_eq_true rfl⟩) (z_preV hK (hP.sub [0, 1, 2, 3, 4] rfl) 0 0 rfl rfl) rfl rfl hl.1 rfl (lv_room (Nat.le_of_ble_eq_true rfl)) dX0_darkHourMask_13 ⟨Nat.le_of_ble_eq_true rfl, Nat.le_of_ble_eq_true rfl⟩) ?_
    refine z_if_eq (tgt := 25) (P := (pDk fh q i) = false) hx hb dX0_darkHourMask_16 (by decide) (zb_eq0) (fun c16 => ?_) (fun c16 => ?_)
    · skip
      refine lv_iinc (v := nI (i + 1)) (lv' := [(3, .int (nI (i + 1))), (0, .ref a0), (1, .int (nI q)), (2, .int xn)]) hx hb dX0_darkHourMask_25 hl (k := 3) rfl (nI_1 (i)) (by decide) rfl (fun ls hl => ?_)
      refine lv_goto (tgt := 4) hx hb dX0_darkHourMask_28 (by decide) ?_
      exact ih4 (by omega) _ (⟨_, by simp [exn, om, c7, c16] <;> rfl, lv_sub hl [1, 2, 3, 0] rfl⟩)
    · skip
      refine lv_iload_n hx hb dX0_darkHourMask_19 rfl (lv_at hl 2 rfl) ?_
      refine lv_iconst (v := 1) hx hb dX0_darkHourMask_20 (by decide) ?_
      refine lv_iload_n hx hb dX0_darkHourMask_21 rfl (lv_at hl 3 rfl) ?_
      refine z_ishl (v := (1 <<< ((nI i) &&& 31))) hx hb dX0_darkHourMask_22 (rfl) ?_
      refine z_ior (v := (xn ||| (1 <<< ((nI i) &&& 31)))) hx hb dX0_darkHourMask_23 (rfl) ?_
      refine lv_istore_n (lv' := [(2, .int (xn ||| (1 <<< ((nI i) &&& 31)))), (0, .ref a0), (1, .int (nI q)), (3, .int (nI i))]) hx hb dX0_darkHourMask_24 rfl hl (by decide) rfl (fun ls hl => ?_)
      refine lv_iinc (v := nI (i + 1)) (lv' := [(3, .int (nI (i + 1))), (2, .int (xn ||| (1 <<< ((nI i) &&& 31)))), (0, .ref a0), (1, .int (nI q))]) hx hb dX0_darkHourMask_25 hl (k := 3) rfl (nI_1 (i)) (by decide) rfl (fun ls hl => ?_)
      refine lv_goto (tgt := 4) hx hb dX0_darkHourMask_28 (by decide) ?_
      exact ih4 (by omega) _ (⟨_, by simp [exn, om, c7, c16] <;> rfl, lv_sub hl [2, 3, 1, 0] rfl⟩)

set_option maxHeartbeats 4000000 in
set_option maxRecDepth 100000 in
/-- the dark squares of an hour -/
theorem c_X0_darkSquares (l : Launch) (D : va_G) (cI cZ cL : ClassId) (a0 : Nat) (a1 : Nat) (a2 : Nat) (a3 : Nat) (a4 : Nat) (fh : Nat → Int32) (fo : Nat → Int32) (fc : Nat → Int32) (fs : Nat → Int32) (hz : Nat) (mv : Nat) (tu : Int32) (rf : Int32) (hu : Nat) (hhu : hu < 12) : Met l yX0_darkSquares wsX0_darkSquares ({ frames := 2, cells := 0, slots := 0, locals := 48 }) (va_Pc [.ref a0, .int (nI hu)] (zW D cI cZ cL [(a0, .inr (0, [.ref a1, .ref a2, .ref a3, .ref a4, .int (nI hz), .int (nI mv), .int tu, .int rf])), (a1, .inl (cI, 36, .inl fh)), (a2, .inl (cI, 36, .inl fo)), (a3, .inl (cI, 36, .inl fc)), (a4, .inl (cI, 2, .inl fs))])) (zQi (nI (pDn fh hu))) 0 0 (fun _ => False) := by
  refine Met.ofW (cc := cX0_darkSquares) (maxL := 4) (ret := (some .int)) (by decide) rfl ?_
  intro p e s m args below meth c s₁ B hml hv
  obtain ⟨rfl, hP, hK⟩ := hv
  have hx := B.exec
  have hb := B.bytes
  have hr := B.returns
  have hts := atoms_spec (ws := wsX0_darkSquares) B.pre
  have hown : s.vm.findClass RX0 = some m.cls := findClass_of_methodNamed B.named
  have hlocks := B.notSynchronized
  have hl := lv_entry ([.ref a0, .int (nI hu)]) (n := 4) (Nat.le_of_ble_eq_true rfl)
  rw [lg_entry_eq]
  generalize (lg_sl ([.ref a0, .int (nI hu)]) ++ List.replicate (4 - (lg_sl ([.ref a0, .int (nI hu)])).length) Slot.unset).toArray = ls at hl ⊢
  have hl : lv_has ls 4 [(0, .ref a0), (1, .int (nI hu))] := hl
  refine lv_iconst (v := 0) hx hb dX0_darkSquares_0 (by decide) ?_
  refine lv_istore_n (lv' := [(2, .int 0), (0, .ref a0), (1, .int (nI hu))]) hx hb dX0_darkSquares_1 rfl hl (by decide) rfl (fun ls hl => ?_)
  refine lv_iconst (v := 0) hx hb dX0_darkSquares_2 (by decide) ?_
  refine lv_istore_n (lv' := [(3, .int 0), (2, .int 0), (0, .ref a0), (1, .int (nI hu))]) hx hb dX0_darkSquares_3 rfl hl (by decide) rfl (fun ls hl => ?_)
  refine z_up (N := 36) (i0 := 0) (fun i ls => ∃ xn : Int32, xn = nI (cn (fun k => pDk fh k hu) i) ∧ lv_has ls 4 [(0, .ref a0), (1, .int (nI hu)), (2, .int xn), (3, .int (nI i))]) (by omega) (⟨_, rfl, lv_sub hl [2, 3, 1, 0] rfl⟩) (fun i ls hi4 hI ih4 => ?_)
  obtain ⟨xn, exn, hl⟩ := hI
  refine lv_iload_n hx hb dX0_darkSquares_4 rfl (lv_at hl 3 rfl) ?_
  refine lv_bipush (v := 36) hx hb dX0_darkSquares_5 (by decide) ?_
  refine z_icmp_ge (tgt := 28) (P := 36 ≤ i) hx hb dX0_darkSquares_7 (by decide) (nI_leI (a := 36) (b := i) (by omega) (by omega)) (fun c7 => ?_) (fun c7 => ?_)
  · skip
    refine lv_iload_n hx hb dX0_darkSquares_28 rfl (lv_at hl 2 rfl) ?_
    exact z_iret hx hb hr hlocks dX0_darkSquares_29 (by rw [exn, pDn, show i = 36 by omega])
  · skip
    refine lv_aload_n hx hb dX0_darkSquares_10 rfl (lv_at hl 0 rfl) ?_
    refine lv_iload_n hx hb dX0_darkSquares_11 rfl (lv_at hl 3 rfl) ?_
    refine lv_iload_n hx hb dX0_darkSquares_12 rfl (lv_at hl 1 rfl) ?_
    refine z_ci (va_runV (As := [.int (nI i), .int (nI hu)]) (rest := []) ⟨hx, hb, hml, hown, hts⟩ (c_X0_isDark l D cI cZ cL (a0 := a0) (a1 := a1) (a2 := a2) (a3 := a3) (a4 := a4) (fh := fh) (fo := fo) (fc := fc) (fs := fs) (hz := hz) (mv := mv) (tu := tu) (rf := rf) (q := i) (hu := hu) (hq := by omega) (hhu := by omega)) (cwV 2 hts gX0_darkSquares_X0_isDark rfl rfl rfl (by decide +kernel) ⟨Nat.le_of_ble_eq_true rfl, Nat.le_of_ble_eq_true rfl⟩) (z_preV hK (hP.sub [0, 1, 2, 3, 4] rfl) 0 0 rfl rfl) rfl rfl hl.1 rfl (lv_room (Nat.le_of_ble_eq_true rfl)) dX0_darkSquares_13 ⟨Nat.le_of_ble_eq_true rfl, Nat.le_of_ble_eq_true rfl⟩) ?_
    refine z_if_eq (tgt := 22) (P := (pDk fh i hu) = false) hx hb dX0_darkSquares_16 (by decide) (zb_eq0) (fun c16 => ?_) (fun c16 => ?_)
    · skip
      refine lv_iinc (v := nI (i + 1)) (lv' := [(3, .int (nI (i + 1))), (0, .ref a0), (1, .int (nI hu)), (2, .int xn)]) hx hb dX0_darkSquares_22 hl (k := 3) rfl (nI_1 (i)) (by decide) rfl (fun ls hl => ?_)
      refine lv_goto (tgt := 4) hx hb dX0_darkSquares_25 (by decide) ?_
      exact ih4 (by omega) _ (⟨_, by simp [exn, cn, nI_1, c7, c16] <;> rfl, lv_sub hl [1, 2, 3, 0] rfl⟩)
    · skip
      refine lv_iinc (v := xn + 1) (lv' := [(2, .int (xn + 1)), (0, .ref a0), (1, .int (nI hu)), (3, .int (nI i))]) hx hb dX0_darkSquares_19 hl (k := 2) rfl (rfl) (by decide) rfl (fun ls hl => ?_)
      refine lv_iinc (v := nI (i + 1)) (lv' := [(3, .int (nI (i + 1))), (2, .int (xn + 1)), (0, .ref a0), (1, .int (nI hu))]) hx hb dX0_darkSquares_22 hl (k := 3) rfl (nI_1 (i)) (by decide) rfl (fun ls hl => ?_)
      refine lv_goto (tgt := 4) hx hb dX0_darkSquares_25 (by decide) ?_
      exact ih4 (by omega) _ (⟨_, by simp [exn, cn, nI_1, c7, c16] <;> rfl, lv_sub hl [2, 3, 1, 0] rfl⟩)

set_option maxHeartbeats 4000000 in
set_option maxRecDepth 100000 in
/-- a player's towers -/
theorem c_X0_towersOf (l : Launch) (D : va_G) (cI cZ cL : ClassId) (a0 : Nat) (a1 : Nat) (a2 : Nat) (a3 : Nat) (a4 : Nat) (fh : Nat → Int32) (fo : Nat → Int32) (fc : Nat → Int32) (fs : Nat → Int32) (hz : Nat) (mv : Nat) (tu : Int32) (rf : Int32) (pl : Nat) (hpl : pl < 2) : Met l yX0_towersOf wsX0_towersOf ({ frames := 0, cells := 0, slots := 0, locals := 0 }) (va_Pc [.ref a0, .int (nI pl)] (zW D cI cZ cL [(a0, .inr (0, [.ref a1, .ref a2, .ref a3, .ref a4, .int (nI hz), .int (nI mv), .int tu, .int rf])), (a1, .inl (cI, 36, .inl fh)), (a2, .inl (cI, 36, .inl fo)), (a3, .inl (cI, 36, .inl fc)), (a4, .inl (cI, 2, .inl fs))])) (zQi (nI (pOw fo pl))) 0 0 (fun _ => False) := by
  refine Met.ofW (cc := cX0_towersOf) (maxL := 4) (ret := (some .int)) (by decide) rfl ?_
  intro p e s m args below meth c s₁ B hml hv
  obtain ⟨rfl, hP, hK⟩ := hv
  have hx := B.exec
  have hb := B.bytes
  have hr := B.returns
  have hts := atoms_spec (ws := wsX0_towersOf) B.pre
  have hown : s.vm.findClass RX0 = some m.cls := findClass_of_methodNamed B.named
  have hlocks := B.notSynchronized
  have in0 : ∀ w ∈ u_ws RX0 TX0 8, w ∈ wsX0_towersOf := by decide +kernel
  have fl15 := hts (.fieldLink RX0 15 "TowerShades$Field" "owners" "[I") (by decide +kernel)
  have hl := lv_entry ([.ref a0, .int (nI pl)]) (n := 4) (Nat.le_of_ble_eq_true rfl)
  rw [lg_entry_eq]
  generalize (lg_sl ([.ref a0, .int (nI pl)]) ++ List.replicate (4 - (lg_sl ([.ref a0, .int (nI pl)])).length) Slot.unset).toArray = ls at hl ⊢
  have hl : lv_has ls 4 [(0, .ref a0), (1, .int (nI pl))] := hl
  refine lv_iconst (v := 0) hx hb dX0_towersOf_0 (by decide) ?_
  refine lv_istore_n (lv' := [(2, .int 0), (0, .ref a0), (1, .int (nI pl))]) hx hb dX0_towersOf_1 rfl hl (by decide) rfl (fun ls hl => ?_)
  refine lv_iconst (v := 0) hx hb dX0_towersOf_2 (by decide) ?_
  refine lv_istore_n (lv' := [(3, .int 0), (2, .int 0), (0, .ref a0), (1, .int (nI pl))]) hx hb dX0_towersOf_3 rfl hl (by decide) rfl (fun ls hl => ?_)
  refine z_up (N := 36) (i0 := 0) (fun i ls => ∃ xn : Int32, xn = nI (cn (fun k => decide (fo k = nI pl)) i) ∧ lv_has ls 4 [(0, .ref a0), (1, .int (nI pl)), (2, .int xn), (3, .int (nI i))]) (by omega) (⟨_, rfl, lv_sub hl [2, 3, 1, 0] rfl⟩) (fun i ls hi4 hI ih4 => ?_)
  obtain ⟨xn, exn, hl⟩ := hI
  refine lv_iload_n hx hb dX0_towersOf_4 rfl (lv_at hl 3 rfl) ?_
  refine lv_bipush (v := 36) hx hb dX0_towersOf_5 (by decide) ?_
  refine z_icmp_ge (tgt := 29) (P := 36 ≤ i) hx hb dX0_towersOf_7 (by decide) (nI_leI (a := 36) (b := i) (by omega) (by omega)) (fun c7 => ?_) (fun c7 => ?_)
  · skip
    refine lv_iload_n hx hb dX0_towersOf_29 rfl (lv_at hl 2 rfl) ?_
    exact z_iret hx hb hr hlocks dX0_towersOf_30 (by rw [exn, pOw, show i = 36 by omega])
  · skip
    refine lv_aload_n hx hb dX0_towersOf_10 rfl (lv_at hl 0 rfl) ?_
    refine va_get (D := D) (ci := 0) (v := .ref a2) (C := RX0) (T := TX0) (N := 8) hx hb hts in0 hown hK hP 0 rfl rfl 1 (by decide) fl15 (fun _ h9 => h9) rfl dX0_towersOf_11 ?_
    refine lv_iload_n hx hb dX0_towersOf_14 rfl (lv_at hl 3 rfl) ?_
    refine z_iald hx hb hK hP 2 0 rfl rfl (k := i) (rfl) (by omega) (by decide) dX0_towersOf_15 ?_
    refine lv_iload_n hx hb dX0_towersOf_16 rfl (lv_at hl 1 rfl) ?_
    refine z_icmp_ne (tgt := 23) (P := (fo i) = (nI pl)) hx hb dX0_towersOf_17 (by decide) (Iff.rfl) (fun c17 => ?_) (fun c17 => ?_)
    · skip
      refine lv_iinc (v := nI (i + 1)) (lv' := [(3, .int (nI (i + 1))), (0, .ref a0), (1, .int (nI pl)), (2, .int xn)]) hx hb dX0_towersOf_23 hl (k := 3) rfl (nI_1 (i)) (by decide) rfl (fun ls hl => ?_)
      refine lv_goto (tgt := 4) hx hb dX0_towersOf_26 (by decide) ?_
      exact ih4 (by omega) _ (⟨_, by simp [exn, cn, nI_1, c7, c17] <;> rfl, lv_sub hl [1, 2, 3, 0] rfl⟩)
    · skip
      refine lv_iinc (v := xn + 1) (lv' := [(2, .int (xn + 1)), (0, .ref a0), (1, .int (nI pl)), (3, .int (nI i))]) hx hb dX0_towersOf_20 hl (k := 2) rfl (rfl) (by decide) rfl (fun ls hl => ?_)
      refine lv_iinc (v := nI (i + 1)) (lv' := [(3, .int (nI (i + 1))), (2, .int (xn + 1)), (0, .ref a0), (1, .int (nI pl))]) hx hb dX0_towersOf_23 hl (k := 3) rfl (nI_1 (i)) (by decide) rfl (fun ls hl => ?_)
      refine lv_goto (tgt := 4) hx hb dX0_towersOf_26 (by decide) ?_
      exact ih4 (by omega) _ (⟨_, by simp [exn, cn, nI_1, c7, c17] <;> rfl, lv_sub hl [2, 3, 1, 0] rfl⟩)

set_option maxHeartbeats 4000000 in
set_option maxRecDepth 100000 in
/-- towers -/
theorem c_X0_towers (l : Launch) (D : va_G) (cI cZ cL : ClassId) (a0 : Nat) (a1 : Nat) (a2 : Nat) (a3 : Nat) (a4 : Nat) (fh : Nat → Int32) (fo : Nat → Int32) (fc : Nat → Int32) (fs : Nat → Int32) (hz : Nat) (mv : Nat) (tu : Int32) (rf : Int32) : Met l yX0_towers wsX0_towers ({ frames := 1, cells := 0, slots := 0, locals := 23 }) (va_Pc [.ref a0] (zW D cI cZ cL [(a0, .inr (0, [.ref a1, .ref a2, .ref a3, .ref a4, .int (nI hz), .int (nI mv), .int tu, .int rf])), (a1, .inl (cI, 36, .inl fh)), (a2, .inl (cI, 36, .inl fo)), (a3, .inl (cI, 36, .inl fc)), (a4, .inl (cI, 2, .inl fs))])) (zQi (nI (pOw fo 0 + pOw fo 1))) 0 0 (fun _ => False) := by
  refine Met.ofW (cc := cX0_towers) (maxL := 1) (ret := (some .int)) (by decide) rfl ?_
  intro p e s m args below meth c s₁ B hml hv
  obtain ⟨rfl, hP, hK⟩ := hv
  have hx := B.exec
  have hb := B.bytes
  have hr := B.returns
  have hts := atoms_spec (ws := wsX0_towers) B.pre
  have hown : s.vm.findClass RX0 = some m.cls := findClass_of_methodNamed B.named
  have hlocks := B.notSynchronized
  have hl := lv_entry ([.ref a0]) (n := 1) (Nat.le_of_ble_eq_true rfl)
  rw [lg_entry_eq]
  generalize (lg_sl ([.ref a0]) ++ List.replicate (1 - (lg_sl ([.ref a0])).length) Slot.unset).toArray = ls at hl ⊢
  have hl : lv_has ls 1 [(0, .ref a0)] := hl
  refine lv_aload_n hx hb dX0_towers_0 rfl (lv_at hl 0 rfl) ?_
  refine lv_iconst (v := 0) hx hb dX0_towers_1 (by decide) ?_
  refine z_ci (va_runV (As := [.int 0]) (rest := []) ⟨hx, hb, hml, hown, hts⟩ (c_X0_towersOf l D cI cZ cL (a0 := a0) (a1 := a1) (a2 := a2) (a3 := a3) (a4 := a4) (fh := fh) (fo := fo) (fc := fc) (fs := fs) (hz := hz) (mv := mv) (tu := tu) (rf := rf) (pl := 0) (hpl := by omega)) (cwV 1 hts gX0_towers_X0_towersOf rfl rfl rfl (by decide +kernel) ⟨Nat.le_of_ble_eq_true rfl, Nat.le_of_ble_eq_true rfl⟩) (z_preV hK (hP.sub [0, 1, 2, 3, 4] rfl) 0 0 rfl rfl) rfl rfl hl.1 rfl (lv_room (Nat.le_of_ble_eq_true rfl)) dX0_towers_2 ⟨Nat.le_of_ble_eq_true rfl, Nat.le_of_ble_eq_true rfl⟩) ?_
  refine lv_aload_n hx hb dX0_towers_5 rfl (lv_at hl 0 rfl) ?_
  refine lv_iconst (v := 1) hx hb dX0_towers_6 (by decide) ?_
  refine z_ci (va_runV (As := [.int 1]) (rest := [.int (nI (pOw fo 0))]) ⟨hx, hb, hml, hown, hts⟩ (c_X0_towersOf l D cI cZ cL (a0 := a0) (a1 := a1) (a2 := a2) (a3 := a3) (a4 := a4) (fh := fh) (fo := fo) (fc := fc) (fs := fs) (hz := hz) (mv := mv) (tu := tu) (rf := rf) (pl := 1) (hpl := by omega)) (cwV 1 hts gX0_towers_X0_towersOf rfl rfl rfl (by decide +kernel) ⟨Nat.le_of_ble_eq_true rfl, Nat.le_of_ble_eq_true rfl⟩) (z_preV hK (hP.sub [0, 1, 2, 3, 4] rfl) 0 0 rfl rfl) rfl rfl hl.1 rfl (lv_room (Nat.le_of_ble_eq_true rfl)) dX0_towers_7 ⟨Nat.le_of_ble_eq_true rfl, Nat.le_of_ble_eq_true rfl⟩) ?_
  refine z_iadd (v := nI (pOw fo 0 + pOw fo 1)) hx hb dX0_towers_10 (nI_add (pOw fo 0) (pOw fo 1)) ?_
  exact z_iret hx hb hr hlocks dX0_towers_11 (rfl)

set_option maxHeartbeats 4000000 in
set_option maxRecDepth 100000 in
/-- their heights -/
theorem c_X0_heightsOf (l : Launch) (D : va_G) (cI cZ cL : ClassId) (a0 : Nat) (a1 : Nat) (a2 : Nat) (a3 : Nat) (a4 : Nat) (fh : Nat → Int32) (fo : Nat → Int32) (fc : Nat → Int32) (fs : Nat → Int32) (hz : Nat) (mv : Nat) (tu : Int32) (rf : Int32) (pl : Nat) (hpl : pl < 2) : Met l yX0_heightsOf wsX0_heightsOf ({ frames := 0, cells := 0, slots := 0, locals := 0 }) (va_Pc [.ref a0, .int (nI pl)] (zW D cI cZ cL [(a0, .inr (0, [.ref a1, .ref a2, .ref a3, .ref a4, .int (nI hz), .int (nI mv), .int tu, .int rf])), (a1, .inl (cI, 36, .inl fh)), (a2, .inl (cI, 36, .inl fo)), (a3, .inl (cI, 36, .inl fc)), (a4, .inl (cI, 2, .inl fs))])) (zQi (pHs fo fh pl)) 0 0 (fun _ => False) := by
  refine Met.ofW (cc := cX0_heightsOf) (maxL := 4) (ret := (some .int)) (by decide) rfl ?_
  intro p e s m args below meth c s₁ B hml hv
  obtain ⟨rfl, hP, hK⟩ := hv
  have hx := B.exec
  have hb := B.bytes
  have hr := B.returns
  have hts := atoms_spec (ws := wsX0_heightsOf) B.pre
  have hown : s.vm.findClass RX0 = some m.cls := findClass_of_methodNamed B.named
  have hlocks := B.notSynchronized
  have in0 : ∀ w ∈ u_ws RX0 TX0 8, w ∈ wsX0_heightsOf := by decide +kernel
  have fl9 := hts (.fieldLink RX0 9 "TowerShades$Field" "heights" "[I") (by decide +kernel)
  have fl15 := hts (.fieldLink RX0 15 "TowerShades$Field" "owners" "[I") (by decide +kernel)
  have hl := lv_entry ([.ref a0, .int (nI pl)]) (n := 4) (Nat.le_of_ble_eq_true rfl)
  rw [lg_entry_eq]
  generalize (lg_sl ([.ref a0, .int (nI pl)]) ++ List.replicate (4 - (lg_sl ([.ref a0, .int (nI pl)])).length) Slot.unset).toArray = ls at hl ⊢
  have hl : lv_has ls 4 [(0, .ref a0), (1, .int (nI pl))] := hl
  refine lv_iconst (v := 0) hx hb dX0_heightsOf_0 (by decide) ?_
  refine lv_istore_n (lv' := [(2, .int 0), (0, .ref a0), (1, .int (nI pl))]) hx hb dX0_heightsOf_1 rfl hl (by decide) rfl (fun ls hl => ?_)
  refine lv_iconst (v := 0) hx hb dX0_heightsOf_2 (by decide) ?_
  refine lv_istore_n (lv' := [(3, .int 0), (2, .int 0), (0, .ref a0), (1, .int (nI pl))]) hx hb dX0_heightsOf_3 rfl hl (by decide) rfl (fun ls hl => ?_)
  refine z_up (N := 36) (i0 := 0) (fun i ls => ∃ xn : Int32, xn = sm (fun k => if fo k = nI pl then fh k else 0) i ∧ lv_has ls 4 [(0, .ref a0), (1, .int (nI pl)), (2, .int xn), (3, .int (nI i))]) (by omega) (⟨_, rfl, lv_sub hl [2, 3, 1, 0] rfl⟩) (fun i ls hi4 hI ih4 => ?_)
  obtain ⟨xn, exn, hl⟩ := hI
  refine lv_iload_n hx hb dX0_heightsOf_4 rfl (lv_at hl 3 rfl) ?_
  refine lv_bipush (v := 36) hx hb dX0_heightsOf_5 (by decide) ?_
  refine z_icmp_ge (tgt := 35) (P := 36 ≤ i) hx hb dX0_heightsOf_7 (by decide) (nI_leI (a := 36) (b := i) (by omega) (by omega)) (fun c7 => ?_) (fun c7 => ?_)
  · skip
    refine lv_iload_n hx hb dX0_heightsOf_35 rfl (lv_at hl 2 rfl) ?_
    exact z_iret hx hb hr hlocks dX0_heightsOf_36 (by rw [exn, pHs, show i = 36 by omega])
  · skip
    refine lv_aload_n hx hb dX0_heightsOf_10 rfl (lv_at hl 0 rfl) ?_
    refine va_get (D := D) (ci := 0) (v := .ref a2) (C := RX0) (T := TX0) (N := 8) hx hb hts in0 hown hK hP 0 rfl rfl 1 (by decide) fl15 (fun _ h9 => h9) rfl dX0_heightsOf_11 ?_
    refine lv_iload_n hx hb dX0_heightsOf_14 rfl (lv_at hl 3 rfl) ?_
    refine z_iald hx hb hK hP 2 0 rfl rfl (k := i) (rfl) (by omega) (by decide) dX0_heightsOf_15 ?_
    refine lv_iload_n hx hb dX0_heightsOf_16 rfl (lv_at hl 1 rfl) ?_
    refine z_icmp_ne (tgt := 29) (P := (fo i) = (nI pl)) hx hb dX0_heightsOf_17 (by decide) (Iff.rfl) (fun c17 => ?_) (fun c17 => ?_)
    · skip
      refine lv_iinc (v := nI (i + 1)) (lv' := [(3, .int (nI (i + 1))), (0, .ref a0), (1, .int (nI pl)), (2, .int xn)]) hx hb dX0_heightsOf_29 hl (k := 3) rfl (nI_1 (i)) (by decide) rfl (fun ls hl => ?_)
      refine lv_goto (tgt := 4) hx hb dX0_heightsOf_32 (by decide) ?_
      exact ih4 (by omega) _ (⟨_, by simp [exn, sm, c7, c17] <;> rfl, lv_sub hl [1, 2, 3, 0] rfl⟩)
    · skip
      refine lv_iload_n hx hb dX0_heightsOf_20 rfl (lv_at hl 2 rfl) ?_
      refine lv_aload_n hx hb dX0_heightsOf_21 rfl (lv_at hl 0 rfl) ?_
      refine va_get (D := D) (ci := 0) (v := .ref a1) (C := RX0) (T := TX0) (N := 8) hx hb hts in0 hown hK hP 0 rfl rfl 0 (by decide) fl9 (fun _ h9 => h9) rfl dX0_heightsOf_22 ?_
      refine lv_iload_n hx hb dX0_heightsOf_25 rfl (lv_at hl 3 rfl) ?_
      refine z_iald hx hb hK hP 1 0 rfl rfl (k := i) (rfl) (by omega) (by decide) dX0_heightsOf_26 ?_
      refine z_iadd (v := (xn + (fh i))) hx hb dX0_heightsOf_27 (rfl) ?_
      refine lv_istore_n (lv' := [(2, .int (xn + (fh i))), (0, .ref a0), (1, .int (nI pl)), (3, .int (nI i))]) hx hb dX0_heightsOf_28 rfl hl (by decide) rfl (fun ls hl => ?_)
      refine lv_iinc (v := nI (i + 1)) (lv' := [(3, .int (nI (i + 1))), (2, .int (xn + (fh i))), (0, .ref a0), (1, .int (nI pl))]) hx hb dX0_heightsOf_29 hl (k := 3) rfl (nI_1 (i)) (by decide) rfl (fun ls hl => ?_)
      refine lv_goto (tgt := 4) hx hb dX0_heightsOf_32 (by decide) ?_
      exact ih4 (by omega) _ (⟨_, by simp [exn, sm, c7, c17] <;> rfl, lv_sub hl [2, 3, 1, 0] rfl⟩)

set_option maxHeartbeats 4000000 in
set_option maxRecDepth 100000 in
/-- the dark ones -/
theorem c_X0_darkTowersOf (l : Launch) (D : va_G) (cI cZ cL : ClassId) (a0 : Nat) (a1 : Nat) (a2 : Nat) (a3 : Nat) (a4 : Nat) (fh : Nat → Int32) (fo : Nat → Int32) (fc : Nat → Int32) (fs : Nat → Int32) (hz : Nat) (mv : Nat) (tu : Int32) (rf : Int32) (pl : Nat) (hpl : pl < 2) (hhz : hz < 12) : Met l yX0_darkTowersOf wsX0_darkTowersOf ({ frames := 2, cells := 0, slots := 0, locals := 48 }) (va_Pc [.ref a0, .int (nI pl)] (zW D cI cZ cL [(a0, .inr (0, [.ref a1, .ref a2, .ref a3, .ref a4, .int (nI hz), .int (nI mv), .int tu, .int rf])), (a1, .inl (cI, 36, .inl fh)), (a2, .inl (cI, 36, .inl fo)), (a3, .inl (cI, 36, .inl fc)), (a4, .inl (cI, 2, .inl fs))])) (zQi (nI (pOd fo fh hz pl))) 0 0 (fun _ => False) := by
  refine Met.ofW (cc := cX0_darkTowersOf) (maxL := 4) (ret := (some .int)) (by decide) rfl ?_
  intro p e s m args below meth c s₁ B hml hv
  obtain ⟨rfl, hP, hK⟩ := hv
  have hx := B.exec
  have hb := B.bytes
  have hr := B.returns
  have hts := atoms_spec (ws := wsX0_darkTowersOf) B.pre
  have hown : s.vm.findClass RX0 = some m.cls := findClass_of_methodNamed B.named
  have hlocks := B.notSynchronized
  have in0 : ∀ w ∈ u_ws RX0 TX0 8, w ∈ wsX0_darkTowersOf := by decide +kernel
  have fl15 := hts (.fieldLink RX0 15 "TowerShades$Field" "owners" "[I") (by decide +kernel)
  have fl30 := hts (.fieldLink RX0 30 "TowerShades$Field" "hourNow" "I") (by decide +kernel)
  have hl := lv_entry ([.ref a0, .int (nI pl)]) (n := 4) (Nat.le_of_ble_eq_true rfl)
  rw [lg_entry_eq]
  generalize (lg_sl ([.ref a0, .int (nI pl)]) ++ List.replicate (4 - (lg_sl ([.ref a0, .int (nI pl)])).length) Slot.unset).toArray = ls at hl ⊢
  have hl : lv_has ls 4 [(0, .ref a0), (1, .int (nI pl))] := hl
  refine lv_iconst (v := 0) hx hb dX0_darkTowersOf_0 (by decide) ?_
  refine lv_istore_n (lv' := [(2, .int 0), (0, .ref a0), (1, .int (nI pl))]) hx hb dX0_darkTowersOf_1 rfl hl (by decide) rfl (fun ls hl => ?_)
  refine lv_iconst (v := 0) hx hb dX0_darkTowersOf_2 (by decide) ?_
  refine lv_istore_n (lv' := [(3, .int 0), (2, .int 0), (0, .ref a0), (1, .int (nI pl))]) hx hb dX0_darkTowersOf_3 rfl hl (by decide) rfl (fun ls hl => ?_)
  refine z_up (N := 36) (i0 := 0) (fun i ls => ∃ xn : Int32, xn = nI (cn (fun k => decide (fo k = nI pl) && pDk fh k hz) i) ∧ lv_has ls 4 [(0, .ref a0), (1, .int (nI pl)), (2, .int xn), (3, .int (nI i))]) (by omega) (⟨_, rfl, lv_sub hl [2, 3, 1, 0] rfl⟩) (fun i ls hi4 hI ih4 => ?_)
  obtain ⟨xn, exn, hl⟩ := hI
  refine lv_iload_n hx hb dX0_darkTowersOf_4 rfl (lv_at hl 3 rfl) ?_
  refine lv_bipush (v := 36) hx hb dX0_darkTowersOf_5 (by decide) ?_
  refine z_icmp_ge (tgt := 41) (P := 36 ≤ i) hx hb dX0_darkTowersOf_7 (by decide) (nI_leI (a := 36) (b := i) (by omega) (by omega)) (fun c7 => ?_) (fun c7 => ?_)
  · skip
    refine lv_iload_n hx hb dX0_darkTowersOf_41 rfl (lv_at hl 2 rfl) ?_
    exact z_iret hx hb hr hlocks dX0_darkTowersOf_42 (by rw [exn, pOd, show i = 36 by omega])
  · skip
    refine lv_aload_n hx hb dX0_darkTowersOf_10 rfl (lv_at hl 0 rfl) ?_
    refine va_get (D := D) (ci := 0) (v := .ref a2) (C := RX0) (T := TX0) (N := 8) hx hb hts in0 hown hK hP 0 rfl rfl 1 (by decide) fl15 (fun _ h9 => h9) rfl dX0_darkTowersOf_11 ?_
    refine lv_iload_n hx hb dX0_darkTowersOf_14 rfl (lv_at hl 3 rfl) ?_
    refine z_iald hx hb hK hP 2 0 rfl rfl (k := i) (rfl) (by omega) (by decide) dX0_darkTowersOf_15 ?_
    refine lv_iload_n hx hb dX0_darkTowersOf_16 rfl (lv_at hl 1 rfl) ?_
    refine z_icmp_ne (tgt := 35) (P := (fo i) = (nI pl)) hx hb dX0_darkTowersOf_17 (by decide) (Iff.rfl) (fun c17 => ?_) (fun c17 => ?_)
    · skip
      refine lv_iinc (v := nI (i + 1)) (lv' := [(3, .int (nI (i + 1))), (0, .ref a0), (1, .int (nI pl)), (2, .int xn)]) hx hb dX0_darkTowersOf_35 hl (k := 3) rfl (nI_1 (i)) (by decide) rfl (fun ls hl => ?_)
      refine lv_goto (tgt := 4) hx hb dX0_darkTowersOf_38 (by decide) ?_
      exact ih4 (by omega) _ (⟨_, by simp [exn, cn, nI_1, c7, c17] <;> rfl, lv_sub hl [1, 2, 3, 0] rfl⟩)
    · skip
      refine lv_aload_n hx hb dX0_darkTowersOf_20 rfl (lv_at hl 0 rfl) ?_
      refine lv_iload_n hx hb dX0_darkTowersOf_21 rfl (lv_at hl 3 rfl) ?_
      refine lv_aload_n hx hb dX0_darkTowersOf_22 rfl (lv_at hl 0 rfl) ?_
      refine va_get (D := D) (ci := 0) (v := .int (nI hz)) (C := RX0) (T := TX0) (N := 8) hx hb hts in0 hown hK hP 0 rfl rfl 4 (by decide) fl30 (fun _ h9 => h9) rfl dX0_darkTowersOf_23 ?_
      refine z_ci (va_runV (As := [.int (nI i), .int (nI hz)]) (rest := []) ⟨hx, hb, hml, hown, hts⟩ (c_X0_isDark l D cI cZ cL (a0 := a0) (a1 := a1) (a2 := a2) (a3 := a3) (a4 := a4) (fh := fh) (fo := fo) (fc := fc) (fs := fs) (hz := hz) (mv := mv) (tu := tu) (rf := rf) (q := i) (hu := hz) (hq := by omega) (hhu := by omega)) (cwV 2 hts gX0_darkTowersOf_X0_isDark rfl rfl rfl (by decide +kernel) ⟨Nat.le_of_ble_eq_true rfl, Nat.le_of_ble_eq_true rfl⟩) (z_preV hK (hP.sub [0, 1, 2, 3, 4] rfl) 0 0 rfl rfl) rfl rfl hl.1 rfl (lv_room (Nat.le_of_ble_eq_true rfl)) dX0_darkTowersOf_26 ⟨Nat.le_of_ble_eq_true rfl, Nat.le_of_ble_eq_true rfl⟩) ?_
      refine z_if_eq (tgt := 35) (P := (pDk fh i hz) = false) hx hb dX0_darkTowersOf_29 (by decide) (zb_eq0) (fun c29 => ?_) (fun c29 => ?_)
      · skip
        refine lv_iinc (v := nI (i + 1)) (lv' := [(3, .int (nI (i + 1))), (0, .ref a0), (1, .int (nI pl)), (2, .int xn)]) hx hb dX0_darkTowersOf_35 hl (k := 3) rfl (nI_1 (i)) (by decide) rfl (fun ls hl => ?_)
        refine lv_goto (tgt := 4) hx hb dX0_darkTowersOf_38 (by decide) ?_
        exact ih4 (by omega) _ (⟨_, by simp [exn, cn, nI_1, c7, c17, c29] <;> rfl, lv_sub hl [1, 2, 3, 0] rfl⟩)
      · skip
        refine lv_iinc (v := xn + 1) (lv' := [(2, .int (xn + 1)), (0, .ref a0), (1, .int (nI pl)), (3, .int (nI i))]) hx hb dX0_darkTowersOf_32 hl (k := 2) rfl (rfl) (by decide) rfl (fun ls hl => ?_)
        refine lv_iinc (v := nI (i + 1)) (lv' := [(3, .int (nI (i + 1))), (2, .int (xn + 1)), (0, .ref a0), (1, .int (nI pl))]) hx hb dX0_darkTowersOf_35 hl (k := 3) rfl (nI_1 (i)) (by decide) rfl (fun ls hl => ?_)
        refine lv_goto (tgt := 4) hx hb dX0_darkTowersOf_38 (by decide) ?_
        exact ih4 (by omega) _ (⟨_, by simp [exn, cn, nI_1, c7, c17, c29] <;> rfl, lv_sub hl [2, 3, 1, 0] rfl⟩)

set_option maxHeartbeats 4000000 in
set_option maxRecDepth 100000 in
/-- what a player would be paid -/
theorem c_X0_payNow (l : Launch) (D : va_G) (cI cZ cL : ClassId) (a0 : Nat) (a1 : Nat) (a2 : Nat) (a3 : Nat) (a4 : Nat) (fh : Nat → Int32) (fo : Nat → Int32) (fc : Nat → Int32) (fs : Nat → Int32) (hz : Nat) (mv : Nat) (tu : Int32) (rf : Int32) (pl : Nat) (hpl : pl < 2) (hhz : hz < 12) : Met l yX0_payNow wsX0_payNow ({ frames := 2, cells := 0, slots := 0, locals := 48 }) (va_Pc [.ref a0, .int (nI pl)] (zW D cI cZ cL [(a0, .inr (0, [.ref a1, .ref a2, .ref a3, .ref a4, .int (nI hz), .int (nI mv), .int tu, .int rf])), (a1, .inl (cI, 36, .inl fh)), (a2, .inl (cI, 36, .inl fo)), (a3, .inl (cI, 36, .inl fc)), (a4, .inl (cI, 2, .inl fs))])) (zQi (pPy fo fh fc hz pl)) 0 0 (fun _ => False) := by
  refine Met.ofW (cc := cX0_payNow) (maxL := 4) (ret := (some .int)) (by decide) rfl ?_
  intro p e s m args below meth c s₁ B hml hv
  obtain ⟨rfl, hP, hK⟩ := hv
  have hx := B.exec
  have hb := B.bytes
  have hr := B.returns
  have hts := atoms_spec (ws := wsX0_payNow) B.pre
  have hown : s.vm.findClass RX0 = some m.cls := findClass_of_methodNamed B.named
  have hlocks := B.notSynchronized
  have in0 : ∀ w ∈ u_ws RX0 TX0 8, w ∈ wsX0_payNow := by decide +kernel
  have fl15 := hts (.fieldLink RX0 15 "TowerShades$Field" "owners" "[I") (by decide +kernel)
  have fl18 := hts (.fieldLink RX0 18 "TowerShades$Field" "crowds" "[I") (by decide +kernel)
  have fl30 := hts (.fieldLink RX0 30 "TowerShades$Field" "hourNow" "I") (by decide +kernel)
  have hl := lv_entry ([.ref a0, .int (nI pl)]) (n := 4) (Nat.le_of_ble_eq_true rfl)
  rw [lg_entry_eq]
  generalize (lg_sl ([.ref a0, .int (nI pl)]) ++ List.replicate (4 - (lg_sl ([.ref a0, .int (nI pl)])).length) Slot.unset).toArray = ls at hl ⊢
  have hl : lv_has ls 4 [(0, .ref a0), (1, .int (nI pl))] := hl
  refine lv_iconst (v := 0) hx hb dX0_payNow_0 (by decide) ?_
  refine lv_istore_n (lv' := [(2, .int 0), (0, .ref a0), (1, .int (nI pl))]) hx hb dX0_payNow_1 rfl hl (by decide) rfl (fun ls hl => ?_)
  refine lv_iconst (v := 0) hx hb dX0_payNow_2 (by decide) ?_
  refine lv_istore_n (lv' := [(3, .int 0), (2, .int 0), (0, .ref a0), (1, .int (nI pl))]) hx hb dX0_payNow_3 rfl hl (by decide) rfl (fun ls hl => ?_)
  refine z_up (N := 36) (i0 := 0) (fun i ls => ∃ xn : Int32, xn = sm (fun k => if fo k = nI pl ∧ pDk fh k hz = false then fc k else 0) i ∧ lv_has ls 4 [(0, .ref a0), (1, .int (nI pl)), (2, .int xn), (3, .int (nI i))]) (by omega) (⟨_, rfl, lv_sub hl [2, 3, 1, 0] rfl⟩) (fun i ls hi4 hI ih4 => ?_)
  obtain ⟨xn, exn, hl⟩ := hI
  refine lv_iload_n hx hb dX0_payNow_4 rfl (lv_at hl 3 rfl) ?_
  refine lv_bipush (v := 36) hx hb dX0_payNow_5 (by decide) ?_
  refine z_icmp_ge (tgt := 47) (P := 36 ≤ i) hx hb dX0_payNow_7 (by decide) (nI_leI (a := 36) (b := i) (by omega) (by omega)) (fun c7 => ?_) (fun c7 => ?_)
  · skip
    refine lv_iload_n hx hb dX0_payNow_47 rfl (lv_at hl 2 rfl) ?_
    exact z_iret hx hb hr hlocks dX0_payNow_48 (by rw [exn, pPy, show i = 36 by omega])
  · skip
    refine lv_aload_n hx hb dX0_payNow_10 rfl (lv_at hl 0 rfl) ?_
    refine va_get (D := D) (ci := 0) (v := .ref a2) (C := RX0) (T := TX0) (N := 8) hx hb hts in0 hown hK hP 0 rfl rfl 1 (by decide) fl15 (fun _ h9 => h9) rfl dX0_payNow_11 ?_
    refine lv_iload_n hx hb dX0_payNow_14 rfl (lv_at hl 3 rfl) ?_
    refine z_iald hx hb hK hP 2 0 rfl rfl (k := i) (rfl) (by omega) (by decide) dX0_payNow_15 ?_
    refine lv_iload_n hx hb dX0_payNow_16 rfl (lv_at hl 1 rfl) ?_
    refine z_icmp_ne (tgt := 41) (P := (fo i) = (nI pl)) hx hb dX0_payNow_17 (by decide) (Iff.rfl) (fun c17 => ?_) (fun c17 => ?_)
    · skip
      refine lv_iinc (v := nI (i + 1)) (lv' := [(3, .int (nI (i + 1))), (0, .ref a0), (1, .int (nI pl)), (2, .int xn)]) hx hb dX0_payNow_41 hl (k := 3) rfl (nI_1 (i)) (by decide) rfl (fun ls hl => ?_)
      refine lv_goto (tgt := 4) hx hb dX0_payNow_44 (by decide) ?_
      exact ih4 (by omega) _ (⟨_, by simp [exn, sm, c7, c17] <;> rfl, lv_sub hl [1, 2, 3, 0] rfl⟩)
    · skip
      refine lv_aload_n hx hb dX0_payNow_20 rfl (lv_at hl 0 rfl) ?_
      refine lv_iload_n hx hb dX0_payNow_21 rfl (lv_at hl 3 rfl) ?_
      refine lv_aload_n hx hb dX0_payNow_22 rfl (lv_at hl 0 rfl) ?_
      refine va_get (D := D) (ci := 0) (v := .int (nI hz)) (C := RX0) (T := TX0) (N := 8) hx hb hts in0 hown hK hP 0 rfl rfl 4 (by decide) fl30 (fun _ h9 => h9) rfl dX0_payNow_23 ?_
      refine z_ci (va_runV (As := [.int (nI i), .int (nI hz)]) (rest := []) ⟨hx, hb, hml, hown, hts⟩ (c_X0_isDark l D cI cZ cL (a0 := a0) (a1 := a1) (a2 := a2) (a3 := a3) (a4 := a4) (fh := fh) (fo := fo) (fc := fc) (fs := fs) (hz := hz) (mv := mv) (tu := tu) (rf := rf) (q := i) (hu := hz) (hq := by omega) (hhu := by omega)) (cwV 2 hts gX0_payNow_X0_isDark rfl rfl rfl (by decide +kernel) ⟨Nat.le_of_ble_eq_true rfl, Nat.le_of_ble_eq_true rfl⟩) (z_preV hK (hP.sub [0, 1, 2, 3, 4] rfl) 0 0 rfl rfl) rfl rfl hl.1 rfl (lv_room (Nat.le_of_ble_eq_true rfl)) dX0_payNow_26 ⟨Nat.le_of_ble_eq_true rfl, Nat.le_of_ble_eq_true rfl⟩) ?_
      refine z_if_ne (tgt := 41) (P := (pDk fh i hz) = false) hx hb dX0_payNow_29 (by decide) (zb_eq0) (fun c29 => ?_) (fun c29 => ?_)
      · skip
        refine lv_iinc (v := nI (i + 1)) (lv' := [(3, .int (nI (i + 1))), (0, .ref a0), (1, .int (nI pl)), (2, .int xn)]) hx hb dX0_payNow_41 hl (k := 3) rfl (nI_1 (i)) (by decide) rfl (fun ls hl => ?_)
        refine lv_goto (tgt := 4) hx hb dX0_payNow_44 (by decide) ?_
        exact ih4 (by omega) _ (⟨_, by simp [exn, sm, c7, c17, c29] <;> rfl, lv_sub hl [1, 2, 3, 0] rfl⟩)
      · skip
        refine lv_iload_n hx hb dX0_payNow_32 rfl (lv_at hl 2 rfl) ?_
        refine lv_aload_n hx hb dX0_payNow_33 rfl (lv_at hl 0 rfl) ?_
        refine va_get (D := D) (ci := 0) (v := .ref a3) (C := RX0) (T := TX0) (N := 8) hx hb hts in0 hown hK hP 0 rfl rfl 2 (by decide) fl18 (fun _ h9 => h9) rfl dX0_payNow_34 ?_
        refine lv_iload_n hx hb dX0_payNow_37 rfl (lv_at hl 3 rfl) ?_
        refine z_iald hx hb hK hP 3 0 rfl rfl (k := i) (rfl) (by omega) (by decide) dX0_payNow_38 ?_
        refine z_iadd (v := (xn + (fc i))) hx hb dX0_payNow_39 (rfl) ?_
        refine lv_istore_n (lv' := [(2, .int (xn + (fc i))), (0, .ref a0), (1, .int (nI pl)), (3, .int (nI i))]) hx hb dX0_payNow_40 rfl hl (by decide) rfl (fun ls hl => ?_)
        refine lv_iinc (v := nI (i + 1)) (lv' := [(3, .int (nI (i + 1))), (2, .int (xn + (fc i))), (0, .ref a0), (1, .int (nI pl))]) hx hb dX0_payNow_41 hl (k := 3) rfl (nI_1 (i)) (by decide) rfl (fun ls hl => ?_)
        refine lv_goto (tgt := 4) hx hb dX0_payNow_44 (by decide) ?_
        exact ih4 (by omega) _ (⟨_, by simp [exn, sm, c7, c17, c29] <;> rfl, lv_sub hl [2, 3, 1, 0] rfl⟩)

set_option maxHeartbeats 4000000 in
set_option maxRecDepth 100000 in
/-- the rivals in a player's shade -/
theorem c_X0_rivalsShadedBy (l : Launch) (D : va_G) (cI cZ cL : ClassId) (a0 : Nat) (a1 : Nat) (a2 : Nat) (a3 : Nat) (a4 : Nat) (fh : Nat → Int32) (fo : Nat → Int32) (fc : Nat → Int32) (fs : Nat → Int32) (hz : Nat) (mv : Nat) (tu : Int32) (rf : Int32) (pl : Nat) (hpl : pl < 2) (hhz : hz < 12) : Met l yX0_rivalsShadedBy wsX0_rivalsShadedBy ({ frames := 2, cells := 0, slots := 0, locals := 50 }) (va_Pc [.ref a0, .int (nI pl)] (zW D cI cZ cL [(a0, .inr (0, [.ref a1, .ref a2, .ref a3, .ref a4, .int (nI hz), .int (nI mv), .int tu, .int rf])), (a1, .inl (cI, 36, .inl fh)), (a2, .inl (cI, 36, .inl fo)), (a3, .inl (cI, 36, .inl fc)), (a4, .inl (cI, 2, .inl fs))])) (zQi (nI (pRv fo fh hz pl))) 0 0 (fun _ => False) := by
  refine Met.ofW (cc := cX0_rivalsShadedBy) (maxL := 4) (ret := (some .int)) (by decide) rfl ?_
  intro p e s m args below meth c s₁ B hml hv
  obtain ⟨rfl, hP, hK⟩ := hv
  have hx := B.exec
  have hb := B.bytes
  have hr := B.returns
  have hts := atoms_spec (ws := wsX0_rivalsShadedBy) B.pre
  have hown : s.vm.findClass RX0 = some m.cls := findClass_of_methodNamed B.named
  have hlocks := B.notSynchronized
  have in0 : ∀ w ∈ u_ws RX0 TX0 8, w ∈ wsX0_rivalsShadedBy := by decide +kernel
  have fl15 := hts (.fieldLink RX0 15 "TowerShades$Field" "owners" "[I") (by decide +kernel)
  have hl := lv_entry ([.ref a0, .int (nI pl)]) (n := 4) (Nat.le_of_ble_eq_true rfl)
  rw [lg_entry_eq]
  generalize (lg_sl ([.ref a0, .int (nI pl)]) ++ List.replicate (4 - (lg_sl ([.ref a0, .int (nI pl)])).length) Slot.unset).toArray = ls at hl ⊢
  have hl : lv_has ls 4 [(0, .ref a0), (1, .int (nI pl))] := hl
  refine lv_iconst (v := 0) hx hb dX0_rivalsShadedBy_0 (by decide) ?_
  refine lv_istore_n (lv' := [(2, .int 0), (0, .ref a0), (1, .int (nI pl))]) hx hb dX0_rivalsShadedBy_1 rfl hl (by decide) rfl (fun ls hl => ?_)
  refine lv_iconst (v := 0) hx hb dX0_rivalsShadedBy_2 (by decide) ?_
  refine lv_istore_n (lv' := [(3, .int 0), (2, .int 0), (0, .ref a0), (1, .int (nI pl))]) hx hb dX0_rivalsShadedBy_3 rfl hl (by decide) rfl (fun ls hl => ?_)
  refine z_up (N := 36) (i0 := 0) (fun i ls => ∃ xn : Int32, xn = nI (cn (fun k => decide (fo k = nI (1 - pl)) && decide (0 < pTn fo fh pl k hz)) i) ∧ lv_has ls 4 [(0, .ref a0), (1, .int (nI pl)), (2, .int xn), (3, .int (nI i))]) (by omega) (⟨_, rfl, lv_sub hl [2, 3, 1, 0] rfl⟩) (fun i ls hi4 hI ih4 => ?_)
  obtain ⟨xn, exn, hl⟩ := hI
  refine lv_iload_n hx hb dX0_rivalsShadedBy_4 rfl (lv_at hl 3 rfl) ?_
  refine lv_bipush (v := 36) hx hb dX0_rivalsShadedBy_5 (by decide) ?_
  refine z_icmp_ge (tgt := 40) (P := 36 ≤ i) hx hb dX0_rivalsShadedBy_7 (by decide) (nI_leI (a := 36) (b := i) (by omega) (by omega)) (fun c7 => ?_) (fun c7 => ?_)
  · skip
    refine lv_iload_n hx hb dX0_rivalsShadedBy_40 rfl (lv_at hl 2 rfl) ?_
    exact z_iret hx hb hr hlocks dX0_rivalsShadedBy_41 (by rw [exn, pRv, show i = 36 by omega])
  · skip
    refine lv_aload_n hx hb dX0_rivalsShadedBy_10 rfl (lv_at hl 0 rfl) ?_
    refine va_get (D := D) (ci := 0) (v := .ref a2) (C := RX0) (T := TX0) (N := 8) hx hb hts in0 hown hK hP 0 rfl rfl 1 (by decide) fl15 (fun _ h9 => h9) rfl dX0_rivalsShadedBy_11 ?_
    refine lv_iload_n hx hb dX0_rivalsShadedBy_14 rfl (lv_at hl 3 rfl) ?_
    refine z_iald hx hb hK hP 2 0 rfl rfl (k := i) (rfl) (by omega) (by decide) dX0_rivalsShadedBy_15 ?_
    refine lv_iconst (v := 1) hx hb dX0_rivalsShadedBy_16 (by decide) ?_
    refine lv_iload_n hx hb dX0_rivalsShadedBy_17 rfl (lv_at hl 1 rfl) ?_
    refine z_isub (v := nI (1 - pl)) hx hb dX0_rivalsShadedBy_18 (pk_sub (a := 1) (b := pl) (by omega)) ?_
    refine z_icmp_ne (tgt := 34) (P := (fo i) = (nI (1 - pl))) hx hb dX0_rivalsShadedBy_19 (by decide) (Iff.rfl) (fun c19 => ?_) (fun c19 => ?_)
    · skip
      refine lv_iinc (v := nI (i + 1)) (lv' := [(3, .int (nI (i + 1))), (0, .ref a0), (1, .int (nI pl)), (2, .int xn)]) hx hb dX0_rivalsShadedBy_34 hl (k := 3) rfl (nI_1 (i)) (by decide) rfl (fun ls hl => ?_)
      refine lv_goto (tgt := 4) hx hb dX0_rivalsShadedBy_37 (by decide) ?_
      exact ih4 (by omega) _ (⟨_, by simp [exn, cn, nI_1, c7, c19] <;> rfl, lv_sub hl [1, 2, 3, 0] rfl⟩)
    · skip
      refine lv_aload_n hx hb dX0_rivalsShadedBy_22 rfl (lv_at hl 0 rfl) ?_
      refine lv_iload_n hx hb dX0_rivalsShadedBy_23 rfl (lv_at hl 3 rfl) ?_
      refine lv_iload_n hx hb dX0_rivalsShadedBy_24 rfl (lv_at hl 1 rfl) ?_
      refine z_ci (va_runV (As := [.int (nI i), .int (nI pl)]) (rest := []) ⟨hx, hb, hml, hown, hts⟩ (c_X0_towersShading l D cI cZ cL (a0 := a0) (a1 := a1) (a2 := a2) (a3 := a3) (a4 := a4) (fh := fh) (fo := fo) (fc := fc) (fs := fs) (hz := hz) (mv := mv) (tu := tu) (rf := rf) (q := i) (pl := pl) (hq := by omega) (hpl := by omega) (hhz := by omega)) (cwV 2 hts gX0_rivalsShadedBy_X0_towersShading rfl rfl rfl (by decide +kernel) ⟨Nat.le_of_ble_eq_true rfl, Nat.le_of_ble_eq_true rfl⟩) (z_preV hK (hP.sub [0, 1, 2, 3, 4] rfl) 0 0 rfl rfl) rfl rfl hl.1 rfl (lv_room (Nat.le_of_ble_eq_true rfl)) dX0_rivalsShadedBy_25 ⟨Nat.le_of_ble_eq_true rfl, Nat.le_of_ble_eq_true rfl⟩) ?_
      refine z_if_le (tgt := 34) (P := ¬ 0 < pTn fo fh pl i hz) hx hb dX0_rivalsShadedBy_28 (by decide) (nI_le0 (by have := pTn_le (fo := fo) (fh := fh) (pl := pl) (q := i) (hz := hz) (by omega) hhz; omega)) (fun c28 => ?_) (fun c28 => ?_)
      · skip
        refine lv_iinc (v := nI (i + 1)) (lv' := [(3, .int (nI (i + 1))), (0, .ref a0), (1, .int (nI pl)), (2, .int xn)]) hx hb dX0_rivalsShadedBy_34 hl (k := 3) rfl (nI_1 (i)) (by decide) rfl (fun ls hl => ?_)
        refine lv_goto (tgt := 4) hx hb dX0_rivalsShadedBy_37 (by decide) ?_
        exact ih4 (by omega) _ (⟨_, by simp [exn, cn, nI_1, c7, c19, c28] <;> rfl, lv_sub hl [1, 2, 3, 0] rfl⟩)
      · skip
        replace c28 := Classical.not_not.mp c28
        refine lv_iinc (v := xn + 1) (lv' := [(2, .int (xn + 1)), (0, .ref a0), (1, .int (nI pl)), (3, .int (nI i))]) hx hb dX0_rivalsShadedBy_31 hl (k := 2) rfl (rfl) (by decide) rfl (fun ls hl => ?_)
        refine lv_iinc (v := nI (i + 1)) (lv' := [(3, .int (nI (i + 1))), (2, .int (xn + 1)), (0, .ref a0), (1, .int (nI pl))]) hx hb dX0_rivalsShadedBy_34 hl (k := 3) rfl (nI_1 (i)) (by decide) rfl (fun ls hl => ?_)
        refine lv_goto (tgt := 4) hx hb dX0_rivalsShadedBy_37 (by decide) ?_
        exact ih4 (by omega) _ (⟨_, by simp [exn, cn, nI_1, c7, c19, c28] <;> rfl, lv_sub hl [2, 3, 1, 0] rfl⟩)

set_option maxHeartbeats 4000000 in
set_option maxRecDepth 100000 in
/-- the crowds -/
theorem c_X0_crowdsTogether (l : Launch) (D : va_G) (cI cZ cL : ClassId) (a0 : Nat) (a1 : Nat) (a2 : Nat) (a3 : Nat) (a4 : Nat) (fh : Nat → Int32) (fo : Nat → Int32) (fc : Nat → Int32) (fs : Nat → Int32) (hz : Nat) (mv : Nat) (tu : Int32) (rf : Int32) : Met l yX0_crowdsTogether wsX0_crowdsTogether ({ frames := 0, cells := 0, slots := 0, locals := 0 }) (va_Pc [.ref a0] (zW D cI cZ cL [(a0, .inr (0, [.ref a1, .ref a2, .ref a3, .ref a4, .int (nI hz), .int (nI mv), .int tu, .int rf])), (a1, .inl (cI, 36, .inl fh)), (a2, .inl (cI, 36, .inl fo)), (a3, .inl (cI, 36, .inl fc)), (a4, .inl (cI, 2, .inl fs))])) (zQi (pCt fc)) 0 0 (fun _ => False) := by
  refine Met.ofW (cc := cX0_crowdsTogether) (maxL := 3) (ret := (some .int)) (by decide) rfl ?_
  intro p e s m args below meth c s₁ B hml hv
  obtain ⟨rfl, hP, hK⟩ := hv
  have hx := B.exec
  have hb := B.bytes
  have hr := B.returns
  have hts := atoms_spec (ws := wsX0_crowdsTogether) B.pre
  have hown : s.vm.findClass RX0 = some m.cls := findClass_of_methodNamed B.named
  have hlocks := B.notSynchronized
  have in0 : ∀ w ∈ u_ws RX0 TX0 8, w ∈ wsX0_crowdsTogether := by decide +kernel
  have fl18 := hts (.fieldLink RX0 18 "TowerShades$Field" "crowds" "[I") (by decide +kernel)
  have hl := lv_entry ([.ref a0]) (n := 3) (Nat.le_of_ble_eq_true rfl)
  rw [lg_entry_eq]
  generalize (lg_sl ([.ref a0]) ++ List.replicate (3 - (lg_sl ([.ref a0])).length) Slot.unset).toArray = ls at hl ⊢
  have hl : lv_has ls 3 [(0, .ref a0)] := hl
  refine lv_iconst (v := 0) hx hb dX0_crowdsTogether_0 (by decide) ?_
  refine lv_istore_n (lv' := [(1, .int 0), (0, .ref a0)]) hx hb dX0_crowdsTogether_1 rfl hl (by decide) rfl (fun ls hl => ?_)
  refine lv_iconst (v := 0) hx hb dX0_crowdsTogether_2 (by decide) ?_
  refine lv_istore_n (lv' := [(2, .int 0), (1, .int 0), (0, .ref a0)]) hx hb dX0_crowdsTogether_3 rfl hl (by decide) rfl (fun ls hl => ?_)
  refine z_up (N := 36) (i0 := 0) (fun i ls => ∃ xn : Int32, xn = sm fc i ∧ lv_has ls 3 [(0, .ref a0), (1, .int xn), (2, .int (nI i))]) (by omega) (⟨_, rfl, lv_sub hl [2, 1, 0] rfl⟩) (fun i ls hi4 hI ih4 => ?_)
  obtain ⟨xn, exn, hl⟩ := hI
  refine lv_iload_n hx hb dX0_crowdsTogether_4 rfl (lv_at hl 2 rfl) ?_
  refine lv_bipush (v := 36) hx hb dX0_crowdsTogether_5 (by decide) ?_
  refine z_icmp_ge (tgt := 25) (P := 36 ≤ i) hx hb dX0_crowdsTogether_7 (by decide) (nI_leI (a := 36) (b := i) (by omega) (by omega)) (fun c7 => ?_) (fun c7 => ?_)
  · skip
    refine lv_iload_n hx hb dX0_crowdsTogether_25 rfl (lv_at hl 1 rfl) ?_
    exact z_iret hx hb hr hlocks dX0_crowdsTogether_26 (by rw [exn, pCt, show i = 36 by omega])
  · skip
    refine lv_iload_n hx hb dX0_crowdsTogether_10 rfl (lv_at hl 1 rfl) ?_
    refine lv_aload_n hx hb dX0_crowdsTogether_11 rfl (lv_at hl 0 rfl) ?_
    refine va_get (D := D) (ci := 0) (v := .ref a3) (C := RX0) (T := TX0) (N := 8) hx hb hts in0 hown hK hP 0 rfl rfl 2 (by decide) fl18 (fun _ h9 => h9) rfl dX0_crowdsTogether_12 ?_
    refine lv_iload_n hx hb dX0_crowdsTogether_15 rfl (lv_at hl 2 rfl) ?_
    refine z_iald hx hb hK hP 3 0 rfl rfl (k := i) (rfl) (by omega) (by decide) dX0_crowdsTogether_16 ?_
    refine z_iadd (v := (xn + (fc i))) hx hb dX0_crowdsTogether_17 (rfl) ?_
    refine lv_istore_n (lv' := [(1, .int (xn + (fc i))), (0, .ref a0), (2, .int (nI i))]) hx hb dX0_crowdsTogether_18 rfl hl (by decide) rfl (fun ls hl => ?_)
    refine lv_iinc (v := nI (i + 1)) (lv' := [(2, .int (nI (i + 1))), (1, .int (xn + (fc i))), (0, .ref a0)]) hx hb dX0_crowdsTogether_19 hl (k := 2) rfl (nI_1 (i)) (by decide) rfl (fun ls hl => ?_)
    refine lv_goto (tgt := 4) hx hb dX0_crowdsTogether_22 (by decide) ?_
    exact ih4 (by omega) _ (⟨_, by simp [exn, sm] <;> rfl, lv_sub hl [2, 1, 0] rfl⟩)

set_option maxHeartbeats 4000000 in
set_option maxRecDepth 100000 in
/-- why not -/
theorem c_X0_refusalReason (l : Launch) (D : va_G) (cI cZ cL : ClassId) (a0 : Nat) (a1 : Nat) (a2 : Nat) (a3 : Nat) (a4 : Nat) (fh : Nat → Int32) (fo : Nat → Int32) (fc : Nat → Int32) (fs : Nat → Int32) (hz : Nat) (mv : Nat) (tu : Int32) (rf : Int32) (q : Nat) (hq : q < 36) (hhz : hz < 12) (hmv : mv < 2) : Met l yX0_refusalReason wsX0_refusalReason ({ frames := 2, cells := 0, slots := 0, locals := 48 }) (va_Pc [.ref a0, .int (nI q)] (zW D cI cZ cL [(a0, .inr (0, [.ref a1, .ref a2, .ref a3, .ref a4, .int (nI hz), .int (nI mv), .int tu, .int rf])), (a1, .inl (cI, 36, .inl fh)), (a2, .inl (cI, 36, .inl fo)), (a3, .inl (cI, 36, .inl fc)), (a4, .inl (cI, 2, .inl fs))])) (zQi (nI (pRe fo fh hz mv q))) 0 0 (fun _ => False) := by
  refine Met.ofW (cc := cX0_refusalReason) (maxL := 2) (ret := (some .int)) (by decide) rfl ?_
  intro p e s m args below meth c s₁ B hml hv
  obtain ⟨rfl, hP, hK⟩ := hv
  have hx := B.exec
  have hb := B.bytes
  have hr := B.returns
  have hts := atoms_spec (ws := wsX0_refusalReason) B.pre
  have hown : s.vm.findClass RX0 = some m.cls := findClass_of_methodNamed B.named
  have hlocks := B.notSynchronized
  have in0 : ∀ w ∈ u_ws RX0 TX0 8, w ∈ wsX0_refusalReason := by decide +kernel
  have fl9 := hts (.fieldLink RX0 9 "TowerShades$Field" "heights" "[I") (by decide +kernel)
  have fl15 := hts (.fieldLink RX0 15 "TowerShades$Field" "owners" "[I") (by decide +kernel)
  have fl30 := hts (.fieldLink RX0 30 "TowerShades$Field" "hourNow" "I") (by decide +kernel)
  have fl34 := hts (.fieldLink RX0 34 "TowerShades$Field" "mover" "I") (by decide +kernel)
  have hl := lv_entry ([.ref a0, .int (nI q)]) (n := 2) (Nat.le_of_ble_eq_true rfl)
  rw [lg_entry_eq]
  generalize (lg_sl ([.ref a0, .int (nI q)]) ++ List.replicate (2 - (lg_sl ([.ref a0, .int (nI q)])).length) Slot.unset).toArray = ls at hl ⊢
  have hl : lv_has ls 2 [(0, .ref a0), (1, .int (nI q))] := hl
  refine lv_aload_n hx hb dX0_refusalReason_0 rfl (lv_at hl 0 rfl) ?_
  refine va_get (D := D) (ci := 0) (v := .ref a2) (C := RX0) (T := TX0) (N := 8) hx hb hts in0 hown hK hP 0 rfl rfl 1 (by decide) fl15 (fun _ h9 => h9) rfl dX0_refusalReason_1 ?_
  refine lv_iload_n hx hb dX0_refusalReason_4 rfl (lv_at hl 1 rfl) ?_
  refine z_iald hx hb hK hP 2 0 rfl rfl (k := q) (rfl) (by omega) (by decide) dX0_refusalReason_5 ?_
  refine lv_iconst (v := 1) hx hb dX0_refusalReason_6 (by decide) ?_
  refine lv_aload_n hx hb dX0_refusalReason_7 rfl (lv_at hl 0 rfl) ?_
  refine va_get (D := D) (ci := 0) (v := .int (nI mv)) (C := RX0) (T := TX0) (N := 8) hx hb hts in0 hown hK hP 0 rfl rfl 5 (by decide) fl34 (fun _ h9 => h9) rfl dX0_refusalReason_8 ?_
  refine z_isub (v := nI (1 - mv)) hx hb dX0_refusalReason_11 (pk_sub (a := 1) (b := mv) (by omega)) ?_
  refine z_icmp_ne (tgt := 17) (P := (fo q) = (nI (1 - mv))) hx hb dX0_refusalReason_12 (by decide) (Iff.rfl) (fun c12 => ?_) (fun c12 => ?_)
  · skip
    refine lv_aload_n hx hb dX0_refusalReason_17 rfl (lv_at hl 0 rfl) ?_
    refine va_get (D := D) (ci := 0) (v := .ref a1) (C := RX0) (T := TX0) (N := 8) hx hb hts in0 hown hK hP 0 rfl rfl 0 (by decide) fl9 (fun _ h9 => h9) rfl dX0_refusalReason_18 ?_
    refine lv_iload_n hx hb dX0_refusalReason_21 rfl (lv_at hl 1 rfl) ?_
    refine z_iald hx hb hK hP 1 0 rfl rfl (k := q) (rfl) (by omega) (by decide) dX0_refusalReason_22 ?_
    refine lv_bipush (v := 9) hx hb dX0_refusalReason_23 (by decide) ?_
    refine z_icmp_ne (tgt := 30) (P := (fh q) = 9) hx hb dX0_refusalReason_25 (by decide) (Iff.rfl) (fun c25 => ?_) (fun c25 => ?_)
    · skip
      refine lv_aload_n hx hb dX0_refusalReason_30 rfl (lv_at hl 0 rfl) ?_
      refine lv_iload_n hx hb dX0_refusalReason_31 rfl (lv_at hl 1 rfl) ?_
      refine lv_aload_n hx hb dX0_refusalReason_32 rfl (lv_at hl 0 rfl) ?_
      refine va_get (D := D) (ci := 0) (v := .int (nI hz)) (C := RX0) (T := TX0) (N := 8) hx hb hts in0 hown hK hP 0 rfl rfl 4 (by decide) fl30 (fun _ h9 => h9) rfl dX0_refusalReason_33 ?_
      refine z_ci (va_runV (As := [.int (nI q), .int (nI hz)]) (rest := []) ⟨hx, hb, hml, hown, hts⟩ (c_X0_isDark l D cI cZ cL (a0 := a0) (a1 := a1) (a2 := a2) (a3 := a3) (a4 := a4) (fh := fh) (fo := fo) (fc := fc) (fs := fs) (hz := hz) (mv := mv) (tu := tu) (rf := rf) (q := q) (hu := hz) (hq := by omega) (hhu := by omega)) (cwV 2 hts gX0_refusalReason_X0_isDark rfl rfl rfl (by decide +kernel) ⟨Nat.le_of_ble_eq_true rfl, Nat.le_of_ble_eq_true rfl⟩) (z_preV hK (hP.sub [0, 1, 2, 3, 4] rfl) 0 0 rfl rfl) rfl rfl hl.1 rfl (lv_room (Nat.le_of_ble_eq_true rfl)) dX0_refusalReason_36 ⟨Nat.le_of_ble_eq_true rfl, Nat.le_of_ble_eq_true rfl⟩) ?_
      refine z_if_eq (tgt := 46) (P := (pDk fh q hz) = false) hx hb dX0_refusalReason_39 (by decide) (zb_eq0) (fun c39 => ?_) (fun c39 => ?_)
      · skip
        refine lv_iconst (v := 0) hx hb dX0_refusalReason_46 (by decide) ?_
        exact z_iret hx hb hr hlocks dX0_refusalReason_47 (by rw [show pRe fo fh hz mv q = 0 by simp [pRe, c12, c25, c39]]; rfl)
      · skip
        refine lv_iconst (v := 3) hx hb dX0_refusalReason_42 (by decide) ?_
        refine lv_goto (tgt := 47) hx hb dX0_refusalReason_43 (by decide) ?_
        exact z_iret hx hb hr hlocks dX0_refusalReason_47 (by rw [show pRe fo fh hz mv q = 3 by simp [pRe, c12, c25, c39]]; rfl)
    · skip
      refine lv_iconst (v := 2) hx hb dX0_refusalReason_28 (by decide) ?_
      exact z_iret hx hb hr hlocks dX0_refusalReason_29 (by rw [show pRe fo fh hz mv q = 2 by simp [pRe, c12, c25]]; rfl)
  · skip
    refine lv_iconst (v := 1) hx hb dX0_refusalReason_15 (by decide) ?_
    exact z_iret hx hb hr hlocks dX0_refusalReason_16 (by rw [show pRe fo fh hz mv q = 1 by simp [pRe, c12]]; rfl)
