set_option maxHeartbeats 4000000 in
set_option maxRecDepth 100000 in
/-- the side of the sun -/
theorem c_X3_side (l : Launch) (hz : Nat) (hh : hz < 12) : Met l yX3_side wsX3_side ({ frames := 0, cells := 0, slots := 0, locals := 0 }) (va_Pc [.int (nI hz)] (fun _ => True)) (zQi (nI (hz / 3))) 0 0 (fun _ => False) := by
  refine Met.ofW (cc := cX3_side) (maxL := 1) (ret := (some .int)) (by decide) rfl ?_
  intro p e s m args below meth c s₁ B hml hv
  obtain ⟨rfl, -⟩ := hv
  have hx := B.exec
  have hb := B.bytes
  have hr := B.returns
  have hts := atoms_spec (ws := wsX3_side) B.pre
  have hown : s.vm.findClass RX3 = some m.cls := findClass_of_methodNamed B.named
  have hlocks := B.notSynchronized
  have hl := lv_entry ([.int (nI hz)]) (n := 1) (Nat.le_of_ble_eq_true rfl)
  rw [lg_entry_eq]
  generalize (lg_sl ([.int (nI hz)]) ++ List.replicate (1 - (lg_sl ([.int (nI hz)])).length) Slot.unset).toArray = ls at hl ⊢
  have hl : lv_has ls 1 [(0, .int (nI hz))] := hl
  refine lv_iload_n hx hb dX3_side_0 rfl (lv_at hl 0 rfl) ?_
  refine lv_iconst (v := 3) hx hb dX3_side_1 (by decide) ?_
  refine z_idiv (v := nI (hz / 3)) hx hb dX3_side_2 (by decide) (pk_div (a := hz) (d := 3) (by omega) (by omega) (by omega)) ?_
  exact z_iret hx hb hr hlocks dX3_side_3 (rfl)

set_option maxHeartbeats 4000000 in
set_option maxRecDepth 100000 in
/-- its steepness -/
theorem c_X3_steepness (l : Launch) (hz : Nat) (hh : hz < 12) : Met l yX3_steepness wsX3_steepness ({ frames := 0, cells := 0, slots := 0, locals := 0 }) (va_Pc [.int (nI hz)] (fun _ => True)) (zQi (nI (pSt hz))) 0 0 (fun _ => False) := by
  refine Met.ofW (cc := cX3_steepness) (maxL := 1) (ret := (some .int)) (by decide) rfl ?_
  intro p e s m args below meth c s₁ B hml hv
  obtain ⟨rfl, -⟩ := hv
  have hx := B.exec
  have hb := B.bytes
  have hr := B.returns
  have hts := atoms_spec (ws := wsX3_steepness) B.pre
  have hown : s.vm.findClass RX3 = some m.cls := findClass_of_methodNamed B.named
  have hlocks := B.notSynchronized
  have hl := lv_entry ([.int (nI hz)]) (n := 1) (Nat.le_of_ble_eq_true rfl)
  rw [lg_entry_eq]
  generalize (lg_sl ([.int (nI hz)]) ++ List.replicate (1 - (lg_sl ([.int (nI hz)])).length) Slot.unset).toArray = ls at hl ⊢
  have hl : lv_has ls 1 [(0, .int (nI hz))] := hl
  refine lv_iload_n hx hb dX3_steepness_0 rfl (lv_at hl 0 rfl) ?_
  refine lv_iconst (v := 3) hx hb dX3_steepness_1 (by decide) ?_
  refine z_irem (v := nI (hz % 3)) hx hb dX3_steepness_2 (by decide) (pk_rem (a := hz) (d := 3) (by omega) (by omega) (by omega)) ?_
  rcases (show hz % 3 = 0 ∨ hz % 3 = 1 ∨ hz % 3 = 2 by omega) with h3 | h3 | h3
  · skip
    refine z_top (y := nI 0) (by rw [h3]) ?_
    refine lv_lookup (off := 25) (tgt := 28) hx hb dX3_steepness_3 (by decide) (by decide) (by decide) ?_
    refine lv_iconst (v := 1) hx hb dX3_steepness_28 (by decide) ?_
    exact z_iret hx hb hr hlocks dX3_steepness_29 (by simp [pSt, h3]; rfl)
  · skip
    refine z_top (y := nI 1) (by rw [h3]) ?_
    refine lv_lookup (off := 27) (tgt := 30) hx hb dX3_steepness_3 (by decide) (by decide) (by decide) ?_
    refine lv_iconst (v := 3) hx hb dX3_steepness_30 (by decide) ?_
    exact z_iret hx hb hr hlocks dX3_steepness_31 (by simp [pSt, h3]; rfl)
  · skip
    refine z_top (y := nI 2) (by rw [h3]) ?_
    refine lv_lookup (off := 29) (tgt := 32) hx hb dX3_steepness_3 (by decide) (by decide) (by decide) ?_
    refine lv_iconst (v := 2) hx hb dX3_steepness_32 (by decide) ?_
    exact z_iret hx hb hr hlocks dX3_steepness_33 (by simp [pSt, h3]; rfl)

set_option maxHeartbeats 4000000 in
set_option maxRecDepth 100000 in
/-- the step toward the sun -/
theorem c_X3_stepTowardSun (l : Launch) (sd : Nat) (hs : sd < 4) : Met l yX3_stepTowardSun wsX3_stepTowardSun ({ frames := 0, cells := 0, slots := 0, locals := 0 }) (va_Pc [.int (nI sd)] (fun _ => True)) (zQi (pStep sd)) 0 0 (fun _ => False) := by
  refine Met.ofW (cc := cX3_stepTowardSun) (maxL := 1) (ret := (some .int)) (by decide) rfl ?_
  intro p e s m args below meth c s₁ B hml hv
  obtain ⟨rfl, -⟩ := hv
  have hx := B.exec
  have hb := B.bytes
  have hr := B.returns
  have hts := atoms_spec (ws := wsX3_stepTowardSun) B.pre
  have hown : s.vm.findClass RX3 = some m.cls := findClass_of_methodNamed B.named
  have hlocks := B.notSynchronized
  have hl := lv_entry ([.int (nI sd)]) (n := 1) (Nat.le_of_ble_eq_true rfl)
  rw [lg_entry_eq]
  generalize (lg_sl ([.int (nI sd)]) ++ List.replicate (1 - (lg_sl ([.int (nI sd)])).length) Slot.unset).toArray = ls at hl ⊢
  have hl : lv_has ls 1 [(0, .int (nI sd))] := hl
  refine lv_iload_n hx hb dX3_stepTowardSun_0 rfl (lv_at hl 0 rfl) ?_
  rcases (show sd = 0 ∨ sd = 1 ∨ sd = 2 ∨ sd = 3 by omega) with rfl | rfl | rfl | rfl
  · skip
    refine lv_tableIn (off := 27) (tgt := 28) hx hb dX3_stepTowardSun_1 (by decide) (by decide) rfl (by decide) ?_
    refine lv_iconst (v := 1) hx hb dX3_stepTowardSun_28 (by decide) ?_
    exact z_iret hx hb hr hlocks dX3_stepTowardSun_29 (rfl)
  · skip
    refine lv_tableIn (off := 29) (tgt := 30) hx hb dX3_stepTowardSun_1 (by decide) (by decide) rfl (by decide) ?_
    refine lv_bipush (v := 6) hx hb dX3_stepTowardSun_30 (by decide) ?_
    exact z_iret hx hb hr hlocks dX3_stepTowardSun_32 (rfl)
  · skip
    refine lv_tableIn (off := 32) (tgt := 33) hx hb dX3_stepTowardSun_1 (by decide) (by decide) rfl (by decide) ?_
    refine lv_iconst (v := (-1)) hx hb dX3_stepTowardSun_33 (by decide) ?_
    exact z_iret hx hb hr hlocks dX3_stepTowardSun_34 (rfl)
  · skip
    refine lv_tableOut (tgt := 35) hx hb dX3_stepTowardSun_1 (by decide) (by decide) ?_
    refine lv_bipush (v := (-6)) hx hb dX3_stepTowardSun_35 (by decide) ?_
    exact z_iret hx hb hr hlocks dX3_stepTowardSun_37 (rfl)

set_option maxHeartbeats 4000000 in
set_option maxRecDepth 100000 in
/-- how many squares lie toward the sun -/
theorem c_X3_squaresTowardSun (l : Launch) (sd : Nat) (q : Nat) (hs : sd < 4) (hq : q < 36) : Met l yX3_squaresTowardSun wsX3_squaresTowardSun ({ frames := 0, cells := 0, slots := 0, locals := 0 }) (va_Pc [.int (nI sd), .int (nI q)] (fun _ => True)) (zQi (nI (pR sd q))) 0 0 (fun _ => False) := by
  refine Met.ofW (cc := cX3_squaresTowardSun) (maxL := 2) (ret := (some .int)) (by decide) rfl ?_
  intro p e s m args below meth c s₁ B hml hv
  obtain ⟨rfl, -⟩ := hv
  have hx := B.exec
  have hb := B.bytes
  have hr := B.returns
  have hts := atoms_spec (ws := wsX3_squaresTowardSun) B.pre
  have hown : s.vm.findClass RX3 = some m.cls := findClass_of_methodNamed B.named
  have hlocks := B.notSynchronized
  have hl := lv_entry ([.int (nI sd), .int (nI q)]) (n := 2) (Nat.le_of_ble_eq_true rfl)
  rw [lg_entry_eq]
  generalize (lg_sl ([.int (nI sd), .int (nI q)]) ++ List.replicate (2 - (lg_sl ([.int (nI sd), .int (nI q)])).length) Slot.unset).toArray = ls at hl ⊢
  have hl : lv_has ls 2 [(0, .int (nI sd)), (1, .int (nI q))] := hl
  refine lv_iload_n hx hb dX3_squaresTowardSun_0 rfl (lv_at hl 0 rfl) ?_
  rcases (show sd = 0 ∨ sd = 1 ∨ sd = 2 ∨ sd = 3 by omega) with rfl | rfl | rfl | rfl
  · skip
    refine lv_tableIn (off := 27) (tgt := 28) hx hb dX3_squaresTowardSun_1 (by decide) (by decide) rfl (by decide) ?_
    refine lv_iconst (v := 5) hx hb dX3_squaresTowardSun_28 (by decide) ?_
    refine lv_iload_n hx hb dX3_squaresTowardSun_29 rfl (lv_at hl 1 rfl) ?_
    refine lv_bipush (v := 6) hx hb dX3_squaresTowardSun_30 (by decide) ?_
    refine z_irem (v := nI (q % 6)) hx hb dX3_squaresTowardSun_32 (by decide) (pk_rem (a := q) (d := 6) (by omega) (by omega) (by omega)) ?_
    refine z_isub (v := nI (5 - (q % 6))) hx hb dX3_squaresTowardSun_33 (pk_sub (a := 5) (b := (q % 6)) (by omega)) ?_
    exact z_iret hx hb hr hlocks dX3_squaresTowardSun_34 (rfl)
  · skip
    refine lv_tableIn (off := 34) (tgt := 35) hx hb dX3_squaresTowardSun_1 (by decide) (by decide) rfl (by decide) ?_
    refine lv_iconst (v := 5) hx hb dX3_squaresTowardSun_35 (by decide) ?_
    refine lv_iload_n hx hb dX3_squaresTowardSun_36 rfl (lv_at hl 1 rfl) ?_
    refine lv_bipush (v := 6) hx hb dX3_squaresTowardSun_37 (by decide) ?_
    refine z_idiv (v := nI (q / 6)) hx hb dX3_squaresTowardSun_39 (by decide) (pk_div (a := q) (d := 6) (by omega) (by omega) (by omega)) ?_
    refine z_isub (v := nI (5 - (q / 6))) hx hb dX3_squaresTowardSun_40 (pk_sub (a := 5) (b := (q / 6)) (by omega)) ?_
    exact z_iret hx hb hr hlocks dX3_squaresTowardSun_41 (rfl)
  · skip
    refine lv_tableIn (off := 41) (tgt := 42) hx hb dX3_squaresTowardSun_1 (by decide) (by decide) rfl (by decide) ?_
    refine lv_iload_n hx hb dX3_squaresTowardSun_42 rfl (lv_at hl 1 rfl) ?_
    refine lv_bipush (v := 6) hx hb dX3_squaresTowardSun_43 (by decide) ?_
    refine z_irem (v := nI (q % 6)) hx hb dX3_squaresTowardSun_45 (by decide) (pk_rem (a := q) (d := 6) (by omega) (by omega) (by omega)) ?_
    exact z_iret hx hb hr hlocks dX3_squaresTowardSun_46 (rfl)
  · skip
    refine lv_tableOut (tgt := 47) hx hb dX3_squaresTowardSun_1 (by decide) (by decide) ?_
    refine lv_iload_n hx hb dX3_squaresTowardSun_47 rfl (lv_at hl 1 rfl) ?_
    refine lv_bipush (v := 6) hx hb dX3_squaresTowardSun_48 (by decide) ?_
    refine z_idiv (v := nI (q / 6)) hx hb dX3_squaresTowardSun_50 (by decide) (pk_div (a := q) (d := 6) (by omega) (by omega) (by omega)) ?_
    exact z_iret hx hb hr hlocks dX3_squaresTowardSun_51 (rfl)

set_option maxHeartbeats 4000000 in
set_option maxRecDepth 100000 in
/-- how far a square lies toward the sun -/
theorem c_X3_distanceTowardSun (l : Launch) (sd : Nat) (q : Nat) (f : Nat) (hs : sd < 4) (hq : q < 36) (hf : f < 36) : Met l yX3_distanceTowardSun wsX3_distanceTowardSun ({ frames := 1, cells := 0, slots := 0, locals := 21 }) (va_Pc [.int (nI sd), .int (nI q), .int (nI f)] (fun _ => True)) (zQi (nI (pDi sd q f))) 0 0 (fun _ => False) := by
  refine Met.ofW (cc := cX3_distanceTowardSun) (maxL := 6) (ret := (some .int)) (by decide) rfl ?_
  intro p e s m args below meth c s₁ B hml hv
  obtain ⟨rfl, -⟩ := hv
  have hx := B.exec
  have hb := B.bytes
  have hr := B.returns
  have hts := atoms_spec (ws := wsX3_distanceTowardSun) B.pre
  have hown : s.vm.findClass RX3 = some m.cls := findClass_of_methodNamed B.named
  have hlocks := B.notSynchronized
  have hl := lv_entry ([.int (nI sd), .int (nI q), .int (nI f)]) (n := 6) (Nat.le_of_ble_eq_true rfl)
  rw [lg_entry_eq]
  generalize (lg_sl ([.int (nI sd), .int (nI q), .int (nI f)]) ++ List.replicate (6 - (lg_sl ([.int (nI sd), .int (nI q), .int (nI f)])).length) Slot.unset).toArray = ls at hl ⊢
  have hl : lv_has ls 6 [(0, .int (nI sd)), (1, .int (nI q)), (2, .int (nI f))] := hl
  have hR := pR_le sd hs q hq
  refine lv_iload_n hx hb dX3_distanceTowardSun_0 rfl (lv_at hl 0 rfl) ?_
  refine z_ci (va_runS (As := [.int (nI sd)]) (rest := []) ⟨hx, hb, hml, hown, hts⟩ (c_X3_stepTowardSun l (sd := sd) (hs := by omega)) (va_cwS 1 hts gX3_distanceTowardSun_X3_stepTowardSun rfl rfl rfl (by decide +kernel) ⟨Nat.le_of_ble_eq_true rfl, Nat.le_of_ble_eq_true rfl⟩) z_preS rfl rfl hl.1 rfl (lv_room (Nat.le_of_ble_eq_true rfl)) dX3_distanceTowardSun_1 ⟨Nat.le_of_ble_eq_true rfl, Nat.le_of_ble_eq_true rfl⟩) ?_
  refine lv_istore_n (lv' := [(3, .int (pStep sd)), (0, .int (nI sd)), (1, .int (nI q)), (2, .int (nI f))]) hx hb dX3_distanceTowardSun_4 rfl hl (by decide) rfl (fun ls hl => ?_)
  refine lv_iload_n hx hb dX3_distanceTowardSun_5 rfl (lv_at hl 1 rfl) ?_
  refine lv_iload_n hx hb dX3_distanceTowardSun_6 rfl (lv_at hl 2 rfl) ?_
  refine z_ci (va_runS (As := [.int (nI sd), .int (nI q)]) (rest := []) ⟨hx, hb, hml, hown, hts⟩ (c_X3_squaresTowardSun l (sd := sd) (q := q) (hs := by omega) (hq := by omega)) (va_cwS 2 hts gX3_distanceTowardSun_X3_squaresTowardSun rfl rfl rfl (by decide +kernel) ⟨Nat.le_of_ble_eq_true rfl, Nat.le_of_ble_eq_true rfl⟩) z_preS rfl rfl hl.1 rfl (lv_room (Nat.le_of_ble_eq_true rfl)) dX3_distanceTowardSun_7 ⟨Nat.le_of_ble_eq_true rfl, Nat.le_of_ble_eq_true rfl⟩) ?_
  refine lv_istore (lv' := [(4, .int (nI (pR sd q))), (3, .int (pStep sd)), (0, .int (nI sd)), (1, .int (nI q)), (2, .int (nI f))]) hx hb dX3_distanceTowardSun_10 hl (by decide) rfl (fun ls hl => ?_)
  refine lv_iconst (v := 1) hx hb dX3_distanceTowardSun_12 (by decide) ?_
  refine lv_istore (lv' := [(5, .int 1), (4, .int (nI (pR sd q))), (3, .int (pStep sd)), (0, .int (nI sd)), (1, .int (nI q)), (2, .int (nI f))]) hx hb dX3_distanceTowardSun_13 hl (by decide) rfl (fun ls hl => ?_)
  refine z_up (N := pR sd q) (i0 := 0) (fun i ls => (fd (fun i => decide (pT sd q (i + 1) = f)) i = 0) ∧ lv_has ls 6 [(0, .int (nI sd)), (1, .int (nI q)), (2, .int (nI f)), (3, .int (pStep sd)), (4, .int (nI (pR sd q))), (5, .int (nI (i + 1)))]) (by omega) (⟨rfl, lv_sub hl [3, 4, 5, 2, 1, 0] rfl⟩) (fun i ls hi15 hI ih15 => ?_)
  obtain ⟨hn, hl⟩ := hI
  refine lv_iload hx hb dX3_distanceTowardSun_15 (lv_at hl 5 rfl) ?_
  refine lv_iload hx hb dX3_distanceTowardSun_17 (lv_at hl 4 rfl) ?_
  refine z_icmp_gt (tgt := 41) (P := pR sd q < (i + 1)) hx hb dX3_distanceTowardSun_19 (by decide) (nI_ltI (a := pR sd q) (b := (i + 1)) (by omega) (by omega)) (fun c19 => ?_) (fun c19 => ?_)
  · skip
    refine lv_iconst (v := 0) hx hb dX3_distanceTowardSun_41 (by decide) ?_
    exact z_iret hx hb hr hlocks dX3_distanceTowardSun_42 (by rw [pDi, show pR sd q = i by omega, hn]; rfl)
  · skip
    refine lv_iload_n hx hb dX3_distanceTowardSun_22 rfl (lv_at hl 1 rfl) ?_
    refine lv_iload hx hb dX3_distanceTowardSun_23 (lv_at hl 5 rfl) ?_
    refine lv_iload_n hx hb dX3_distanceTowardSun_25 rfl (lv_at hl 3 rfl) ?_
    refine z_imul (v := ((nI (i + 1)) * (pStep sd))) hx hb dX3_distanceTowardSun_26 (rfl) ?_
    refine z_iadd (v := nI (pT sd q (i + 1))) hx hb dX3_distanceTowardSun_27 ((pT_ok sd hs q hq (i + 1) (by omega)).1) ?_
    refine lv_iload_n hx hb dX3_distanceTowardSun_28 rfl (lv_at hl 2 rfl) ?_
    refine z_icmp_ne (tgt := 35) (P := pT sd q (i + 1) = f) hx hb dX3_distanceTowardSun_29 (by decide) (nI_eq (a := pT sd q (i + 1)) (b := f) (by have := (pT_ok sd hs q hq (i + 1) (by omega)).2; omega) (by omega)) (fun c29 => ?_) (fun c29 => ?_)
    · skip
      refine lv_iinc (v := nI ((i + 1) + 1)) (lv' := [(5, .int (nI ((i + 1) + 1))), (0, .int (nI sd)), (1, .int (nI q)), (2, .int (nI f)), (3, .int (pStep sd)), (4, .int (nI (pR sd q)))]) hx hb dX3_distanceTowardSun_35 hl (k := 5) rfl (nI_1 ((i + 1))) (by decide) rfl (fun ls hl => ?_)
      refine lv_goto (tgt := 15) hx hb dX3_distanceTowardSun_38 (by decide) ?_
      exact ih15 (by omega) _ (⟨fd_none hn (by simpa using c29), lv_sub hl [1, 2, 3, 4, 5, 0] rfl⟩)
    · skip
      refine lv_iload hx hb dX3_distanceTowardSun_32 (lv_at hl 5 rfl) ?_
      exact z_iret hx hb hr hlocks dX3_distanceTowardSun_34 (by rw [pDi, fd_hit hn (by simpa using c29) (by omega)])
