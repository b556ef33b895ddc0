set_option maxHeartbeats 4000000 in
set_option maxRecDepth 100000 in
/-- thrown -/
theorem c_X5_thrown (l : Launch) (D : va_G) (cI cZ cL : ClassId) (m0 : Nat) (m1 : Nat) (m2 : Nat) (m3 : Nat) (m4 : Nat) (m5 : Nat) (gs : Nat → Int32) (gp : Nat → Int32) (gl : Nat → Int32) (gk : Nat → Int32) (fx : Nat → Int32) (kn : Nat) (ln : Nat) (th : Int32) (hs : Int64) : Met l yX5_thrown wsX5_thrown ({ frames := 0, cells := 0, slots := 0, locals := 0 }) (va_Pc [.ref m0] (zW D cI cZ cL [(m0, .inr (4, [.ref m1, .ref m2, .int (nI kn), .ref m3, .ref m4, .ref m5, .int (nI ln), .int th, .long hs])), (m1, .inl (cI, 228, .inl gs)), (m2, .inl (cI, 684, .inl gp)), (m3, .inl (cI, 228, .inl gl)), (m4, .inl (cZ, 2, .inl gk)), (m5, .inl (cI, 60, .inl fx))])) (zQi th) 0 0 (fun _ => False) := by
  refine Met.ofW (cc := cX5_thrown) (maxL := 1) (ret := (some .int)) (by decide) rfl ?_
  intro p e s m args below meth c s₁ B hml hv
  obtain ⟨rfl, hP, hK⟩ := hv
  have hx := B.exec
  have hb := B.bytes
  have hr := B.returns
  have hts := atoms_spec (ws := wsX5_thrown) B.pre
  have hown : s.vm.findClass RX5 = some m.cls := findClass_of_methodNamed B.named
  have hlocks := B.notSynchronized
  have in4 : ∀ w ∈ u_ws RX5 TX5 9, w ∈ wsX5_thrown := by decide +kernel
  have fl26 := hts (.fieldLink RX5 26 "TowerShadesModel" "thrown" "I") (by decide +kernel)
  have hl := lv_entry ([.ref m0]) (n := 1) (Nat.le_of_ble_eq_true rfl)
  rw [lg_entry_eq]
  generalize (lg_sl ([.ref m0]) ++ List.replicate (1 - (lg_sl ([.ref m0])).length) Slot.unset).toArray = ls at hl ⊢
  have hl : lv_has ls 1 [(0, .ref m0)] := hl
  refine lv_aload_n hx hb dX5_thrown_0 rfl (lv_at hl 0 rfl) ?_
  refine va_get (D := D) (ci := 4) (v := .int th) (C := RX5) (T := TX5) (N := 9) hx hb hts in4 hown hK hP 0 rfl rfl 7 (by decide) fl26 (fun _ h9 => h9) rfl dX5_thrown_1 ?_
  exact z_iret hx hb hr hlocks dX5_thrown_4 (rfl)

set_option maxHeartbeats 4000000 in
set_option maxRecDepth 100000 in
/-- in a range -/
theorem c_X5_in (l : Launch) (v : Int32) (lo : Int32) (hg : Int32) : Met l yX5_in wsX5_in ({ frames := 0, cells := 0, slots := 0, locals := 0 }) (va_Pc [.int v, .int lo, .int hg] (fun _ => True)) (zQi (zb (decide (lo ≤ v) && decide (v ≤ hg)))) 0 0 (fun _ => False) := by
  refine Met.ofW (cc := cX5_in) (maxL := 3) (ret := (some .boolean)) (by decide) rfl ?_
  intro p e s m args below meth c s₁ B hml hv
  obtain ⟨rfl, -⟩ := hv
  have hx := B.exec
  have hb := B.bytes
  have hr := B.returns
  have hts := atoms_spec (ws := wsX5_in) B.pre
  have hown : s.vm.findClass RX5 = some m.cls := findClass_of_methodNamed B.named
  have hlocks := B.notSynchronized
  have hl := lv_entry ([.int v, .int lo, .int hg]) (n := 3) (Nat.le_of_ble_eq_true rfl)
  rw [lg_entry_eq]
  generalize (lg_sl ([.int v, .int lo, .int hg]) ++ List.replicate (3 - (lg_sl ([.int v, .int lo, .int hg])).length) Slot.unset).toArray = ls at hl ⊢
  have hl : lv_has ls 3 [(0, .int v), (1, .int lo), (2, .int hg)] := hl
  refine lv_iload_n hx hb dX5_in_0 rfl (lv_at hl 0 rfl) ?_
  refine lv_iload_n hx hb dX5_in_1 rfl (lv_at hl 1 rfl) ?_
  refine z_icmp_lt (tgt := 14) (P := ¬ lo ≤ v) hx hb dX5_in_2 (by decide) (Int32.not_le.symm) (fun c2 => ?_) (fun c2 => ?_)
  · skip
    refine lv_iconst (v := 0) hx hb dX5_in_14 (by decide) ?_
    exact z_zret hx hb hr hlocks dX5_in_15 (by simp [-Nat.add_zero, -Nat.zero_add, -Nat.reduceAdd, zb, c2])
  · skip
    replace c2 := Classical.not_not.mp c2
    refine lv_iload_n hx hb dX5_in_5 rfl (lv_at hl 0 rfl) ?_
    refine lv_iload_n hx hb dX5_in_6 rfl (lv_at hl 2 rfl) ?_
    refine z_icmp_gt (tgt := 14) (P := ¬ v ≤ hg) hx hb dX5_in_7 (by decide) (Int32.not_le.symm) (fun c7 => ?_) (fun c7 => ?_)
    · skip
      refine lv_iconst (v := 0) hx hb dX5_in_14 (by decide) ?_
      exact z_zret hx hb hr hlocks dX5_in_15 (by simp [-Nat.add_zero, -Nat.zero_add, -Nat.reduceAdd, zb, c2, c7])
    · skip
      replace c7 := Classical.not_not.mp c7
      refine lv_iconst (v := 1) hx hb dX5_in_10 (by decide) ?_
      refine lv_goto (tgt := 15) hx hb dX5_in_11 (by decide) ?_
      exact z_zret hx hb hr hlocks dX5_in_15 (by simp [-Nat.add_zero, -Nat.zero_add, -Nat.reduceAdd, zb, c2, c7])

set_option maxHeartbeats 4000000 in
set_option maxRecDepth 100000 in
/-- a square -/
theorem c_X5_isSquare (l : Launch) (v : Int32) : Met l yX5_isSquare wsX5_isSquare ({ frames := 1, cells := 0, slots := 0, locals := 22 }) (va_Pc [.int v] (fun _ => True)) (zQi (zb (decide (0 ≤ v) && decide (v ≤ 35)))) 0 0 (fun _ => False) := by
  refine Met.ofW (cc := cX5_isSquare) (maxL := 1) (ret := (some .boolean)) (by decide) rfl ?_
  intro p e s m args below meth c s₁ B hml hv
  obtain ⟨rfl, -⟩ := hv
  have hx := B.exec
  have hb := B.bytes
  have hr := B.returns
  have hts := atoms_spec (ws := wsX5_isSquare) B.pre
  have hown : s.vm.findClass RX5 = some m.cls := findClass_of_methodNamed B.named
  have hlocks := B.notSynchronized
  have hl := lv_entry ([.int v]) (n := 1) (Nat.le_of_ble_eq_true rfl)
  rw [lg_entry_eq]
  generalize (lg_sl ([.int v]) ++ List.replicate (1 - (lg_sl ([.int v])).length) Slot.unset).toArray = ls at hl ⊢
  have hl : lv_has ls 1 [(0, .int v)] := hl
  refine lv_iload_n hx hb dX5_isSquare_0 rfl (lv_at hl 0 rfl) ?_
  refine lv_iconst (v := 0) hx hb dX5_isSquare_1 (by decide) ?_
  refine lv_bipush (v := 35) hx hb dX5_isSquare_2 (by decide) ?_
  refine z_ci (va_runS (As := [.int v, .int 0, .int 35]) (rest := []) ⟨hx, hb, hml, hown, hts⟩ (c_X5_in l (v := v) (lo := 0) (hg := 35)) (va_cwS 3 hts gX5_isSquare_X5_in rfl rfl rfl (by decide +kernel) ⟨Nat.le_of_ble_eq_true rfl, Nat.le_of_ble_eq_true rfl⟩) z_preS rfl rfl hl.1 rfl (lv_room (Nat.le_of_ble_eq_true rfl)) dX5_isSquare_4 ⟨Nat.le_of_ble_eq_true rfl, Nat.le_of_ble_eq_true rfl⟩) ?_
  exact z_zret hx hb hr hlocks dX5_isSquare_7 (rfl)

set_option maxHeartbeats 4000000 in
set_option maxRecDepth 100000 in
/-- side -/
theorem c_X5_sideAt (l : Launch) (hz : Nat) (hhz : hz < 12) : Met l yX5_sideAt wsX5_sideAt ({ frames := 0, cells := 0, slots := 0, locals := 0 }) (va_Pc [.int (nI hz)] (fun _ => True)) (zQi (nI (hz / 3))) 0 0 (fun _ => False) := by
  refine Met.ofW (cc := cX5_sideAt) (maxL := 1) (ret := (some .int)) (by decide) rfl ?_
  intro p e s m args below meth c s₁ B hml hv
  obtain ⟨rfl, -⟩ := hv
  have hx := B.exec
  have hb := B.bytes
  have hr := B.returns
  have hts := atoms_spec (ws := wsX5_sideAt) B.pre
  have hown : s.vm.findClass RX5 = some m.cls := findClass_of_methodNamed B.named
  have hlocks := B.notSynchronized
  have hl := lv_entry ([.int (nI hz)]) (n := 1) (Nat.le_of_ble_eq_true rfl)
  rw [lg_entry_eq]
  generalize (lg_sl ([.int (nI hz)]) ++ List.replicate (1 - (lg_sl ([.int (nI hz)])).length) Slot.unset).toArray = ls at hl ⊢
  have hl : lv_has ls 1 [(0, .int (nI hz))] := hl
  refine lv_iload_n hx hb dX5_sideAt_0 rfl (lv_at hl 0 rfl) ?_
  refine lv_iconst (v := 3) hx hb dX5_sideAt_1 (by decide) ?_
  refine z_idiv (v := nI (hz / 3)) hx hb dX5_sideAt_2 (by decide) (pk_div (a := hz) (d := 3) (by omega) (by omega) (by omega)) ?_
  exact z_iret hx hb hr hlocks dX5_sideAt_3 (rfl)

set_option maxHeartbeats 4000000 in
set_option maxRecDepth 100000 in
/-- steepness -/
theorem c_X5_steepnessAt (l : Launch) (hz : Nat) (hhz : hz < 12) : Met l yX5_steepnessAt wsX5_steepnessAt ({ frames := 0, cells := 0, slots := 0, locals := 0 }) (va_Pc [.int (nI hz)] (fun _ => True)) (zQi (nI (pSt hz))) 0 0 (fun _ => False) := by
  refine Met.ofW (cc := cX5_steepnessAt) (maxL := 1) (ret := (some .int)) (by decide) rfl ?_
  intro p e s m args below meth c s₁ B hml hv
  obtain ⟨rfl, -⟩ := hv
  have hx := B.exec
  have hb := B.bytes
  have hr := B.returns
  have hts := atoms_spec (ws := wsX5_steepnessAt) B.pre
  have hown : s.vm.findClass RX5 = some m.cls := findClass_of_methodNamed B.named
  have hlocks := B.notSynchronized
  have hl := lv_entry ([.int (nI hz)]) (n := 1) (Nat.le_of_ble_eq_true rfl)
  rw [lg_entry_eq]
  generalize (lg_sl ([.int (nI hz)]) ++ List.replicate (1 - (lg_sl ([.int (nI hz)])).length) Slot.unset).toArray = ls at hl ⊢
  have hl : lv_has ls 1 [(0, .int (nI hz))] := hl
  refine lv_iload_n hx hb dX5_steepnessAt_0 rfl (lv_at hl 0 rfl) ?_
  refine lv_iconst (v := 3) hx hb dX5_steepnessAt_1 (by decide) ?_
  refine z_irem (v := nI (hz % 3)) hx hb dX5_steepnessAt_2 (by decide) (pk_rem (a := hz) (d := 3) (by omega) (by omega) (by omega)) ?_
  refine z_if_ne (tgt := 10) (P := (hz % 3) = 0) hx hb dX5_steepnessAt_3 (by decide) (nI_eq (a := (hz % 3)) (b := 0) (by omega) (by omega)) (fun c3 => ?_) (fun c3 => ?_)
  · skip
    refine lv_iload_n hx hb dX5_steepnessAt_10 rfl (lv_at hl 0 rfl) ?_
    refine lv_iconst (v := 3) hx hb dX5_steepnessAt_11 (by decide) ?_
    refine z_irem (v := nI (hz % 3)) hx hb dX5_steepnessAt_12 (by decide) (pk_rem (a := hz) (d := 3) (by omega) (by omega) (by omega)) ?_
    refine lv_iconst (v := 1) hx hb dX5_steepnessAt_13 (by decide) ?_
    refine z_icmp_ne (tgt := 21) (P := (hz % 3) = 1) hx hb dX5_steepnessAt_14 (by decide) (nI_eq (a := (hz % 3)) (b := 1) (by omega) (by omega)) (fun c14 => ?_) (fun c14 => ?_)
    · skip
      refine lv_iconst (v := 2) hx hb dX5_steepnessAt_21 (by decide) ?_
      exact z_iret hx hb hr hlocks dX5_steepnessAt_22 (by rw [show pSt hz = 2 by simp [pSt, c3, c14]]; rfl)
    · skip
      refine lv_iconst (v := 3) hx hb dX5_steepnessAt_17 (by decide) ?_
      refine lv_goto (tgt := 22) hx hb dX5_steepnessAt_18 (by decide) ?_
      exact z_iret hx hb hr hlocks dX5_steepnessAt_22 (by rw [show pSt hz = 3 by simp [pSt, c3, c14]]; rfl)
  · skip
    refine lv_iconst (v := 1) hx hb dX5_steepnessAt_6 (by decide) ?_
    refine lv_goto (tgt := 22) hx hb dX5_steepnessAt_7 (by decide) ?_
    exact z_iret hx hb hr hlocks dX5_steepnessAt_22 (by rw [show pSt hz = 1 by simp [pSt, c3]]; rfl)

set_option maxHeartbeats 4000000 in
set_option maxRecDepth 100000 in
/-- the square beside one -/
theorem c_X5_beside (l : Launch) (q : Nat) (sd : Nat) (hq : q < 36) (hs : sd < 4) : Met l yX5_beside wsX5_beside ({ frames := 0, cells := 0, slots := 0, locals := 0 }) (va_Pc [.int (nI q), .int (nI sd)] (fun _ => True)) (zQi (pBs sd q)) 0 0 (fun _ => False) := by
  refine Met.ofW (cc := cX5_beside) (maxL := 4) (ret := (some .int)) (by decide) rfl ?_
  intro p e s m args below meth c s₁ B hml hv
  obtain ⟨rfl, -⟩ := hv
  have hx := B.exec
  have hb := B.bytes
  have hr := B.returns
  have hts := atoms_spec (ws := wsX5_beside) B.pre
  have hown : s.vm.findClass RX5 = some m.cls := findClass_of_methodNamed B.named
  have hlocks := B.notSynchronized
  have hl := lv_entry ([.int (nI q), .int (nI sd)]) (n := 4) (Nat.le_of_ble_eq_true rfl)
  rw [lg_entry_eq]
  generalize (lg_sl ([.int (nI q), .int (nI sd)]) ++ List.replicate (4 - (lg_sl ([.int (nI q), .int (nI sd)])).length) Slot.unset).toArray = ls at hl ⊢
  have hl : lv_has ls 4 [(0, .int (nI q)), (1, .int (nI sd))] := hl
  refine lv_iload_n hx hb dX5_beside_0 rfl (lv_at hl 0 rfl) ?_
  refine lv_bipush (v := 6) hx hb dX5_beside_1 (by decide) ?_
  refine z_idiv (v := nI (q / 6)) hx hb dX5_beside_3 (by decide) (pk_div (a := q) (d := 6) (by omega) (by omega) (by omega)) ?_
  refine lv_istore_n (lv' := [(2, .int (nI (q / 6))), (0, .int (nI q)), (1, .int (nI sd))]) hx hb dX5_beside_4 rfl hl (by decide) rfl (fun ls hl => ?_)
  refine lv_iload_n hx hb dX5_beside_5 rfl (lv_at hl 1 rfl) ?_
  refine lv_bipush (v := 6) hx hb dX5_beside_6 (by decide) ?_
  refine z_irem (v := nI (q % 6)) hx hb dX5_beside_8 (by decide) (pk_rem (a := q) (d := 6) (by omega) (by omega) (by omega)) ?_
  refine lv_istore_n (lv' := [(3, .int (nI (q % 6))), (2, .int (nI (q / 6))), (0, .int (nI q)), (1, .int (nI sd))]) hx hb dX5_beside_9 rfl hl (by decide) rfl (fun ls hl => ?_)
  refine lv_iload_n hx hb dX5_beside_10 rfl (lv_at hl 3 rfl) ?_
  rcases (show sd = 0 ∨ sd = 1 ∨ sd = 2 ∨ sd = 3 by omega) with rfl | rfl | rfl | rfl
  · skip
    refine lv_tableIn (off := 25) (tgt := 36) hx hb dX5_beside_11 (by decide) (by decide) rfl (by decide) ?_
    refine lv_iload_n hx hb dX5_beside_36 rfl (lv_at hl 0 rfl) ?_
    refine lv_iconst (v := 5) hx hb dX5_beside_37 (by decide) ?_
    refine z_icmp_ge (tgt := 47) (P := 5 ≤ (q % 6)) hx hb dX5_beside_38 (by decide) (nI_leI (a := 5) (b := (q % 6)) (by omega) (by omega)) (fun c38 => ?_) (fun c38 => ?_)
    · skip
      refine lv_iconst (v := (-1)) hx hb dX5_beside_47 (by decide) ?_
      exact z_iret hx hb hr hlocks dX5_beside_48 (by rw [pBs, if_neg (by simp only [pR]; omega)])
    · skip
      refine lv_iload_n hx hb dX5_beside_41 rfl (lv_at hl 2 rfl) ?_
      refine lv_iconst (v := 1) hx hb dX5_beside_42 (by decide) ?_
      refine z_iadd (v := nI (q + 1)) hx hb dX5_beside_43 (nI_add (q) (1)) ?_
      refine lv_goto (tgt := 48) hx hb dX5_beside_44 (by decide) ?_
      exact z_iret hx hb hr hlocks dX5_beside_48 (by rw [pBs, if_pos (by simp only [pR]; omega)]; rfl)
  · skip
    refine lv_tableIn (off := 38) (tgt := 49) hx hb dX5_beside_11 (by decide) (by decide) rfl (by decide) ?_
    refine lv_iload_n hx hb dX5_beside_49 rfl (lv_at hl 1 rfl) ?_
    refine lv_iconst (v := 5) hx hb dX5_beside_50 (by decide) ?_
    refine z_icmp_ge (tgt := 61) (P := 5 ≤ (q / 6)) hx hb dX5_beside_51 (by decide) (nI_leI (a := 5) (b := (q / 6)) (by omega) (by omega)) (fun c51 => ?_) (fun c51 => ?_)
    · skip
      refine lv_iconst (v := (-1)) hx hb dX5_beside_61 (by decide) ?_
      exact z_iret hx hb hr hlocks dX5_beside_62 (by rw [pBs, if_neg (by simp only [pR]; omega)])
    · skip
      refine lv_iload_n hx hb dX5_beside_54 rfl (lv_at hl 2 rfl) ?_
      refine lv_bipush (v := 6) hx hb dX5_beside_55 (by decide) ?_
      refine z_iadd (v := nI (q + 6)) hx hb dX5_beside_57 (nI_add (q) (6)) ?_
      refine lv_goto (tgt := 62) hx hb dX5_beside_58 (by decide) ?_
      exact z_iret hx hb hr hlocks dX5_beside_62 (by rw [pBs, if_pos (by simp only [pR]; omega)]; rfl)
  · skip
    refine lv_tableIn (off := 52) (tgt := 63) hx hb dX5_beside_11 (by decide) (by decide) rfl (by decide) ?_
    refine lv_iload_n hx hb dX5_beside_63 rfl (lv_at hl 0 rfl) ?_
    refine z_if_le (tgt := 73) (P := (q % 6) ≤ 0) hx hb dX5_beside_64 (by decide) (nI_leI (a := (q % 6)) (b := 0) (by omega) (by omega)) (fun c64 => ?_) (fun c64 => ?_)
    · skip
      refine lv_iconst (v := (-1)) hx hb dX5_beside_73 (by decide) ?_
      exact z_iret hx hb hr hlocks dX5_beside_74 (by rw [pBs, if_neg (by simp only [pR]; omega)])
    · skip
      refine lv_iload_n hx hb dX5_beside_67 rfl (lv_at hl 2 rfl) ?_
      refine lv_iconst (v := 1) hx hb dX5_beside_68 (by decide) ?_
      refine z_isub (v := nI (q - 1)) hx hb dX5_beside_69 (pk_sub (a := q) (b := 1) (by omega)) ?_
      refine lv_goto (tgt := 74) hx hb dX5_beside_70 (by decide) ?_
      exact z_iret hx hb hr hlocks dX5_beside_74 (by rw [pBs, if_pos (by simp only [pR]; omega)]; rfl)
  · skip
    refine lv_tableOut (tgt := 75) hx hb dX5_beside_11 (by decide) (by decide) ?_
    refine lv_iload_n hx hb dX5_beside_75 rfl (lv_at hl 1 rfl) ?_
    refine z_if_le (tgt := 86) (P := (q / 6) ≤ 0) hx hb dX5_beside_76 (by decide) (nI_leI (a := (q / 6)) (b := 0) (by omega) (by omega)) (fun c76 => ?_) (fun c76 => ?_)
    · skip
      refine lv_iconst (v := (-1)) hx hb dX5_beside_86 (by decide) ?_
      exact z_iret hx hb hr hlocks dX5_beside_87 (by rw [pBs, if_neg (by simp only [pR]; omega)])
    · skip
      refine lv_iload_n hx hb dX5_beside_79 rfl (lv_at hl 2 rfl) ?_
      refine lv_bipush (v := 6) hx hb dX5_beside_80 (by decide) ?_
      refine z_isub (v := nI (q - 6)) hx hb dX5_beside_82 (pk_sub (a := q) (b := 6) (by omega)) ?_
      refine lv_goto (tgt := 87) hx hb dX5_beside_83 (by decide) ?_
      exact z_iret hx hb hr hlocks dX5_beside_87 (by rw [pBs, if_pos (by simp only [pR]; omega)]; rfl)

set_option maxHeartbeats 4000000 in
set_option maxRecDepth 100000 in
/-- how far, by steps -/
theorem c_X5_distance (l : Launch) (f : Nat) (q : Nat) (sd : Nat) (hf : f < 36) (hq : q < 36) (hs : sd < 4) : Met l yX5_distance wsX5_distance ({ frames := 1, cells := 0, slots := 0, locals := 23 }) (va_Pc [.int (nI f), .int (nI q), .int (nI sd)] (fun _ => True)) (zQi (nI (pDi sd q f))) 0 0 (fun _ => False) := by
  refine Met.ofW (cc := cX5_distance) (maxL := 5) (ret := (some .int)) (by decide) rfl ?_
  intro p e s m args below meth c s₁ B hml hv
  obtain ⟨rfl, -⟩ := hv
  have hx := B.exec
  have hb := B.bytes
  have hr := B.returns
  have hts := atoms_spec (ws := wsX5_distance) B.pre
  have hown : s.vm.findClass RX5 = some m.cls := findClass_of_methodNamed B.named
  have hlocks := B.notSynchronized
  have hl := lv_entry ([.int (nI f), .int (nI q), .int (nI sd)]) (n := 5) (Nat.le_of_ble_eq_true rfl)
  rw [lg_entry_eq]
  generalize (lg_sl ([.int (nI f), .int (nI q), .int (nI sd)]) ++ List.replicate (5 - (lg_sl ([.int (nI f), .int (nI q), .int (nI sd)])).length) Slot.unset).toArray = ls at hl ⊢
  have hl : lv_has ls 5 [(0, .int (nI f)), (1, .int (nI q)), (2, .int (nI sd))] := hl
  have hR := pR_le sd hs q hq
  refine lv_iconst (v := 1) hx hb dX5_distance_0 (by decide) ?_
  refine lv_istore_n (lv' := [(3, .int 1), (0, .int (nI f)), (1, .int (nI q)), (2, .int (nI sd))]) hx hb dX5_distance_1 rfl hl (by decide) rfl (fun ls hl => ?_)
  refine lv_iload_n hx hb dX5_distance_2 rfl (lv_at hl 2 rfl) ?_
  refine lv_iload_n hx hb dX5_distance_3 rfl (lv_at hl 3 rfl) ?_
  refine z_ci (va_runS (As := [.int (nI q), .int (nI sd)]) (rest := []) ⟨hx, hb, hml, hown, hts⟩ (c_X5_beside l (q := q) (sd := sd) (hq := by omega) (hs := by omega)) (va_cwS 2 hts gX5_distance_X5_beside rfl rfl rfl (by decide +kernel) ⟨Nat.le_of_ble_eq_true rfl, Nat.le_of_ble_eq_true rfl⟩) z_preS rfl rfl hl.1 rfl (lv_room (Nat.le_of_ble_eq_true rfl)) dX5_distance_4 ⟨Nat.le_of_ble_eq_true rfl, Nat.le_of_ble_eq_true rfl⟩) ?_
  refine z_top (y := (pKs sd q 0)) rfl ?_
  refine lv_istore (lv' := [(4, .int (pKs sd q 0)), (3, .int 1), (0, .int (nI f)), (1, .int (nI q)), (2, .int (nI sd))]) hx hb dX5_distance_7 hl (by decide) rfl (fun ls hl => ?_)
  refine z_up (N := pR sd q) (i0 := 0) (fun i ls => (fd (fun i => decide (pT sd q (i + 1) = f)) i = 0) ∧ lv_has ls 5 [(0, .int (nI f)), (1, .int (nI q)), (2, .int (nI sd)), (3, .int (nI (i + 1))), (4, .int (pKs sd q i))]) (by omega) (⟨rfl, lv_sub hl [2, 3, 4, 1, 0] rfl⟩) (fun i ls hi9 hI ih9 => ?_)
  obtain ⟨hn, hl⟩ := hI
  refine lv_iload hx hb dX5_distance_9 (lv_at hl 4 rfl) ?_
  refine z_if_lt (tgt := 34) (P := ¬ i < pR sd q) hx hb dX5_distance_11 (by decide) (pKs_lt hs hq) (fun c11 => ?_) (fun c11 => ?_)
  · skip
    refine lv_iload hx hb dX5_distance_34 (lv_at hl 4 rfl) ?_
    refine z_if_ge (tgt := 43) (P := i < pR sd q) hx hb dX5_distance_36 (by decide) (pKs_ge hs hq) (fun c36 => (show False from c11 c36).elim) (fun c36 => ?_)
    refine lv_iconst (v := 0) hx hb dX5_distance_39 (by decide) ?_
    refine lv_goto (tgt := 44) hx hb dX5_distance_40 (by decide) ?_
    exact z_iret hx hb hr hlocks dX5_distance_44 (by rw [pDi, show pR sd q = i by omega, hn]; rfl)
  · skip
    replace c11 := Classical.not_not.mp c11
    have hT := pT_lt hs hq (show i + 1 < pR sd q + 1 by omega)
    refine lv_iload hx hb dX5_distance_14 (lv_at hl 4 rfl) ?_
    refine z_top (y := nI (pT sd q (i + 1))) (pKs_at (by omega)) ?_
    refine lv_iload_n hx hb dX5_distance_16 rfl (lv_at hl 0 rfl) ?_
    refine z_icmp_eq (tgt := 34) (P := pT sd q (i + 1) = f) hx hb dX5_distance_17 (by decide) (nI_eq (a := pT sd q (i + 1)) (b := f) (by omega) (by omega)) (fun c17 => ?_) (fun c17 => ?_)
    · skip
      refine lv_iload hx hb dX5_distance_34 (lv_at hl 4 rfl) ?_
      refine z_if_ge (tgt := 43) (P := i < pR sd q) hx hb dX5_distance_36 (by decide) (pKs_ge hs hq) (fun c36 => ?_) (fun c36 => (show False from c36 (by omega)).elim)
      refine lv_iload_n hx hb dX5_distance_43 rfl (lv_at hl 3 rfl) ?_
      exact z_iret hx hb hr hlocks dX5_distance_44 (by rw [pDi, fd_hit hn (by simpa using c17) (by omega)])
    · skip
      refine lv_iload hx hb dX5_distance_20 (lv_at hl 4 rfl) ?_
      refine z_top (y := nI (pT sd q (i + 1))) (pKs_at (by omega)) ?_
      refine lv_iload_n hx hb dX5_distance_22 rfl (lv_at hl 2 rfl) ?_
      refine z_ci (va_runS (As := [.int (nI (pT sd q (i + 1))), .int (nI sd)]) (rest := []) ⟨hx, hb, hml, hown, hts⟩ (c_X5_beside l (q := pT sd q (i + 1)) (sd := sd) (hq := by omega) (hs := by omega)) (va_cwS 2 hts gX5_distance_X5_beside rfl rfl rfl (by decide +kernel) ⟨Nat.le_of_ble_eq_true rfl, Nat.le_of_ble_eq_true rfl⟩) z_preS rfl rfl hl.1 rfl (lv_room (Nat.le_of_ble_eq_true rfl)) dX5_distance_23 ⟨Nat.le_of_ble_eq_true rfl, Nat.le_of_ble_eq_true rfl⟩) ?_
      refine z_top (y := (pKs sd q (i + 1))) (pBs_T sd hs q hq (i + 1) (by omega)) ?_
      refine lv_istore (lv' := [(4, .int (pKs sd q (i + 1))), (0, .int (nI f)), (1, .int (nI q)), (2, .int (nI sd)), (3, .int (nI (i + 1)))]) hx hb dX5_distance_26 hl (by decide) rfl (fun ls hl => ?_)
      refine lv_iinc (v := nI ((i + 1) + 1)) (lv' := [(3, .int (nI ((i + 1) + 1))), (4, .int (pKs sd q (i + 1))), (0, .int (nI f)), (1, .int (nI q)), (2, .int (nI sd))]) hx hb dX5_distance_28 hl (k := 4) rfl (nI_1 ((i + 1))) (by decide) rfl (fun ls hl => ?_)
      refine lv_goto (tgt := 9) hx hb dX5_distance_31 (by decide) ?_
      exact ih9 (by omega) _ (⟨fd_none hn (by simpa using c17), lv_sub hl [2, 3, 4, 0, 1] rfl⟩)

set_option maxHeartbeats 4000000 in
set_option maxRecDepth 100000 in
/-- a tower shades a square -/
theorem c_X5_shades (l : Launch) (D : va_G) (cI cZ cL : ClassId) (m0 : Nat) (m1 : Nat) (m2 : Nat) (m3 : Nat) (m4 : Nat) (m5 : Nat) (gs : Nat → Int32) (gp : Nat → Int32) (gl : Nat → Int32) (gk : Nat → Int32) (fx : Nat → Int32) (kn : Nat) (ln : Nat) (th : Int32) (hs : Int64) (P : Nat) (f : Nat) (q : Nat) (hz : Nat) (hpp : P < 115) (hf : f < 36) (hq : q < 36) (hhz : hz < 12) : Met l yX5_shades wsX5_shades ({ frames := 2, cells := 0, slots := 0, locals := 47 }) (va_Pc [.ref m0, .int (nI P), .int (nI f), .int (nI q), .int (nI hz)] (zW D cI cZ cL [(m0, .inr (4, [.ref m1, .ref m2, .int (nI kn), .ref m3, .ref m4, .ref m5, .int (nI ln), .int th, .long hs])), (m1, .inl (cI, 228, .inl gs)), (m2, .inl (cI, 684, .inl gp)), (m3, .inl (cI, 228, .inl gl)), (m4, .inl (cZ, 2, .inl gk)), (m5, .inl (cI, 60, .inl fx))])) (zQi (zb (pShM gs P f q hz))) 0 0 (fun _ => False) := by
  refine Met.ofW (cc := cX5_shades) (maxL := 6) (ret := (some .boolean)) (by decide) rfl ?_
  intro p e s m args below meth c s₁ B hml hv
  obtain ⟨rfl, hP, hK⟩ := hv
  have hx := B.exec
  have hb := B.bytes
  have hr := B.returns
  have hts := atoms_spec (ws := wsX5_shades) B.pre
  have hown : s.vm.findClass RX5 = some m.cls := findClass_of_methodNamed B.named
  have hlocks := B.notSynchronized
  have in4 : ∀ w ∈ u_ws RX5 TX5 9, w ∈ wsX5_shades := by decide +kernel
  have fl7 := hts (.fieldLink RX5 7 "TowerShadesModel" "s" "[I") (by decide +kernel)
  have hl := lv_entry ([.ref m0, .int (nI P), .int (nI f), .int (nI q), .int (nI hz)]) (n := 6) (Nat.le_of_ble_eq_true rfl)
  rw [lg_entry_eq]
  generalize (lg_sl ([.ref m0, .int (nI P), .int (nI f), .int (nI q), .int (nI hz)]) ++ List.replicate (6 - (lg_sl ([.ref m0, .int (nI P), .int (nI f), .int (nI q), .int (nI hz)])).length) Slot.unset).toArray = ls at hl ⊢
  have hl : lv_has ls 6 [(0, .ref m0), (1, .int (nI P)), (2, .int (nI f)), (3, .int (nI q)), (4, .int (nI hz))] := hl
  have hDi := pDi_le (sd := hz / 3) (q := q) (f := f) (by omega) hq
  have hSt := pSt_le hz
  refine lv_iload_n hx hb dX5_shades_0 rfl (lv_at hl 2 rfl) ?_
  refine lv_iload_n hx hb dX5_shades_1 rfl (lv_at hl 3 rfl) ?_
  refine lv_iload hx hb dX5_shades_2 (lv_at hl 4 rfl) ?_
  refine z_ci (va_runS (As := [.int (nI hz)]) (rest := [.int (nI q), .int (nI f)]) ⟨hx, hb, hml, hown, hts⟩ (c_X5_sideAt l (hz := hz) (hhz := by omega)) (va_cwS 1 hts gX5_shades_X5_sideAt rfl rfl rfl (by decide +kernel) ⟨Nat.le_of_ble_eq_true rfl, Nat.le_of_ble_eq_true rfl⟩) z_preS rfl rfl hl.1 rfl (lv_room (Nat.le_of_ble_eq_true rfl)) dX5_shades_4 ⟨Nat.le_of_ble_eq_true rfl, Nat.le_of_ble_eq_true rfl⟩) ?_
  refine z_ci (va_runS (As := [.int (nI f), .int (nI q), .int (nI (hz / 3))]) (rest := []) ⟨hx, hb, hml, hown, hts⟩ (c_X5_distance l (f := f) (q := q) (sd := hz / 3) (hf := by omega) (hq := by omega) (hs := by omega)) (va_cwS 3 hts gX5_shades_X5_distance rfl rfl rfl (by decide +kernel) ⟨Nat.le_of_ble_eq_true rfl, Nat.le_of_ble_eq_true rfl⟩) z_preS rfl rfl hl.1 rfl (lv_room (Nat.le_of_ble_eq_true rfl)) dX5_shades_7 ⟨Nat.le_of_ble_eq_true rfl, Nat.le_of_ble_eq_true rfl⟩) ?_
  refine lv_istore (lv' := [(5, .int (nI (pDi (hz / 3) q f))), (0, .ref m0), (1, .int (nI P)), (2, .int (nI f)), (3, .int (nI q)), (4, .int (nI hz))]) hx hb dX5_shades_10 hl (by decide) rfl (fun ls hl => ?_)
  refine lv_iload hx hb dX5_shades_12 (lv_at hl 0 rfl) ?_
  refine z_if_le (tgt := 53) (P := ¬ 0 < pDi (hz / 3) q f) hx hb dX5_shades_14 (by decide) (nI_le0 (by omega)) (fun c14 => ?_) (fun c14 => ?_)
  · skip
    refine lv_iconst (v := 0) hx hb dX5_shades_53 (by decide) ?_
    exact z_zret hx hb hr hlocks dX5_shades_54 (by simp only [pShM, c14, zb]; simp)
  · skip
    replace c14 := Classical.not_not.mp c14
    refine lv_aload_n hx hb dX5_shades_17 rfl (lv_at hl 1 rfl) ?_
    refine va_get (D := D) (ci := 4) (v := .ref m1) (C := RX5) (T := TX5) (N := 9) hx hb hts in4 hown hK hP 0 rfl rfl 0 (by decide) fl7 (fun _ h9 => h9) rfl dX5_shades_18 ?_
    refine lv_iload_n hx hb dX5_shades_21 rfl (lv_at hl 2 rfl) ?_
    refine lv_iconst (v := 0) hx hb dX5_shades_22 (by decide) ?_
    refine z_iadd (v := nI (P + 0)) hx hb dX5_shades_23 (nI_add (P) (0)) ?_
    refine lv_iload_n hx hb dX5_shades_24 rfl (lv_at hl 3 rfl) ?_
    refine z_iadd (v := nI ((P + 0) + f)) hx hb dX5_shades_25 (nI_add ((P + 0)) (f)) ?_
    refine z_iald hx hb hK hP 1 0 rfl rfl (k := ((P + 0) + f)) (rfl) (by omega) (by decide) dX5_shades_26 ?_
    refine lv_iload hx hb dX5_shades_27 (lv_at hl 0 rfl) ?_
    refine lv_iload hx hb dX5_shades_29 (lv_at hl 5 rfl) ?_
    refine z_ci (va_runS (As := [.int (nI hz)]) (rest := [.int (nI (pDi (hz / 3) q f)), .int (gs ((P + 0) + f))]) ⟨hx, hb, hml, hown, hts⟩ (c_X5_steepnessAt l (hz := hz) (hhz := by omega)) (va_cwS 1 hts gX5_shades_X5_steepnessAt rfl rfl rfl (by decide +kernel) ⟨Nat.le_of_ble_eq_true rfl, Nat.le_of_ble_eq_true rfl⟩) z_preS rfl rfl hl.1 rfl (lv_room (Nat.le_of_ble_eq_true rfl)) dX5_shades_31 ⟨Nat.le_of_ble_eq_true rfl, Nat.le_of_ble_eq_true rfl⟩) ?_
    refine z_imul (v := nI (pDi (hz / 3) q f * pSt hz)) hx hb dX5_shades_34 (pk_mul (pDi (hz / 3) q f) (pSt hz)) ?_
    refine z_isub (v := ((gs ((P + 0) + f)) - (nI (pDi (hz / 3) q f * pSt hz)))) hx hb dX5_shades_35 (rfl) ?_
    refine lv_aload_n hx hb dX5_shades_36 rfl (lv_at hl 1 rfl) ?_
    refine va_get (D := D) (ci := 4) (v := .ref m1) (C := RX5) (T := TX5) (N := 9) hx hb hts in4 hown hK hP 0 rfl rfl 0 (by decide) fl7 (fun _ h9 => h9) rfl dX5_shades_37 ?_
    refine lv_iload_n hx hb dX5_shades_40 rfl (lv_at hl 2 rfl) ?_
    refine lv_iconst (v := 0) hx hb dX5_shades_41 (by decide) ?_
    refine z_iadd (v := nI (P + 0)) hx hb dX5_shades_42 (nI_add (P) (0)) ?_
    refine lv_iload_n hx hb dX5_shades_43 rfl (lv_at hl 4 rfl) ?_
    refine z_iadd (v := nI ((P + 0) + q)) hx hb dX5_shades_44 (nI_add ((P + 0)) (q)) ?_
    refine z_iald hx hb hK hP 1 0 rfl rfl (k := ((P + 0) + q)) (rfl) (by omega) (by decide) dX5_shades_45 ?_
    refine z_icmp_le (tgt := 53) (P := ((gs ((P + 0) + f)) - (nI (pDi (hz / 3) q f * pSt hz))) ≤ (gs ((P + 0) + q))) hx hb dX5_shades_46 (by decide) (Iff.rfl) (fun c46 => ?_) (fun c46 => ?_)
    · skip
      refine lv_iconst (v := 0) hx hb dX5_shades_53 (by decide) ?_
      exact z_zret hx hb hr hlocks dX5_shades_54 (by simp only [pShM, c14, c46, zb]; simp)
    · skip
      refine lv_iconst (v := 1) hx hb dX5_shades_49 (by decide) ?_
      refine lv_goto (tgt := 54) hx hb dX5_shades_50 (by decide) ?_
      exact z_zret hx hb hr hlocks dX5_shades_54 (by simp only [pShM, c14, c46, zb]; simp)

set_option maxHeartbeats 4000000 in
set_option maxRecDepth 100000 in
/-- the towers that shade a square -/
theorem c_X5_shadersOf (l : Launch) (D : va_G) (cI cZ cL : ClassId) (m0 : Nat) (m1 : Nat) (m2 : Nat) (m3 : Nat) (m4 : Nat) (m5 : Nat) (gs : Nat → Int32) (gp : Nat → Int32) (gl : Nat → Int32) (gk : Nat → Int32) (fx : Nat → Int32) (kn : Nat) (ln : Nat) (th : Int32) (hs : Int64) (P : Nat) (q : Nat) (hz : Nat) (hpp : P < 115) (hq : q < 36) (hhz : hz < 12) : Met l yX5_shadersOf wsX5_shadersOf ({ frames := 3, cells := 0, slots := 0, locals := 72 }) (va_Pc [.ref m0, .int (nI P), .int (nI q), .int (nI hz)] (zW D cI cZ cL [(m0, .inr (4, [.ref m1, .ref m2, .int (nI kn), .ref m3, .ref m4, .ref m5, .int (nI ln), .int th, .long hs])), (m1, .inl (cI, 228, .inl gs)), (m2, .inl (cI, 684, .inl gp)), (m3, .inl (cI, 228, .inl gl)), (m4, .inl (cZ, 2, .inl gk)), (m5, .inl (cI, 60, .inl fx))])) (zQi (nI (pSn (fun k => gs (P + 0 + k)) q hz))) 0 0 (fun _ => False) := by
  refine Met.ofW (cc := cX5_shadersOf) (maxL := 6) (ret := (some .int)) (by decide) rfl ?_
  intro p e s m args below meth c s₁ B hml hv
  obtain ⟨rfl, hP, hK⟩ := hv
  have hx := B.exec
  have hb := B.bytes
  have hr := B.returns
  have hts := atoms_spec (ws := wsX5_shadersOf) B.pre
  have hown : s.vm.findClass RX5 = some m.cls := findClass_of_methodNamed B.named
  have hlocks := B.notSynchronized
  have hl := lv_entry ([.ref m0, .int (nI P), .int (nI q), .int (nI hz)]) (n := 6) (Nat.le_of_ble_eq_true rfl)
  rw [lg_entry_eq]
  generalize (lg_sl ([.ref m0, .int (nI P), .int (nI q), .int (nI hz)]) ++ List.replicate (6 - (lg_sl ([.ref m0, .int (nI P), .int (nI q), .int (nI hz)])).length) Slot.unset).toArray = ls at hl ⊢
  have hl : lv_has ls 6 [(0, .ref m0), (1, .int (nI P)), (2, .int (nI q)), (3, .int (nI hz))] := hl
  have hR := pR_le (hz / 3) (by omega) q hq
  refine lv_iconst (v := 0) hx hb dX5_shadersOf_0 (by decide) ?_
  refine lv_istore (lv' := [(4, .int 0), (0, .ref m0), (1, .int (nI P)), (2, .int (nI q)), (3, .int (nI hz))]) hx hb dX5_shadersOf_1 hl (by decide) rfl (fun ls hl => ?_)
  refine lv_iload_n hx hb dX5_shadersOf_3 rfl (lv_at hl 3 rfl) ?_
  refine lv_iload_n hx hb dX5_shadersOf_4 rfl (lv_at hl 4 rfl) ?_
  refine z_ci (va_runS (As := [.int (nI hz)]) (rest := [.int (nI q)]) ⟨hx, hb, hml, hown, hts⟩ (c_X5_sideAt l (hz := hz) (hhz := by omega)) (va_cwS 1 hts gX5_shadersOf_X5_sideAt rfl rfl rfl (by decide +kernel) ⟨Nat.le_of_ble_eq_true rfl, Nat.le_of_ble_eq_true rfl⟩) z_preS rfl rfl hl.1 rfl (lv_room (Nat.le_of_ble_eq_true rfl)) dX5_shadersOf_5 ⟨Nat.le_of_ble_eq_true rfl, Nat.le_of_ble_eq_true rfl⟩) ?_
  refine z_ci (va_runS (As := [.int (nI q), .int (nI (hz / 3))]) (rest := []) ⟨hx, hb, hml, hown, hts⟩ (c_X5_beside l (q := q) (sd := hz / 3) (hq := by omega) (hs := by omega)) (va_cwS 2 hts gX5_shadersOf_X5_beside rfl rfl rfl (by decide +kernel) ⟨Nat.le_of_ble_eq_true rfl, Nat.le_of_ble_eq_true rfl⟩) z_preS rfl rfl hl.1 rfl (lv_room (Nat.le_of_ble_eq_true rfl)) dX5_shadersOf_8 ⟨Nat.le_of_ble_eq_true rfl, Nat.le_of_ble_eq_true rfl⟩) ?_
  refine z_top (y := (pKs (hz / 3) q 0)) rfl ?_
  refine lv_istore (lv' := [(5, .int (pKs (hz / 3) q 0)), (4, .int 0), (0, .ref m0), (1, .int (nI P)), (2, .int (nI q)), (3, .int (nI hz))]) hx hb dX5_shadersOf_11 hl (by decide) rfl (fun ls hl => ?_)
  refine z_up (N := pR (hz / 3) q) (i0 := 0) (fun i ls => ∃ xn : Int32, xn = nI (cn (pSi (fun k => gs (P + 0 + k)) q hz) i) ∧ lv_has ls 6 [(0, .ref m0), (1, .int (nI P)), (2, .int (nI q)), (3, .int (nI hz)), (4, .int xn), (5, .int (pKs (hz / 3) q i))]) (by omega) (⟨_, rfl, lv_sub hl [2, 3, 4, 5, 1, 0] rfl⟩) (fun i ls hi13 hI ih13 => ?_)
  obtain ⟨xn, exn, hl⟩ := hI
  refine lv_iload hx hb dX5_shadersOf_13 (lv_at hl 5 rfl) ?_
  refine z_if_lt (tgt := 54) (P := ¬ i < pR (hz / 3) q) hx hb dX5_shadersOf_15 (by decide) (pKs_lt (by omega) hq) (fun c15 => ?_) (fun c15 => ?_)
  · skip
    refine lv_iload hx hb dX5_shadersOf_54 (lv_at hl 4 rfl) ?_
    exact z_iret hx hb hr hlocks dX5_shadersOf_56 (by rw [exn, pSn, ← show i = pR (hz / 3) q by omega])
  · skip
    replace c15 := Classical.not_not.mp c15
    have hT := pT_lt (show hz / 3 < 4 by omega) hq (show i + 1 < pR (hz / 3) q + 1 by omega)
    refine lv_iload hx hb dX5_shadersOf_18 (lv_at hl 4 rfl) ?_
    refine lv_aload_n hx hb dX5_shadersOf_20 rfl (lv_at hl 0 rfl) ?_
    refine lv_iload_n hx hb dX5_shadersOf_21 rfl (lv_at hl 1 rfl) ?_
    refine lv_iload hx hb dX5_shadersOf_22 (lv_at hl 5 rfl) ?_
    refine z_top (y := nI (pT (hz / 3) q (i + 1))) (pKs_at (by omega)) ?_
    refine lv_iload_n hx hb dX5_shadersOf_24 rfl (lv_at hl 2 rfl) ?_
    refine lv_iload_n hx hb dX5_shadersOf_25 rfl (lv_at hl 3 rfl) ?_
    refine z_ci (va_runV (As := [.int (nI P), .int (nI (pT (hz / 3) q (i + 1))), .int (nI q), .int (nI hz)]) (rest := [.int xn]) ⟨hx, hb, hml, hown, hts⟩ (c_X5_shades l D cI cZ cL (m0 := m0) (m1 := m1) (m2 := m2) (m3 := m3) (m4 := m4) (m5 := m5) (gs := gs) (gp := gp) (gl := gl) (gk := gk) (fx := fx) (kn := kn) (ln := ln) (th := th) (hs := hs) (P := P) (f := pT (hz / 3) q (i + 1)) (q := q) (hz := hz) (hpp := by omega) (hf := by omega) (hq := by omega) (hhz := by omega)) (cwV 4 hts gX5_shadersOf_X5_shades rfl rfl rfl (by decide +kernel) ⟨Nat.le_of_ble_eq_true rfl, Nat.le_of_ble_eq_true rfl⟩) (z_preV hK (hP.sub [0, 1, 2, 3, 4, 5] rfl) 0 4 rfl rfl) rfl rfl hl.1 rfl (lv_room (Nat.le_of_ble_eq_true rfl)) dX5_shadersOf_26 ⟨Nat.le_of_ble_eq_true rfl, Nat.le_of_ble_eq_true rfl⟩) ?_
    refine z_top (y := zb (pSi (fun k => gs (P + 0 + k)) q hz i)) (by rw [pShM_eq hq hhz (by omega)]) ?_
    refine z_if_eq (tgt := 36) (P := (pSi (fun k => gs (P + 0 + k)) q hz i) = false) hx hb dX5_shadersOf_29 (by decide) (zb_eq0) (fun c29 => ?_) (fun c29 => ?_)
    · skip
      refine lv_iconst (v := 0) hx hb dX5_shadersOf_36 (by decide) ?_
      refine z_iadd (v := (xn + 0)) hx hb dX5_shadersOf_37 (rfl) ?_
      refine lv_istore (lv' := [(4, .int (xn + 0)), (0, .ref m0), (1, .int (nI P)), (2, .int (nI q)), (3, .int (nI hz)), (5, .int (pKs (hz / 3) q i))]) hx hb dX5_shadersOf_38 hl (by decide) rfl (fun ls hl => ?_)
      refine lv_iload hx hb dX5_shadersOf_40 (lv_at hl 5 rfl) ?_
      refine z_top (y := nI (pT (hz / 3) q (i + 1))) (pKs_at (by omega)) ?_
      refine lv_iload_n hx hb dX5_shadersOf_42 rfl (lv_at hl 4 rfl) ?_
      refine z_ci (va_runS (As := [.int (nI hz)]) (rest := [.int (nI (pT (hz / 3) q (i + 1)))]) ⟨hx, hb, hml, hown, hts⟩ (c_X5_sideAt l (hz := hz) (hhz := by omega)) (va_cwS 1 hts gX5_shadersOf_X5_sideAt rfl rfl rfl (by decide +kernel) ⟨Nat.le_of_ble_eq_true rfl, Nat.le_of_ble_eq_true rfl⟩) z_preS rfl rfl hl.1 rfl (lv_room (Nat.le_of_ble_eq_true rfl)) dX5_shadersOf_43 ⟨Nat.le_of_ble_eq_true rfl, Nat.le_of_ble_eq_true rfl⟩) ?_
      refine z_ci (va_runS (As := [.int (nI (pT (hz / 3) q (i + 1))), .int (nI (hz / 3))]) (rest := []) ⟨hx, hb, hml, hown, hts⟩ (c_X5_beside l (q := pT (hz / 3) q (i + 1)) (sd := hz / 3) (hq := by omega) (hs := by omega)) (va_cwS 2 hts gX5_shadersOf_X5_beside rfl rfl rfl (by decide +kernel) ⟨Nat.le_of_ble_eq_true rfl, Nat.le_of_ble_eq_true rfl⟩) z_preS rfl rfl hl.1 rfl (lv_room (Nat.le_of_ble_eq_true rfl)) dX5_shadersOf_46 ⟨Nat.le_of_ble_eq_true rfl, Nat.le_of_ble_eq_true rfl⟩) ?_
      refine z_top (y := (pKs (hz / 3) q (i + 1))) (pBs_T (hz / 3) (by omega) q hq (i + 1) (by omega)) ?_
      refine lv_istore (lv' := [(5, .int (pKs (hz / 3) q (i + 1))), (4, .int (xn + 0)), (0, .ref m0), (1, .int (nI P)), (2, .int (nI q)), (3, .int (nI hz))]) hx hb dX5_shadersOf_49 hl (by decide) rfl (fun ls hl => ?_)
      refine lv_goto (tgt := 13) hx hb dX5_shadersOf_51 (by decide) ?_
      exact ih13 (by omega) _ (⟨_, by simp [-Nat.add_zero, -Nat.zero_add, -Nat.reduceAdd, exn, cn, nI_1, c15, c29] <;> rfl, lv_sub hl [2, 3, 4, 5, 1, 0] rfl⟩)
    · skip
      refine lv_iconst (v := 1) hx hb dX5_shadersOf_32 (by decide) ?_
      refine lv_goto (tgt := 37) hx hb dX5_shadersOf_33 (by decide) ?_
      refine z_iadd (v := (xn + 1)) hx hb dX5_shadersOf_37 (rfl) ?_
      refine lv_istore (lv' := [(4, .int (xn + 1)), (0, .ref m0), (1, .int (nI P)), (2, .int (nI q)), (3, .int (nI hz)), (5, .int (pKs (hz / 3) q i))]) hx hb dX5_shadersOf_38 hl (by decide) rfl (fun ls hl => ?_)
      refine lv_iload hx hb dX5_shadersOf_40 (lv_at hl 5 rfl) ?_
      refine z_top (y := nI (pT (hz / 3) q (i + 1))) (pKs_at (by omega)) ?_
      refine lv_iload_n hx hb dX5_shadersOf_42 rfl (lv_at hl 4 rfl) ?_
      refine z_ci (va_runS (As := [.int (nI hz)]) (rest := [.int (nI (pT (hz / 3) q (i + 1)))]) ⟨hx, hb, hml, hown, hts⟩ (c_X5_sideAt l (hz := hz) (hhz := by omega)) (va_cwS 1 hts gX5_shadersOf_X5_sideAt rfl rfl rfl (by decide +kernel) ⟨Nat.le_of_ble_eq_true rfl, Nat.le_of_ble_eq_true rfl⟩) z_preS rfl rfl hl.1 rfl (lv_room (Nat.le_of_ble_eq_true rfl)) dX5_shadersOf_43 ⟨Nat.le_of_ble_eq_true rfl, Nat.le_of_ble_eq_true rfl⟩) ?_
      refine z_ci (va_runS (As := [.int (nI (pT (hz / 3) q (i + 1))), .int (nI (hz / 3))]) (rest := []) ⟨hx, hb, hml, hown, hts⟩ (c_X5_beside l (q := pT (hz / 3) q (i + 1)) (sd := hz / 3) (hq := by omega) (hs := by omega)) (va_cwS 2 hts gX5_shadersOf_X5_beside rfl rfl rfl (by decide +kernel) ⟨Nat.le_of_ble_eq_true rfl, Nat.le_of_ble_eq_true rfl⟩) z_preS rfl rfl hl.1 rfl (lv_room (Nat.le_of_ble_eq_true rfl)) dX5_shadersOf_46 ⟨Nat.le_of_ble_eq_true rfl, Nat.le_of_ble_eq_true rfl⟩) ?_
      refine z_top (y := (pKs (hz / 3) q (i + 1))) (pBs_T (hz / 3) (by omega) q hq (i + 1) (by omega)) ?_
      refine lv_istore (lv' := [(5, .int (pKs (hz / 3) q (i + 1))), (4, .int (xn + 1)), (0, .ref m0), (1, .int (nI P)), (2, .int (nI q)), (3, .int (nI hz))]) hx hb dX5_shadersOf_49 hl (by decide) rfl (fun ls hl => ?_)
      refine lv_goto (tgt := 13) hx hb dX5_shadersOf_51 (by decide) ?_
      exact ih13 (by omega) _ (⟨_, by simp [-Nat.add_zero, -Nat.zero_add, -Nat.reduceAdd, exn, cn, nI_1, c15, c29] <;> rfl, lv_sub hl [2, 3, 4, 5, 1, 0] rfl⟩)

set_option maxHeartbeats 4000000 in
set_option maxRecDepth 100000 in
/-- dark -/
theorem c_X5_isDark (l : Launch) (D : va_G) (cI cZ cL : ClassId) (m0 : Nat) (m1 : Nat) (m2 : Nat) (m3 : Nat) (m4 : Nat) (m5 : Nat) (gs : Nat → Int32) (gp : Nat → Int32) (gl : Nat → Int32) (gk : Nat → Int32) (fx : Nat → Int32) (kn : Nat) (ln : Nat) (th : Int32) (hs : Int64) (P : Nat) (q : Nat) (hz : Nat) (hpp : P < 115) (hq : q < 36) (hhz : hz < 12) : Met l yX5_isDark wsX5_isDark ({ frames := 4, cells := 0, slots := 0, locals := 97 }) (va_Pc [.ref m0, .int (nI P), .int (nI q), .int (nI hz)] (zW D cI cZ cL [(m0, .inr (4, [.ref m1, .ref m2, .int (nI kn), .ref m3, .ref m4, .ref m5, .int (nI ln), .int th, .long hs])), (m1, .inl (cI, 228, .inl gs)), (m2, .inl (cI, 684, .inl gp)), (m3, .inl (cI, 228, .inl gl)), (m4, .inl (cZ, 2, .inl gk)), (m5, .inl (cI, 60, .inl fx))])) (zQi (zb (pDk (fun k => gs (P + 0 + k)) q hz))) 0 0 (fun _ => False) := by
  refine Met.ofW (cc := cX5_isDark) (maxL := 4) (ret := (some .boolean)) (by decide) rfl ?_
  intro p e s m args below meth c s₁ B hml hv
  obtain ⟨rfl, hP, hK⟩ := hv
  have hx := B.exec
  have hb := B.bytes
  have hr := B.returns
  have hts := atoms_spec (ws := wsX5_isDark) B.pre
  have hown : s.vm.findClass RX5 = some m.cls := findClass_of_methodNamed B.named
  have hlocks := B.notSynchronized
  have hl := lv_entry ([.ref m0, .int (nI P), .int (nI q), .int (nI hz)]) (n := 4) (Nat.le_of_ble_eq_true rfl)
  rw [lg_entry_eq]
  generalize (lg_sl ([.ref m0, .int (nI P), .int (nI q), .int (nI hz)]) ++ List.replicate (4 - (lg_sl ([.ref m0, .int (nI P), .int (nI q), .int (nI hz)])).length) Slot.unset).toArray = ls at hl ⊢
  have hl : lv_has ls 4 [(0, .ref m0), (1, .int (nI P)), (2, .int (nI q)), (3, .int (nI hz))] := hl
  refine lv_aload_n hx hb dX5_isDark_0 rfl (lv_at hl 0 rfl) ?_
  refine lv_iload_n hx hb dX5_isDark_1 rfl (lv_at hl 1 rfl) ?_
  refine lv_iload_n hx hb dX5_isDark_2 rfl (lv_at hl 2 rfl) ?_
  refine lv_iload_n hx hb dX5_isDark_3 rfl (lv_at hl 3 rfl) ?_
  refine z_ci (va_runV (As := [.int (nI P), .int (nI q), .int (nI hz)]) (rest := []) ⟨hx, hb, hml, hown, hts⟩ (c_X5_shadersOf l D cI cZ cL (m0 := m0) (m1 := m1) (m2 := m2) (m3 := m3) (m4 := m4) (m5 := m5) (gs := gs) (gp := gp) (gl := gl) (gk := gk) (fx := fx) (kn := kn) (ln := ln) (th := th) (hs := hs) (P := P) (q := q) (hz := hz) (hpp := by omega) (hq := by omega) (hhz := by omega)) (cwV 3 hts gX5_isDark_X5_shadersOf rfl rfl rfl (by decide +kernel) ⟨Nat.le_of_ble_eq_true rfl, Nat.le_of_ble_eq_true rfl⟩) (z_preV hK (hP.sub [0, 1, 2, 3, 4, 5] rfl) 0 4 rfl rfl) rfl rfl hl.1 rfl (lv_room (Nat.le_of_ble_eq_true rfl)) dX5_isDark_4 ⟨Nat.le_of_ble_eq_true rfl, Nat.le_of_ble_eq_true rfl⟩) ?_
  refine z_if_le (tgt := 14) (P := pDk (fun k => gs (P + 0 + k)) q hz = false) hx hb dX5_isDark_7 (by decide) (pSn_dk hq hhz) (fun c7 => ?_) (fun c7 => ?_)
  · skip
    refine lv_iconst (v := 0) hx hb dX5_isDark_14 (by decide) ?_
    exact z_zret hx hb hr hlocks dX5_isDark_15 (by simp [-Nat.add_zero, -Nat.zero_add, -Nat.reduceAdd, zb, c7])
  · skip
    refine lv_iconst (v := 1) hx hb dX5_isDark_10 (by decide) ?_
    refine lv_goto (tgt := 15) hx hb dX5_isDark_11 (by decide) ?_
    exact z_zret hx hb hr hlocks dX5_isDark_15 (by simp [-Nat.add_zero, -Nat.zero_add, -Nat.reduceAdd, zb, c7])

set_option maxHeartbeats 4000000 in
set_option maxRecDepth 100000 in
/-- dark, by the shadow that sinks -/
theorem c_X5_isSwept (l : Launch) (D : va_G) (cI cZ cL : ClassId) (m0 : Nat) (m1 : Nat) (m2 : Nat) (m3 : Nat) (m4 : Nat) (m5 : Nat) (gs : Nat → Int32) (gp : Nat → Int32) (gl : Nat → Int32) (gk : Nat → Int32) (fx : Nat → Int32) (kn : Nat) (ln : Nat) (th : Int32) (hs : Int64) (q : Nat) (hz : Nat) (hq : q < 36) (hhz : hz < 12) : Met l yX5_isSwept wsX5_isSwept ({ frames := 1, cells := 0, slots := 0, locals := 23 }) (va_Pc [.ref m0, .int (nI q), .int (nI hz)] (zW D cI cZ cL [(m0, .inr (4, [.ref m1, .ref m2, .int (nI kn), .ref m3, .ref m4, .ref m5, .int (nI ln), .int th, .long hs])), (m1, .inl (cI, 228, .inl gs)), (m2, .inl (cI, 684, .inl gp)), (m3, .inl (cI, 228, .inl gl)), (m4, .inl (cZ, 2, .inl gk)), (m5, .inl (cI, 60, .inl fx))])) (zQi (zb (pDs (fun k => gs (0 + k)) q hz))) 0 0 (fun _ => False) := by
  refine Met.ofW (cc := cX5_isSwept) (maxL := 7) (ret := (some .boolean)) (by decide) rfl ?_
  intro p e s m args below meth c s₁ B hml hv
  obtain ⟨rfl, hP, hK⟩ := hv
  have hx := B.exec
  have hb := B.bytes
  have hr := B.returns
  have hts := atoms_spec (ws := wsX5_isSwept) B.pre
  have hown : s.vm.findClass RX5 = some m.cls := findClass_of_methodNamed B.named
  have hlocks := B.notSynchronized
  have in4 : ∀ w ∈ u_ws RX5 TX5 9, w ∈ wsX5_isSwept := by decide +kernel
  have fl7 := hts (.fieldLink RX5 7 "TowerShadesModel" "s" "[I") (by decide +kernel)
  have hl := lv_entry ([.ref m0, .int (nI q), .int (nI hz)]) (n := 7) (Nat.le_of_ble_eq_true rfl)
  rw [lg_entry_eq]
  generalize (lg_sl ([.ref m0, .int (nI q), .int (nI hz)]) ++ List.replicate (7 - (lg_sl ([.ref m0, .int (nI q), .int (nI hz)])).length) Slot.unset).toArray = ls at hl ⊢
  have hl : lv_has ls 7 [(0, .ref m0), (1, .int (nI q)), (2, .int (nI hz))] := hl
  have hR := pR_le (hz / 3) (by omega) q hq
  have h4 : hz / 3 < 4 := by omega
  refine lv_iload_n hx hb dX5_isSwept_0 rfl (lv_at hl 2 rfl) ?_
  refine z_ci (va_runS (As := [.int (nI hz)]) (rest := []) ⟨hx, hb, hml, hown, hts⟩ (c_X5_sideAt l (hz := hz) (hhz := by omega)) (va_cwS 1 hts gX5_isSwept_X5_sideAt rfl rfl rfl (by decide +kernel) ⟨Nat.le_of_ble_eq_true rfl, Nat.le_of_ble_eq_true rfl⟩) z_preS rfl rfl hl.1 rfl (lv_room (Nat.le_of_ble_eq_true rfl)) dX5_isSwept_1 ⟨Nat.le_of_ble_eq_true rfl, Nat.le_of_ble_eq_true rfl⟩) ?_
  refine lv_istore_n (lv' := [(3, .int (nI (hz / 3))), (0, .ref m0), (1, .int (nI q)), (2, .int (nI hz))]) hx hb dX5_isSwept_4 rfl hl (by decide) rfl (fun ls hl => ?_)
  refine lv_iload_n hx hb dX5_isSwept_5 rfl (lv_at hl 2 rfl) ?_
  refine z_top (y := nI (pT (hz / 3) q 0)) (by rw [pT_0]) ?_
  refine lv_istore (lv' := [(4, .int (nI (pT (hz / 3) q 0))), (3, .int (nI (hz / 3))), (0, .ref m0), (1, .int (nI q)), (2, .int (nI hz))]) hx hb dX5_isSwept_6 hl (by decide) rfl (fun ls hl => ?_)
  refine z_up (N := pR (hz / 3) q) (i0 := 0) (fun i ls => lv_has ls 7 [(0, .ref m0), (1, .int (nI q)), (2, .int (nI hz)), (3, .int (nI (hz / 3))), (4, .int (nI (pT (hz / 3) q i)))]) (by omega) (lv_sub hl [2, 3, 4, 1, 0] rfl) (fun i ls hi8 hI ih8 => ?_)
  have hl : lv_has ls 7 [(0, .ref m0), (1, .int (nI q)), (2, .int (nI hz)), (3, .int (nI (hz / 3))), (4, .int (nI (pT (hz / 3) q i)))] := hI
  have hT := pT_lt h4 hq (show i < pR (hz / 3) q + 1 by omega)
  refine lv_iload hx hb dX5_isSwept_8 (lv_at hl 4 rfl) ?_
  refine lv_iload_n hx hb dX5_isSwept_10 rfl (lv_at hl 3 rfl) ?_
  refine z_ci (va_runS (As := [.int (nI (pT (hz / 3) q i)), .int (nI (hz / 3))]) (rest := []) ⟨hx, hb, hml, hown, hts⟩ (c_X5_beside l (q := pT (hz / 3) q i) (sd := hz / 3) (hq := by omega) (hs := by omega)) (va_cwS 2 hts gX5_isSwept_X5_beside rfl rfl rfl (by decide +kernel) ⟨Nat.le_of_ble_eq_true rfl, Nat.le_of_ble_eq_true rfl⟩) z_preS rfl rfl hl.1 rfl (lv_room (Nat.le_of_ble_eq_true rfl)) dX5_isSwept_11 ⟨Nat.le_of_ble_eq_true rfl, Nat.le_of_ble_eq_true rfl⟩) ?_
  refine z_top (y := (pKs (hz / 3) q i)) (pBs_T (hz / 3) h4 q hq i (by omega)) ?_
  refine z_if_lt (tgt := 28) (P := ¬ i < pR (hz / 3) q) hx hb dX5_isSwept_14 (by decide) (pKs_lt h4 hq) (fun c14 => ?_) (fun c14 => ?_)
  · skip
    obtain rfl : i = pR (hz / 3) q := by omega
    refine lv_iconst (v := 0) hx hb dX5_isSwept_28 (by decide) ?_
    refine lv_istore (lv' := [(5, .int 0), (0, .ref m0), (1, .int (nI q)), (2, .int (nI hz)), (3, .int (nI (hz / 3))), (4, .int (nI (pT (hz / 3) q (pR (hz / 3) q))))]) hx hb dX5_isSwept_29 hl (by decide) rfl (fun ls hl => ?_)
    refine z_up (N := pR (hz / 3) q) (i0 := 0) (fun j ls => lv_has ls 7 [(0, .ref m0), (1, .int (nI q)), (2, .int (nI hz)), (3, .int (nI (hz / 3))), (4, .int (nI (pT (hz / 3) q (pR (hz / 3) q - j)))), (5, .int (pSw (fun k => gs (0 + k)) (pSt hz) (hz / 3) q j))]) (by omega) (lv_sub hl [1, 2, 3, 4, 5, 0] rfl) (fun j ls hi31 hI ih31 => ?_)
    have hl : lv_has ls 7 [(0, .ref m0), (1, .int (nI q)), (2, .int (nI hz)), (3, .int (nI (hz / 3))), (4, .int (nI (pT (hz / 3) q (pR (hz / 3) q - j)))), (5, .int (pSw (fun k => gs (0 + k)) (pSt hz) (hz / 3) q j))] := hI
    have hT := pT_lt h4 hq (show pR (hz / 3) q - j < pR (hz / 3) q + 1 by omega)
    refine lv_iload hx hb dX5_isSwept_31 (lv_at hl 4 rfl) ?_
    refine lv_iload_n hx hb dX5_isSwept_33 rfl (lv_at hl 1 rfl) ?_
    refine z_icmp_eq (tgt := 84) (P := pR (hz / 3) q - j = 0) hx hb dX5_isSwept_34 (by decide) ((nI_eq (a := pT (hz / 3) q (pR (hz / 3) q - j)) (b := q) (by omega) (by omega)).trans (pT_q (hz / 3) h4 q hq (pR (hz / 3) q - j) (by omega))) (fun c34 => ?_) (fun c34 => ?_)
    · skip
      refine lv_iload hx hb dX5_isSwept_84 (lv_at hl 5 rfl) ?_
      refine lv_aload_n hx hb dX5_isSwept_86 rfl (lv_at hl 0 rfl) ?_
      refine va_get (D := D) (ci := 4) (v := .ref m1) (C := RX5) (T := TX5) (N := 9) hx hb hts in4 hown hK hP 0 rfl rfl 0 (by decide) fl7 (fun _ h9 => h9) rfl dX5_isSwept_87 ?_
      refine lv_iconst (v := 0) hx hb dX5_isSwept_90 (by decide) ?_
      refine lv_iload_n hx hb dX5_isSwept_91 rfl (lv_at hl 1 rfl) ?_
      refine z_iadd (v := nI (0 + q)) hx hb dX5_isSwept_92 (nI_add (0) (q)) ?_
      refine z_iald hx hb hK hP 1 0 rfl rfl (k := (0 + q)) (rfl) (by omega) (by decide) dX5_isSwept_93 ?_
      refine z_icmp_le (tgt := 101) (P := (pSw (fun k => gs (0 + k)) (pSt hz) (hz / 3) q j) ≤ (gs (0 + q))) hx hb dX5_isSwept_94 (by decide) (Iff.rfl) (fun c94 => ?_) (fun c94 => ?_)
      · skip
        refine lv_iconst (v := 0) hx hb dX5_isSwept_101 (by decide) ?_
        exact z_zret hx hb hr hlocks dX5_isSwept_102 (by rw [pDs, ← show j = pR (hz / 3) q by omega]; simp [-Nat.add_zero, -Nat.zero_add, -Nat.reduceAdd, zb, c34, c94])
      · skip
        refine lv_iconst (v := 1) hx hb dX5_isSwept_97 (by decide) ?_
        refine lv_goto (tgt := 102) hx hb dX5_isSwept_98 (by decide) ?_
        exact z_zret hx hb hr hlocks dX5_isSwept_102 (by rw [pDs, ← show j = pR (hz / 3) q by omega]; simp [-Nat.add_zero, -Nat.zero_add, -Nat.reduceAdd, zb, c34, c94])
    · skip
      refine lv_aload_n hx hb dX5_isSwept_37 rfl (lv_at hl 0 rfl) ?_
      refine va_get (D := D) (ci := 4) (v := .ref m1) (C := RX5) (T := TX5) (N := 9) hx hb hts in4 hown hK hP 0 rfl rfl 0 (by decide) fl7 (fun _ h9 => h9) rfl dX5_isSwept_38 ?_
      refine lv_iconst (v := 0) hx hb dX5_isSwept_41 (by decide) ?_
      refine lv_iload hx hb dX5_isSwept_42 (lv_at hl 4 rfl) ?_
      refine z_iadd (v := nI (0 + pT (hz / 3) q (pR (hz / 3) q - j))) hx hb dX5_isSwept_44 (nI_add (0) (pT (hz / 3) q (pR (hz / 3) q - j))) ?_
      refine z_iald hx hb hK hP 1 0 rfl rfl (k := (0 + pT (hz / 3) q (pR (hz / 3) q - j))) (rfl) (by omega) (by decide) dX5_isSwept_45 ?_
      refine lv_istore (lv' := [(6, .int (gs (0 + pT (hz / 3) q (pR (hz / 3) q - j)))), (0, .ref m0), (1, .int (nI q)), (2, .int (nI hz)), (3, .int (nI (hz / 3))), (4, .int (nI (pT (hz / 3) q (pR (hz / 3) q - j)))), (5, .int (pSw (fun k => gs (0 + k)) (pSt hz) (hz / 3) q j))]) hx hb dX5_isSwept_46 hl (by decide) rfl (fun ls hl => ?_)
      refine lv_iload hx hb dX5_isSwept_48 (lv_at hl 0 rfl) ?_
      refine lv_iload hx hb dX5_isSwept_50 (lv_at hl 6 rfl) ?_
      refine z_icmp_le (tgt := 60) (P := (gs (0 + pT (hz / 3) q (pR (hz / 3) q - j))) ≤ (pSw (fun k => gs (0 + k)) (pSt hz) (hz / 3) q j)) hx hb dX5_isSwept_52 (by decide) (Iff.rfl) (fun c52 => ?_) (fun c52 => ?_)
      · skip
        refine lv_iload hx hb dX5_isSwept_60 (lv_at hl 6 rfl) ?_
        refine lv_iload_n hx hb dX5_isSwept_62 rfl (lv_at hl 3 rfl) ?_
        refine z_ci (va_runS (As := [.int (nI hz)]) (rest := [.int (pSw (fun k => gs (0 + k)) (pSt hz) (hz / 3) q j)]) ⟨hx, hb, hml, hown, hts⟩ (c_X5_steepnessAt l (hz := hz) (hhz := by omega)) (va_cwS 1 hts gX5_isSwept_X5_steepnessAt rfl rfl rfl (by decide +kernel) ⟨Nat.le_of_ble_eq_true rfl, Nat.le_of_ble_eq_true rfl⟩) z_preS rfl rfl hl.1 rfl (lv_room (Nat.le_of_ble_eq_true rfl)) dX5_isSwept_63 ⟨Nat.le_of_ble_eq_true rfl, Nat.le_of_ble_eq_true rfl⟩) ?_
        refine z_isub (v := ((pSw (fun k => gs (0 + k)) (pSt hz) (hz / 3) q j) - (nI (pSt hz)))) hx hb dX5_isSwept_66 (rfl) ?_
        refine z_top (y := (pSw (fun k => gs (0 + k)) (pSt hz) (hz / 3) q (j + 1))) (by first | (simp only [pSw]; rw [if_pos (Int32.not_le.mp c52)]) | (simp only [pSw]; rw [if_neg (Int32.not_lt.mpr c52)])) ?_
        refine lv_istore (lv' := [(5, .int (pSw (fun k => gs (0 + k)) (pSt hz) (hz / 3) q (j + 1))), (6, .int (gs (0 + pT (hz / 3) q (pR (hz / 3) q - j)))), (0, .ref m0), (1, .int (nI q)), (2, .int (nI hz)), (3, .int (nI (hz / 3))), (4, .int (nI (pT (hz / 3) q (pR (hz / 3) q - j))))]) hx hb dX5_isSwept_67 hl (by decide) rfl (fun ls hl => ?_)
        refine lv_iload hx hb dX5_isSwept_69 (lv_at hl 6 rfl) ?_
        refine lv_iload_n hx hb dX5_isSwept_71 rfl (lv_at hl 5 rfl) ?_
        refine lv_iconst (v := 2) hx hb dX5_isSwept_72 (by decide) ?_
        refine z_iadd (v := nI (hz / 3 + 2)) hx hb dX5_isSwept_73 (nI_add (hz / 3) (2)) ?_
        refine lv_iconst (v := 4) hx hb dX5_isSwept_74 (by decide) ?_
        refine z_irem (v := nI ((hz / 3 + 2) % 4)) hx hb dX5_isSwept_75 (by decide) (pk_rem (a := (hz / 3 + 2)) (d := 4) (by omega) (by omega) (by omega)) ?_
        refine z_ci (va_runS (As := [.int (nI (pT (hz / 3) q (pR (hz / 3) q - j))), .int (nI ((hz / 3 + 2) % 4))]) (rest := []) ⟨hx, hb, hml, hown, hts⟩ (c_X5_beside l (q := pT (hz / 3) q (pR (hz / 3) q - j)) (sd := ((hz / 3 + 2) % 4)) (hq := by omega) (hs := by omega)) (va_cwS 2 hts gX5_isSwept_X5_beside rfl rfl rfl (by decide +kernel) ⟨Nat.le_of_ble_eq_true rfl, Nat.le_of_ble_eq_true rfl⟩) z_preS rfl rfl hl.1 rfl (lv_room (Nat.le_of_ble_eq_true rfl)) dX5_isSwept_76 ⟨Nat.le_of_ble_eq_true rfl, Nat.le_of_ble_eq_true rfl⟩) ?_
        refine z_top (y := nI (pT (hz / 3) q (pR (hz / 3) q - (j + 1)))) (by rw [show pR (hz / 3) q - j = (pR (hz / 3) q - (j + 1)) + 1 by omega]; exact pBk (hz / 3) h4 q hq _ (by omega)) ?_
        refine lv_istore (lv' := [(4, .int (nI (pT (hz / 3) q (pR (hz / 3) q - (j + 1))))), (5, .int (pSw (fun k => gs (0 + k)) (pSt hz) (hz / 3) q (j + 1))), (6, .int (gs (0 + pT (hz / 3) q (pR (hz / 3) q - j)))), (0, .ref m0), (1, .int (nI q)), (2, .int (nI hz)), (3, .int (nI (hz / 3)))]) hx hb dX5_isSwept_79 hl (by decide) rfl (fun ls hl => ?_)
        refine lv_goto (tgt := 31) hx hb dX5_isSwept_81 (by decide) ?_
        exact ih31 (by omega) _ (lv_sub hl [3, 4, 5, 6, 0, 1] rfl)
      · skip
        refine lv_iload hx hb dX5_isSwept_55 (lv_at hl 0 rfl) ?_
        refine lv_goto (tgt := 62) hx hb dX5_isSwept_57 (by decide) ?_
        refine lv_iload_n hx hb dX5_isSwept_62 rfl (lv_at hl 3 rfl) ?_
        refine z_ci (va_runS (As := [.int (nI hz)]) (rest := [.int (gs (0 + pT (hz / 3) q (pR (hz / 3) q - j)))]) ⟨hx, hb, hml, hown, hts⟩ (c_X5_steepnessAt l (hz := hz) (hhz := by omega)) (va_cwS 1 hts gX5_isSwept_X5_steepnessAt rfl rfl rfl (by decide +kernel) ⟨Nat.le_of_ble_eq_true rfl, Nat.le_of_ble_eq_true rfl⟩) z_preS rfl rfl hl.1 rfl (lv_room (Nat.le_of_ble_eq_true rfl)) dX5_isSwept_63 ⟨Nat.le_of_ble_eq_true rfl, Nat.le_of_ble_eq_true rfl⟩) ?_
        refine z_isub (v := ((gs (0 + pT (hz / 3) q (pR (hz / 3) q - j))) - (nI (pSt hz)))) hx hb dX5_isSwept_66 (rfl) ?_
        refine z_top (y := (pSw (fun k => gs (0 + k)) (pSt hz) (hz / 3) q (j + 1))) (by first | (simp only [pSw]; rw [if_pos (Int32.not_le.mp c52)]) | (simp only [pSw]; rw [if_neg (Int32.not_lt.mpr c52)])) ?_
        refine lv_istore (lv' := [(5, .int (pSw (fun k => gs (0 + k)) (pSt hz) (hz / 3) q (j + 1))), (6, .int (gs (0 + pT (hz / 3) q (pR (hz / 3) q - j)))), (0, .ref m0), (1, .int (nI q)), (2, .int (nI hz)), (3, .int (nI (hz / 3))), (4, .int (nI (pT (hz / 3) q (pR (hz / 3) q - j))))]) hx hb dX5_isSwept_67 hl (by decide) rfl (fun ls hl => ?_)
        refine lv_iload hx hb dX5_isSwept_69 (lv_at hl 6 rfl) ?_
        refine lv_iload_n hx hb dX5_isSwept_71 rfl (lv_at hl 5 rfl) ?_
        refine lv_iconst (v := 2) hx hb dX5_isSwept_72 (by decide) ?_
        refine z_iadd (v := nI (hz / 3 + 2)) hx hb dX5_isSwept_73 (nI_add (hz / 3) (2)) ?_
        refine lv_iconst (v := 4) hx hb dX5_isSwept_74 (by decide) ?_
        refine z_irem (v := nI ((hz / 3 + 2) % 4)) hx hb dX5_isSwept_75 (by decide) (pk_rem (a := (hz / 3 + 2)) (d := 4) (by omega) (by omega) (by omega)) ?_
        refine z_ci (va_runS (As := [.int (nI (pT (hz / 3) q (pR (hz / 3) q - j))), .int (nI ((hz / 3 + 2) % 4))]) (rest := []) ⟨hx, hb, hml, hown, hts⟩ (c_X5_beside l (q := pT (hz / 3) q (pR (hz / 3) q - j)) (sd := ((hz / 3 + 2) % 4)) (hq := by omega) (hs := by omega)) (va_cwS 2 hts gX5_isSwept_X5_beside rfl rfl rfl (by decide +kernel) ⟨Nat.le_of_ble_eq_true rfl, Nat.le_of_ble_eq_true rfl⟩) z_preS rfl rfl hl.1 rfl (lv_room (Nat.le_of_ble_eq_true rfl)) dX5_isSwept_76 ⟨Nat.le_of_ble_eq_true rfl, Nat.le_of_ble_eq_true rfl⟩) ?_
        refine z_top (y := nI (pT (hz / 3) q (pR (hz / 3) q - (j + 1)))) (by rw [show pR (hz / 3) q - j = (pR (hz / 3) q - (j + 1)) + 1 by omega]; exact pBk (hz / 3) h4 q hq _ (by omega)) ?_
        refine lv_istore (lv' := [(4, .int (nI (pT (hz / 3) q (pR (hz / 3) q - (j + 1))))), (5, .int (pSw (fun k => gs (0 + k)) (pSt hz) (hz / 3) q (j + 1))), (6, .int (gs (0 + pT (hz / 3) q (pR (hz / 3) q - j)))), (0, .ref m0), (1, .int (nI q)), (2, .int (nI hz)), (3, .int (nI (hz / 3)))]) hx hb dX5_isSwept_79 hl (by decide) rfl (fun ls hl => ?_)
        refine lv_goto (tgt := 31) hx hb dX5_isSwept_81 (by decide) ?_
        exact ih31 (by omega) _ (lv_sub hl [3, 4, 5, 6, 0, 1] rfl)
  · skip
    replace c14 := Classical.not_not.mp c14
    refine lv_iload hx hb dX5_isSwept_17 (lv_at hl 4 rfl) ?_
    refine lv_iload_n hx hb dX5_isSwept_19 rfl (lv_at hl 3 rfl) ?_
    refine z_ci (va_runS (As := [.int (nI (pT (hz / 3) q i)), .int (nI (hz / 3))]) (rest := []) ⟨hx, hb, hml, hown, hts⟩ (c_X5_beside l (q := pT (hz / 3) q i) (sd := hz / 3) (hq := by omega) (hs := by omega)) (va_cwS 2 hts gX5_isSwept_X5_beside rfl rfl rfl (by decide +kernel) ⟨Nat.le_of_ble_eq_true rfl, Nat.le_of_ble_eq_true rfl⟩) z_preS rfl rfl hl.1 rfl (lv_room (Nat.le_of_ble_eq_true rfl)) dX5_isSwept_20 ⟨Nat.le_of_ble_eq_true rfl, Nat.le_of_ble_eq_true rfl⟩) ?_
    refine z_top (y := nI (pT (hz / 3) q (i + 1))) ((pBs_T (hz / 3) h4 q hq i (by omega)).trans (pKs_at (by omega))) ?_
    refine lv_istore (lv' := [(4, .int (nI (pT (hz / 3) q (i + 1)))), (0, .ref m0), (1, .int (nI q)), (2, .int (nI hz)), (3, .int (nI (hz / 3)))]) hx hb dX5_isSwept_23 hl (by decide) rfl (fun ls hl => ?_)
    refine lv_goto (tgt := 8) hx hb dX5_isSwept_25 (by decide) ?_
    exact ih8 (by omega) _ (lv_sub hl [1, 2, 3, 4, 0] rfl)

set_option maxHeartbeats 4000000 in
set_option maxRecDepth 100000 in
/-- squares that its tower shades -/
theorem c_X5_shadedBy (l : Launch) (D : va_G) (cI cZ cL : ClassId) (m0 : Nat) (m1 : Nat) (m2 : Nat) (m3 : Nat) (m4 : Nat) (m5 : Nat) (gs : Nat → Int32) (gp : Nat → Int32) (gl : Nat → Int32) (gk : Nat → Int32) (fx : Nat → Int32) (kn : Nat) (ln : Nat) (th : Int32) (hs : Int64) (q : Nat) (hz : Nat) (hq : q < 36) (hhz : hz < 12) (hH : gs 108 = nI hz) : Met l yX5_shadedBy wsX5_shadedBy ({ frames := 3, cells := 0, slots := 0, locals := 72 }) (va_Pc [.ref m0, .int (nI q)] (zW D cI cZ cL [(m0, .inr (4, [.ref m1, .ref m2, .int (nI kn), .ref m3, .ref m4, .ref m5, .int (nI ln), .int th, .long hs])), (m1, .inl (cI, 228, .inl gs)), (m2, .inl (cI, 684, .inl gp)), (m3, .inl (cI, 228, .inl gl)), (m4, .inl (cZ, 2, .inl gk)), (m5, .inl (cI, 60, .inl fx))])) (zQi (nI (pSB gs q hz))) 0 0 (fun _ => False) := by
  refine Met.ofW (cc := cX5_shadedBy) (maxL := 4) (ret := (some .int)) (by decide) rfl ?_
  intro p e s m args below meth c s₁ B hml hv
  obtain ⟨rfl, hP, hK⟩ := hv
  have hx := B.exec
  have hb := B.bytes
  have hr := B.returns
  have hts := atoms_spec (ws := wsX5_shadedBy) B.pre
  have hown : s.vm.findClass RX5 = some m.cls := findClass_of_methodNamed B.named
  have hlocks := B.notSynchronized
  have in4 : ∀ w ∈ u_ws RX5 TX5 9, w ∈ wsX5_shadedBy := by decide +kernel
  have fl7 := hts (.fieldLink RX5 7 "TowerShadesModel" "s" "[I") (by decide +kernel)
  have hl := lv_entry ([.ref m0, .int (nI q)]) (n := 4) (Nat.le_of_ble_eq_true rfl)
  rw [lg_entry_eq]
  generalize (lg_sl ([.ref m0, .int (nI q)]) ++ List.replicate (4 - (lg_sl ([.ref m0, .int (nI q)])).length) Slot.unset).toArray = ls at hl ⊢
  have hl : lv_has ls 4 [(0, .ref m0), (1, .int (nI q))] := hl
  refine lv_iconst (v := 0) hx hb dX5_shadedBy_0 (by decide) ?_
  refine lv_istore_n (lv' := [(2, .int 0), (0, .ref m0), (1, .int (nI q))]) hx hb dX5_shadedBy_1 rfl hl (by decide) rfl (fun ls hl => ?_)
  refine lv_iconst (v := 0) hx hb dX5_shadedBy_2 (by decide) ?_
  refine lv_istore_n (lv' := [(3, .int 0), (2, .int 0), (0, .ref m0), (1, .int (nI q))]) hx hb dX5_shadedBy_3 rfl hl (by decide) rfl (fun ls hl => ?_)
  refine z_up (N := 36) (i0 := 0) (fun i ls => ∃ xn : Int32, xn = nI (cn (fun k => !decide (gs (36 + q) ≤ 0) && pShM gs 0 q k hz) i) ∧ lv_has ls 4 [(0, .ref m0), (1, .int (nI q)), (2, .int xn), (3, .int (nI i))]) (by omega) (⟨_, rfl, lv_sub hl [2, 3, 1, 0] rfl⟩) (fun i ls hi4 hI ih4 => ?_)
  obtain ⟨xn, exn, hl⟩ := hI
  refine lv_iload_n hx hb dX5_shadedBy_4 rfl (lv_at hl 3 rfl) ?_
  refine lv_bipush (v := 36) hx hb dX5_shadedBy_5 (by decide) ?_
  refine z_icmp_ge (tgt := 53) (P := 36 ≤ i) hx hb dX5_shadedBy_7 (by decide) (nI_leI (a := 36) (b := i) (by omega) (by omega)) (fun c7 => ?_) (fun c7 => ?_)
  · skip
    refine lv_iload_n hx hb dX5_shadedBy_53 rfl (lv_at hl 2 rfl) ?_
    exact z_iret hx hb hr hlocks dX5_shadedBy_54 (by rw [exn, pSB, show i = 36 by omega])
  · skip
    refine lv_iload_n hx hb dX5_shadedBy_10 rfl (lv_at hl 2 rfl) ?_
    refine lv_aload_n hx hb dX5_shadedBy_11 rfl (lv_at hl 0 rfl) ?_
    refine va_get (D := D) (ci := 4) (v := .ref m1) (C := RX5) (T := TX5) (N := 9) hx hb hts in4 hown hK hP 0 rfl rfl 0 (by decide) fl7 (fun _ h9 => h9) rfl dX5_shadedBy_12 ?_
    refine lv_bipush (v := 36) hx hb dX5_shadedBy_15 (by decide) ?_
    refine lv_iload_n hx hb dX5_shadedBy_17 rfl (lv_at hl 1 rfl) ?_
    refine z_iadd (v := nI (36 + q)) hx hb dX5_shadedBy_18 (nI_add (36) (q)) ?_
    refine z_iald hx hb hK hP 1 0 rfl rfl (k := (36 + q)) (rfl) (by omega) (by decide) dX5_shadedBy_19 ?_
    refine z_if_le (tgt := 44) (P := (gs (36 + q)) ≤ 0) hx hb dX5_shadedBy_20 (by decide) (Iff.rfl) (fun c20 => ?_) (fun c20 => ?_)
    · skip
      refine lv_iconst (v := 0) hx hb dX5_shadedBy_44 (by decide) ?_
      refine z_iadd (v := (xn + 0)) hx hb dX5_shadedBy_45 (rfl) ?_
      refine lv_istore_n (lv' := [(2, .int (xn + 0)), (0, .ref m0), (1, .int (nI q)), (3, .int (nI i))]) hx hb dX5_shadedBy_46 rfl hl (by decide) rfl (fun ls hl => ?_)
      refine lv_iinc (v := nI (i + 1)) (lv' := [(3, .int (nI (i + 1))), (2, .int (xn + 0)), (0, .ref m0), (1, .int (nI q))]) hx hb dX5_shadedBy_47 hl (k := 3) rfl (nI_1 (i)) (by decide) rfl (fun ls hl => ?_)
      refine lv_goto (tgt := 4) hx hb dX5_shadedBy_50 (by decide) ?_
      exact ih4 (by omega) _ (⟨_, by simp [exn, -Nat.add_zero, -Nat.zero_add, -Nat.reduceAdd, cn, nI_1, c7, c20] <;> rfl, lv_sub hl [2, 3, 1, 0] rfl⟩)
    · skip
      refine lv_aload_n hx hb dX5_shadedBy_23 rfl (lv_at hl 0 rfl) ?_
      refine lv_iconst (v := 0) hx hb dX5_shadedBy_24 (by decide) ?_
      refine lv_iload_n hx hb dX5_shadedBy_25 rfl (lv_at hl 1 rfl) ?_
      refine lv_iload_n hx hb dX5_shadedBy_26 rfl (lv_at hl 3 rfl) ?_
      refine lv_aload_n hx hb dX5_shadedBy_27 rfl (lv_at hl 0 rfl) ?_
      refine va_get (D := D) (ci := 4) (v := .ref m1) (C := RX5) (T := TX5) (N := 9) hx hb hts in4 hown hK hP 0 rfl rfl 0 (by decide) fl7 (fun _ h9 => h9) rfl dX5_shadedBy_28 ?_
      refine lv_bipush (v := 108) hx hb dX5_shadedBy_31 (by decide) ?_
      refine z_iald hx hb hK hP 1 0 rfl rfl (k := 108) (rfl) (by omega) (by decide) dX5_shadedBy_33 ?_
      refine z_top (y := nI hz) hH ?_
      refine z_ci (va_runV (As := [.int 0, .int (nI q), .int (nI i), .int (nI hz)]) (rest := [.int xn]) ⟨hx, hb, hml, hown, hts⟩ (c_X5_shades l D cI cZ cL (m0 := m0) (m1 := m1) (m2 := m2) (m3 := m3) (m4 := m4) (m5 := m5) (gs := gs) (gp := gp) (gl := gl) (gk := gk) (fx := fx) (kn := kn) (ln := ln) (th := th) (hs := hs) (P := 0) (f := q) (q := i) (hz := hz) (hpp := by omega) (hf := by omega) (hq := by omega) (hhz := by omega)) (cwV 4 hts gX5_shadedBy_X5_shades rfl rfl rfl (by decide +kernel) ⟨Nat.le_of_ble_eq_true rfl, Nat.le_of_ble_eq_true rfl⟩) (z_preV hK (hP.sub [0, 1, 2, 3, 4, 5] rfl) 0 4 rfl rfl) rfl rfl hl.1 rfl (lv_room (Nat.le_of_ble_eq_true rfl)) dX5_shadedBy_34 ⟨Nat.le_of_ble_eq_true rfl, Nat.le_of_ble_eq_true rfl⟩) ?_
      refine z_if_eq (tgt := 44) (P := (pShM gs 0 q i hz) = false) hx hb dX5_shadedBy_37 (by decide) (zb_eq0) (fun c37 => ?_) (fun c37 => ?_)
      · skip
        refine lv_iconst (v := 0) hx hb dX5_shadedBy_44 (by decide) ?_
        refine z_iadd (v := (xn + 0)) hx hb dX5_shadedBy_45 (rfl) ?_
        refine lv_istore_n (lv' := [(2, .int (xn + 0)), (0, .ref m0), (1, .int (nI q)), (3, .int (nI i))]) hx hb dX5_shadedBy_46 rfl hl (by decide) rfl (fun ls hl => ?_)
        refine lv_iinc (v := nI (i + 1)) (lv' := [(3, .int (nI (i + 1))), (2, .int (xn + 0)), (0, .ref m0), (1, .int (nI q))]) hx hb dX5_shadedBy_47 hl (k := 3) rfl (nI_1 (i)) (by decide) rfl (fun ls hl => ?_)
        refine lv_goto (tgt := 4) hx hb dX5_shadedBy_50 (by decide) ?_
        exact ih4 (by omega) _ (⟨_, by simp [exn, -Nat.add_zero, -Nat.zero_add, -Nat.reduceAdd, cn, nI_1, c7, c20, c37] <;> rfl, lv_sub hl [2, 3, 1, 0] rfl⟩)
      · skip
        refine lv_iconst (v := 1) hx hb dX5_shadedBy_40 (by decide) ?_
        refine lv_goto (tgt := 45) hx hb dX5_shadedBy_41 (by decide) ?_
        refine z_iadd (v := (xn + 1)) hx hb dX5_shadedBy_45 (rfl) ?_
        refine lv_istore_n (lv' := [(2, .int (xn + 1)), (0, .ref m0), (1, .int (nI q)), (3, .int (nI i))]) hx hb dX5_shadedBy_46 rfl hl (by decide) rfl (fun ls hl => ?_)
        refine lv_iinc (v := nI (i + 1)) (lv' := [(3, .int (nI (i + 1))), (2, .int (xn + 1)), (0, .ref m0), (1, .int (nI q))]) hx hb dX5_shadedBy_47 hl (k := 3) rfl (nI_1 (i)) (by decide) rfl (fun ls hl => ?_)
        refine lv_goto (tgt := 4) hx hb dX5_shadedBy_50 (by decide) ?_
        exact ih4 (by omega) _ (⟨_, by simp [exn, -Nat.add_zero, -Nat.zero_add, -Nat.reduceAdd, cn, nI_1, c7, c20, c37] <;> rfl, lv_sub hl [2, 3, 1, 0] rfl⟩)

set_option maxHeartbeats 4000000 in
set_option maxRecDepth 100000 in
/-- dark hours -/
theorem c_X5_darkHours (l : Launch) (D : va_G) (cI cZ cL : ClassId) (m0 : Nat) (m1 : Nat) (m2 : Nat) (m3 : Nat) (m4 : Nat) (m5 : Nat) (gs : Nat → Int32) (gp : Nat → Int32) (gl : Nat → Int32) (gk : Nat → Int32) (fx : Nat → Int32) (kn : Nat) (ln : Nat) (th : Int32) (hs : Int64) (q : Nat) (hq : q < 36) : Met l yX5_darkHours wsX5_darkHours ({ frames := 5, cells := 0, slots := 0, locals := 120 }) (va_Pc [.ref m0, .int (nI q)] (zW D cI cZ cL [(m0, .inr (4, [.ref m1, .ref m2, .int (nI kn), .ref m3, .ref m4, .ref m5, .int (nI ln), .int th, .long hs])), (m1, .inl (cI, 228, .inl gs)), (m2, .inl (cI, 684, .inl gp)), (m3, .inl (cI, 228, .inl gl)), (m4, .inl (cZ, 2, .inl gk)), (m5, .inl (cI, 60, .inl fx))])) (zQi (pMk (fun k => gs (0 + 0 + k)) q)) 0 0 (fun _ => False) := by
  refine Met.ofW (cc := cX5_darkHours) (maxL := 4) (ret := (some .int)) (by decide) rfl ?_
  intro p e s m args below meth c s₁ B hml hv
  obtain ⟨rfl, hP, hK⟩ := hv
  have hx := B.exec
  have hb := B.bytes
  have hr := B.returns
  have hts := atoms_spec (ws := wsX5_darkHours) B.pre
  have hown : s.vm.findClass RX5 = some m.cls := findClass_of_methodNamed B.named
  have hlocks := B.notSynchronized
  have hl := lv_entry ([.ref m0, .int (nI q)]) (n := 4) (Nat.le_of_ble_eq_true rfl)
  rw [lg_entry_eq]
  generalize (lg_sl ([.ref m0, .int (nI q)]) ++ List.replicate (4 - (lg_sl ([.ref m0, .int (nI q)])).length) Slot.unset).toArray = ls at hl ⊢
  have hl : lv_has ls 4 [(0, .ref m0), (1, .int (nI q))] := hl
  refine lv_iconst (v := 0) hx hb dX5_darkHours_0 (by decide) ?_
  refine lv_istore_n (lv' := [(2, .int 0), (0, .ref m0), (1, .int (nI q))]) hx hb dX5_darkHours_1 rfl hl (by decide) rfl (fun ls hl => ?_)
  refine lv_iconst (v := 0) hx hb dX5_darkHours_2 (by decide) ?_
  refine lv_istore_n (lv' := [(3, .int 0), (2, .int 0), (0, .ref m0), (1, .int (nI q))]) hx hb dX5_darkHours_3 rfl hl (by decide) rfl (fun ls hl => ?_)
  refine z_up (N := 12) (i0 := 0) (fun i ls => ∃ xn : Int32, xn = om (fun k => if pDk (fun j => gs (0 + 0 + j)) q k then (1 : Int32) <<< (nI k &&& 31) else 0) i ∧ lv_has ls 4 [(0, .ref m0), (1, .int (nI q)), (2, .int xn), (3, .int (nI i))]) (by omega) (⟨_, rfl, lv_sub hl [2, 3, 1, 0] rfl⟩) (fun i ls hi4 hI ih4 => ?_)
  obtain ⟨xn, exn, hl⟩ := hI
  refine lv_iload_n hx hb dX5_darkHours_4 rfl (lv_at hl 3 rfl) ?_
  refine lv_bipush (v := 12) hx hb dX5_darkHours_5 (by decide) ?_
  refine z_icmp_ge (tgt := 36) (P := 12 ≤ i) hx hb dX5_darkHours_7 (by decide) (nI_leI (a := 12) (b := i) (by omega) (by omega)) (fun c7 => ?_) (fun c7 => ?_)
  · skip
    refine lv_iload_n hx hb dX5_darkHours_36 rfl (lv_at hl 2 rfl) ?_
    exact z_iret hx hb hr hlocks dX5_darkHours_37 (by rw [exn, pMk, show i = 12 by omega])
  · skip
    refine lv_iload_n hx hb dX5_darkHours_10 rfl (lv_at hl 2 rfl) ?_
    refine lv_aload_n hx hb dX5_darkHours_11 rfl (lv_at hl 0 rfl) ?_
    refine lv_iconst (v := 0) hx hb dX5_darkHours_12 (by decide) ?_
    refine lv_iload_n hx hb dX5_darkHours_13 rfl (lv_at hl 1 rfl) ?_
    refine lv_iload_n hx hb dX5_darkHours_14 rfl (lv_at hl 3 rfl) ?_
    refine z_ci (va_runV (As := [.int 0, .int (nI q), .int (nI i)]) (rest := [.int xn]) ⟨hx, hb, hml, hown, hts⟩ (c_X5_isDark l D cI cZ cL (m0 := m0) (m1 := m1) (m2 := m2) (m3 := m3) (m4 := m4) (m5 := m5) (gs := gs) (gp := gp) (gl := gl) (gk := gk) (fx := fx) (kn := kn) (ln := ln) (th := th) (hs := hs) (P := 0) (q := q) (hz := i) (hpp := by omega) (hq := by omega) (hhz := by omega)) (cwV 3 hts gX5_darkHours_X5_isDark rfl rfl rfl (by decide +kernel) ⟨Nat.le_of_ble_eq_true rfl, Nat.le_of_ble_eq_true rfl⟩) (z_preV hK (hP.sub [0, 1, 2, 3, 4, 5] rfl) 0 4 rfl rfl) rfl rfl hl.1 rfl (lv_room (Nat.le_of_ble_eq_true rfl)) dX5_darkHours_15 ⟨Nat.le_of_ble_eq_true rfl, Nat.le_of_ble_eq_true rfl⟩) ?_
    refine z_if_eq (tgt := 27) (P := (pDk (fun k => gs (0 + 0 + k)) q i) = false) hx hb dX5_darkHours_18 (by decide) (zb_eq0) (fun c18 => ?_) (fun c18 => ?_)
    · skip
      refine lv_iconst (v := 0) hx hb dX5_darkHours_27 (by decide) ?_
      refine z_ior (v := (xn ||| 0)) hx hb dX5_darkHours_28 (rfl) ?_
      refine lv_istore_n (lv' := [(2, .int (xn ||| 0)), (0, .ref m0), (1, .int (nI q)), (3, .int (nI i))]) hx hb dX5_darkHours_29 rfl hl (by decide) rfl (fun ls hl => ?_)
      refine lv_iinc (v := nI (i + 1)) (lv' := [(3, .int (nI (i + 1))), (2, .int (xn ||| 0)), (0, .ref m0), (1, .int (nI q))]) hx hb dX5_darkHours_30 hl (k := 3) rfl (nI_1 (i)) (by decide) rfl (fun ls hl => ?_)
      refine lv_goto (tgt := 4) hx hb dX5_darkHours_33 (by decide) ?_
      exact ih4 (by omega) _ (⟨_, by simp [exn, -Nat.add_zero, -Nat.zero_add, -Nat.reduceAdd, om, c7, c18] <;> rfl, lv_sub hl [2, 3, 1, 0] rfl⟩)
    · skip
      refine lv_iconst (v := 1) hx hb dX5_darkHours_21 (by decide) ?_
      refine lv_iload_n hx hb dX5_darkHours_22 rfl (lv_at hl 3 rfl) ?_
      refine z_ishl (v := (1 <<< ((nI i) &&& 31))) hx hb dX5_darkHours_23 (rfl) ?_
      refine lv_goto (tgt := 28) hx hb dX5_darkHours_24 (by decide) ?_
      refine z_ior (v := (xn ||| (1 <<< ((nI i) &&& 31)))) hx hb dX5_darkHours_28 (rfl) ?_
      refine lv_istore_n (lv' := [(2, .int (xn ||| (1 <<< ((nI i) &&& 31)))), (0, .ref m0), (1, .int (nI q)), (3, .int (nI i))]) hx hb dX5_darkHours_29 rfl hl (by decide) rfl (fun ls hl => ?_)
      refine lv_iinc (v := nI (i + 1)) (lv' := [(3, .int (nI (i + 1))), (2, .int (xn ||| (1 <<< ((nI i) &&& 31)))), (0, .ref m0), (1, .int (nI q))]) hx hb dX5_darkHours_30 hl (k := 3) rfl (nI_1 (i)) (by decide) rfl (fun ls hl => ?_)
      refine lv_goto (tgt := 4) hx hb dX5_darkHours_33 (by decide) ?_
      exact ih4 (by omega) _ (⟨_, by simp [exn, -Nat.add_zero, -Nat.zero_add, -Nat.reduceAdd, om, c7, c18] <;> rfl, lv_sub hl [2, 3, 1, 0] rfl⟩)

set_option maxHeartbeats 4000000 in
set_option maxRecDepth 100000 in
/-- dark squares at an hour -/
theorem c_X5_darkAt (l : Launch) (D : va_G) (cI cZ cL : ClassId) (m0 : Nat) (m1 : Nat) (m2 : Nat) (m3 : Nat) (m4 : Nat) (m5 : Nat) (gs : Nat → Int32) (gp : Nat → Int32) (gl : Nat → Int32) (gk : Nat → Int32) (fx : Nat → Int32) (kn : Nat) (ln : Nat) (th : Int32) (hs : Int64) (hu : Nat) (hhu : hu < 12) : Met l yX5_darkAt wsX5_darkAt ({ frames := 5, cells := 0, slots := 0, locals := 120 }) (va_Pc [.ref m0, .int (nI hu)] (zW D cI cZ cL [(m0, .inr (4, [.ref m1, .ref m2, .int (nI kn), .ref m3, .ref m4, .ref m5, .int (nI ln), .int th, .long hs])), (m1, .inl (cI, 228, .inl gs)), (m2, .inl (cI, 684, .inl gp)), (m3, .inl (cI, 228, .inl gl)), (m4, .inl (cZ, 2, .inl gk)), (m5, .inl (cI, 60, .inl fx))])) (zQi (nI (pDn (fun k => gs (0 + 0 + k)) hu))) 0 0 (fun _ => False) := by
  refine Met.ofW (cc := cX5_darkAt) (maxL := 4) (ret := (some .int)) (by decide) rfl ?_
  intro p e s m args below meth c s₁ B hml hv
  obtain ⟨rfl, hP, hK⟩ := hv
  have hx := B.exec
  have hb := B.bytes
  have hr := B.returns
  have hts := atoms_spec (ws := wsX5_darkAt) B.pre
  have hown : s.vm.findClass RX5 = some m.cls := findClass_of_methodNamed B.named
  have hlocks := B.notSynchronized
  have hl := lv_entry ([.ref m0, .int (nI hu)]) (n := 4) (Nat.le_of_ble_eq_true rfl)
  rw [lg_entry_eq]
  generalize (lg_sl ([.ref m0, .int (nI hu)]) ++ List.replicate (4 - (lg_sl ([.ref m0, .int (nI hu)])).length) Slot.unset).toArray = ls at hl ⊢
  have hl : lv_has ls 4 [(0, .ref m0), (1, .int (nI hu))] := hl
  refine lv_iconst (v := 0) hx hb dX5_darkAt_0 (by decide) ?_
  refine lv_istore_n (lv' := [(2, .int 0), (0, .ref m0), (1, .int (nI hu))]) hx hb dX5_darkAt_1 rfl hl (by decide) rfl (fun ls hl => ?_)
  refine lv_iconst (v := 0) hx hb dX5_darkAt_2 (by decide) ?_
  refine lv_istore_n (lv' := [(3, .int 0), (2, .int 0), (0, .ref m0), (1, .int (nI hu))]) hx hb dX5_darkAt_3 rfl hl (by decide) rfl (fun ls hl => ?_)
  refine z_up (N := 36) (i0 := 0) (fun i ls => ∃ xn : Int32, xn = nI (cn (fun k => pDk (fun j => gs (0 + 0 + j)) k hu) i) ∧ lv_has ls 4 [(0, .ref m0), (1, .int (nI hu)), (2, .int xn), (3, .int (nI i))]) (by omega) (⟨_, rfl, lv_sub hl [2, 3, 1, 0] rfl⟩) (fun i ls hi4 hI ih4 => ?_)
  obtain ⟨xn, exn, hl⟩ := hI
  refine lv_iload_n hx hb dX5_darkAt_4 rfl (lv_at hl 3 rfl) ?_
  refine lv_bipush (v := 36) hx hb dX5_darkAt_5 (by decide) ?_
  refine z_icmp_ge (tgt := 34) (P := 36 ≤ i) hx hb dX5_darkAt_7 (by decide) (nI_leI (a := 36) (b := i) (by omega) (by omega)) (fun c7 => ?_) (fun c7 => ?_)
  · skip
    refine lv_iload_n hx hb dX5_darkAt_34 rfl (lv_at hl 2 rfl) ?_
    exact z_iret hx hb hr hlocks dX5_darkAt_35 (by rw [exn, pDn, show i = 36 by omega])
  · skip
    refine lv_iload_n hx hb dX5_darkAt_10 rfl (lv_at hl 2 rfl) ?_
    refine lv_aload_n hx hb dX5_darkAt_11 rfl (lv_at hl 0 rfl) ?_
    refine lv_iconst (v := 0) hx hb dX5_darkAt_12 (by decide) ?_
    refine lv_iload_n hx hb dX5_darkAt_13 rfl (lv_at hl 3 rfl) ?_
    refine lv_iload_n hx hb dX5_darkAt_14 rfl (lv_at hl 1 rfl) ?_
    refine z_ci (va_runV (As := [.int 0, .int (nI i), .int (nI hu)]) (rest := [.int xn]) ⟨hx, hb, hml, hown, hts⟩ (c_X5_isDark l D cI cZ cL (m0 := m0) (m1 := m1) (m2 := m2) (m3 := m3) (m4 := m4) (m5 := m5) (gs := gs) (gp := gp) (gl := gl) (gk := gk) (fx := fx) (kn := kn) (ln := ln) (th := th) (hs := hs) (P := 0) (q := i) (hz := hu) (hpp := by omega) (hq := by omega) (hhz := by omega)) (cwV 3 hts gX5_darkAt_X5_isDark rfl rfl rfl (by decide +kernel) ⟨Nat.le_of_ble_eq_true rfl, Nat.le_of_ble_eq_true rfl⟩) (z_preV hK (hP.sub [0, 1, 2, 3, 4, 5] rfl) 0 4 rfl rfl) rfl rfl hl.1 rfl (lv_room (Nat.le_of_ble_eq_true rfl)) dX5_darkAt_15 ⟨Nat.le_of_ble_eq_true rfl, Nat.le_of_ble_eq_true rfl⟩) ?_
    refine z_if_eq (tgt := 25) (P := (pDk (fun k => gs (0 + 0 + k)) i hu) = false) hx hb dX5_darkAt_18 (by decide) (zb_eq0) (fun c18 => ?_) (fun c18 => ?_)
    · skip
      refine lv_iconst (v := 0) hx hb dX5_darkAt_25 (by decide) ?_
      refine z_iadd (v := (xn + 0)) hx hb dX5_darkAt_26 (rfl) ?_
      refine lv_istore_n (lv' := [(2, .int (xn + 0)), (0, .ref m0), (1, .int (nI hu)), (3, .int (nI i))]) hx hb dX5_darkAt_27 rfl hl (by decide) rfl (fun ls hl => ?_)
      refine lv_iinc (v := nI (i + 1)) (lv' := [(3, .int (nI (i + 1))), (2, .int (xn + 0)), (0, .ref m0), (1, .int (nI hu))]) hx hb dX5_darkAt_28 hl (k := 3) rfl (nI_1 (i)) (by decide) rfl (fun ls hl => ?_)
      refine lv_goto (tgt := 4) hx hb dX5_darkAt_31 (by decide) ?_
      exact ih4 (by omega) _ (⟨_, by simp [exn, -Nat.add_zero, -Nat.zero_add, -Nat.reduceAdd, cn, nI_1, c7, c18] <;> rfl, lv_sub hl [2, 3, 1, 0] rfl⟩)
    · skip
      refine lv_iconst (v := 1) hx hb dX5_darkAt_21 (by decide) ?_
      refine lv_goto (tgt := 26) hx hb dX5_darkAt_22 (by decide) ?_
      refine z_iadd (v := (xn + 1)) hx hb dX5_darkAt_26 (rfl) ?_
      refine lv_istore_n (lv' := [(2, .int (xn + 1)), (0, .ref m0), (1, .int (nI hu)), (3, .int (nI i))]) hx hb dX5_darkAt_27 rfl hl (by decide) rfl (fun ls hl => ?_)
      refine lv_iinc (v := nI (i + 1)) (lv' := [(3, .int (nI (i + 1))), (2, .int (xn + 1)), (0, .ref m0), (1, .int (nI hu))]) hx hb dX5_darkAt_28 hl (k := 3) rfl (nI_1 (i)) (by decide) rfl (fun ls hl => ?_)
      refine lv_goto (tgt := 4) hx hb dX5_darkAt_31 (by decide) ?_
      exact ih4 (by omega) _ (⟨_, by simp [exn, -Nat.add_zero, -Nat.zero_add, -Nat.reduceAdd, cn, nI_1, c7, c18] <;> rfl, lv_sub hl [2, 3, 1, 0] rfl⟩)

set_option maxHeartbeats 4000000 in
set_option maxRecDepth 100000 in
/-- payment -/
theorem c_X5_payment (l : Launch) (D : va_G) (cI cZ cL : ClassId) (m0 : Nat) (m1 : Nat) (m2 : Nat) (m3 : Nat) (m4 : Nat) (m5 : Nat) (gs : Nat → Int32) (gp : Nat → Int32) (gl : Nat → Int32) (gk : Nat → Int32) (fx : Nat → Int32) (kn : Nat) (ln : Nat) (th : Int32) (hs : Int64) (P : Nat) (pl : Nat) (hz : Nat) (hpp : P < 115) (hpl : pl < 2) (hhz : hz < 12) (hHP : gs (P + 108) = nI hz) : Met l yX5_payment wsX5_payment ({ frames := 5, cells := 0, slots := 0, locals := 120 }) (va_Pc [.ref m0, .int (nI P), .int (nI pl)] (zW D cI cZ cL [(m0, .inr (4, [.ref m1, .ref m2, .int (nI kn), .ref m3, .ref m4, .ref m5, .int (nI ln), .int th, .long hs])), (m1, .inl (cI, 228, .inl gs)), (m2, .inl (cI, 684, .inl gp)), (m3, .inl (cI, 228, .inl gl)), (m4, .inl (cZ, 2, .inl gk)), (m5, .inl (cI, 60, .inl fx))])) (zQi (pPM gs P hz pl)) 0 0 (fun _ => False) := by
  refine Met.ofW (cc := cX5_payment) (maxL := 6) (ret := (some .int)) (by decide) rfl ?_
  intro p e s m args below meth c s₁ B hml hv
  obtain ⟨rfl, hP, hK⟩ := hv
  have hx := B.exec
  have hb := B.bytes
  have hr := B.returns
  have hts := atoms_spec (ws := wsX5_payment) B.pre
  have hown : s.vm.findClass RX5 = some m.cls := findClass_of_methodNamed B.named
  have hlocks := B.notSynchronized
  have in4 : ∀ w ∈ u_ws RX5 TX5 9, w ∈ wsX5_payment := by decide +kernel
  have fl7 := hts (.fieldLink RX5 7 "TowerShadesModel" "s" "[I") (by decide +kernel)
  have hl := lv_entry ([.ref m0, .int (nI P), .int (nI pl)]) (n := 6) (Nat.le_of_ble_eq_true rfl)
  rw [lg_entry_eq]
  generalize (lg_sl ([.ref m0, .int (nI P), .int (nI pl)]) ++ List.replicate (6 - (lg_sl ([.ref m0, .int (nI P), .int (nI pl)])).length) Slot.unset).toArray = ls at hl ⊢
  have hl : lv_has ls 6 [(0, .ref m0), (1, .int (nI P)), (2, .int (nI pl))] := hl
  refine lv_iconst (v := 0) hx hb dX5_payment_0 (by decide) ?_
  refine lv_istore_n (lv' := [(3, .int 0), (0, .ref m0), (1, .int (nI P)), (2, .int (nI pl))]) hx hb dX5_payment_1 rfl hl (by decide) rfl (fun ls hl => ?_)
  refine lv_iconst (v := 0) hx hb dX5_payment_2 (by decide) ?_
  refine lv_istore (lv' := [(4, .int 0), (3, .int 0), (0, .ref m0), (1, .int (nI P)), (2, .int (nI pl))]) hx hb dX5_payment_3 hl (by decide) rfl (fun ls hl => ?_)
  refine z_up (N := 36) (i0 := 0) (fun i ls => ∃ xn : Int32, xn = sm (fun k => if gs (P + 36 + k) = nI (pl + 1) ∧ pDk (fun j => gs (P + 0 + j)) k hz = false then gs (P + 72 + k) else 0) i ∧ lv_has ls 6 [(0, .ref m0), (1, .int (nI P)), (2, .int (nI pl)), (3, .int xn), (4, .int (nI i))]) (by omega) (⟨_, rfl, lv_sub hl [2, 3, 4, 1, 0] rfl⟩) (fun i ls hi5 hI ih5 => ?_)
  obtain ⟨xn, exn, hl⟩ := hI
  refine lv_iload hx hb dX5_payment_5 (lv_at hl 4 rfl) ?_
  refine lv_bipush (v := 36) hx hb dX5_payment_7 (by decide) ?_
  refine z_icmp_ge (tgt := 86) (P := 36 ≤ i) hx hb dX5_payment_9 (by decide) (nI_leI (a := 36) (b := i) (by omega) (by omega)) (fun c9 => ?_) (fun c9 => ?_)
  · skip
    refine lv_iload_n hx hb dX5_payment_86 rfl (lv_at hl 3 rfl) ?_
    exact z_iret hx hb hr hlocks dX5_payment_87 (by rw [exn, pPM, show i = 36 by omega])
  · skip
    refine lv_aload_n hx hb dX5_payment_12 rfl (lv_at hl 0 rfl) ?_
    refine va_get (D := D) (ci := 4) (v := .ref m1) (C := RX5) (T := TX5) (N := 9) hx hb hts in4 hown hK hP 0 rfl rfl 0 (by decide) fl7 (fun _ h9 => h9) rfl dX5_payment_13 ?_
    refine lv_iload_n hx hb dX5_payment_16 rfl (lv_at hl 1 rfl) ?_
    refine lv_bipush (v := 36) hx hb dX5_payment_17 (by decide) ?_
    refine z_iadd (v := nI (P + 36)) hx hb dX5_payment_19 (nI_add (P) (36)) ?_
    refine lv_iload hx hb dX5_payment_20 (lv_at hl 4 rfl) ?_
    refine z_iadd (v := nI ((P + 36) + i)) hx hb dX5_payment_22 (nI_add ((P + 36)) (i)) ?_
    refine z_iald hx hb hK hP 1 0 rfl rfl (k := ((P + 36) + i)) (rfl) (by omega) (by decide) dX5_payment_23 ?_
    refine lv_iload_n hx hb dX5_payment_24 rfl (lv_at hl 2 rfl) ?_
    refine lv_iconst (v := 1) hx hb dX5_payment_25 (by decide) ?_
    refine z_iadd (v := nI (pl + 1)) hx hb dX5_payment_26 (nI_add (pl) (1)) ?_
    refine z_icmp_ne (tgt := 53) (P := (gs ((P + 36) + i)) = (nI (pl + 1))) hx hb dX5_payment_27 (by decide) (Iff.rfl) (fun c27 => ?_) (fun c27 => ?_)
    · skip
      refine lv_iconst (v := 0) hx hb dX5_payment_53 (by decide) ?_
      refine lv_istore (lv' := [(5, .int 0), (0, .ref m0), (1, .int (nI P)), (2, .int (nI pl)), (3, .int xn), (4, .int (nI i))]) hx hb dX5_payment_54 hl (by decide) rfl (fun ls hl => ?_)
      refine lv_iload_n hx hb dX5_payment_56 rfl (lv_at hl 4 rfl) ?_
      refine lv_iload hx hb dX5_payment_57 (lv_at hl 0 rfl) ?_
      refine z_if_eq (tgt := 77) (P := True) hx hb dX5_payment_59 (by decide) (by decide) (fun c59 => ?_) (fun c59 => (show False from c59 trivial).elim)
      refine lv_iconst (v := 0) hx hb dX5_payment_77 (by decide) ?_
      refine z_iadd (v := (xn + 0)) hx hb dX5_payment_78 (rfl) ?_
      refine lv_istore_n (lv' := [(3, .int (xn + 0)), (5, .int 0), (0, .ref m0), (1, .int (nI P)), (2, .int (nI pl)), (4, .int (nI i))]) hx hb dX5_payment_79 rfl hl (by decide) rfl (fun ls hl => ?_)
      refine lv_iinc (v := nI (i + 1)) (lv' := [(4, .int (nI (i + 1))), (3, .int (xn + 0)), (5, .int 0), (0, .ref m0), (1, .int (nI P)), (2, .int (nI pl))]) hx hb dX5_payment_80 hl (k := 5) rfl (nI_1 (i)) (by decide) rfl (fun ls hl => ?_)
      refine lv_goto (tgt := 5) hx hb dX5_payment_83 (by decide) ?_
      exact ih5 (by omega) _ (⟨_, by simp [exn, -Nat.add_zero, -Nat.zero_add, -Nat.reduceAdd, sm, c9, c27, c59] <;> rfl, lv_sub hl [3, 4, 5, 1, 0] rfl⟩)
    · skip
      refine lv_aload_n hx hb dX5_payment_30 rfl (lv_at hl 0 rfl) ?_
      refine lv_iload_n hx hb dX5_payment_31 rfl (lv_at hl 1 rfl) ?_
      refine lv_iload hx hb dX5_payment_32 (lv_at hl 4 rfl) ?_
      refine lv_aload_n hx hb dX5_payment_34 rfl (lv_at hl 0 rfl) ?_
      refine va_get (D := D) (ci := 4) (v := .ref m1) (C := RX5) (T := TX5) (N := 9) hx hb hts in4 hown hK hP 0 rfl rfl 0 (by decide) fl7 (fun _ h9 => h9) rfl dX5_payment_35 ?_
      refine lv_iload_n hx hb dX5_payment_38 rfl (lv_at hl 1 rfl) ?_
      refine lv_bipush (v := 108) hx hb dX5_payment_39 (by decide) ?_
      refine z_iadd (v := nI (P + 108)) hx hb dX5_payment_41 (nI_add (P) (108)) ?_
      refine z_iald hx hb hK hP 1 0 rfl rfl (k := (P + 108)) (rfl) (by omega) (by decide) dX5_payment_42 ?_
      refine z_top (y := nI hz) hHP ?_
      refine z_ci (va_runV (As := [.int (nI P), .int (nI i), .int (nI hz)]) (rest := []) ⟨hx, hb, hml, hown, hts⟩ (c_X5_isDark l D cI cZ cL (m0 := m0) (m1 := m1) (m2 := m2) (m3 := m3) (m4 := m4) (m5 := m5) (gs := gs) (gp := gp) (gl := gl) (gk := gk) (fx := fx) (kn := kn) (ln := ln) (th := th) (hs := hs) (P := P) (q := i) (hz := hz) (hpp := by omega) (hq := by omega) (hhz := by omega)) (cwV 3 hts gX5_payment_X5_isDark rfl rfl rfl (by decide +kernel) ⟨Nat.le_of_ble_eq_true rfl, Nat.le_of_ble_eq_true rfl⟩) (z_preV hK (hP.sub [0, 1, 2, 3, 4, 5] rfl) 0 4 rfl rfl) rfl rfl hl.1 rfl (lv_room (Nat.le_of_ble_eq_true rfl)) dX5_payment_43 ⟨Nat.le_of_ble_eq_true rfl, Nat.le_of_ble_eq_true rfl⟩) ?_
      refine z_if_ne (tgt := 53) (P := (pDk (fun k => gs (P + 0 + k)) i hz) = false) hx hb dX5_payment_46 (by decide) (zb_eq0) (fun c46 => ?_) (fun c46 => ?_)
      · skip
        refine lv_iconst (v := 0) hx hb dX5_payment_53 (by decide) ?_
        refine lv_istore (lv' := [(5, .int 0), (0, .ref m0), (1, .int (nI P)), (2, .int (nI pl)), (3, .int xn), (4, .int (nI i))]) hx hb dX5_payment_54 hl (by decide) rfl (fun ls hl => ?_)
        refine lv_iload_n hx hb dX5_payment_56 rfl (lv_at hl 4 rfl) ?_
        refine lv_iload hx hb dX5_payment_57 (lv_at hl 0 rfl) ?_
        refine z_if_eq (tgt := 77) (P := True) hx hb dX5_payment_59 (by decide) (by decide) (fun c59 => ?_) (fun c59 => (show False from c59 trivial).elim)
        refine lv_iconst (v := 0) hx hb dX5_payment_77 (by decide) ?_
        refine z_iadd (v := (xn + 0)) hx hb dX5_payment_78 (rfl) ?_
        refine lv_istore_n (lv' := [(3, .int (xn + 0)), (5, .int 0), (0, .ref m0), (1, .int (nI P)), (2, .int (nI pl)), (4, .int (nI i))]) hx hb dX5_payment_79 rfl hl (by decide) rfl (fun ls hl => ?_)
        refine lv_iinc (v := nI (i + 1)) (lv' := [(4, .int (nI (i + 1))), (3, .int (xn + 0)), (5, .int 0), (0, .ref m0), (1, .int (nI P)), (2, .int (nI pl))]) hx hb dX5_payment_80 hl (k := 5) rfl (nI_1 (i)) (by decide) rfl (fun ls hl => ?_)
        refine lv_goto (tgt := 5) hx hb dX5_payment_83 (by decide) ?_
        exact ih5 (by omega) _ (⟨_, by simp [exn, -Nat.add_zero, -Nat.zero_add, -Nat.reduceAdd, sm, c9, c27, c46, c59] <;> rfl, lv_sub hl [3, 4, 5, 1, 0] rfl⟩)
      · skip
        refine lv_iconst (v := 1) hx hb dX5_payment_49 (by decide) ?_
        refine lv_goto (tgt := 54) hx hb dX5_payment_50 (by decide) ?_
        refine lv_istore (lv' := [(5, .int 1), (0, .ref m0), (1, .int (nI P)), (2, .int (nI pl)), (3, .int xn), (4, .int (nI i))]) hx hb dX5_payment_54 hl (by decide) rfl (fun ls hl => ?_)
        refine lv_iload_n hx hb dX5_payment_56 rfl (lv_at hl 4 rfl) ?_
        refine lv_iload hx hb dX5_payment_57 (lv_at hl 0 rfl) ?_
        refine z_if_eq (tgt := 77) (P := False) hx hb dX5_payment_59 (by decide) (by decide) (fun c59 => (show False from c59).elim) (fun c59 => ?_)
        refine lv_aload_n hx hb dX5_payment_62 rfl (lv_at hl 1 rfl) ?_
        refine va_get (D := D) (ci := 4) (v := .ref m1) (C := RX5) (T := TX5) (N := 9) hx hb hts in4 hown hK hP 0 rfl rfl 0 (by decide) fl7 (fun _ h9 => h9) rfl dX5_payment_63 ?_
        refine lv_iload_n hx hb dX5_payment_66 rfl (lv_at hl 2 rfl) ?_
        refine lv_bipush (v := 72) hx hb dX5_payment_67 (by decide) ?_
        refine z_iadd (v := nI (P + 72)) hx hb dX5_payment_69 (nI_add (P) (72)) ?_
        refine lv_iload hx hb dX5_payment_70 (lv_at hl 5 rfl) ?_
        refine z_iadd (v := nI ((P + 72) + i)) hx hb dX5_payment_72 (nI_add ((P + 72)) (i)) ?_
        refine z_iald hx hb hK hP 1 0 rfl rfl (k := ((P + 72) + i)) (rfl) (by omega) (by decide) dX5_payment_73 ?_
        refine lv_goto (tgt := 78) hx hb dX5_payment_74 (by decide) ?_
        refine z_iadd (v := (xn + (gs ((P + 72) + i)))) hx hb dX5_payment_78 (rfl) ?_
        refine lv_istore_n (lv' := [(3, .int (xn + (gs ((P + 72) + i)))), (5, .int 1), (0, .ref m0), (1, .int (nI P)), (2, .int (nI pl)), (4, .int (nI i))]) hx hb dX5_payment_79 rfl hl (by decide) rfl (fun ls hl => ?_)
        refine lv_iinc (v := nI (i + 1)) (lv' := [(4, .int (nI (i + 1))), (3, .int (xn + (gs ((P + 72) + i)))), (5, .int 1), (0, .ref m0), (1, .int (nI P)), (2, .int (nI pl))]) hx hb dX5_payment_80 hl (k := 5) rfl (nI_1 (i)) (by decide) rfl (fun ls hl => ?_)
        refine lv_goto (tgt := 5) hx hb dX5_payment_83 (by decide) ?_
        exact ih5 (by omega) _ (⟨_, by simp [exn, -Nat.add_zero, -Nat.zero_add, -Nat.reduceAdd, sm, c9, c27, c46, c59] <;> rfl, lv_sub hl [3, 4, 5, 1, 0] rfl⟩)

set_option maxHeartbeats 4000000 in
set_option maxRecDepth 100000 in
/-- reason -/
theorem c_X5_reason (l : Launch) (D : va_G) (cI cZ cL : ClassId) (m0 : Nat) (m1 : Nat) (m2 : Nat) (m3 : Nat) (m4 : Nat) (m5 : Nat) (gs : Nat → Int32) (gp : Nat → Int32) (gl : Nat → Int32) (gk : Nat → Int32) (fx : Nat → Int32) (kn : Nat) (ln : Nat) (th : Int32) (hs : Int64) (q : Nat) (hz : Nat) (mv : Nat) (hq : q < 36) (hhz : hz < 12) (hmv : mv < 2) (hH : gs 108 = nI hz) (hM : gs 109 = nI mv) : Met l yX5_reason wsX5_reason ({ frames := 5, cells := 0, slots := 0, locals := 120 }) (va_Pc [.ref m0, .int (nI q)] (zW D cI cZ cL [(m0, .inr (4, [.ref m1, .ref m2, .int (nI kn), .ref m3, .ref m4, .ref m5, .int (nI ln), .int th, .long hs])), (m1, .inl (cI, 228, .inl gs)), (m2, .inl (cI, 684, .inl gp)), (m3, .inl (cI, 228, .inl gl)), (m4, .inl (cZ, 2, .inl gk)), (m5, .inl (cI, 60, .inl fx))])) (zQi (nI (pRM gs hz mv q))) 0 0 (fun _ => False) := by
  refine Met.ofW (cc := cX5_reason) (maxL := 3) (ret := (some .int)) (by decide) rfl ?_
  intro p e s m args below meth c s₁ B hml hv
  obtain ⟨rfl, hP, hK⟩ := hv
  have hx := B.exec
  have hb := B.bytes
  have hr := B.returns
  have hts := atoms_spec (ws := wsX5_reason) B.pre
  have hown : s.vm.findClass RX5 = some m.cls := findClass_of_methodNamed B.named
  have hlocks := B.notSynchronized
  have in4 : ∀ w ∈ u_ws RX5 TX5 9, w ∈ wsX5_reason := by decide +kernel
  have fl7 := hts (.fieldLink RX5 7 "TowerShadesModel" "s" "[I") (by decide +kernel)
  have hl := lv_entry ([.ref m0, .int (nI q)]) (n := 3) (Nat.le_of_ble_eq_true rfl)
  rw [lg_entry_eq]
  generalize (lg_sl ([.ref m0, .int (nI q)]) ++ List.replicate (3 - (lg_sl ([.ref m0, .int (nI q)])).length) Slot.unset).toArray = ls at hl ⊢
  have hl : lv_has ls 3 [(0, .ref m0), (1, .int (nI q))] := hl
  refine lv_aload_n hx hb dX5_reason_0 rfl (lv_at hl 0 rfl) ?_
  refine va_get (D := D) (ci := 4) (v := .ref m1) (C := RX5) (T := TX5) (N := 9) hx hb hts in4 hown hK hP 0 rfl rfl 0 (by decide) fl7 (fun _ h9 => h9) rfl dX5_reason_1 ?_
  refine lv_bipush (v := 36) hx hb dX5_reason_4 (by decide) ?_
  refine lv_iload_n hx hb dX5_reason_6 rfl (lv_at hl 1 rfl) ?_
  refine z_iadd (v := nI (36 + q)) hx hb dX5_reason_7 (nI_add (36) (q)) ?_
  refine z_iald hx hb hK hP 1 0 rfl rfl (k := (36 + q)) (rfl) (by omega) (by decide) dX5_reason_8 ?_
  refine lv_istore_n (lv' := [(2, .int (gs (36 + q))), (0, .ref m0), (1, .int (nI q))]) hx hb dX5_reason_9 rfl hl (by decide) rfl (fun ls hl => ?_)
  refine lv_iload_n hx hb dX5_reason_10 rfl (lv_at hl 0 rfl) ?_
  refine z_if_le (tgt := 29) (P := (gs (36 + q)) ≤ 0) hx hb dX5_reason_11 (by decide) (Iff.rfl) (fun c11 => ?_) (fun c11 => ?_)
  · skip
    refine lv_aload_n hx hb dX5_reason_29 rfl (lv_at hl 1 rfl) ?_
    refine va_get (D := D) (ci := 4) (v := .ref m1) (C := RX5) (T := TX5) (N := 9) hx hb hts in4 hown hK hP 0 rfl rfl 0 (by decide) fl7 (fun _ h9 => h9) rfl dX5_reason_30 ?_
    refine lv_iconst (v := 0) hx hb dX5_reason_33 (by decide) ?_
    refine lv_iload_n hx hb dX5_reason_34 rfl (lv_at hl 2 rfl) ?_
    refine z_iadd (v := nI (0 + q)) hx hb dX5_reason_35 (nI_add (0) (q)) ?_
    refine z_iald hx hb hK hP 1 0 rfl rfl (k := (0 + q)) (rfl) (by omega) (by decide) dX5_reason_36 ?_
    refine lv_bipush (v := 9) hx hb dX5_reason_37 (by decide) ?_
    refine z_icmp_ne (tgt := 46) (P := (gs (0 + q)) = 9) hx hb dX5_reason_39 (by decide) (Iff.rfl) (fun c39 => ?_) (fun c39 => ?_)
    · skip
      refine lv_aload_n hx hb dX5_reason_46 rfl (lv_at hl 1 rfl) ?_
      refine lv_iconst (v := 0) hx hb dX5_reason_47 (by decide) ?_
      refine lv_iload_n hx hb dX5_reason_48 rfl (lv_at hl 2 rfl) ?_
      refine lv_aload_n hx hb dX5_reason_49 rfl (lv_at hl 1 rfl) ?_
      refine va_get (D := D) (ci := 4) (v := .ref m1) (C := RX5) (T := TX5) (N := 9) hx hb hts in4 hown hK hP 0 rfl rfl 0 (by decide) fl7 (fun _ h9 => h9) rfl dX5_reason_50 ?_
      refine lv_bipush (v := 108) hx hb dX5_reason_53 (by decide) ?_
      refine z_iald hx hb hK hP 1 0 rfl rfl (k := 108) (rfl) (by omega) (by decide) dX5_reason_55 ?_
      refine z_top (y := nI hz) hH ?_
      refine z_ci (va_runV (As := [.int 0, .int (nI q), .int (nI hz)]) (rest := []) ⟨hx, hb, hml, hown, hts⟩ (c_X5_isDark l D cI cZ cL (m0 := m0) (m1 := m1) (m2 := m2) (m3 := m3) (m4 := m4) (m5 := m5) (gs := gs) (gp := gp) (gl := gl) (gk := gk) (fx := fx) (kn := kn) (ln := ln) (th := th) (hs := hs) (P := 0) (q := q) (hz := hz) (hpp := by omega) (hq := by omega) (hhz := by omega)) (cwV 3 hts gX5_reason_X5_isDark rfl rfl rfl (by decide +kernel) ⟨Nat.le_of_ble_eq_true rfl, Nat.le_of_ble_eq_true rfl⟩) (z_preV hK (hP.sub [0, 1, 2, 3, 4, 5] rfl) 0 4 rfl rfl) rfl rfl hl.1 rfl (lv_room (Nat.le_of_ble_eq_true rfl)) dX5_reason_56 ⟨Nat.le_of_ble_eq_true rfl, Nat.le_of_ble_eq_true rfl⟩) ?_
      refine z_if_eq (tgt := 66) (P := (pDk (fun k => gs (0 + 0 + k)) q hz) = false) hx hb dX5_reason_59 (by decide) (zb_eq0) (fun c59 => ?_) (fun c59 => ?_)
      · skip
        refine lv_iconst (v := 0) hx hb dX5_reason_66 (by decide) ?_
        exact z_iret hx hb hr hlocks dX5_reason_67 (by rw [show pRM gs hz mv q = 0 by simp [-Nat.add_zero, -Nat.zero_add, -Nat.reduceAdd, pRM, c11, c39, c59]]; rfl)
      · skip
        refine lv_iconst (v := 3) hx hb dX5_reason_62 (by decide) ?_
        refine lv_goto (tgt := 67) hx hb dX5_reason_63 (by decide) ?_
        exact z_iret hx hb hr hlocks dX5_reason_67 (by rw [show pRM gs hz mv q = 3 by simp [-Nat.add_zero, -Nat.zero_add, -Nat.reduceAdd, pRM, c11, c39, c59]]; rfl)
    · skip
      refine lv_iconst (v := 2) hx hb dX5_reason_42 (by decide) ?_
      refine lv_goto (tgt := 67) hx hb dX5_reason_43 (by decide) ?_
      exact z_iret hx hb hr hlocks dX5_reason_67 (by rw [show pRM gs hz mv q = 2 by simp [-Nat.add_zero, -Nat.zero_add, -Nat.reduceAdd, pRM, c11, c39]]; rfl)
  · skip
    refine lv_iload_n hx hb dX5_reason_14 rfl (lv_at hl 0 rfl) ?_
    refine lv_aload_n hx hb dX5_reason_15 rfl (lv_at hl 1 rfl) ?_
    refine va_get (D := D) (ci := 4) (v := .ref m1) (C := RX5) (T := TX5) (N := 9) hx hb hts in4 hown hK hP 0 rfl rfl 0 (by decide) fl7 (fun _ h9 => h9) rfl dX5_reason_16 ?_
    refine lv_bipush (v := 109) hx hb dX5_reason_19 (by decide) ?_
    refine z_iald hx hb hK hP 1 0 rfl rfl (k := 109) (rfl) (by omega) (by decide) dX5_reason_21 ?_
    refine z_top (y := nI mv) hM ?_
    refine lv_iconst (v := 1) hx hb dX5_reason_22 (by decide) ?_
    refine z_iadd (v := nI (mv + 1)) hx hb dX5_reason_23 (nI_add (mv) (1)) ?_
    refine z_icmp_eq (tgt := 29) (P := (gs (36 + q)) = (nI (mv + 1))) hx hb dX5_reason_24 (by decide) (Iff.rfl) (fun c24 => ?_) (fun c24 => ?_)
    · skip
      refine lv_aload_n hx hb dX5_reason_29 rfl (lv_at hl 1 rfl) ?_
      refine va_get (D := D) (ci := 4) (v := .ref m1) (C := RX5) (T := TX5) (N := 9) hx hb hts in4 hown hK hP 0 rfl rfl 0 (by decide) fl7 (fun _ h9 => h9) rfl dX5_reason_30 ?_
      refine lv_iconst (v := 0) hx hb dX5_reason_33 (by decide) ?_
      refine lv_iload_n hx hb dX5_reason_34 rfl (lv_at hl 2 rfl) ?_
      refine z_iadd (v := nI (0 + q)) hx hb dX5_reason_35 (nI_add (0) (q)) ?_
      refine z_iald hx hb hK hP 1 0 rfl rfl (k := (0 + q)) (rfl) (by omega) (by decide) dX5_reason_36 ?_
      refine lv_bipush (v := 9) hx hb dX5_reason_37 (by decide) ?_
      refine z_icmp_ne (tgt := 46) (P := (gs (0 + q)) = 9) hx hb dX5_reason_39 (by decide) (Iff.rfl) (fun c39 => ?_) (fun c39 => ?_)
      · skip
        refine lv_aload_n hx hb dX5_reason_46 rfl (lv_at hl 1 rfl) ?_
        refine lv_iconst (v := 0) hx hb dX5_reason_47 (by decide) ?_
        refine lv_iload_n hx hb dX5_reason_48 rfl (lv_at hl 2 rfl) ?_
        refine lv_aload_n hx hb dX5_reason_49 rfl (lv_at hl 1 rfl) ?_
        refine va_get (D := D) (ci := 4) (v := .ref m1) (C := RX5) (T := TX5) (N := 9) hx hb hts in4 hown hK hP 0 rfl rfl 0 (by decide) fl7 (fun _ h9 => h9) rfl dX5_reason_50 ?_
        refine lv_bipush (v := 108) hx hb dX5_reason_53 (by decide) ?_
        refine z_iald hx hb hK hP 1 0 rfl rfl (k := 108) (rfl) (by omega) (by decide) dX5_reason_55 ?_
        refine z_top (y := nI hz) hH ?_
        refine z_ci (va_runV (As := [.int 0, .int (nI q), .int (nI hz)]) (rest := []) ⟨hx, hb, hml, hown, hts⟩ (c_X5_isDark l D cI cZ cL (m0 := m0) (m1 := m1) (m2 := m2) (m3 := m3) (m4 := m4) (m5 := m5) (gs := gs) (gp := gp) (gl := gl) (gk := gk) (fx := fx) (kn := kn) (ln := ln) (th := th) (hs := hs) (P := 0) (q := q) (hz := hz) (hpp := by omega) (hq := by omega) (hhz := by omega)) (cwV 3 hts gX5_reason_X5_isDark rfl rfl rfl (by decide +kernel) ⟨Nat.le_of_ble_eq_true rfl, Nat.le_of_ble_eq_true rfl⟩) (z_preV hK (hP.sub [0, 1, 2, 3, 4, 5] rfl) 0 4 rfl rfl) rfl rfl hl.1 rfl (lv_room (Nat.le_of_ble_eq_true rfl)) dX5_reason_56 ⟨Nat.le_of_ble_eq_true rfl, Nat.le_of_ble_eq_true rfl⟩) ?_
        refine z_if_eq (tgt := 66) (P := (pDk (fun k => gs (0 + 0 + k)) q hz) = false) hx hb dX5_reason_59 (by decide) (zb_eq0) (fun c59 => ?_) (fun c59 => ?_)
        · skip
          refine lv_iconst (v := 0) hx hb dX5_reason_66 (by decide) ?_
          exact z_iret hx hb hr hlocks dX5_reason_67 (by rw [show pRM gs hz mv q = 0 by simp [-Nat.add_zero, -Nat.zero_add, -Nat.reduceAdd, pRM, c11, c24, c39, c59]]; rfl)
        · skip
          refine lv_iconst (v := 3) hx hb dX5_reason_62 (by decide) ?_
          refine lv_goto (tgt := 67) hx hb dX5_reason_63 (by decide) ?_
          exact z_iret hx hb hr hlocks dX5_reason_67 (by rw [show pRM gs hz mv q = 3 by simp [-Nat.add_zero, -Nat.zero_add, -Nat.reduceAdd, pRM, c11, c24, c39, c59]]; rfl)
      · skip
        refine lv_iconst (v := 2) hx hb dX5_reason_42 (by decide) ?_
        refine lv_goto (tgt := 67) hx hb dX5_reason_43 (by decide) ?_
        exact z_iret hx hb hr hlocks dX5_reason_67 (by rw [show pRM gs hz mv q = 2 by simp [-Nat.add_zero, -Nat.zero_add, -Nat.reduceAdd, pRM, c11, c24, c39]]; rfl)
    · skip
      refine lv_iconst (v := 1) hx hb dX5_reason_27 (by decide) ?_
      exact z_iret hx hb hr hlocks dX5_reason_28 (by rw [show pRM gs hz mv q = 1 by simp [-Nat.add_zero, -Nat.zero_add, -Nat.reduceAdd, pRM, c11, c24]]; rfl)

set_option maxHeartbeats 4000000 in
set_option maxRecDepth 100000 in
/-- towers -/
theorem c_X5_towers (l : Launch) (D : va_G) (cI cZ cL : ClassId) (m0 : Nat) (m1 : Nat) (m2 : Nat) (m3 : Nat) (m4 : Nat) (m5 : Nat) (gs : Nat → Int32) (gp : Nat → Int32) (gl : Nat → Int32) (gk : Nat → Int32) (fx : Nat → Int32) (kn : Nat) (ln : Nat) (th : Int32) (hs : Int64) (pl : Nat) (hpl : pl < 2) : Met l yX5_towers wsX5_towers ({ frames := 0, cells := 0, slots := 0, locals := 0 }) (va_Pc [.ref m0, .int (nI pl)] (zW D cI cZ cL [(m0, .inr (4, [.ref m1, .ref m2, .int (nI kn), .ref m3, .ref m4, .ref m5, .int (nI ln), .int th, .long hs])), (m1, .inl (cI, 228, .inl gs)), (m2, .inl (cI, 684, .inl gp)), (m3, .inl (cI, 228, .inl gl)), (m4, .inl (cZ, 2, .inl gk)), (m5, .inl (cI, 60, .inl fx))])) (zQi (nI (pTM gs pl))) 0 0 (fun _ => False) := by
  refine Met.ofW (cc := cX5_towers) (maxL := 4) (ret := (some .int)) (by decide) rfl ?_
  intro p e s m args below meth c s₁ B hml hv
  obtain ⟨rfl, hP, hK⟩ := hv
  have hx := B.exec
  have hb := B.bytes
  have hr := B.returns
  have hts := atoms_spec (ws := wsX5_towers) B.pre
  have hown : s.vm.findClass RX5 = some m.cls := findClass_of_methodNamed B.named
  have hlocks := B.notSynchronized
  have in4 : ∀ w ∈ u_ws RX5 TX5 9, w ∈ wsX5_towers := by decide +kernel
  have fl7 := hts (.fieldLink RX5 7 "TowerShadesModel" "s" "[I") (by decide +kernel)
  have hl := lv_entry ([.ref m0, .int (nI pl)]) (n := 4) (Nat.le_of_ble_eq_true rfl)
  rw [lg_entry_eq]
  generalize (lg_sl ([.ref m0, .int (nI pl)]) ++ List.replicate (4 - (lg_sl ([.ref m0, .int (nI pl)])).length) Slot.unset).toArray = ls at hl ⊢
  have hl : lv_has ls 4 [(0, .ref m0), (1, .int (nI pl))] := hl
  refine lv_iconst (v := 0) hx hb dX5_towers_0 (by decide) ?_
  refine lv_istore_n (lv' := [(2, .int 0), (0, .ref m0), (1, .int (nI pl))]) hx hb dX5_towers_1 rfl hl (by decide) rfl (fun ls hl => ?_)
  refine lv_iconst (v := 0) hx hb dX5_towers_2 (by decide) ?_
  refine lv_istore_n (lv' := [(3, .int 0), (2, .int 0), (0, .ref m0), (1, .int (nI pl))]) hx hb dX5_towers_3 rfl hl (by decide) rfl (fun ls hl => ?_)
  refine z_up (N := 36) (i0 := 0) (fun i ls => ∃ xn : Int32, xn = nI (cn (fun k => decide (gs (36 + k) = nI (pl + 1))) i) ∧ lv_has ls 4 [(0, .ref m0), (1, .int (nI pl)), (2, .int xn), (3, .int (nI i))]) (by omega) (⟨_, rfl, lv_sub hl [2, 3, 1, 0] rfl⟩) (fun i ls hi4 hI ih4 => ?_)
  obtain ⟨xn, exn, hl⟩ := hI
  refine lv_iload_n hx hb dX5_towers_4 rfl (lv_at hl 3 rfl) ?_
  refine lv_bipush (v := 36) hx hb dX5_towers_5 (by decide) ?_
  refine z_icmp_ge (tgt := 39) (P := 36 ≤ i) hx hb dX5_towers_7 (by decide) (nI_leI (a := 36) (b := i) (by omega) (by omega)) (fun c7 => ?_) (fun c7 => ?_)
  · skip
    refine lv_iload_n hx hb dX5_towers_39 rfl (lv_at hl 2 rfl) ?_
    exact z_iret hx hb hr hlocks dX5_towers_40 (by rw [exn, pTM, show i = 36 by omega])
  · skip
    refine lv_iload_n hx hb dX5_towers_10 rfl (lv_at hl 2 rfl) ?_
    refine lv_aload_n hx hb dX5_towers_11 rfl (lv_at hl 0 rfl) ?_
    refine va_get (D := D) (ci := 4) (v := .ref m1) (C := RX5) (T := TX5) (N := 9) hx hb hts in4 hown hK hP 0 rfl rfl 0 (by decide) fl7 (fun _ h9 => h9) rfl dX5_towers_12 ?_
    refine lv_bipush (v := 36) hx hb dX5_towers_15 (by decide) ?_
    refine lv_iload_n hx hb dX5_towers_17 rfl (lv_at hl 3 rfl) ?_
    refine z_iadd (v := nI (36 + i)) hx hb dX5_towers_18 (nI_add (36) (i)) ?_
    refine z_iald hx hb hK hP 1 0 rfl rfl (k := (36 + i)) (rfl) (by omega) (by decide) dX5_towers_19 ?_
    refine lv_iload_n hx hb dX5_towers_20 rfl (lv_at hl 1 rfl) ?_
    refine lv_iconst (v := 1) hx hb dX5_towers_21 (by decide) ?_
    refine z_iadd (v := nI (pl + 1)) hx hb dX5_towers_22 (nI_add (pl) (1)) ?_
    refine z_icmp_ne (tgt := 30) (P := (gs (36 + i)) = (nI (pl + 1))) hx hb dX5_towers_23 (by decide) (Iff.rfl) (fun c23 => ?_) (fun c23 => ?_)
    · skip
      refine lv_iconst (v := 0) hx hb dX5_towers_30 (by decide) ?_
      refine z_iadd (v := (xn + 0)) hx hb dX5_towers_31 (rfl) ?_
      refine lv_istore_n (lv' := [(2, .int (xn + 0)), (0, .ref m0), (1, .int (nI pl)), (3, .int (nI i))]) hx hb dX5_towers_32 rfl hl (by decide) rfl (fun ls hl => ?_)
      refine lv_iinc (v := nI (i + 1)) (lv' := [(3, .int (nI (i + 1))), (2, .int (xn + 0)), (0, .ref m0), (1, .int (nI pl))]) hx hb dX5_towers_33 hl (k := 3) rfl (nI_1 (i)) (by decide) rfl (fun ls hl => ?_)
      refine lv_goto (tgt := 4) hx hb dX5_towers_36 (by decide) ?_
      exact ih4 (by omega) _ (⟨_, by simp [exn, -Nat.add_zero, -Nat.zero_add, -Nat.reduceAdd, cn, nI_1, c7, c23] <;> rfl, lv_sub hl [2, 3, 1, 0] rfl⟩)
    · skip
      refine lv_iconst (v := 1) hx hb dX5_towers_26 (by decide) ?_
      refine lv_goto (tgt := 31) hx hb dX5_towers_27 (by decide) ?_
      refine z_iadd (v := (xn + 1)) hx hb dX5_towers_31 (rfl) ?_
      refine lv_istore_n (lv' := [(2, .int (xn + 1)), (0, .ref m0), (1, .int (nI pl)), (3, .int (nI i))]) hx hb dX5_towers_32 rfl hl (by decide) rfl (fun ls hl => ?_)
      refine lv_iinc (v := nI (i + 1)) (lv' := [(3, .int (nI (i + 1))), (2, .int (xn + 1)), (0, .ref m0), (1, .int (nI pl))]) hx hb dX5_towers_33 hl (k := 3) rfl (nI_1 (i)) (by decide) rfl (fun ls hl => ?_)
      refine lv_goto (tgt := 4) hx hb dX5_towers_36 (by decide) ?_
      exact ih4 (by omega) _ (⟨_, by simp [exn, -Nat.add_zero, -Nat.zero_add, -Nat.reduceAdd, cn, nI_1, c7, c23] <;> rfl, lv_sub hl [2, 3, 1, 0] rfl⟩)

set_option maxHeartbeats 4000000 in
set_option maxRecDepth 100000 in
/-- whether a sign fits -/
theorem c_X5_fits (l : Launch) (D : va_G) (cI cZ cL : ClassId) (m0 : Nat) (m1 : Nat) (m2 : Nat) (m3 : Nat) (m4 : Nat) (m5 : Nat) (gs : Nat → Int32) (gp : Nat → Int32) (gl : Nat → Int32) (gk : Nat → Int32) (fx : Nat → Int32) (kn : Nat) (ln : Nat) (th : Int32) (hs : Int64) (i : Nat) (hi : i < 60) : Met l yX5_fits wsX5_fits ({ frames := 1, cells := 0, slots := 0, locals := 22 }) (va_Pc [.ref m0, .int (nI i)] (zW D cI cZ cL [(m0, .inr (4, [.ref m1, .ref m2, .int (nI kn), .ref m3, .ref m4, .ref m5, .int (nI ln), .int th, .long hs])), (m1, .inl (cI, 228, .inl gs)), (m2, .inl (cI, 684, .inl gp)), (m3, .inl (cI, 228, .inl gl)), (m4, .inl (cZ, 2, .inl gk)), (m5, .inl (cI, 60, .inl fx))])) (zQi (zb (pFt fx i))) 0 0 (fun _ => False) := by
  refine Met.ofW (cc := cX5_fits) (maxL := 3) (ret := (some .boolean)) (by decide) rfl ?_
  intro p e s m args below meth c s₁ B hml hv
  obtain ⟨rfl, hP, hK⟩ := hv
  have hx := B.exec
  have hb := B.bytes
  have hr := B.returns
  have hts := atoms_spec (ws := wsX5_fits) B.pre
  have hown : s.vm.findClass RX5 = some m.cls := findClass_of_methodNamed B.named
  have hlocks := B.notSynchronized
  have in4 : ∀ w ∈ u_ws RX5 TX5 9, w ∈ wsX5_fits := by decide +kernel
  have fl23 := hts (.fieldLink RX5 23 "TowerShadesModel" "text" "[I") (by decide +kernel)
  have hl := lv_entry ([.ref m0, .int (nI i)]) (n := 3) (Nat.le_of_ble_eq_true rfl)
  rw [lg_entry_eq]
  generalize (lg_sl ([.ref m0, .int (nI i)]) ++ List.replicate (3 - (lg_sl ([.ref m0, .int (nI i)])).length) Slot.unset).toArray = ls at hl ⊢
  have hl : lv_has ls 3 [(0, .ref m0), (1, .int (nI i))] := hl
  refine lv_aload_n hx hb dX5_fits_0 rfl (lv_at hl 0 rfl) ?_
  refine va_get (D := D) (ci := 4) (v := .ref m5) (C := RX5) (T := TX5) (N := 9) hx hb hts in4 hown hK hP 0 rfl rfl 5 (by decide) fl23 (fun _ h9 => h9) rfl dX5_fits_1 ?_
  refine lv_iload_n hx hb dX5_fits_4 rfl (lv_at hl 1 rfl) ?_
  refine z_iald hx hb hK hP 5 0 rfl rfl (k := i) (rfl) (by omega) (by decide) dX5_fits_5 ?_
  refine lv_istore_n (lv' := [(2, .int (fx i)), (0, .ref m0), (1, .int (nI i))]) hx hb dX5_fits_6 rfl hl (by decide) rfl (fun ls hl => ?_)
  refine lv_iload_n hx hb dX5_fits_7 rfl (lv_at hl 2 rfl) ?_
  refine lv_iconst (v := 5) hx hb dX5_fits_8 (by decide) ?_
  refine z_irem (v := nI (i % 5)) hx hb dX5_fits_9 (by decide) (pk_rem (a := i) (d := 5) (by omega) (by omega) (by omega)) ?_
  rcases (show i % 5 = 0 ∨ i % 5 = 1 ∨ i % 5 = 2 ∨ i % 5 = 3 ∨ i % 5 = 4 by omega) with h5 | h5 | h5 | h5 | h5
  · skip
    refine z_top (y := nI 0) (by rw [h5]) ?_
    refine lv_tableIn (off := 30) (tgt := 40) hx hb dX5_fits_10 (by decide) (by decide) rfl (by decide) ?_
    refine lv_iload_n hx hb dX5_fits_40 rfl (lv_at hl 0 rfl) ?_
    refine lv_bipush (v := 97) hx hb dX5_fits_41 (by decide) ?_
    refine lv_bipush (v := 102) hx hb dX5_fits_43 (by decide) ?_
    refine z_ci (va_runS (As := [.int (fx i), .int 97, .int 102]) (rest := []) ⟨hx, hb, hml, hown, hts⟩ (c_X5_in l (v := fx i) (lo := 97) (hg := 102)) (va_cwS 3 hts gX5_fits_X5_in rfl rfl rfl (by decide +kernel) ⟨Nat.le_of_ble_eq_true rfl, Nat.le_of_ble_eq_true rfl⟩) z_preS rfl rfl hl.1 rfl (lv_room (Nat.le_of_ble_eq_true rfl)) dX5_fits_45 ⟨Nat.le_of_ble_eq_true rfl, Nat.le_of_ble_eq_true rfl⟩) ?_
    exact z_zret hx hb hr hlocks dX5_fits_48 (by simp [pFt, h5])
  · skip
    refine z_top (y := nI 1) (by rw [h5]) ?_
    refine lv_tableIn (off := 39) (tgt := 49) hx hb dX5_fits_10 (by decide) (by decide) rfl (by decide) ?_
    refine lv_iload_n hx hb dX5_fits_49 rfl (lv_at hl 0 rfl) ?_
    refine lv_bipush (v := 49) hx hb dX5_fits_50 (by decide) ?_
    refine lv_bipush (v := 54) hx hb dX5_fits_52 (by decide) ?_
    refine z_ci (va_runS (As := [.int (fx i), .int 49, .int 54]) (rest := []) ⟨hx, hb, hml, hown, hts⟩ (c_X5_in l (v := fx i) (lo := 49) (hg := 54)) (va_cwS 3 hts gX5_fits_X5_in rfl rfl rfl (by decide +kernel) ⟨Nat.le_of_ble_eq_true rfl, Nat.le_of_ble_eq_true rfl⟩) z_preS rfl rfl hl.1 rfl (lv_room (Nat.le_of_ble_eq_true rfl)) dX5_fits_54 ⟨Nat.le_of_ble_eq_true rfl, Nat.le_of_ble_eq_true rfl⟩) ?_
    exact z_zret hx hb hr hlocks dX5_fits_57 (by simp [pFt, h5])
  · skip
    refine z_top (y := nI 2) (by rw [h5]) ?_
    refine lv_tableIn (off := 48) (tgt := 58) hx hb dX5_fits_10 (by decide) (by decide) rfl (by decide) ?_
    refine lv_iload_n hx hb dX5_fits_58 rfl (lv_at hl 0 rfl) ?_
    refine lv_bipush (v := 43) hx hb dX5_fits_59 (by decide) ?_
    refine z_icmp_eq (tgt := 76) (P := (fx i) = 43) hx hb dX5_fits_61 (by decide) (Iff.rfl) (fun c61 => ?_) (fun c61 => ?_)
    · skip
      refine lv_iconst (v := 1) hx hb dX5_fits_76 (by decide) ?_
      refine lv_goto (tgt := 81) hx hb dX5_fits_77 (by decide) ?_
      exact z_zret hx hb hr hlocks dX5_fits_81 (by simp [pFt, pLd, h5, zb, c61])
    · skip
      refine lv_iload_n hx hb dX5_fits_64 rfl (lv_at hl 0 rfl) ?_
      refine lv_bipush (v := 45) hx hb dX5_fits_65 (by decide) ?_
      refine z_icmp_eq (tgt := 76) (P := (fx i) = 45) hx hb dX5_fits_67 (by decide) (Iff.rfl) (fun c67 => ?_) (fun c67 => ?_)
      · skip
        refine lv_iconst (v := 1) hx hb dX5_fits_76 (by decide) ?_
        refine lv_goto (tgt := 81) hx hb dX5_fits_77 (by decide) ?_
        exact z_zret hx hb hr hlocks dX5_fits_81 (by simp [pFt, pLd, h5, zb, c61, c67])
      · skip
        refine lv_iload_n hx hb dX5_fits_70 rfl (lv_at hl 0 rfl) ?_
        refine lv_bipush (v := 61) hx hb dX5_fits_71 (by decide) ?_
        refine z_icmp_ne (tgt := 80) (P := (fx i) = 61) hx hb dX5_fits_73 (by decide) (Iff.rfl) (fun c73 => ?_) (fun c73 => ?_)
        · skip
          refine lv_iconst (v := 0) hx hb dX5_fits_80 (by decide) ?_
          exact z_zret hx hb hr hlocks dX5_fits_81 (by simp [pFt, pLd, h5, zb, c61, c67, c73])
        · skip
          refine lv_iconst (v := 1) hx hb dX5_fits_76 (by decide) ?_
          refine lv_goto (tgt := 81) hx hb dX5_fits_77 (by decide) ?_
          exact z_zret hx hb hr hlocks dX5_fits_81 (by simp [pFt, pLd, h5, zb, c61, c67, c73])
  · skip
    refine z_top (y := nI 3) (by rw [h5]) ?_
    refine lv_tableIn (off := 72) (tgt := 82) hx hb dX5_fits_10 (by decide) (by decide) rfl (by decide) ?_
    refine lv_iload_n hx hb dX5_fits_82 rfl (lv_at hl 0 rfl) ?_
    refine lv_aload_n hx hb dX5_fits_83 rfl (lv_at hl 1 rfl) ?_
    refine va_get (D := D) (ci := 4) (v := .ref m5) (C := RX5) (T := TX5) (N := 9) hx hb hts in4 hown hK hP 0 rfl rfl 5 (by decide) fl23 (fun _ h9 => h9) rfl dX5_fits_84 ?_
    refine lv_iload_n hx hb dX5_fits_87 rfl (lv_at hl 2 rfl) ?_
    refine lv_iconst (v := 1) hx hb dX5_fits_88 (by decide) ?_
    refine z_isub (v := nI (i - 1)) hx hb dX5_fits_89 (pk_sub (a := i) (b := 1) (by omega)) ?_
    refine z_iald hx hb hK hP 5 0 rfl rfl (k := (i - 1)) (rfl) (by omega) (by decide) dX5_fits_90 ?_
    refine lv_bipush (v := 61) hx hb dX5_fits_91 (by decide) ?_
    refine z_icmp_ne (tgt := 101) (P := (fx (i - 1)) = 61) hx hb dX5_fits_93 (by decide) (Iff.rfl) (fun c93 => ?_) (fun c93 => ?_)
    · skip
      refine lv_bipush (v := 49) hx hb dX5_fits_101 (by decide) ?_
      refine lv_bipush (v := 57) hx hb dX5_fits_103 (by decide) ?_
      refine z_ci (va_runS (As := [.int (fx i), .int 49, .int 57]) (rest := []) ⟨hx, hb, hml, hown, hts⟩ (c_X5_in l (v := fx i) (lo := 49) (hg := 57)) (va_cwS 3 hts gX5_fits_X5_in rfl rfl rfl (by decide +kernel) ⟨Nat.le_of_ble_eq_true rfl, Nat.le_of_ble_eq_true rfl⟩) z_preS rfl rfl hl.1 rfl (lv_room (Nat.le_of_ble_eq_true rfl)) dX5_fits_105 ⟨Nat.le_of_ble_eq_true rfl, Nat.le_of_ble_eq_true rfl⟩) ?_
      exact z_zret hx hb hr hlocks dX5_fits_108 (by simp [pFt, pLd, h5, zb, c93])
    · skip
      refine lv_bipush (v := 48) hx hb dX5_fits_96 (by decide) ?_
      refine lv_goto (tgt := 103) hx hb dX5_fits_98 (by decide) ?_
      refine lv_bipush (v := 57) hx hb dX5_fits_103 (by decide) ?_
      refine z_ci (va_runS (As := [.int (fx i), .int 48, .int 57]) (rest := []) ⟨hx, hb, hml, hown, hts⟩ (c_X5_in l (v := fx i) (lo := 48) (hg := 57)) (va_cwS 3 hts gX5_fits_X5_in rfl rfl rfl (by decide +kernel) ⟨Nat.le_of_ble_eq_true rfl, Nat.le_of_ble_eq_true rfl⟩) z_preS rfl rfl hl.1 rfl (lv_room (Nat.le_of_ble_eq_true rfl)) dX5_fits_105 ⟨Nat.le_of_ble_eq_true rfl, Nat.le_of_ble_eq_true rfl⟩) ?_
      exact z_zret hx hb hr hlocks dX5_fits_108 (by simp [pFt, pLd, h5, zb, c93])
  · skip
    refine z_top (y := nI 4) (by rw [h5]) ?_
    refine lv_tableOut (tgt := 109) hx hb dX5_fits_10 (by decide) (by decide) ?_
    refine lv_iload_n hx hb dX5_fits_109 rfl (lv_at hl 0 rfl) ?_
    refine lv_bipush (v := 59) hx hb dX5_fits_110 (by decide) ?_
    refine z_icmp_ne (tgt := 119) (P := (fx i) = 59) hx hb dX5_fits_112 (by decide) (Iff.rfl) (fun c112 => ?_) (fun c112 => ?_)
    · skip
      refine lv_iconst (v := 0) hx hb dX5_fits_119 (by decide) ?_
      exact z_zret hx hb hr hlocks dX5_fits_120 (by simp [pFt, pLd, h5, zb, c112])
    · skip
      refine lv_iconst (v := 1) hx hb dX5_fits_115 (by decide) ?_
      refine lv_goto (tgt := 120) hx hb dX5_fits_116 (by decide) ?_
      exact z_zret hx hb hr hlocks dX5_fits_120 (by simp [pFt, pLd, h5, zb, c112])

set_option maxHeartbeats 4000000 in
set_option maxRecDepth 100000 in
/-- the first error -/
theorem c_X5_errorAt (l : Launch) (D : va_G) (cI cZ cL : ClassId) (m0 : Nat) (m1 : Nat) (m2 : Nat) (m3 : Nat) (m4 : Nat) (m5 : Nat) (gs : Nat → Int32) (gp : Nat → Int32) (gl : Nat → Int32) (gk : Nat → Int32) (fx : Nat → Int32) (kn : Nat) (ln : Nat) (th : Int32) (hs : Int64) (hln : ln ≤ 60) : Met l yX5_errorAt wsX5_errorAt ({ frames := 2, cells := 0, slots := 0, locals := 44 }) (va_Pc [.ref m0] (zW D cI cZ cL [(m0, .inr (4, [.ref m1, .ref m2, .int (nI kn), .ref m3, .ref m4, .ref m5, .int (nI ln), .int th, .long hs])), (m1, .inl (cI, 228, .inl gs)), (m2, .inl (cI, 684, .inl gp)), (m3, .inl (cI, 228, .inl gl)), (m4, .inl (cZ, 2, .inl gk)), (m5, .inl (cI, 60, .inl fx))])) (zQi (nI (pEr fx ln))) 0 0 (fun _ => False) := by
  refine Met.ofW (cc := cX5_errorAt) (maxL := 2) (ret := (some .int)) (by decide) rfl ?_
  intro p e s m args below meth c s₁ B hml hv
  obtain ⟨rfl, hP, hK⟩ := hv
  have hx := B.exec
  have hb := B.bytes
  have hr := B.returns
  have hts := atoms_spec (ws := wsX5_errorAt) B.pre
  have hown : s.vm.findClass RX5 = some m.cls := findClass_of_methodNamed B.named
  have hlocks := B.notSynchronized
  have in4 : ∀ w ∈ u_ws RX5 TX5 9, w ∈ wsX5_errorAt := by decide +kernel
  have fl85 := hts (.fieldLink RX5 85 "TowerShadesModel" "length" "I") (by decide +kernel)
  have hl := lv_entry ([.ref m0]) (n := 2) (Nat.le_of_ble_eq_true rfl)
  rw [lg_entry_eq]
  generalize (lg_sl ([.ref m0]) ++ List.replicate (2 - (lg_sl ([.ref m0])).length) Slot.unset).toArray = ls at hl ⊢
  have hl : lv_has ls 2 [(0, .ref m0)] := hl
  refine lv_iconst (v := 0) hx hb dX5_errorAt_0 (by decide) ?_
  refine lv_istore_n (lv' := [(1, .int 0), (0, .ref m0)]) hx hb dX5_errorAt_1 rfl hl (by decide) rfl (fun ls hl => ?_)
  refine z_up (N := ln) (i0 := 0) (fun i ls => (fd (fun i => !pFt fx i) i = 0) ∧ lv_has ls 2 [(0, .ref m0), (1, .int (nI i))]) (by omega) (⟨rfl, lv_sub hl [1, 0] rfl⟩) (fun i ls hi2 hI ih2 => ?_)
  obtain ⟨hn, hl⟩ := hI
  refine lv_iload_n hx hb dX5_errorAt_2 rfl (lv_at hl 1 rfl) ?_
  refine lv_aload_n hx hb dX5_errorAt_3 rfl (lv_at hl 0 rfl) ?_
  refine va_get (D := D) (ci := 4) (v := .int (nI ln)) (C := RX5) (T := TX5) (N := 9) hx hb hts in4 hown hK hP 0 rfl rfl 6 (by decide) fl85 (fun _ h9 => h9) rfl dX5_errorAt_4 ?_
  refine z_icmp_ge (tgt := 26) (P := ln ≤ i) hx hb dX5_errorAt_7 (by decide) (nI_leI (a := ln) (b := i) (by omega) (by omega)) (fun c7 => ?_) (fun c7 => ?_)
  · skip
    refine lv_aload_n hx hb dX5_errorAt_26 rfl (lv_at hl 0 rfl) ?_
    refine va_get (D := D) (ci := 4) (v := .int (nI ln)) (C := RX5) (T := TX5) (N := 9) hx hb hts in4 hown hK hP 0 rfl rfl 6 (by decide) fl85 (fun _ h9 => h9) rfl dX5_errorAt_27 ?_
    exact z_iret hx hb hr hlocks dX5_errorAt_30 (by rw [pEr, show ln = i by omega, hn]; simp)
  · skip
    refine lv_aload_n hx hb dX5_errorAt_10 rfl (lv_at hl 0 rfl) ?_
    refine lv_iload_n hx hb dX5_errorAt_11 rfl (lv_at hl 1 rfl) ?_
    refine z_ci (va_runV (As := [.int (nI i)]) (rest := []) ⟨hx, hb, hml, hown, hts⟩ (c_X5_fits l D cI cZ cL (m0 := m0) (m1 := m1) (m2 := m2) (m3 := m3) (m4 := m4) (m5 := m5) (gs := gs) (gp := gp) (gl := gl) (gk := gk) (fx := fx) (kn := kn) (ln := ln) (th := th) (hs := hs) (i := i) (hi := by omega)) (cwV 1 hts gX5_errorAt_X5_fits rfl rfl rfl (by decide +kernel) ⟨Nat.le_of_ble_eq_true rfl, Nat.le_of_ble_eq_true rfl⟩) (z_preV hK (hP.sub [0, 1, 2, 3, 4, 5] rfl) 0 4 rfl rfl) rfl rfl hl.1 rfl (lv_room (Nat.le_of_ble_eq_true rfl)) dX5_errorAt_12 ⟨Nat.le_of_ble_eq_true rfl, Nat.le_of_ble_eq_true rfl⟩) ?_
    refine z_if_ne (tgt := 20) (P := (pFt fx i) = false) hx hb dX5_errorAt_15 (by decide) (zb_eq0) (fun c15 => ?_) (fun c15 => ?_)
    · skip
      refine lv_iinc (v := nI (i + 1)) (lv' := [(1, .int (nI (i + 1))), (0, .ref m0)]) hx hb dX5_errorAt_20 hl (k := 1) rfl (nI_1 (i)) (by decide) rfl (fun ls hl => ?_)
      refine lv_goto (tgt := 2) hx hb dX5_errorAt_23 (by decide) ?_
      exact ih2 (by omega) _ (⟨fd_none hn (by simpa using c15), lv_sub hl [1, 0] rfl⟩)
    · skip
      refine lv_iload_n hx hb dX5_errorAt_18 rfl (lv_at hl 1 rfl) ?_
      exact z_iret hx hb hr hlocks dX5_errorAt_19 (by rw [pEr, fd_hit (i := i) hn (by simpa using c15) (by omega)]; simp)

set_option maxHeartbeats 4000000 in
set_option maxRecDepth 100000 in
/-- something of a square -/
theorem c_X5_ofSquare (l : Launch) (D : va_G) (cI cZ cL : ClassId) (m0 : Nat) (m1 : Nat) (m2 : Nat) (m3 : Nat) (m4 : Nat) (m5 : Nat) (gs : Nat → Int32) (gp : Nat → Int32) (gl : Nat → Int32) (gk : Nat → Int32) (fx : Nat → Int32) (kn : Nat) (ln : Nat) (th : Int32) (hs : Int64) (q : Nat) (wh : Nat) (hz : Nat) (hq : q < 36) (hwh : wh < 8) (hhz : hz < 12) (hH : gs 108 = nI hz) : Met l yX5_ofSquare wsX5_ofSquare ({ frames := 6, cells := 0, slots := 0, locals := 143 }) (va_Pc [.ref m0, .int (nI q), .int (nI wh)] (zW D cI cZ cL [(m0, .inr (4, [.ref m1, .ref m2, .int (nI kn), .ref m3, .ref m4, .ref m5, .int (nI ln), .int th, .long hs])), (m1, .inl (cI, 228, .inl gs)), (m2, .inl (cI, 684, .inl gp)), (m3, .inl (cI, 228, .inl gl)), (m4, .inl (cZ, 2, .inl gk)), (m5, .inl (cI, 60, .inl fx))])) (zQi (pSqM gs hz q wh)) 0 0 (fun _ => False) := by
  refine Met.ofW (cc := cX5_ofSquare) (maxL := 3) (ret := (some .int)) (by decide) rfl ?_
  intro p e s m args below meth c s₁ B hml hv
  obtain ⟨rfl, hP, hK⟩ := hv
  have hx := B.exec
  have hb := B.bytes
  have hr := B.returns
  have hts := atoms_spec (ws := wsX5_ofSquare) B.pre
  have hown : s.vm.findClass RX5 = some m.cls := findClass_of_methodNamed B.named
  have hlocks := B.notSynchronized
  have in4 : ∀ w ∈ u_ws RX5 TX5 9, w ∈ wsX5_ofSquare := by decide +kernel
  have fl7 := hts (.fieldLink RX5 7 "TowerShadesModel" "s" "[I") (by decide +kernel)
  have hl := lv_entry ([.ref m0, .int (nI q), .int (nI wh)]) (n := 3) (Nat.le_of_ble_eq_true rfl)
  rw [lg_entry_eq]
  generalize (lg_sl ([.ref m0, .int (nI q), .int (nI wh)]) ++ List.replicate (3 - (lg_sl ([.ref m0, .int (nI q), .int (nI wh)])).length) Slot.unset).toArray = ls at hl ⊢
  have hl : lv_has ls 3 [(0, .ref m0), (1, .int (nI q)), (2, .int (nI wh))] := hl
  refine lv_iload_n hx hb dX5_ofSquare_0 rfl (lv_at hl 2 rfl) ?_
  rcases (show wh = 0 ∨ wh = 1 ∨ wh = 2 ∨ wh = 3 ∨ wh = 4 ∨ wh = 5 ∨ wh = 6 ∨ wh = 7 by omega) with rfl | rfl | rfl | rfl | rfl | rfl | rfl | rfl
  · skip
    refine lv_tableIn (off := 43) (tgt := 44) hx hb dX5_ofSquare_1 (by decide) (by decide) rfl (by decide) ?_
    refine lv_aload_n hx hb dX5_ofSquare_44 rfl (lv_at hl 0 rfl) ?_
    refine va_get (D := D) (ci := 4) (v := .ref m1) (C := RX5) (T := TX5) (N := 9) hx hb hts in4 hown hK hP 0 rfl rfl 0 (by decide) fl7 (fun _ h9 => h9) rfl dX5_ofSquare_45 ?_
    refine lv_iconst (v := 0) hx hb dX5_ofSquare_48 (by decide) ?_
    refine lv_iload_n hx hb dX5_ofSquare_49 rfl (lv_at hl 1 rfl) ?_
    refine z_iadd (v := nI (0 + q)) hx hb dX5_ofSquare_50 (nI_add (0) (q)) ?_
    refine z_iald hx hb hK hP 1 0 rfl rfl (k := (0 + q)) (rfl) (by omega) (by decide) dX5_ofSquare_51 ?_
    exact z_iret hx hb hr hlocks dX5_ofSquare_52 (by first | rfl | (simp [-Nat.add_zero, -Nat.zero_add, -Nat.reduceAdd, pSqM, zb, ]))
  · skip
    refine lv_tableIn (off := 52) (tgt := 53) hx hb dX5_ofSquare_1 (by decide) (by decide) rfl (by decide) ?_
    refine lv_aload_n hx hb dX5_ofSquare_53 rfl (lv_at hl 0 rfl) ?_
    refine va_get (D := D) (ci := 4) (v := .ref m1) (C := RX5) (T := TX5) (N := 9) hx hb hts in4 hown hK hP 0 rfl rfl 0 (by decide) fl7 (fun _ h9 => h9) rfl dX5_ofSquare_54 ?_
    refine lv_bipush (v := 36) hx hb dX5_ofSquare_57 (by decide) ?_
    refine lv_iload_n hx hb dX5_ofSquare_59 rfl (lv_at hl 1 rfl) ?_
    refine z_iadd (v := nI (36 + q)) hx hb dX5_ofSquare_60 (nI_add (36) (q)) ?_
    refine z_iald hx hb hK hP 1 0 rfl rfl (k := (36 + q)) (rfl) (by omega) (by decide) dX5_ofSquare_61 ?_
    refine lv_iconst (v := 1) hx hb dX5_ofSquare_62 (by decide) ?_
    refine z_isub (v := ((gs (36 + q)) - 1)) hx hb dX5_ofSquare_63 (rfl) ?_
    exact z_iret hx hb hr hlocks dX5_ofSquare_64 (by first | rfl | (simp [-Nat.add_zero, -Nat.zero_add, -Nat.reduceAdd, pSqM, zb, ]))
  · skip
    refine lv_tableIn (off := 64) (tgt := 65) hx hb dX5_ofSquare_1 (by decide) (by decide) rfl (by decide) ?_
    refine lv_aload_n hx hb dX5_ofSquare_65 rfl (lv_at hl 0 rfl) ?_
    refine va_get (D := D) (ci := 4) (v := .ref m1) (C := RX5) (T := TX5) (N := 9) hx hb hts in4 hown hK hP 0 rfl rfl 0 (by decide) fl7 (fun _ h9 => h9) rfl dX5_ofSquare_66 ?_
    refine lv_bipush (v := 72) hx hb dX5_ofSquare_69 (by decide) ?_
    refine lv_iload_n hx hb dX5_ofSquare_71 rfl (lv_at hl 1 rfl) ?_
    refine z_iadd (v := nI (72 + q)) hx hb dX5_ofSquare_72 (nI_add (72) (q)) ?_
    refine z_iald hx hb hK hP 1 0 rfl rfl (k := (72 + q)) (rfl) (by omega) (by decide) dX5_ofSquare_73 ?_
    exact z_iret hx hb hr hlocks dX5_ofSquare_74 (by first | rfl | (simp [-Nat.add_zero, -Nat.zero_add, -Nat.reduceAdd, pSqM, zb, ]))
  · skip
    refine lv_tableIn (off := 74) (tgt := 75) hx hb dX5_ofSquare_1 (by decide) (by decide) rfl (by decide) ?_
    refine lv_aload_n hx hb dX5_ofSquare_75 rfl (lv_at hl 0 rfl) ?_
    refine lv_iconst (v := 0) hx hb dX5_ofSquare_76 (by decide) ?_
    refine lv_iload_n hx hb dX5_ofSquare_77 rfl (lv_at hl 1 rfl) ?_
    refine lv_aload_n hx hb dX5_ofSquare_78 rfl (lv_at hl 0 rfl) ?_
    refine va_get (D := D) (ci := 4) (v := .ref m1) (C := RX5) (T := TX5) (N := 9) hx hb hts in4 hown hK hP 0 rfl rfl 0 (by decide) fl7 (fun _ h9 => h9) rfl dX5_ofSquare_79 ?_
    refine lv_bipush (v := 108) hx hb dX5_ofSquare_82 (by decide) ?_
    refine z_iald hx hb hK hP 1 0 rfl rfl (k := 108) (rfl) (by omega) (by decide) dX5_ofSquare_84 ?_
    refine z_top (y := nI hz) hH ?_
    refine z_ci (va_runV (As := [.int 0, .int (nI q), .int (nI hz)]) (rest := []) ⟨hx, hb, hml, hown, hts⟩ (c_X5_isDark l D cI cZ cL (m0 := m0) (m1 := m1) (m2 := m2) (m3 := m3) (m4 := m4) (m5 := m5) (gs := gs) (gp := gp) (gl := gl) (gk := gk) (fx := fx) (kn := kn) (ln := ln) (th := th) (hs := hs) (P := 0) (q := q) (hz := hz) (hpp := by omega) (hq := by omega) (hhz := by omega)) (cwV 3 hts gX5_ofSquare_X5_isDark rfl rfl rfl (by decide +kernel) ⟨Nat.le_of_ble_eq_true rfl, Nat.le_of_ble_eq_true rfl⟩) (z_preV hK (hP.sub [0, 1, 2, 3, 4, 5] rfl) 0 4 rfl rfl) rfl rfl hl.1 rfl (lv_room (Nat.le_of_ble_eq_true rfl)) dX5_ofSquare_85 ⟨Nat.le_of_ble_eq_true rfl, Nat.le_of_ble_eq_true rfl⟩) ?_
    refine z_if_eq (tgt := 95) (P := (pDk (fun k => gs (0 + 0 + k)) q hz) = false) hx hb dX5_ofSquare_88 (by decide) (zb_eq0) (fun c88 => ?_) (fun c88 => ?_)
    · skip
      refine lv_iconst (v := 0) hx hb dX5_ofSquare_95 (by decide) ?_
      exact z_iret hx hb hr hlocks dX5_ofSquare_96 (by first | rfl | (simp [-Nat.add_zero, -Nat.zero_add, -Nat.reduceAdd, pSqM, zb, c88]))
    · skip
      refine lv_iconst (v := 1) hx hb dX5_ofSquare_91 (by decide) ?_
      refine lv_goto (tgt := 96) hx hb dX5_ofSquare_92 (by decide) ?_
      exact z_iret hx hb hr hlocks dX5_ofSquare_96 (by first | rfl | (simp [-Nat.add_zero, -Nat.zero_add, -Nat.reduceAdd, pSqM, zb, c88]))
  · skip
    refine lv_tableIn (off := 96) (tgt := 97) hx hb dX5_ofSquare_1 (by decide) (by decide) rfl (by decide) ?_
    refine lv_aload_n hx hb dX5_ofSquare_97 rfl (lv_at hl 0 rfl) ?_
    refine lv_iload_n hx hb dX5_ofSquare_98 rfl (lv_at hl 1 rfl) ?_
    refine lv_aload_n hx hb dX5_ofSquare_99 rfl (lv_at hl 0 rfl) ?_
    refine va_get (D := D) (ci := 4) (v := .ref m1) (C := RX5) (T := TX5) (N := 9) hx hb hts in4 hown hK hP 0 rfl rfl 0 (by decide) fl7 (fun _ h9 => h9) rfl dX5_ofSquare_100 ?_
    refine lv_bipush (v := 108) hx hb dX5_ofSquare_103 (by decide) ?_
    refine z_iald hx hb hK hP 1 0 rfl rfl (k := 108) (rfl) (by omega) (by decide) dX5_ofSquare_105 ?_
    refine z_top (y := nI hz) hH ?_
    refine z_ci (va_runV (As := [.int (nI q), .int (nI hz)]) (rest := []) ⟨hx, hb, hml, hown, hts⟩ (c_X5_isSwept l D cI cZ cL (m0 := m0) (m1 := m1) (m2 := m2) (m3 := m3) (m4 := m4) (m5 := m5) (gs := gs) (gp := gp) (gl := gl) (gk := gk) (fx := fx) (kn := kn) (ln := ln) (th := th) (hs := hs) (q := q) (hz := hz) (hq := by omega) (hhz := by omega)) (cwV 2 hts gX5_ofSquare_X5_isSwept rfl rfl rfl (by decide +kernel) ⟨Nat.le_of_ble_eq_true rfl, Nat.le_of_ble_eq_true rfl⟩) (z_preV hK (hP.sub [0, 1, 2, 3, 4, 5] rfl) 0 4 rfl rfl) rfl rfl hl.1 rfl (lv_room (Nat.le_of_ble_eq_true rfl)) dX5_ofSquare_106 ⟨Nat.le_of_ble_eq_true rfl, Nat.le_of_ble_eq_true rfl⟩) ?_
    refine z_if_eq (tgt := 116) (P := (pDs (fun k => gs (0 + k)) q hz) = false) hx hb dX5_ofSquare_109 (by decide) (zb_eq0) (fun c109 => ?_) (fun c109 => ?_)
    · skip
      refine lv_iconst (v := 0) hx hb dX5_ofSquare_116 (by decide) ?_
      exact z_iret hx hb hr hlocks dX5_ofSquare_117 (by first | rfl | (simp [-Nat.add_zero, -Nat.zero_add, -Nat.reduceAdd, pSqM, zb, c109]))
    · skip
      refine lv_iconst (v := 1) hx hb dX5_ofSquare_112 (by decide) ?_
      refine lv_goto (tgt := 117) hx hb dX5_ofSquare_113 (by decide) ?_
      exact z_iret hx hb hr hlocks dX5_ofSquare_117 (by first | rfl | (simp [-Nat.add_zero, -Nat.zero_add, -Nat.reduceAdd, pSqM, zb, c109]))
  · skip
    refine lv_tableIn (off := 117) (tgt := 118) hx hb dX5_ofSquare_1 (by decide) (by decide) rfl (by decide) ?_
    refine lv_aload_n hx hb dX5_ofSquare_118 rfl (lv_at hl 0 rfl) ?_
    refine lv_iconst (v := 0) hx hb dX5_ofSquare_119 (by decide) ?_
    refine lv_iload_n hx hb dX5_ofSquare_120 rfl (lv_at hl 1 rfl) ?_
    refine lv_aload_n hx hb dX5_ofSquare_121 rfl (lv_at hl 0 rfl) ?_
    refine va_get (D := D) (ci := 4) (v := .ref m1) (C := RX5) (T := TX5) (N := 9) hx hb hts in4 hown hK hP 0 rfl rfl 0 (by decide) fl7 (fun _ h9 => h9) rfl dX5_ofSquare_122 ?_
    refine lv_bipush (v := 108) hx hb dX5_ofSquare_125 (by decide) ?_
    refine z_iald hx hb hK hP 1 0 rfl rfl (k := 108) (rfl) (by omega) (by decide) dX5_ofSquare_127 ?_
    refine z_top (y := nI hz) hH ?_
    refine z_ci (va_runV (As := [.int 0, .int (nI q), .int (nI hz)]) (rest := []) ⟨hx, hb, hml, hown, hts⟩ (c_X5_shadersOf l D cI cZ cL (m0 := m0) (m1 := m1) (m2 := m2) (m3 := m3) (m4 := m4) (m5 := m5) (gs := gs) (gp := gp) (gl := gl) (gk := gk) (fx := fx) (kn := kn) (ln := ln) (th := th) (hs := hs) (P := 0) (q := q) (hz := hz) (hpp := by omega) (hq := by omega) (hhz := by omega)) (cwV 3 hts gX5_ofSquare_X5_shadersOf rfl rfl rfl (by decide +kernel) ⟨Nat.le_of_ble_eq_true rfl, Nat.le_of_ble_eq_true rfl⟩) (z_preV hK (hP.sub [0, 1, 2, 3, 4, 5] rfl) 0 4 rfl rfl) rfl rfl hl.1 rfl (lv_room (Nat.le_of_ble_eq_true rfl)) dX5_ofSquare_128 ⟨Nat.le_of_ble_eq_true rfl, Nat.le_of_ble_eq_true rfl⟩) ?_
    exact z_iret hx hb hr hlocks dX5_ofSquare_131 (by first | rfl | (simp [-Nat.add_zero, -Nat.zero_add, -Nat.reduceAdd, pSqM, zb, ]))
  · skip
    refine lv_tableIn (off := 131) (tgt := 132) hx hb dX5_ofSquare_1 (by decide) (by decide) rfl (by decide) ?_
    refine lv_aload_n hx hb dX5_ofSquare_132 rfl (lv_at hl 0 rfl) ?_
    refine lv_iload_n hx hb dX5_ofSquare_133 rfl (lv_at hl 1 rfl) ?_
    refine z_ci (va_runV (As := [.int (nI q)]) (rest := []) ⟨hx, hb, hml, hown, hts⟩ (c_X5_shadedBy l D cI cZ cL (m0 := m0) (m1 := m1) (m2 := m2) (m3 := m3) (m4 := m4) (m5 := m5) (gs := gs) (gp := gp) (gl := gl) (gk := gk) (fx := fx) (kn := kn) (ln := ln) (th := th) (hs := hs) (q := q) (hz := hz) (hq := by omega) (hhz := by omega) (hH := hH)) (cwV 1 hts gX5_ofSquare_X5_shadedBy rfl rfl rfl (by decide +kernel) ⟨Nat.le_of_ble_eq_true rfl, Nat.le_of_ble_eq_true rfl⟩) (z_preV hK (hP.sub [0, 1, 2, 3, 4, 5] rfl) 0 4 rfl rfl) rfl rfl hl.1 rfl (lv_room (Nat.le_of_ble_eq_true rfl)) dX5_ofSquare_134 ⟨Nat.le_of_ble_eq_true rfl, Nat.le_of_ble_eq_true rfl⟩) ?_
    exact z_iret hx hb hr hlocks dX5_ofSquare_137 (by first | rfl | (simp [-Nat.add_zero, -Nat.zero_add, -Nat.reduceAdd, pSqM, zb, ]))
  · skip
    refine lv_tableOut (tgt := 138) hx hb dX5_ofSquare_1 (by decide) (by decide) ?_
    refine lv_aload_n hx hb dX5_ofSquare_138 rfl (lv_at hl 0 rfl) ?_
    refine lv_iload_n hx hb dX5_ofSquare_139 rfl (lv_at hl 1 rfl) ?_
    refine z_ci (va_runV (As := [.int (nI q)]) (rest := []) ⟨hx, hb, hml, hown, hts⟩ (c_X5_darkHours l D cI cZ cL (m0 := m0) (m1 := m1) (m2 := m2) (m3 := m3) (m4 := m4) (m5 := m5) (gs := gs) (gp := gp) (gl := gl) (gk := gk) (fx := fx) (kn := kn) (ln := ln) (th := th) (hs := hs) (q := q) (hq := by omega)) (cwV 1 hts gX5_ofSquare_X5_darkHours rfl rfl rfl (by decide +kernel) ⟨Nat.le_of_ble_eq_true rfl, Nat.le_of_ble_eq_true rfl⟩) (z_preV hK (hP.sub [0, 1, 2, 3, 4, 5] rfl) 0 4 rfl rfl) rfl rfl hl.1 rfl (lv_room (Nat.le_of_ble_eq_true rfl)) dX5_ofSquare_140 ⟨Nat.le_of_ble_eq_true rfl, Nat.le_of_ble_eq_true rfl⟩) ?_
    exact z_iret hx hb hr hlocks dX5_ofSquare_143 (by first | rfl | (simp [-Nat.add_zero, -Nat.zero_add, -Nat.reduceAdd, pSqM, zb, ]))

set_option maxHeartbeats 4000000 in
set_option maxRecDepth 100000 in
/-- whether a player's tower shades it -/
theorem c_X5_isShadedBy (l : Launch) (D : va_G) (cI cZ cL : ClassId) (m0 : Nat) (m1 : Nat) (m2 : Nat) (m3 : Nat) (m4 : Nat) (m5 : Nat) (gs : Nat → Int32) (gp : Nat → Int32) (gl : Nat → Int32) (gk : Nat → Int32) (fx : Nat → Int32) (kn : Nat) (ln : Nat) (th : Int32) (hs : Int64) (q : Nat) (pl : Nat) (hz : Nat) (hq : q < 36) (hpl : pl < 2) (hhz : hz < 12) (hH : gs 108 = nI hz) : Met l yX5_isShadedBy wsX5_isShadedBy ({ frames := 3, cells := 0, slots := 0, locals := 72 }) (va_Pc [.ref m0, .int (nI q), .int (nI pl)] (zW D cI cZ cL [(m0, .inr (4, [.ref m1, .ref m2, .int (nI kn), .ref m3, .ref m4, .ref m5, .int (nI ln), .int th, .long hs])), (m1, .inl (cI, 228, .inl gs)), (m2, .inl (cI, 684, .inl gp)), (m3, .inl (cI, 228, .inl gl)), (m4, .inl (cZ, 2, .inl gk)), (m5, .inl (cI, 60, .inl fx))])) (zQi (zb (pIS gs hz pl q))) 0 0 (fun _ => False) := by
  refine Met.ofW (cc := cX5_isShadedBy) (maxL := 5) (ret := (some .boolean)) (by decide) rfl ?_
  intro p e s m args below meth c s₁ B hml hv
  obtain ⟨rfl, hP, hK⟩ := hv
  have hx := B.exec
  have hb := B.bytes
  have hr := B.returns
  have hts := atoms_spec (ws := wsX5_isShadedBy) B.pre
  have hown : s.vm.findClass RX5 = some m.cls := findClass_of_methodNamed B.named
  have hlocks := B.notSynchronized
  have in4 : ∀ w ∈ u_ws RX5 TX5 9, w ∈ wsX5_isShadedBy := by decide +kernel
  have fl7 := hts (.fieldLink RX5 7 "TowerShadesModel" "s" "[I") (by decide +kernel)
  have hl := lv_entry ([.ref m0, .int (nI q), .int (nI pl)]) (n := 5) (Nat.le_of_ble_eq_true rfl)
  rw [lg_entry_eq]
  generalize (lg_sl ([.ref m0, .int (nI q), .int (nI pl)]) ++ List.replicate (5 - (lg_sl ([.ref m0, .int (nI q), .int (nI pl)])).length) Slot.unset).toArray = ls at hl ⊢
  have hl : lv_has ls 5 [(0, .ref m0), (1, .int (nI q)), (2, .int (nI pl))] := hl
  refine lv_iconst (v := 0) hx hb dX5_isShadedBy_0 (by decide) ?_
  refine lv_istore_n (lv' := [(3, .int 0), (0, .ref m0), (1, .int (nI q)), (2, .int (nI pl))]) hx hb dX5_isShadedBy_1 rfl hl (by decide) rfl (fun ls hl => ?_)
  refine lv_iconst (v := 0) hx hb dX5_isShadedBy_2 (by decide) ?_
  refine lv_istore (lv' := [(4, .int 0), (3, .int 0), (0, .ref m0), (1, .int (nI q)), (2, .int (nI pl))]) hx hb dX5_isShadedBy_3 hl (by decide) rfl (fun ls hl => ?_)
  refine z_up (N := 36) (i0 := 0) (fun i ls => lv_has ls 5 [(0, .ref m0), (1, .int (nI q)), (2, .int (nI pl)), (3, .int (zb (an (pISf gs hz pl q) i))), (4, .int (nI i))]) (by omega) (lv_sub hl [2, 3, 4, 1, 0] rfl) (fun i ls hi5 hI ih5 => ?_)
  have hl : lv_has ls 5 [(0, .ref m0), (1, .int (nI q)), (2, .int (nI pl)), (3, .int (zb (an (pISf gs hz pl q) i))), (4, .int (nI i))] := hI
  refine lv_iload hx hb dX5_isShadedBy_5 (lv_at hl 4 rfl) ?_
  refine lv_bipush (v := 36) hx hb dX5_isShadedBy_7 (by decide) ?_
  refine z_icmp_ge (tgt := 62) (P := 36 ≤ i) hx hb dX5_isShadedBy_9 (by decide) (nI_leI (a := 36) (b := i) (by omega) (by omega)) (fun c9 => ?_) (fun c9 => ?_)
  · skip
    refine lv_iload_n hx hb dX5_isShadedBy_62 rfl (lv_at hl 3 rfl) ?_
    exact z_zret hx hb hr hlocks dX5_isShadedBy_63 (by rw [pIS, show i = 36 by omega])
  · skip
    refine lv_iload_n hx hb dX5_isShadedBy_12 rfl (lv_at hl 3 rfl) ?_
    refine z_if_ne (tgt := 50) (P := (an (pISf gs hz pl q) i) = false) hx hb dX5_isShadedBy_13 (by decide) (zb_eq0) (fun c13 => ?_) (fun c13 => ?_)
    · skip
      refine lv_iconst (v := 1) hx hb dX5_isShadedBy_50 (by decide) ?_
      refine lv_goto (tgt := 55) hx hb dX5_isShadedBy_51 (by decide) ?_
      refine z_top (y := zb (an (pISf gs hz pl q) (i + 1))) (by simp [-Nat.add_zero, -Nat.zero_add, -Nat.reduceAdd, an, pISf, zb, c9, c13]) ?_
      refine lv_istore_n (lv' := [(3, .int (zb (an (pISf gs hz pl q) (i + 1)))), (0, .ref m0), (1, .int (nI q)), (2, .int (nI pl)), (4, .int (nI i))]) hx hb dX5_isShadedBy_55 rfl hl (by decide) rfl (fun ls hl => ?_)
      refine lv_iinc (v := nI (i + 1)) (lv' := [(4, .int (nI (i + 1))), (3, .int (zb (an (pISf gs hz pl q) (i + 1)))), (0, .ref m0), (1, .int (nI q)), (2, .int (nI pl))]) hx hb dX5_isShadedBy_56 hl (k := 4) rfl (nI_1 (i)) (by decide) rfl (fun ls hl => ?_)
      refine lv_goto (tgt := 5) hx hb dX5_isShadedBy_59 (by decide) ?_
      exact ih5 (by omega) _ (lv_sub hl [2, 3, 4, 1, 0] rfl)
    · skip
      refine lv_aload_n hx hb dX5_isShadedBy_16 rfl (lv_at hl 0 rfl) ?_
      refine va_get (D := D) (ci := 4) (v := .ref m1) (C := RX5) (T := TX5) (N := 9) hx hb hts in4 hown hK hP 0 rfl rfl 0 (by decide) fl7 (fun _ h9 => h9) rfl dX5_isShadedBy_17 ?_
      refine lv_bipush (v := 36) hx hb dX5_isShadedBy_20 (by decide) ?_
      refine lv_iload hx hb dX5_isShadedBy_22 (lv_at hl 4 rfl) ?_
      refine z_iadd (v := nI (36 + i)) hx hb dX5_isShadedBy_24 (nI_add (36) (i)) ?_
      refine z_iald hx hb hK hP 1 0 rfl rfl (k := (36 + i)) (rfl) (by omega) (by decide) dX5_isShadedBy_25 ?_
      refine lv_iload_n hx hb dX5_isShadedBy_26 rfl (lv_at hl 2 rfl) ?_
      refine lv_iconst (v := 1) hx hb dX5_isShadedBy_27 (by decide) ?_
      refine z_iadd (v := nI (pl + 1)) hx hb dX5_isShadedBy_28 (nI_add (pl) (1)) ?_
      refine z_icmp_ne (tgt := 54) (P := (gs (36 + i)) = (nI (pl + 1))) hx hb dX5_isShadedBy_29 (by decide) (Iff.rfl) (fun c29 => ?_) (fun c29 => ?_)
      · skip
        refine lv_iconst (v := 0) hx hb dX5_isShadedBy_54 (by decide) ?_
        refine z_top (y := zb (an (pISf gs hz pl q) (i + 1))) (by simp [-Nat.add_zero, -Nat.zero_add, -Nat.reduceAdd, an, pISf, zb, c9, c13, c29]) ?_
        refine lv_istore_n (lv' := [(3, .int (zb (an (pISf gs hz pl q) (i + 1)))), (0, .ref m0), (1, .int (nI q)), (2, .int (nI pl)), (4, .int (nI i))]) hx hb dX5_isShadedBy_55 rfl hl (by decide) rfl (fun ls hl => ?_)
        refine lv_iinc (v := nI (i + 1)) (lv' := [(4, .int (nI (i + 1))), (3, .int (zb (an (pISf gs hz pl q) (i + 1)))), (0, .ref m0), (1, .int (nI q)), (2, .int (nI pl))]) hx hb dX5_isShadedBy_56 hl (k := 4) rfl (nI_1 (i)) (by decide) rfl (fun ls hl => ?_)
        refine lv_goto (tgt := 5) hx hb dX5_isShadedBy_59 (by decide) ?_
        exact ih5 (by omega) _ (lv_sub hl [2, 3, 4, 1, 0] rfl)
      · skip
        refine lv_aload_n hx hb dX5_isShadedBy_32 rfl (lv_at hl 0 rfl) ?_
        refine lv_iconst (v := 0) hx hb dX5_isShadedBy_33 (by decide) ?_
        refine lv_iload hx hb dX5_isShadedBy_34 (lv_at hl 4 rfl) ?_
        refine lv_iload_n hx hb dX5_isShadedBy_36 rfl (lv_at hl 1 rfl) ?_
        refine lv_aload_n hx hb dX5_isShadedBy_37 rfl (lv_at hl 0 rfl) ?_
        refine va_get (D := D) (ci := 4) (v := .ref m1) (C := RX5) (T := TX5) (N := 9) hx hb hts in4 hown hK hP 0 rfl rfl 0 (by decide) fl7 (fun _ h9 => h9) rfl dX5_isShadedBy_38 ?_
        refine lv_bipush (v := 108) hx hb dX5_isShadedBy_41 (by decide) ?_
        refine z_iald hx hb hK hP 1 0 rfl rfl (k := 108) (rfl) (by omega) (by decide) dX5_isShadedBy_43 ?_
        refine z_top (y := nI hz) hH ?_
        refine z_ci (va_runV (As := [.int 0, .int (nI i), .int (nI q), .int (nI hz)]) (rest := []) ⟨hx, hb, hml, hown, hts⟩ (c_X5_shades l D cI cZ cL (m0 := m0) (m1 := m1) (m2 := m2) (m3 := m3) (m4 := m4) (m5 := m5) (gs := gs) (gp := gp) (gl := gl) (gk := gk) (fx := fx) (kn := kn) (ln := ln) (th := th) (hs := hs) (P := 0) (f := i) (q := q) (hz := hz) (hpp := by omega) (hf := by omega) (hq := by omega) (hhz := by omega)) (cwV 4 hts gX5_isShadedBy_X5_shades rfl rfl rfl (by decide +kernel) ⟨Nat.le_of_ble_eq_true rfl, Nat.le_of_ble_eq_true rfl⟩) (z_preV hK (hP.sub [0, 1, 2, 3, 4, 5] rfl) 0 4 rfl rfl) rfl rfl hl.1 rfl (lv_room (Nat.le_of_ble_eq_true rfl)) dX5_isShadedBy_44 ⟨Nat.le_of_ble_eq_true rfl, Nat.le_of_ble_eq_true rfl⟩) ?_
        refine z_if_eq (tgt := 54) (P := (pShM gs 0 i q hz) = false) hx hb dX5_isShadedBy_47 (by decide) (zb_eq0) (fun c47 => ?_) (fun c47 => ?_)
        · skip
          refine lv_iconst (v := 0) hx hb dX5_isShadedBy_54 (by decide) ?_
          refine z_top (y := zb (an (pISf gs hz pl q) (i + 1))) (by simp [-Nat.add_zero, -Nat.zero_add, -Nat.reduceAdd, an, pISf, zb, c9, c13, c29, c47]) ?_
          refine lv_istore_n (lv' := [(3, .int (zb (an (pISf gs hz pl q) (i + 1)))), (0, .ref m0), (1, .int (nI q)), (2, .int (nI pl)), (4, .int (nI i))]) hx hb dX5_isShadedBy_55 rfl hl (by decide) rfl (fun ls hl => ?_)
          refine lv_iinc (v := nI (i + 1)) (lv' := [(4, .int (nI (i + 1))), (3, .int (zb (an (pISf gs hz pl q) (i + 1)))), (0, .ref m0), (1, .int (nI q)), (2, .int (nI pl))]) hx hb dX5_isShadedBy_56 hl (k := 4) rfl (nI_1 (i)) (by decide) rfl (fun ls hl => ?_)
          refine lv_goto (tgt := 5) hx hb dX5_isShadedBy_59 (by decide) ?_
          exact ih5 (by omega) _ (lv_sub hl [2, 3, 4, 1, 0] rfl)
        · skip
          refine lv_iconst (v := 1) hx hb dX5_isShadedBy_50 (by decide) ?_
          refine lv_goto (tgt := 55) hx hb dX5_isShadedBy_51 (by decide) ?_
          refine z_top (y := zb (an (pISf gs hz pl q) (i + 1))) (by simp [-Nat.add_zero, -Nat.zero_add, -Nat.reduceAdd, an, pISf, zb, c9, c13, c29, c47]) ?_
          refine lv_istore_n (lv' := [(3, .int (zb (an (pISf gs hz pl q) (i + 1)))), (0, .ref m0), (1, .int (nI q)), (2, .int (nI pl)), (4, .int (nI i))]) hx hb dX5_isShadedBy_55 rfl hl (by decide) rfl (fun ls hl => ?_)
          refine lv_iinc (v := nI (i + 1)) (lv' := [(4, .int (nI (i + 1))), (3, .int (zb (an (pISf gs hz pl q) (i + 1)))), (0, .ref m0), (1, .int (nI q)), (2, .int (nI pl))]) hx hb dX5_isShadedBy_56 hl (k := 4) rfl (nI_1 (i)) (by decide) rfl (fun ls hl => ?_)
          refine lv_goto (tgt := 5) hx hb dX5_isShadedBy_59 (by decide) ?_
          exact ih5 (by omega) _ (lv_sub hl [2, 3, 4, 1, 0] rfl)

set_option maxHeartbeats 4000000 in
set_option maxRecDepth 100000 in
/-- of a player's towers -/
theorem c_X5_ofTowers (l : Launch) (D : va_G) (cI cZ cL : ClassId) (m0 : Nat) (m1 : Nat) (m2 : Nat) (m3 : Nat) (m4 : Nat) (m5 : Nat) (gs : Nat → Int32) (gp : Nat → Int32) (gl : Nat → Int32) (gk : Nat → Int32) (fx : Nat → Int32) (kn : Nat) (ln : Nat) (th : Int32) (hs : Int64) (pl : Nat) (wh : Nat) (hz : Nat) (hpl : pl < 2) (hwh : wh = 2 ∨ wh = 3 ∨ wh = 5) (hhz : hz < 12) (hH : gs 108 = nI hz) : Met l yX5_ofTowers wsX5_ofTowers ({ frames := 5, cells := 0, slots := 0, locals := 120 }) (va_Pc [.ref m0, .int (nI pl), .int (nI wh)] (zW D cI cZ cL [(m0, .inr (4, [.ref m1, .ref m2, .int (nI kn), .ref m3, .ref m4, .ref m5, .int (nI ln), .int th, .long hs])), (m1, .inl (cI, 228, .inl gs)), (m2, .inl (cI, 684, .inl gp)), (m3, .inl (cI, 228, .inl gl)), (m4, .inl (cZ, 2, .inl gk)), (m5, .inl (cI, 60, .inl fx))])) (zQi (sm (pOTf gs hz pl wh) 36)) 0 0 (fun _ => False) := by
  refine Met.ofW (cc := cX5_ofTowers) (maxL := 7) (ret := (some .int)) (by decide) rfl ?_
  intro p e s m args below meth c s₁ B hml hv
  obtain ⟨rfl, hP, hK⟩ := hv
  have hx := B.exec
  have hb := B.bytes
  have hr := B.returns
  have hts := atoms_spec (ws := wsX5_ofTowers) B.pre
  have hown : s.vm.findClass RX5 = some m.cls := findClass_of_methodNamed B.named
  have hlocks := B.notSynchronized
  have in4 : ∀ w ∈ u_ws RX5 TX5 9, w ∈ wsX5_ofTowers := by decide +kernel
  have fl7 := hts (.fieldLink RX5 7 "TowerShadesModel" "s" "[I") (by decide +kernel)
  have hl := lv_entry ([.ref m0, .int (nI pl), .int (nI wh)]) (n := 7) (Nat.le_of_ble_eq_true rfl)
  rw [lg_entry_eq]
  generalize (lg_sl ([.ref m0, .int (nI pl), .int (nI wh)]) ++ List.replicate (7 - (lg_sl ([.ref m0, .int (nI pl), .int (nI wh)])).length) Slot.unset).toArray = ls at hl ⊢
  have hl : lv_has ls 7 [(0, .ref m0), (1, .int (nI pl)), (2, .int (nI wh))] := hl
  have hne : ¬ nI (2 - pl) = nI (pl + 1) := by rw [nI_eq (by omega) (by omega)]; omega
  have hne2 : ¬ nI (pl + 1) = nI (2 - pl) := fun e => hne e.symm
  rcases (show wh = 2 ∨ wh = 3 ∨ wh = 5 by omega) with rfl | rfl | rfl
  · skip
    refine lv_iconst (v := 0) hx hb dX5_ofTowers_0 (by decide) ?_
    refine lv_istore_n (lv' := [(3, .int 0), (0, .ref m0), (1, .int (nI pl)), (2, .int (nI 2))]) hx hb dX5_ofTowers_1 rfl hl (by decide) rfl (fun ls hl => ?_)
    refine lv_iconst (v := 0) hx hb dX5_ofTowers_2 (by decide) ?_
    refine lv_istore (lv' := [(4, .int 0), (3, .int 0), (0, .ref m0), (1, .int (nI pl)), (2, .int (nI 2))]) hx hb dX5_ofTowers_3 hl (by decide) rfl (fun ls hl => ?_)
    refine z_up (N := 36) (i0 := 0) (fun i ls => ∃ xn : Int32, xn = sm (pOTf gs hz pl 2) i ∧ lv_has ls 7 [(0, .ref m0), (1, .int (nI pl)), (2, .int (nI 2)), (3, .int xn), (4, .int (nI i))]) (by omega) (⟨_, rfl, lv_sub hl [2, 3, 4, 1, 0] rfl⟩) (fun i ls hi5 hI ih5 => ?_)
    obtain ⟨xn, exn, hl⟩ := hI
    refine lv_iload hx hb dX5_ofTowers_5 (lv_at hl 4 rfl) ?_
    refine lv_bipush (v := 36) hx hb dX5_ofTowers_7 (by decide) ?_
    refine z_icmp_ge (tgt := 153) (P := 36 ≤ i) hx hb dX5_ofTowers_9 (by decide) (nI_leI (a := 36) (b := i) (by omega) (by omega)) (fun c9 => ?_) (fun c9 => ?_)
    · skip
      refine lv_iload_n hx hb dX5_ofTowers_153 rfl (lv_at hl 3 rfl) ?_
      exact z_iret hx hb hr hlocks dX5_ofTowers_154 (by rw [exn, show i = 36 by omega])
    · skip
      refine lv_aload_n hx hb dX5_ofTowers_12 rfl (lv_at hl 0 rfl) ?_
      refine va_get (D := D) (ci := 4) (v := .ref m1) (C := RX5) (T := TX5) (N := 9) hx hb hts in4 hown hK hP 0 rfl rfl 0 (by decide) fl7 (fun _ h9 => h9) rfl dX5_ofTowers_13 ?_
      refine lv_bipush (v := 36) hx hb dX5_ofTowers_16 (by decide) ?_
      refine lv_iload hx hb dX5_ofTowers_18 (lv_at hl 4 rfl) ?_
      refine z_iadd (v := nI (36 + i)) hx hb dX5_ofTowers_20 (nI_add (36) (i)) ?_
      refine z_iald hx hb hK hP 1 0 rfl rfl (k := (36 + i)) (rfl) (by omega) (by decide) dX5_ofTowers_21 ?_
      refine lv_iload_n hx hb dX5_ofTowers_22 rfl (lv_at hl 1 rfl) ?_
      refine lv_iconst (v := 1) hx hb dX5_ofTowers_23 (by decide) ?_
      refine z_iadd (v := nI (pl + 1)) hx hb dX5_ofTowers_24 (nI_add (pl) (1)) ?_
      refine z_icmp_ne (tgt := 32) (P := (gs (36 + i)) = (nI (pl + 1))) hx hb dX5_ofTowers_25 (by decide) (Iff.rfl) (fun c25 => ?_) (fun c25 => ?_)
      · skip
        refine lv_iconst (v := 0) hx hb dX5_ofTowers_32 (by decide) ?_
        refine lv_istore (lv' := [(5, .int 0), (0, .ref m0), (1, .int (nI pl)), (2, .int (nI 2)), (3, .int xn), (4, .int (nI i))]) hx hb dX5_ofTowers_33 hl (by decide) rfl (fun ls hl => ?_)
        refine lv_aload_n hx hb dX5_ofTowers_35 rfl (lv_at hl 1 rfl) ?_
        refine va_get (D := D) (ci := 4) (v := .ref m1) (C := RX5) (T := TX5) (N := 9) hx hb hts in4 hown hK hP 0 rfl rfl 0 (by decide) fl7 (fun _ h9 => h9) rfl dX5_ofTowers_36 ?_
        refine lv_bipush (v := 36) hx hb dX5_ofTowers_39 (by decide) ?_
        refine lv_iload hx hb dX5_ofTowers_41 (lv_at hl 5 rfl) ?_
        refine z_iadd (v := nI (36 + i)) hx hb dX5_ofTowers_43 (nI_add (36) (i)) ?_
        refine z_iald hx hb hK hP 1 0 rfl rfl (k := (36 + i)) (rfl) (by omega) (by decide) dX5_ofTowers_44 ?_
        refine lv_iconst (v := 2) hx hb dX5_ofTowers_45 (by decide) ?_
        refine lv_iload_n hx hb dX5_ofTowers_46 rfl (lv_at hl 2 rfl) ?_
        refine z_isub (v := nI (2 - pl)) hx hb dX5_ofTowers_47 (pk_sub (a := 2) (b := pl) (by omega)) ?_
        refine z_icmp_ne (tgt := 55) (P := (gs (36 + i)) = (nI (2 - pl))) hx hb dX5_ofTowers_48 (by decide) (Iff.rfl) (fun c48 => ?_) (fun c48 => ?_)
        · skip
          refine lv_iconst (v := 0) hx hb dX5_ofTowers_55 (by decide) ?_
          refine lv_istore (lv' := [(6, .int 0), (5, .int 0), (0, .ref m0), (1, .int (nI pl)), (2, .int (nI 2)), (3, .int xn), (4, .int (nI i))]) hx hb dX5_ofTowers_56 hl (by decide) rfl (fun ls hl => ?_)
          refine lv_iload_n hx hb dX5_ofTowers_58 rfl (lv_at hl 5 rfl) ?_
          refine lv_iload_n hx hb dX5_ofTowers_59 rfl (lv_at hl 4 rfl) ?_
          refine lv_iconst (v := 2) hx hb dX5_ofTowers_60 (by decide) ?_
          refine z_icmp_ne (tgt := 81) (P := True) hx hb dX5_ofTowers_61 (by decide) (by decide) (fun c61 => (show False from c61 trivial).elim) (fun c61 => ?_)
          refine lv_iload hx hb dX5_ofTowers_64 (lv_at hl 1 rfl) ?_
          refine z_if_eq (tgt := 81) (P := True) hx hb dX5_ofTowers_66 (by decide) (by decide) (fun c66 => ?_) (fun c66 => (show False from c66 trivial).elim)
          refine lv_iconst (v := 0) hx hb dX5_ofTowers_81 (by decide) ?_
          refine z_iadd (v := (xn + 0)) hx hb dX5_ofTowers_82 (rfl) ?_
          refine lv_istore_n (lv' := [(3, .int (xn + 0)), (6, .int 0), (5, .int 0), (0, .ref m0), (1, .int (nI pl)), (2, .int (nI 2)), (4, .int (nI i))]) hx hb dX5_ofTowers_83 rfl hl (by decide) rfl (fun ls hl => ?_)
          refine lv_iload_n hx hb dX5_ofTowers_84 rfl (lv_at hl 0 rfl) ?_
          refine lv_iload_n hx hb dX5_ofTowers_85 rfl (lv_at hl 5 rfl) ?_
          refine lv_iconst (v := 3) hx hb dX5_ofTowers_86 (by decide) ?_
          refine z_icmp_ne (tgt := 116) (P := False) hx hb dX5_ofTowers_87 (by decide) (by decide) (fun c87 => ?_) (fun c87 => (show False from c87).elim)
          refine lv_iconst (v := 0) hx hb dX5_ofTowers_116 (by decide) ?_
          refine z_iadd (v := ((xn + 0) + 0)) hx hb dX5_ofTowers_117 (rfl) ?_
          refine lv_istore_n (lv' := [(3, .int ((xn + 0) + 0)), (6, .int 0), (5, .int 0), (0, .ref m0), (1, .int (nI pl)), (2, .int (nI 2)), (4, .int (nI i))]) hx hb dX5_ofTowers_118 rfl hl (by decide) rfl (fun ls hl => ?_)
          refine lv_iload_n hx hb dX5_ofTowers_119 rfl (lv_at hl 0 rfl) ?_
          refine lv_iload_n hx hb dX5_ofTowers_120 rfl (lv_at hl 5 rfl) ?_
          refine lv_iconst (v := 5) hx hb dX5_ofTowers_121 (by decide) ?_
          refine z_icmp_ne (tgt := 144) (P := False) hx hb dX5_ofTowers_122 (by decide) (by decide) (fun c122 => ?_) (fun c122 => (show False from c122).elim)
          refine lv_iconst (v := 0) hx hb dX5_ofTowers_144 (by decide) ?_
          refine z_iadd (v := (((xn + 0) + 0) + 0)) hx hb dX5_ofTowers_145 (rfl) ?_
          refine lv_istore_n (lv' := [(3, .int (((xn + 0) + 0) + 0)), (6, .int 0), (5, .int 0), (0, .ref m0), (1, .int (nI pl)), (2, .int (nI 2)), (4, .int (nI i))]) hx hb dX5_ofTowers_146 rfl hl (by decide) rfl (fun ls hl => ?_)
          refine lv_iinc (v := nI (i + 1)) (lv' := [(4, .int (nI (i + 1))), (3, .int (((xn + 0) + 0) + 0)), (6, .int 0), (5, .int 0), (0, .ref m0), (1, .int (nI pl)), (2, .int (nI 2))]) hx hb dX5_ofTowers_147 hl (k := 6) rfl (nI_1 (i)) (by decide) rfl (fun ls hl => ?_)
          refine lv_goto (tgt := 5) hx hb dX5_ofTowers_150 (by decide) ?_
          exact ih5 (by omega) _ (⟨_, by first | (simp [-Nat.add_zero, -Nat.zero_add, -Nat.reduceAdd, exn, sm, pOTf, zb, hne, hne2, c9, c25, c48, c61, c66, c87, c122]; done) | exact absurd (c25.symm.trans c48) hne2, lv_sub hl [4, 5, 6, 1, 0] rfl⟩)
        · skip
          refine lv_iconst (v := 1) hx hb dX5_ofTowers_51 (by decide) ?_
          refine lv_goto (tgt := 56) hx hb dX5_ofTowers_52 (by decide) ?_
          refine lv_istore (lv' := [(6, .int 1), (5, .int 0), (0, .ref m0), (1, .int (nI pl)), (2, .int (nI 2)), (3, .int xn), (4, .int (nI i))]) hx hb dX5_ofTowers_56 hl (by decide) rfl (fun ls hl => ?_)
          refine lv_iload_n hx hb dX5_ofTowers_58 rfl (lv_at hl 5 rfl) ?_
          refine lv_iload_n hx hb dX5_ofTowers_59 rfl (lv_at hl 4 rfl) ?_
          refine lv_iconst (v := 2) hx hb dX5_ofTowers_60 (by decide) ?_
          refine z_icmp_ne (tgt := 81) (P := True) hx hb dX5_ofTowers_61 (by decide) (by decide) (fun c61 => (show False from c61 trivial).elim) (fun c61 => ?_)
          refine lv_iload hx hb dX5_ofTowers_64 (lv_at hl 1 rfl) ?_
          refine z_if_eq (tgt := 81) (P := True) hx hb dX5_ofTowers_66 (by decide) (by decide) (fun c66 => ?_) (fun c66 => (show False from c66 trivial).elim)
          refine lv_iconst (v := 0) hx hb dX5_ofTowers_81 (by decide) ?_
          refine z_iadd (v := (xn + 0)) hx hb dX5_ofTowers_82 (rfl) ?_
          refine lv_istore_n (lv' := [(3, .int (xn + 0)), (6, .int 1), (5, .int 0), (0, .ref m0), (1, .int (nI pl)), (2, .int (nI 2)), (4, .int (nI i))]) hx hb dX5_ofTowers_83 rfl hl (by decide) rfl (fun ls hl => ?_)
          refine lv_iload_n hx hb dX5_ofTowers_84 rfl (lv_at hl 0 rfl) ?_
          refine lv_iload_n hx hb dX5_ofTowers_85 rfl (lv_at hl 5 rfl) ?_
          refine lv_iconst (v := 3) hx hb dX5_ofTowers_86 (by decide) ?_
          refine z_icmp_ne (tgt := 116) (P := False) hx hb dX5_ofTowers_87 (by decide) (by decide) (fun c87 => ?_) (fun c87 => (show False from c87).elim)
          refine lv_iconst (v := 0) hx hb dX5_ofTowers_116 (by decide) ?_
          refine z_iadd (v := ((xn + 0) + 0)) hx hb dX5_ofTowers_117 (rfl) ?_
          refine lv_istore_n (lv' := [(3, .int ((xn + 0) + 0)), (6, .int 1), (5, .int 0), (0, .ref m0), (1, .int (nI pl)), (2, .int (nI 2)), (4, .int (nI i))]) hx hb dX5_ofTowers_118 rfl hl (by decide) rfl (fun ls hl => ?_)
          refine lv_iload_n hx hb dX5_ofTowers_119 rfl (lv_at hl 0 rfl) ?_
          refine lv_iload_n hx hb dX5_ofTowers_120 rfl (lv_at hl 5 rfl) ?_
          refine lv_iconst (v := 5) hx hb dX5_ofTowers_121 (by decide) ?_
          refine z_icmp_ne (tgt := 144) (P := False) hx hb dX5_ofTowers_122 (by decide) (by decide) (fun c122 => ?_) (fun c122 => (show False from c122).elim)
          refine lv_iconst (v := 0) hx hb dX5_ofTowers_144 (by decide) ?_
          refine z_iadd (v := (((xn + 0) + 0) + 0)) hx hb dX5_ofTowers_145 (rfl) ?_
          refine lv_istore_n (lv' := [(3, .int (((xn + 0) + 0) + 0)), (6, .int 1), (5, .int 0), (0, .ref m0), (1, .int (nI pl)), (2, .int (nI 2)), (4, .int (nI i))]) hx hb dX5_ofTowers_146 rfl hl (by decide) rfl (fun ls hl => ?_)
          refine lv_iinc (v := nI (i + 1)) (lv' := [(4, .int (nI (i + 1))), (3, .int (((xn + 0) + 0) + 0)), (6, .int 1), (5, .int 0), (0, .ref m0), (1, .int (nI pl)), (2, .int (nI 2))]) hx hb dX5_ofTowers_147 hl (k := 6) rfl (nI_1 (i)) (by decide) rfl (fun ls hl => ?_)
          refine lv_goto (tgt := 5) hx hb dX5_ofTowers_150 (by decide) ?_
          exact ih5 (by omega) _ (⟨_, by first | (simp [-Nat.add_zero, -Nat.zero_add, -Nat.reduceAdd, exn, sm, pOTf, zb, hne, hne2, c9, c25, c48, c61, c66, c87, c122]; done) | exact absurd (c25.symm.trans c48) hne2, lv_sub hl [4, 5, 6, 1, 0] rfl⟩)
      · skip
        refine lv_iconst (v := 1) hx hb dX5_ofTowers_28 (by decide) ?_
        refine lv_goto (tgt := 33) hx hb dX5_ofTowers_29 (by decide) ?_
        refine lv_istore (lv' := [(5, .int 1), (0, .ref m0), (1, .int (nI pl)), (2, .int (nI 2)), (3, .int xn), (4, .int (nI i))]) hx hb dX5_ofTowers_33 hl (by decide) rfl (fun ls hl => ?_)
        refine lv_aload_n hx hb dX5_ofTowers_35 rfl (lv_at hl 1 rfl) ?_
        refine va_get (D := D) (ci := 4) (v := .ref m1) (C := RX5) (T := TX5) (N := 9) hx hb hts in4 hown hK hP 0 rfl rfl 0 (by decide) fl7 (fun _ h9 => h9) rfl dX5_ofTowers_36 ?_
        refine lv_bipush (v := 36) hx hb dX5_ofTowers_39 (by decide) ?_
        refine lv_iload hx hb dX5_ofTowers_41 (lv_at hl 5 rfl) ?_
        refine z_iadd (v := nI (36 + i)) hx hb dX5_ofTowers_43 (nI_add (36) (i)) ?_
        refine z_iald hx hb hK hP 1 0 rfl rfl (k := (36 + i)) (rfl) (by omega) (by decide) dX5_ofTowers_44 ?_
        refine lv_iconst (v := 2) hx hb dX5_ofTowers_45 (by decide) ?_
        refine lv_iload_n hx hb dX5_ofTowers_46 rfl (lv_at hl 2 rfl) ?_
        refine z_isub (v := nI (2 - pl)) hx hb dX5_ofTowers_47 (pk_sub (a := 2) (b := pl) (by omega)) ?_
        refine z_icmp_ne (tgt := 55) (P := (gs (36 + i)) = (nI (2 - pl))) hx hb dX5_ofTowers_48 (by decide) (Iff.rfl) (fun c48 => ?_) (fun c48 => ?_)
        · skip
          refine lv_iconst (v := 0) hx hb dX5_ofTowers_55 (by decide) ?_
          refine lv_istore (lv' := [(6, .int 0), (5, .int 1), (0, .ref m0), (1, .int (nI pl)), (2, .int (nI 2)), (3, .int xn), (4, .int (nI i))]) hx hb dX5_ofTowers_56 hl (by decide) rfl (fun ls hl => ?_)
          refine lv_iload_n hx hb dX5_ofTowers_58 rfl (lv_at hl 5 rfl) ?_
          refine lv_iload_n hx hb dX5_ofTowers_59 rfl (lv_at hl 4 rfl) ?_
          refine lv_iconst (v := 2) hx hb dX5_ofTowers_60 (by decide) ?_
          refine z_icmp_ne (tgt := 81) (P := True) hx hb dX5_ofTowers_61 (by decide) (by decide) (fun c61 => (show False from c61 trivial).elim) (fun c61 => ?_)
          refine lv_iload hx hb dX5_ofTowers_64 (lv_at hl 1 rfl) ?_
          refine z_if_eq (tgt := 81) (P := False) hx hb dX5_ofTowers_66 (by decide) (by decide) (fun c66 => (show False from c66).elim) (fun c66 => ?_)
          refine lv_aload_n hx hb dX5_ofTowers_69 rfl (lv_at hl 2 rfl) ?_
          refine va_get (D := D) (ci := 4) (v := .ref m1) (C := RX5) (T := TX5) (N := 9) hx hb hts in4 hown hK hP 0 rfl rfl 0 (by decide) fl7 (fun _ h9 => h9) rfl dX5_ofTowers_70 ?_
          refine lv_iconst (v := 0) hx hb dX5_ofTowers_73 (by decide) ?_
          refine lv_iload hx hb dX5_ofTowers_74 (lv_at hl 6 rfl) ?_
          refine z_iadd (v := nI (0 + i)) hx hb dX5_ofTowers_76 (nI_add (0) (i)) ?_
          refine z_iald hx hb hK hP 1 0 rfl rfl (k := (0 + i)) (rfl) (by omega) (by decide) dX5_ofTowers_77 ?_
          refine lv_goto (tgt := 82) hx hb dX5_ofTowers_78 (by decide) ?_
          refine z_iadd (v := (xn + (gs (0 + i)))) hx hb dX5_ofTowers_82 (rfl) ?_
          refine lv_istore_n (lv' := [(3, .int (xn + (gs (0 + i)))), (6, .int 0), (5, .int 1), (0, .ref m0), (1, .int (nI pl)), (2, .int (nI 2)), (4, .int (nI i))]) hx hb dX5_ofTowers_83 rfl hl (by decide) rfl (fun ls hl => ?_)
          refine lv_iload_n hx hb dX5_ofTowers_84 rfl (lv_at hl 0 rfl) ?_
          refine lv_iload_n hx hb dX5_ofTowers_85 rfl (lv_at hl 5 rfl) ?_
          refine lv_iconst (v := 3) hx hb dX5_ofTowers_86 (by decide) ?_
          refine z_icmp_ne (tgt := 116) (P := False) hx hb dX5_ofTowers_87 (by decide) (by decide) (fun c87 => ?_) (fun c87 => (show False from c87).elim)
          refine lv_iconst (v := 0) hx hb dX5_ofTowers_116 (by decide) ?_
          refine z_iadd (v := ((xn + (gs (0 + i))) + 0)) hx hb dX5_ofTowers_117 (rfl) ?_
          refine lv_istore_n (lv' := [(3, .int ((xn + (gs (0 + i))) + 0)), (6, .int 0), (5, .int 1), (0, .ref m0), (1, .int (nI pl)), (2, .int (nI 2)), (4, .int (nI i))]) hx hb dX5_ofTowers_118 rfl hl (by decide) rfl (fun ls hl => ?_)
          refine lv_iload_n hx hb dX5_ofTowers_119 rfl (lv_at hl 0 rfl) ?_
          refine lv_iload_n hx hb dX5_ofTowers_120 rfl (lv_at hl 5 rfl) ?_
          refine lv_iconst (v := 5) hx hb dX5_ofTowers_121 (by decide) ?_
          refine z_icmp_ne (tgt := 144) (P := False) hx hb dX5_ofTowers_122 (by decide) (by decide) (fun c122 => ?_) (fun c122 => (show False from c122).elim)
          refine lv_iconst (v := 0) hx hb dX5_ofTowers_144 (by decide) ?_
          refine z_iadd (v := (((xn + (gs (0 + i))) + 0) + 0)) hx hb dX5_ofTowers_145 (rfl) ?_
          refine lv_istore_n (lv' := [(3, .int (((xn + (gs (0 + i))) + 0) + 0)), (6, .int 0), (5, .int 1), (0, .ref m0), (1, .int (nI pl)), (2, .int (nI 2)), (4, .int (nI i))]) hx hb dX5_ofTowers_146 rfl hl (by decide) rfl (fun ls hl => ?_)
          refine lv_iinc (v := nI (i + 1)) (lv' := [(4, .int (nI (i + 1))), (3, .int (((xn + (gs (0 + i))) + 0) + 0)), (6, .int 0), (5, .int 1), (0, .ref m0), (1, .int (nI pl)), (2, .int (nI 2))]) hx hb dX5_ofTowers_147 hl (k := 6) rfl (nI_1 (i)) (by decide) rfl (fun ls hl => ?_)
          refine lv_goto (tgt := 5) hx hb dX5_ofTowers_150 (by decide) ?_
          exact ih5 (by omega) _ (⟨_, by first | (simp [-Nat.add_zero, -Nat.zero_add, -Nat.reduceAdd, exn, sm, pOTf, zb, hne, hne2, c9, c25, c48, c61, c66, c87, c122]; done) | exact absurd (c25.symm.trans c48) hne2, lv_sub hl [4, 5, 6, 1, 0] rfl⟩)
        · skip
          refine lv_iconst (v := 1) hx hb dX5_ofTowers_51 (by decide) ?_
          refine lv_goto (tgt := 56) hx hb dX5_ofTowers_52 (by decide) ?_
          refine lv_istore (lv' := [(6, .int 1), (5, .int 1), (0, .ref m0), (1, .int (nI pl)), (2, .int (nI 2)), (3, .int xn), (4, .int (nI i))]) hx hb dX5_ofTowers_56 hl (by decide) rfl (fun ls hl => ?_)
          refine lv_iload_n hx hb dX5_ofTowers_58 rfl (lv_at hl 5 rfl) ?_
          refine lv_iload_n hx hb dX5_ofTowers_59 rfl (lv_at hl 4 rfl) ?_
          refine lv_iconst (v := 2) hx hb dX5_ofTowers_60 (by decide) ?_
          refine z_icmp_ne (tgt := 81) (P := True) hx hb dX5_ofTowers_61 (by decide) (by decide) (fun c61 => (show False from c61 trivial).elim) (fun c61 => ?_)
          refine lv_iload hx hb dX5_ofTowers_64 (lv_at hl 1 rfl) ?_
          refine z_if_eq (tgt := 81) (P := False) hx hb dX5_ofTowers_66 (by decide) (by decide) (fun c66 => (show False from c66).elim) (fun c66 => ?_)
          refine lv_aload_n hx hb dX5_ofTowers_69 rfl (lv_at hl 2 rfl) ?_
          refine va_get (D := D) (ci := 4) (v := .ref m1) (C := RX5) (T := TX5) (N := 9) hx hb hts in4 hown hK hP 0 rfl rfl 0 (by decide) fl7 (fun _ h9 => h9) rfl dX5_ofTowers_70 ?_
          refine lv_iconst (v := 0) hx hb dX5_ofTowers_73 (by decide) ?_
          refine lv_iload hx hb dX5_ofTowers_74 (lv_at hl 6 rfl) ?_
          refine z_iadd (v := nI (0 + i)) hx hb dX5_ofTowers_76 (nI_add (0) (i)) ?_
          refine z_iald hx hb hK hP 1 0 rfl rfl (k := (0 + i)) (rfl) (by omega) (by decide) dX5_ofTowers_77 ?_
          refine lv_goto (tgt := 82) hx hb dX5_ofTowers_78 (by decide) ?_
          refine z_iadd (v := (xn + (gs (0 + i)))) hx hb dX5_ofTowers_82 (rfl) ?_
          refine lv_istore_n (lv' := [(3, .int (xn + (gs (0 + i)))), (6, .int 1), (5, .int 1), (0, .ref m0), (1, .int (nI pl)), (2, .int (nI 2)), (4, .int (nI i))]) hx hb dX5_ofTowers_83 rfl hl (by decide) rfl (fun ls hl => ?_)
          refine lv_iload_n hx hb dX5_ofTowers_84 rfl (lv_at hl 0 rfl) ?_
          refine lv_iload_n hx hb dX5_ofTowers_85 rfl (lv_at hl 5 rfl) ?_
          refine lv_iconst (v := 3) hx hb dX5_ofTowers_86 (by decide) ?_
          refine z_icmp_ne (tgt := 116) (P := False) hx hb dX5_ofTowers_87 (by decide) (by decide) (fun c87 => ?_) (fun c87 => (show False from c87).elim)
          refine lv_iconst (v := 0) hx hb dX5_ofTowers_116 (by decide) ?_
          refine z_iadd (v := ((xn + (gs (0 + i))) + 0)) hx hb dX5_ofTowers_117 (rfl) ?_
          refine lv_istore_n (lv' := [(3, .int ((xn + (gs (0 + i))) + 0)), (6, .int 1), (5, .int 1), (0, .ref m0), (1, .int (nI pl)), (2, .int (nI 2)), (4, .int (nI i))]) hx hb dX5_ofTowers_118 rfl hl (by decide) rfl (fun ls hl => ?_)
          refine lv_iload_n hx hb dX5_ofTowers_119 rfl (lv_at hl 0 rfl) ?_
          refine lv_iload_n hx hb dX5_ofTowers_120 rfl (lv_at hl 5 rfl) ?_
          refine lv_iconst (v := 5) hx hb dX5_ofTowers_121 (by decide) ?_
          refine z_icmp_ne (tgt := 144) (P := False) hx hb dX5_ofTowers_122 (by decide) (by decide) (fun c122 => ?_) (fun c122 => (show False from c122).elim)
          refine lv_iconst (v := 0) hx hb dX5_ofTowers_144 (by decide) ?_
          refine z_iadd (v := (((xn + (gs (0 + i))) + 0) + 0)) hx hb dX5_ofTowers_145 (rfl) ?_
          refine lv_istore_n (lv' := [(3, .int (((xn + (gs (0 + i))) + 0) + 0)), (6, .int 1), (5, .int 1), (0, .ref m0), (1, .int (nI pl)), (2, .int (nI 2)), (4, .int (nI i))]) hx hb dX5_ofTowers_146 rfl hl (by decide) rfl (fun ls hl => ?_)
          refine lv_iinc (v := nI (i + 1)) (lv' := [(4, .int (nI (i + 1))), (3, .int (((xn + (gs (0 + i))) + 0) + 0)), (6, .int 1), (5, .int 1), (0, .ref m0), (1, .int (nI pl)), (2, .int (nI 2))]) hx hb dX5_ofTowers_147 hl (k := 6) rfl (nI_1 (i)) (by decide) rfl (fun ls hl => ?_)
          refine lv_goto (tgt := 5) hx hb dX5_ofTowers_150 (by decide) ?_
          exact ih5 (by omega) _ (⟨_, by first | (simp [-Nat.add_zero, -Nat.zero_add, -Nat.reduceAdd, exn, sm, pOTf, zb, hne, hne2, c9, c25, c48, c61, c66, c87, c122]; done) | exact absurd (c25.symm.trans c48) hne2, lv_sub hl [4, 5, 6, 1, 0] rfl⟩)
  · skip
    refine lv_iconst (v := 0) hx hb dX5_ofTowers_0 (by decide) ?_
    refine lv_istore_n (lv' := [(3, .int 0), (0, .ref m0), (1, .int (nI pl)), (2, .int (nI 3))]) hx hb dX5_ofTowers_1 rfl hl (by decide) rfl (fun ls hl => ?_)
    refine lv_iconst (v := 0) hx hb dX5_ofTowers_2 (by decide) ?_
    refine lv_istore (lv' := [(4, .int 0), (3, .int 0), (0, .ref m0), (1, .int (nI pl)), (2, .int (nI 3))]) hx hb dX5_ofTowers_3 hl (by decide) rfl (fun ls hl => ?_)
    refine z_up (N := 36) (i0 := 0) (fun i ls => ∃ xn : Int32, xn = sm (pOTf gs hz pl 3) i ∧ lv_has ls 7 [(0, .ref m0), (1, .int (nI pl)), (2, .int (nI 3)), (3, .int xn), (4, .int (nI i))]) (by omega) (⟨_, rfl, lv_sub hl [2, 3, 4, 1, 0] rfl⟩) (fun i ls hi5 hI ih5 => ?_)
    obtain ⟨xn, exn, hl⟩ := hI
    refine lv_iload hx hb dX5_ofTowers_5 (lv_at hl 4 rfl) ?_
    refine lv_bipush (v := 36) hx hb dX5_ofTowers_7 (by decide) ?_
    refine z_icmp_ge (tgt := 153) (P := 36 ≤ i) hx hb dX5_ofTowers_9 (by decide) (nI_leI (a := 36) (b := i) (by omega) (by omega)) (fun c9 => ?_) (fun c9 => ?_)
    · skip
      refine lv_iload_n hx hb dX5_ofTowers_153 rfl (lv_at hl 3 rfl) ?_
      exact z_iret hx hb hr hlocks dX5_ofTowers_154 (by rw [exn, show i = 36 by omega])
    · skip
      refine lv_aload_n hx hb dX5_ofTowers_12 rfl (lv_at hl 0 rfl) ?_
      refine va_get (D := D) (ci := 4) (v := .ref m1) (C := RX5) (T := TX5) (N := 9) hx hb hts in4 hown hK hP 0 rfl rfl 0 (by decide) fl7 (fun _ h9 => h9) rfl dX5_ofTowers_13 ?_
      refine lv_bipush (v := 36) hx hb dX5_ofTowers_16 (by decide) ?_
      refine lv_iload hx hb dX5_ofTowers_18 (lv_at hl 4 rfl) ?_
      refine z_iadd (v := nI (36 + i)) hx hb dX5_ofTowers_20 (nI_add (36) (i)) ?_
      refine z_iald hx hb hK hP 1 0 rfl rfl (k := (36 + i)) (rfl) (by omega) (by decide) dX5_ofTowers_21 ?_
      refine lv_iload_n hx hb dX5_ofTowers_22 rfl (lv_at hl 1 rfl) ?_
      refine lv_iconst (v := 1) hx hb dX5_ofTowers_23 (by decide) ?_
      refine z_iadd (v := nI (pl + 1)) hx hb dX5_ofTowers_24 (nI_add (pl) (1)) ?_
      refine z_icmp_ne (tgt := 32) (P := (gs (36 + i)) = (nI (pl + 1))) hx hb dX5_ofTowers_25 (by decide) (Iff.rfl) (fun c25 => ?_) (fun c25 => ?_)
      · skip
        refine lv_iconst (v := 0) hx hb dX5_ofTowers_32 (by decide) ?_
        refine lv_istore (lv' := [(5, .int 0), (0, .ref m0), (1, .int (nI pl)), (2, .int (nI 3)), (3, .int xn), (4, .int (nI i))]) hx hb dX5_ofTowers_33 hl (by decide) rfl (fun ls hl => ?_)
        refine lv_aload_n hx hb dX5_ofTowers_35 rfl (lv_at hl 1 rfl) ?_
        refine va_get (D := D) (ci := 4) (v := .ref m1) (C := RX5) (T := TX5) (N := 9) hx hb hts in4 hown hK hP 0 rfl rfl 0 (by decide) fl7 (fun _ h9 => h9) rfl dX5_ofTowers_36 ?_
        refine lv_bipush (v := 36) hx hb dX5_ofTowers_39 (by decide) ?_
        refine lv_iload hx hb dX5_ofTowers_41 (lv_at hl 5 rfl) ?_
        refine z_iadd (v := nI (36 + i)) hx hb dX5_ofTowers_43 (nI_add (36) (i)) ?_
        refine z_iald hx hb hK hP 1 0 rfl rfl (k := (36 + i)) (rfl) (by omega) (by decide) dX5_ofTowers_44 ?_
        refine lv_iconst (v := 2) hx hb dX5_ofTowers_45 (by decide) ?_
        refine lv_iload_n hx hb dX5_ofTowers_46 rfl (lv_at hl 2 rfl) ?_
        refine z_isub (v := nI (2 - pl)) hx hb dX5_ofTowers_47 (pk_sub (a := 2) (b := pl) (by omega)) ?_
        refine z_icmp_ne (tgt := 55) (P := (gs (36 + i)) = (nI (2 - pl))) hx hb dX5_ofTowers_48 (by decide) (Iff.rfl) (fun c48 => ?_) (fun c48 => ?_)
        · skip
          refine lv_iconst (v := 0) hx hb dX5_ofTowers_55 (by decide) ?_
          refine lv_istore (lv' := [(6, .int 0), (5, .int 0), (0, .ref m0), (1, .int (nI pl)), (2, .int (nI 3)), (3, .int xn), (4, .int (nI i))]) hx hb dX5_ofTowers_56 hl (by decide) rfl (fun ls hl => ?_)
          refine lv_iload_n hx hb dX5_ofTowers_58 rfl (lv_at hl 5 rfl) ?_
          refine lv_iload_n hx hb dX5_ofTowers_59 rfl (lv_at hl 4 rfl) ?_
          refine lv_iconst (v := 2) hx hb dX5_ofTowers_60 (by decide) ?_
          refine z_icmp_ne (tgt := 81) (P := False) hx hb dX5_ofTowers_61 (by decide) (by decide) (fun c61 => ?_) (fun c61 => (show False from c61).elim)
          refine lv_iconst (v := 0) hx hb dX5_ofTowers_81 (by decide) ?_
          refine z_iadd (v := (xn + 0)) hx hb dX5_ofTowers_82 (rfl) ?_
          refine lv_istore_n (lv' := [(3, .int (xn + 0)), (6, .int 0), (5, .int 0), (0, .ref m0), (1, .int (nI pl)), (2, .int (nI 3)), (4, .int (nI i))]) hx hb dX5_ofTowers_83 rfl hl (by decide) rfl (fun ls hl => ?_)
          refine lv_iload_n hx hb dX5_ofTowers_84 rfl (lv_at hl 0 rfl) ?_
          refine lv_iload_n hx hb dX5_ofTowers_85 rfl (lv_at hl 5 rfl) ?_
          refine lv_iconst (v := 3) hx hb dX5_ofTowers_86 (by decide) ?_
          refine z_icmp_ne (tgt := 116) (P := True) hx hb dX5_ofTowers_87 (by decide) (by decide) (fun c87 => (show False from c87 trivial).elim) (fun c87 => ?_)
          refine lv_iload hx hb dX5_ofTowers_90 (lv_at hl 2 rfl) ?_
          refine z_if_eq (tgt := 116) (P := True) hx hb dX5_ofTowers_92 (by decide) (by decide) (fun c92 => ?_) (fun c92 => (show False from c92 trivial).elim)
          refine lv_iconst (v := 0) hx hb dX5_ofTowers_116 (by decide) ?_
          refine z_iadd (v := ((xn + 0) + 0)) hx hb dX5_ofTowers_117 (rfl) ?_
          refine lv_istore_n (lv' := [(3, .int ((xn + 0) + 0)), (6, .int 0), (5, .int 0), (0, .ref m0), (1, .int (nI pl)), (2, .int (nI 3)), (4, .int (nI i))]) hx hb dX5_ofTowers_118 rfl hl (by decide) rfl (fun ls hl => ?_)
          refine lv_iload_n hx hb dX5_ofTowers_119 rfl (lv_at hl 0 rfl) ?_
          refine lv_iload_n hx hb dX5_ofTowers_120 rfl (lv_at hl 5 rfl) ?_
          refine lv_iconst (v := 5) hx hb dX5_ofTowers_121 (by decide) ?_
          refine z_icmp_ne (tgt := 144) (P := False) hx hb dX5_ofTowers_122 (by decide) (by decide) (fun c122 => ?_) (fun c122 => (show False from c122).elim)
          refine lv_iconst (v := 0) hx hb dX5_ofTowers_144 (by decide) ?_
          refine z_iadd (v := (((xn + 0) + 0) + 0)) hx hb dX5_ofTowers_145 (rfl) ?_
          refine lv_istore_n (lv' := [(3, .int (((xn + 0) + 0) + 0)), (6, .int 0), (5, .int 0), (0, .ref m0), (1, .int (nI pl)), (2, .int (nI 3)), (4, .int (nI i))]) hx hb dX5_ofTowers_146 rfl hl (by decide) rfl (fun ls hl => ?_)
          refine lv_iinc (v := nI (i + 1)) (lv' := [(4, .int (nI (i + 1))), (3, .int (((xn + 0) + 0) + 0)), (6, .int 0), (5, .int 0), (0, .ref m0), (1, .int (nI pl)), (2, .int (nI 3))]) hx hb dX5_ofTowers_147 hl (k := 6) rfl (nI_1 (i)) (by decide) rfl (fun ls hl => ?_)
          refine lv_goto (tgt := 5) hx hb dX5_ofTowers_150 (by decide) ?_
          exact ih5 (by omega) _ (⟨_, by first | (simp [-Nat.add_zero, -Nat.zero_add, -Nat.reduceAdd, exn, sm, pOTf, zb, hne, hne2, c9, c25, c48, c61, c87, c92, c122]; done) | exact absurd (c25.symm.trans c48) hne2, lv_sub hl [4, 5, 6, 1, 0] rfl⟩)
        · skip
          refine lv_iconst (v := 1) hx hb dX5_ofTowers_51 (by decide) ?_
          refine lv_goto (tgt := 56) hx hb dX5_ofTowers_52 (by decide) ?_
          refine lv_istore (lv' := [(6, .int 1), (5, .int 0), (0, .ref m0), (1, .int (nI pl)), (2, .int (nI 3)), (3, .int xn), (4, .int (nI i))]) hx hb dX5_ofTowers_56 hl (by decide) rfl (fun ls hl => ?_)
          refine lv_iload_n hx hb dX5_ofTowers_58 rfl (lv_at hl 5 rfl) ?_
          refine lv_iload_n hx hb dX5_ofTowers_59 rfl (lv_at hl 4 rfl) ?_
          refine lv_iconst (v := 2) hx hb dX5_ofTowers_60 (by decide) ?_
          refine z_icmp_ne (tgt := 81) (P := False) hx hb dX5_ofTowers_61 (by decide) (by decide) (fun c61 => ?_) (fun c61 => (show False from c61).elim)
          refine lv_iconst (v := 0) hx hb dX5_ofTowers_81 (by decide) ?_
          refine z_iadd (v := (xn + 0)) hx hb dX5_ofTowers_82 (rfl) ?_
          refine lv_istore_n (lv' := [(3, .int (xn + 0)), (6, .int 1), (5, .int 0), (0, .ref m0), (1, .int (nI pl)), (2, .int (nI 3)), (4, .int (nI i))]) hx hb dX5_ofTowers_83 rfl hl (by decide) rfl (fun ls hl => ?_)
          refine lv_iload_n hx hb dX5_ofTowers_84 rfl (lv_at hl 0 rfl) ?_
          refine lv_iload_n hx hb dX5_ofTowers_85 rfl (lv_at hl 5 rfl) ?_
          refine lv_iconst (v := 3) hx hb dX5_ofTowers_86 (by decide) ?_
          refine z_icmp_ne (tgt := 116) (P := True) hx hb dX5_ofTowers_87 (by decide) (by decide) (fun c87 => (show False from c87 trivial).elim) (fun c87 => ?_)
          refine lv_iload hx hb dX5_ofTowers_90 (lv_at hl 2 rfl) ?_
          refine z_if_eq (tgt := 116) (P := True) hx hb dX5_ofTowers_92 (by decide) (by decide) (fun c92 => ?_) (fun c92 => (show False from c92 trivial).elim)
          refine lv_iconst (v := 0) hx hb dX5_ofTowers_116 (by decide) ?_
          refine z_iadd (v := ((xn + 0) + 0)) hx hb dX5_ofTowers_117 (rfl) ?_
          refine lv_istore_n (lv' := [(3, .int ((xn + 0) + 0)), (6, .int 1), (5, .int 0), (0, .ref m0), (1, .int (nI pl)), (2, .int (nI 3)), (4, .int (nI i))]) hx hb dX5_ofTowers_118 rfl hl (by decide) rfl (fun ls hl => ?_)
          refine lv_iload_n hx hb dX5_ofTowers_119 rfl (lv_at hl 0 rfl) ?_
          refine lv_iload_n hx hb dX5_ofTowers_120 rfl (lv_at hl 5 rfl) ?_
          refine lv_iconst (v := 5) hx hb dX5_ofTowers_121 (by decide) ?_
          refine z_icmp_ne (tgt := 144) (P := False) hx hb dX5_ofTowers_122 (by decide) (by decide) (fun c122 => ?_) (fun c122 => (show False from c122).elim)
          refine lv_iconst (v := 0) hx hb dX5_ofTowers_144 (by decide) ?_
          refine z_iadd (v := (((xn + 0) + 0) + 0)) hx hb dX5_ofTowers_145 (rfl) ?_
          refine lv_istore_n (lv' := [(3, .int (((xn + 0) + 0) + 0)), (6, .int 1), (5, .int 0), (0, .ref m0), (1, .int (nI pl)), (2, .int (nI 3)), (4, .int (nI i))]) hx hb dX5_ofTowers_146 rfl hl (by decide) rfl (fun ls hl => ?_)
          refine lv_iinc (v := nI (i + 1)) (lv' := [(4, .int (nI (i + 1))), (3, .int (((xn + 0) + 0) + 0)), (6, .int 1), (5, .int 0), (0, .ref m0), (1, .int (nI pl)), (2, .int (nI 3))]) hx hb dX5_ofTowers_147 hl (k := 6) rfl (nI_1 (i)) (by decide) rfl (fun ls hl => ?_)
          refine lv_goto (tgt := 5) hx hb dX5_ofTowers_150 (by decide) ?_
          exact ih5 (by omega) _ (⟨_, by first | (simp [-Nat.add_zero, -Nat.zero_add, -Nat.reduceAdd, exn, sm, pOTf, zb, hne, hne2, c9, c25, c48, c61, c87, c92, c122]; done) | exact absurd (c25.symm.trans c48) hne2, lv_sub hl [4, 5, 6, 1, 0] rfl⟩)
      · skip
        refine lv_iconst (v := 1) hx hb dX5_ofTowers_28 (by decide) ?_
        refine lv_goto (tgt := 33) hx hb dX5_ofTowers_29 (by decide) ?_
        refine lv_istore (lv' := [(5, .int 1), (0, .ref m0), (1, .int (nI pl)), (2, .int (nI 3)), (3, .int xn), (4, .int (nI i))]) hx hb dX5_ofTowers_33 hl (by decide) rfl (fun ls hl => ?_)
        refine lv_aload_n hx hb dX5_ofTowers_35 rfl (lv_at hl 1 rfl) ?_
        refine va_get (D := D) (ci := 4) (v := .ref m1) (C := RX5) (T := TX5) (N := 9) hx hb hts in4 hown hK hP 0 rfl rfl 0 (by decide) fl7 (fun _ h9 => h9) rfl dX5_ofTowers_36 ?_
        refine lv_bipush (v := 36) hx hb dX5_ofTowers_39 (by decide) ?_
        refine lv_iload hx hb dX5_ofTowers_41 (lv_at hl 5 rfl) ?_
        refine z_iadd (v := nI (36 + i)) hx hb dX5_ofTowers_43 (nI_add (36) (i)) ?_
        refine z_iald hx hb hK hP 1 0 rfl rfl (k := (36 + i)) (rfl) (by omega) (by decide) dX5_ofTowers_44 ?_
        refine lv_iconst (v := 2) hx hb dX5_ofTowers_45 (by decide) ?_
        refine lv_iload_n hx hb dX5_ofTowers_46 rfl (lv_at hl 2 rfl) ?_
        refine z_isub (v := nI (2 - pl)) hx hb dX5_ofTowers_47 (pk_sub (a := 2) (b := pl) (by omega)) ?_
        refine z_icmp_ne (tgt := 55) (P := (gs (36 + i)) = (nI (2 - pl))) hx hb dX5_ofTowers_48 (by decide) (Iff.rfl) (fun c48 => ?_) (fun c48 => ?_)
        · skip
          refine lv_iconst (v := 0) hx hb dX5_ofTowers_55 (by decide) ?_
          refine lv_istore (lv' := [(6, .int 0), (5, .int 1), (0, .ref m0), (1, .int (nI pl)), (2, .int (nI 3)), (3, .int xn), (4, .int (nI i))]) hx hb dX5_ofTowers_56 hl (by decide) rfl (fun ls hl => ?_)
          refine lv_iload_n hx hb dX5_ofTowers_58 rfl (lv_at hl 5 rfl) ?_
          refine lv_iload_n hx hb dX5_ofTowers_59 rfl (lv_at hl 4 rfl) ?_
          refine lv_iconst (v := 2) hx hb dX5_ofTowers_60 (by decide) ?_
          refine z_icmp_ne (tgt := 81) (P := False) hx hb dX5_ofTowers_61 (by decide) (by decide) (fun c61 => ?_) (fun c61 => (show False from c61).elim)
          refine lv_iconst (v := 0) hx hb dX5_ofTowers_81 (by decide) ?_
          refine z_iadd (v := (xn + 0)) hx hb dX5_ofTowers_82 (rfl) ?_
          refine lv_istore_n (lv' := [(3, .int (xn + 0)), (6, .int 0), (5, .int 1), (0, .ref m0), (1, .int (nI pl)), (2, .int (nI 3)), (4, .int (nI i))]) hx hb dX5_ofTowers_83 rfl hl (by decide) rfl (fun ls hl => ?_)
          refine lv_iload_n hx hb dX5_ofTowers_84 rfl (lv_at hl 0 rfl) ?_
          refine lv_iload_n hx hb dX5_ofTowers_85 rfl (lv_at hl 5 rfl) ?_
          refine lv_iconst (v := 3) hx hb dX5_ofTowers_86 (by decide) ?_
          refine z_icmp_ne (tgt := 116) (P := True) hx hb dX5_ofTowers_87 (by decide) (by decide) (fun c87 => (show False from c87 trivial).elim) (fun c87 => ?_)
          refine lv_iload hx hb dX5_ofTowers_90 (lv_at hl 2 rfl) ?_
          refine z_if_eq (tgt := 116) (P := False) hx hb dX5_ofTowers_92 (by decide) (by decide) (fun c92 => (show False from c92).elim) (fun c92 => ?_)
          refine lv_aload_n hx hb dX5_ofTowers_95 rfl (lv_at hl 3 rfl) ?_
          refine lv_iconst (v := 0) hx hb dX5_ofTowers_96 (by decide) ?_
          refine lv_iload hx hb dX5_ofTowers_97 (lv_at hl 6 rfl) ?_
          refine lv_aload_n hx hb dX5_ofTowers_99 rfl (lv_at hl 3 rfl) ?_
          refine va_get (D := D) (ci := 4) (v := .ref m1) (C := RX5) (T := TX5) (N := 9) hx hb hts in4 hown hK hP 0 rfl rfl 0 (by decide) fl7 (fun _ h9 => h9) rfl dX5_ofTowers_100 ?_
          refine lv_bipush (v := 108) hx hb dX5_ofTowers_103 (by decide) ?_
          refine z_iald hx hb hK hP 1 0 rfl rfl (k := 108) (rfl) (by omega) (by decide) dX5_ofTowers_105 ?_
          refine z_top (y := nI hz) hH ?_
          refine z_ci (va_runV (As := [.int 0, .int (nI i), .int (nI hz)]) (rest := [.int (xn + 0)]) ⟨hx, hb, hml, hown, hts⟩ (c_X5_isDark l D cI cZ cL (m0 := m0) (m1 := m1) (m2 := m2) (m3 := m3) (m4 := m4) (m5 := m5) (gs := gs) (gp := gp) (gl := gl) (gk := gk) (fx := fx) (kn := kn) (ln := ln) (th := th) (hs := hs) (P := 0) (q := i) (hz := hz) (hpp := by omega) (hq := by omega) (hhz := by omega)) (cwV 3 hts gX5_ofTowers_X5_isDark rfl rfl rfl (by decide +kernel) ⟨Nat.le_of_ble_eq_true rfl, Nat.le_of_ble_eq_true rfl⟩) (z_preV hK (hP.sub [0, 1, 2, 3, 4, 5] rfl) 0 4 rfl rfl) rfl rfl hl.1 rfl (lv_room (Nat.le_of_ble_eq_true rfl)) dX5_ofTowers_106 ⟨Nat.le_of_ble_eq_true rfl, Nat.le_of_ble_eq_true rfl⟩) ?_
          refine z_if_eq (tgt := 116) (P := (pDk (fun k => gs (0 + 0 + k)) i hz) = false) hx hb dX5_ofTowers_109 (by decide) (zb_eq0) (fun c109 => ?_) (fun c109 => ?_)
          · skip
            refine lv_iconst (v := 0) hx hb dX5_ofTowers_116 (by decide) ?_
            refine z_iadd (v := ((xn + 0) + 0)) hx hb dX5_ofTowers_117 (rfl) ?_
            refine lv_istore_n (lv' := [(3, .int ((xn + 0) + 0)), (6, .int 0), (5, .int 1), (0, .ref m0), (1, .int (nI pl)), (2, .int (nI 3)), (4, .int (nI i))]) hx hb dX5_ofTowers_118 rfl hl (by decide) rfl (fun ls hl => ?_)
            refine lv_iload_n hx hb dX5_ofTowers_119 rfl (lv_at hl 0 rfl) ?_
            refine lv_iload_n hx hb dX5_ofTowers_120 rfl (lv_at hl 5 rfl) ?_
            refine lv_iconst (v := 5) hx hb dX5_ofTowers_121 (by decide) ?_
            refine z_icmp_ne (tgt := 144) (P := False) hx hb dX5_ofTowers_122 (by decide) (by decide) (fun c122 => ?_) (fun c122 => (show False from c122).elim)
            refine lv_iconst (v := 0) hx hb dX5_ofTowers_144 (by decide) ?_
            refine z_iadd (v := (((xn + 0) + 0) + 0)) hx hb dX5_ofTowers_145 (rfl) ?_
            refine lv_istore_n (lv' := [(3, .int (((xn + 0) + 0) + 0)), (6, .int 0), (5, .int 1), (0, .ref m0), (1, .int (nI pl)), (2, .int (nI 3)), (4, .int (nI i))]) hx hb dX5_ofTowers_146 rfl hl (by decide) rfl (fun ls hl => ?_)
            refine lv_iinc (v := nI (i + 1)) (lv' := [(4, .int (nI (i + 1))), (3, .int (((xn + 0) + 0) + 0)), (6, .int 0), (5, .int 1), (0, .ref m0), (1, .int (nI pl)), (2, .int (nI 3))]) hx hb dX5_ofTowers_147 hl (k := 6) rfl (nI_1 (i)) (by decide) rfl (fun ls hl => ?_)
            refine lv_goto (tgt := 5) hx hb dX5_ofTowers_150 (by decide) ?_
            exact ih5 (by omega) _ (⟨_, by first | (simp [-Nat.add_zero, -Nat.zero_add, -Nat.reduceAdd, exn, sm, pOTf, zb, hne, hne2, c9, c25, c48, c61, c87, c92, c109, c122]; done) | exact absurd (c25.symm.trans c48) hne2, lv_sub hl [4, 5, 6, 1, 0] rfl⟩)
          · skip
            refine lv_iconst (v := 1) hx hb dX5_ofTowers_112 (by decide) ?_
            refine lv_goto (tgt := 117) hx hb dX5_ofTowers_113 (by decide) ?_
            refine z_iadd (v := ((xn + 0) + 1)) hx hb dX5_ofTowers_117 (rfl) ?_
            refine lv_istore_n (lv' := [(3, .int ((xn + 0) + 1)), (6, .int 0), (5, .int 1), (0, .ref m0), (1, .int (nI pl)), (2, .int (nI 3)), (4, .int (nI i))]) hx hb dX5_ofTowers_118 rfl hl (by decide) rfl (fun ls hl => ?_)
            refine lv_iload_n hx hb dX5_ofTowers_119 rfl (lv_at hl 0 rfl) ?_
            refine lv_iload_n hx hb dX5_ofTowers_120 rfl (lv_at hl 5 rfl) ?_
            refine lv_iconst (v := 5) hx hb dX5_ofTowers_121 (by decide) ?_
            refine z_icmp_ne (tgt := 144) (P := False) hx hb dX5_ofTowers_122 (by decide) (by decide) (fun c122 => ?_) (fun c122 => (show False from c122).elim)
            refine lv_iconst (v := 0) hx hb dX5_ofTowers_144 (by decide) ?_
            refine z_iadd (v := (((xn + 0) + 1) + 0)) hx hb dX5_ofTowers_145 (rfl) ?_
            refine lv_istore_n (lv' := [(3, .int (((xn + 0) + 1) + 0)), (6, .int 0), (5, .int 1), (0, .ref m0), (1, .int (nI pl)), (2, .int (nI 3)), (4, .int (nI i))]) hx hb dX5_ofTowers_146 rfl hl (by decide) rfl (fun ls hl => ?_)
            refine lv_iinc (v := nI (i + 1)) (lv' := [(4, .int (nI (i + 1))), (3, .int (((xn + 0) + 1) + 0)), (6, .int 0), (5, .int 1), (0, .ref m0), (1, .int (nI pl)), (2, .int (nI 3))]) hx hb dX5_ofTowers_147 hl (k := 6) rfl (nI_1 (i)) (by decide) rfl (fun ls hl => ?_)
            refine lv_goto (tgt := 5) hx hb dX5_ofTowers_150 (by decide) ?_
            exact ih5 (by omega) _ (⟨_, by first | (simp [-Nat.add_zero, -Nat.zero_add, -Nat.reduceAdd, exn, sm, pOTf, zb, hne, hne2, c9, c25, c48, c61, c87, c92, c109, c122]; done) | exact absurd (c25.symm.trans c48) hne2, lv_sub hl [4, 5, 6, 1, 0] rfl⟩)
        · skip
          refine lv_iconst (v := 1) hx hb dX5_ofTowers_51 (by decide) ?_
          refine lv_goto (tgt := 56) hx hb dX5_ofTowers_52 (by decide) ?_
          refine lv_istore (lv' := [(6, .int 1), (5, .int 1), (0, .ref m0), (1, .int (nI pl)), (2, .int (nI 3)), (3, .int xn), (4, .int (nI i))]) hx hb dX5_ofTowers_56 hl (by decide) rfl (fun ls hl => ?_)
          refine lv_iload_n hx hb dX5_ofTowers_58 rfl (lv_at hl 5 rfl) ?_
          refine lv_iload_n hx hb dX5_ofTowers_59 rfl (lv_at hl 4 rfl) ?_
          refine lv_iconst (v := 2) hx hb dX5_ofTowers_60 (by decide) ?_
          refine z_icmp_ne (tgt := 81) (P := False) hx hb dX5_ofTowers_61 (by decide) (by decide) (fun c61 => ?_) (fun c61 => (show False from c61).elim)
          refine lv_iconst (v := 0) hx hb dX5_ofTowers_81 (by decide) ?_
          refine z_iadd (v := (xn + 0)) hx hb dX5_ofTowers_82 (rfl) ?_
          refine lv_istore_n (lv' := [(3, .int (xn + 0)), (6, .int 1), (5, .int 1), (0, .ref m0), (1, .int (nI pl)), (2, .int (nI 3)), (4, .int (nI i))]) hx hb dX5_ofTowers_83 rfl hl (by decide) rfl (fun ls hl => ?_)
          refine lv_iload_n hx hb dX5_ofTowers_84 rfl (lv_at hl 0 rfl) ?_
          refine lv_iload_n hx hb dX5_ofTowers_85 rfl (lv_at hl 5 rfl) ?_
          refine lv_iconst (v := 3) hx hb dX5_ofTowers_86 (by decide) ?_
          refine z_icmp_ne (tgt := 116) (P := True) hx hb dX5_ofTowers_87 (by decide) (by decide) (fun c87 => (show False from c87 trivial).elim) (fun c87 => ?_)
          refine lv_iload hx hb dX5_ofTowers_90 (lv_at hl 2 rfl) ?_
          refine z_if_eq (tgt := 116) (P := False) hx hb dX5_ofTowers_92 (by decide) (by decide) (fun c92 => (show False from c92).elim) (fun c92 => ?_)
          refine lv_aload_n hx hb dX5_ofTowers_95 rfl (lv_at hl 3 rfl) ?_
          refine lv_iconst (v := 0) hx hb dX5_ofTowers_96 (by decide) ?_
          refine lv_iload hx hb dX5_ofTowers_97 (lv_at hl 6 rfl) ?_
          refine lv_aload_n hx hb dX5_ofTowers_99 rfl (lv_at hl 3 rfl) ?_
          refine va_get (D := D) (ci := 4) (v := .ref m1) (C := RX5) (T := TX5) (N := 9) hx hb hts in4 hown hK hP 0 rfl rfl 0 (by decide) fl7 (fun _ h9 => h9) rfl dX5_ofTowers_100 ?_
          refine lv_bipush (v := 108) hx hb dX5_ofTowers_103 (by decide) ?_
          refine z_iald hx hb hK hP 1 0 rfl rfl (k := 108) (rfl) (by omega) (by decide) dX5_ofTowers_105 ?_
          refine z_top (y := nI hz) hH ?_
          refine z_ci (va_runV (As := [.int 0, .int (nI i), .int (nI hz)]) (rest := [.int (xn + 0)]) ⟨hx, hb, hml, hown, hts⟩ (c_X5_isDark l D cI cZ cL (m0 := m0) (m1 := m1) (m2 := m2) (m3 := m3) (m4 := m4) (m5 := m5) (gs := gs) (gp := gp) (gl := gl) (gk := gk) (fx := fx) (kn := kn) (ln := ln) (th := th) (hs := hs) (P := 0) (q := i) (hz := hz) (hpp := by omega) (hq := by omega) (hhz := by omega)) (cwV 3 hts gX5_ofTowers_X5_isDark rfl rfl rfl (by decide +kernel) ⟨Nat.le_of_ble_eq_true rfl, Nat.le_of_ble_eq_true rfl⟩) (z_preV hK (hP.sub [0, 1, 2, 3, 4, 5] rfl) 0 4 rfl rfl) rfl rfl hl.1 rfl (lv_room (Nat.le_of_ble_eq_true rfl)) dX5_ofTowers_106 ⟨Nat.le_of_ble_eq_true rfl, Nat.le_of_ble_eq_true rfl⟩) ?_
          refine z_if_eq (tgt := 116) (P := (pDk (fun k => gs (0 + 0 + k)) i hz) = false) hx hb dX5_ofTowers_109 (by decide) (zb_eq0) (fun c109 => ?_) (fun c109 => ?_)
          · skip
            refine lv_iconst (v := 0) hx hb dX5_ofTowers_116 (by decide) ?_
            refine z_iadd (v := ((xn + 0) + 0)) hx hb dX5_ofTowers_117 (rfl) ?_
            refine lv_istore_n (lv' := [(3, .int ((xn + 0) + 0)), (6, .int 1), (5, .int 1), (0, .ref m0), (1, .int (nI pl)), (2, .int (nI 3)), (4, .int (nI i))]) hx hb dX5_ofTowers_118 rfl hl (by decide) rfl (fun ls hl => ?_)
            refine lv_iload_n hx hb dX5_ofTowers_119 rfl (lv_at hl 0 rfl) ?_
            refine lv_iload_n hx hb dX5_ofTowers_120 rfl (lv_at hl 5 rfl) ?_
            refine lv_iconst (v := 5) hx hb dX5_ofTowers_121 (by decide) ?_
            refine z_icmp_ne (tgt := 144) (P := False) hx hb dX5_ofTowers_122 (by decide) (by decide) (fun c122 => ?_) (fun c122 => (show False from c122).elim)
            refine lv_iconst (v := 0) hx hb dX5_ofTowers_144 (by decide) ?_
            refine z_iadd (v := (((xn + 0) + 0) + 0)) hx hb dX5_ofTowers_145 (rfl) ?_
            refine lv_istore_n (lv' := [(3, .int (((xn + 0) + 0) + 0)), (6, .int 1), (5, .int 1), (0, .ref m0), (1, .int (nI pl)), (2, .int (nI 3)), (4, .int (nI i))]) hx hb dX5_ofTowers_146 rfl hl (by decide) rfl (fun ls hl => ?_)
            refine lv_iinc (v := nI (i + 1)) (lv' := [(4, .int (nI (i + 1))), (3, .int (((xn + 0) + 0) + 0)), (6, .int 1), (5, .int 1), (0, .ref m0), (1, .int (nI pl)), (2, .int (nI 3))]) hx hb dX5_ofTowers_147 hl (k := 6) rfl (nI_1 (i)) (by decide) rfl (fun ls hl => ?_)
            refine lv_goto (tgt := 5) hx hb dX5_ofTowers_150 (by decide) ?_
            exact ih5 (by omega) _ (⟨_, by first | (simp [-Nat.add_zero, -Nat.zero_add, -Nat.reduceAdd, exn, sm, pOTf, zb, hne, hne2, c9, c25, c48, c61, c87, c92, c109, c122]; done) | exact absurd (c25.symm.trans c48) hne2, lv_sub hl [4, 5, 6, 1, 0] rfl⟩)
          · skip
            refine lv_iconst (v := 1) hx hb dX5_ofTowers_112 (by decide) ?_
            refine lv_goto (tgt := 117) hx hb dX5_ofTowers_113 (by decide) ?_
            refine z_iadd (v := ((xn + 0) + 1)) hx hb dX5_ofTowers_117 (rfl) ?_
            refine lv_istore_n (lv' := [(3, .int ((xn + 0) + 1)), (6, .int 1), (5, .int 1), (0, .ref m0), (1, .int (nI pl)), (2, .int (nI 3)), (4, .int (nI i))]) hx hb dX5_ofTowers_118 rfl hl (by decide) rfl (fun ls hl => ?_)
            refine lv_iload_n hx hb dX5_ofTowers_119 rfl (lv_at hl 0 rfl) ?_
            refine lv_iload_n hx hb dX5_ofTowers_120 rfl (lv_at hl 5 rfl) ?_
            refine lv_iconst (v := 5) hx hb dX5_ofTowers_121 (by decide) ?_
            refine z_icmp_ne (tgt := 144) (P := False) hx hb dX5_ofTowers_122 (by decide) (by decide) (fun c122 => ?_) (fun c122 => (show False from c122).elim)
            refine lv_iconst (v := 0) hx hb dX5_ofTowers_144 (by decide) ?_
            refine z_iadd (v := (((xn + 0) + 1) + 0)) hx hb dX5_ofTowers_145 (rfl) ?_
            refine lv_istore_n (lv' := [(3, .int (((xn + 0) + 1) + 0)), (6, .int 1), (5, .int 1), (0, .ref m0), (1, .int (nI pl)), (2, .int (nI 3)), (4, .int (nI i))]) hx hb dX5_ofTowers_146 rfl hl (by decide) rfl (fun ls hl => ?_)
            refine lv_iinc (v := nI (i + 1)) (lv' := [(4, .int (nI (i + 1))), (3, .int (((xn + 0) + 1) + 0)), (6, .int 1), (5, .int 1), (0, .ref m0), (1, .int (nI pl)), (2, .int (nI 3))]) hx hb dX5_ofTowers_147 hl (k := 6) rfl (nI_1 (i)) (by decide) rfl (fun ls hl => ?_)
            refine lv_goto (tgt := 5) hx hb dX5_ofTowers_150 (by decide) ?_
            exact ih5 (by omega) _ (⟨_, by first | (simp [-Nat.add_zero, -Nat.zero_add, -Nat.reduceAdd, exn, sm, pOTf, zb, hne, hne2, c9, c25, c48, c61, c87, c92, c109, c122]; done) | exact absurd (c25.symm.trans c48) hne2, lv_sub hl [4, 5, 6, 1, 0] rfl⟩)
  · skip
    refine lv_iconst (v := 0) hx hb dX5_ofTowers_0 (by decide) ?_
    refine lv_istore_n (lv' := [(3, .int 0), (0, .ref m0), (1, .int (nI pl)), (2, .int (nI 5))]) hx hb dX5_ofTowers_1 rfl hl (by decide) rfl (fun ls hl => ?_)
    refine lv_iconst (v := 0) hx hb dX5_ofTowers_2 (by decide) ?_
    refine lv_istore (lv' := [(4, .int 0), (3, .int 0), (0, .ref m0), (1, .int (nI pl)), (2, .int (nI 5))]) hx hb dX5_ofTowers_3 hl (by decide) rfl (fun ls hl => ?_)
    refine z_up (N := 36) (i0 := 0) (fun i ls => ∃ xn : Int32, xn = sm (pOTf gs hz pl 5) i ∧ lv_has ls 7 [(0, .ref m0), (1, .int (nI pl)), (2, .int (nI 5)), (3, .int xn), (4, .int (nI i))]) (by omega) (⟨_, rfl, lv_sub hl [2, 3, 4, 1, 0] rfl⟩) (fun i ls hi5 hI ih5 => ?_)
    obtain ⟨xn, exn, hl⟩ := hI
    refine lv_iload hx hb dX5_ofTowers_5 (lv_at hl 4 rfl) ?_
    refine lv_bipush (v := 36) hx hb dX5_ofTowers_7 (by decide) ?_
    refine z_icmp_ge (tgt := 153) (P := 36 ≤ i) hx hb dX5_ofTowers_9 (by decide) (nI_leI (a := 36) (b := i) (by omega) (by omega)) (fun c9 => ?_) (fun c9 => ?_)
    · skip
      refine lv_iload_n hx hb dX5_ofTowers_153 rfl (lv_at hl 3 rfl) ?_
      exact z_iret hx hb hr hlocks dX5_ofTowers_154 (by rw [exn, show i = 36 by omega])
    · skip
      refine lv_aload_n hx hb dX5_ofTowers_12 rfl (lv_at hl 0 rfl) ?_
      refine va_get (D := D) (ci := 4) (v := .ref m1) (C := RX5) (T := TX5) (N := 9) hx hb hts in4 hown hK hP 0 rfl rfl 0 (by decide) fl7 (fun _ h9 => h9) rfl dX5_ofTowers_13 ?_
      refine lv_bipush (v := 36) hx hb dX5_ofTowers_16 (by decide) ?_
      refine lv_iload hx hb dX5_ofTowers_18 (lv_at hl 4 rfl) ?_
      refine z_iadd (v := nI (36 + i)) hx hb dX5_ofTowers_20 (nI_add (36) (i)) ?_
      refine z_iald hx hb hK hP 1 0 rfl rfl (k := (36 + i)) (rfl) (by omega) (by decide) dX5_ofTowers_21 ?_
      refine lv_iload_n hx hb dX5_ofTowers_22 rfl (lv_at hl 1 rfl) ?_
      refine lv_iconst (v := 1) hx hb dX5_ofTowers_23 (by decide) ?_
      refine z_iadd (v := nI (pl + 1)) hx hb dX5_ofTowers_24 (nI_add (pl) (1)) ?_
      refine z_icmp_ne (tgt := 32) (P := (gs (36 + i)) = (nI (pl + 1))) hx hb dX5_ofTowers_25 (by decide) (Iff.rfl) (fun c25 => ?_) (fun c25 => ?_)
      · skip
        refine lv_iconst (v := 0) hx hb dX5_ofTowers_32 (by decide) ?_
        refine lv_istore (lv' := [(5, .int 0), (0, .ref m0), (1, .int (nI pl)), (2, .int (nI 5)), (3, .int xn), (4, .int (nI i))]) hx hb dX5_ofTowers_33 hl (by decide) rfl (fun ls hl => ?_)
        refine lv_aload_n hx hb dX5_ofTowers_35 rfl (lv_at hl 1 rfl) ?_
        refine va_get (D := D) (ci := 4) (v := .ref m1) (C := RX5) (T := TX5) (N := 9) hx hb hts in4 hown hK hP 0 rfl rfl 0 (by decide) fl7 (fun _ h9 => h9) rfl dX5_ofTowers_36 ?_
        refine lv_bipush (v := 36) hx hb dX5_ofTowers_39 (by decide) ?_
        refine lv_iload hx hb dX5_ofTowers_41 (lv_at hl 5 rfl) ?_
        refine z_iadd (v := nI (36 + i)) hx hb dX5_ofTowers_43 (nI_add (36) (i)) ?_
        refine z_iald hx hb hK hP 1 0 rfl rfl (k := (36 + i)) (rfl) (by omega) (by decide) dX5_ofTowers_44 ?_
        refine lv_iconst (v := 2) hx hb dX5_ofTowers_45 (by decide) ?_
        refine lv_iload_n hx hb dX5_ofTowers_46 rfl (lv_at hl 2 rfl) ?_
        refine z_isub (v := nI (2 - pl)) hx hb dX5_ofTowers_47 (pk_sub (a := 2) (b := pl) (by omega)) ?_
        refine z_icmp_ne (tgt := 55) (P := (gs (36 + i)) = (nI (2 - pl))) hx hb dX5_ofTowers_48 (by decide) (Iff.rfl) (fun c48 => ?_) (fun c48 => ?_)
        · skip
          refine lv_iconst (v := 0) hx hb dX5_ofTowers_55 (by decide) ?_
          refine lv_istore (lv' := [(6, .int 0), (5, .int 0), (0, .ref m0), (1, .int (nI pl)), (2, .int (nI 5)), (3, .int xn), (4, .int (nI i))]) hx hb dX5_ofTowers_56 hl (by decide) rfl (fun ls hl => ?_)
          refine lv_iload_n hx hb dX5_ofTowers_58 rfl (lv_at hl 5 rfl) ?_
          refine lv_iload_n hx hb dX5_ofTowers_59 rfl (lv_at hl 4 rfl) ?_
          refine lv_iconst (v := 2) hx hb dX5_ofTowers_60 (by decide) ?_
          refine z_icmp_ne (tgt := 81) (P := False) hx hb dX5_ofTowers_61 (by decide) (by decide) (fun c61 => ?_) (fun c61 => (show False from c61).elim)
          refine lv_iconst (v := 0) hx hb dX5_ofTowers_81 (by decide) ?_
          refine z_iadd (v := (xn + 0)) hx hb dX5_ofTowers_82 (rfl) ?_
          refine lv_istore_n (lv' := [(3, .int (xn + 0)), (6, .int 0), (5, .int 0), (0, .ref m0), (1, .int (nI pl)), (2, .int (nI 5)), (4, .int (nI i))]) hx hb dX5_ofTowers_83 rfl hl (by decide) rfl (fun ls hl => ?_)
          refine lv_iload_n hx hb dX5_ofTowers_84 rfl (lv_at hl 0 rfl) ?_
          refine lv_iload_n hx hb dX5_ofTowers_85 rfl (lv_at hl 5 rfl) ?_
          refine lv_iconst (v := 3) hx hb dX5_ofTowers_86 (by decide) ?_
          refine z_icmp_ne (tgt := 116) (P := False) hx hb dX5_ofTowers_87 (by decide) (by decide) (fun c87 => ?_) (fun c87 => (show False from c87).elim)
          refine lv_iconst (v := 0) hx hb dX5_ofTowers_116 (by decide) ?_
          refine z_iadd (v := ((xn + 0) + 0)) hx hb dX5_ofTowers_117 (rfl) ?_
          refine lv_istore_n (lv' := [(3, .int ((xn + 0) + 0)), (6, .int 0), (5, .int 0), (0, .ref m0), (1, .int (nI pl)), (2, .int (nI 5)), (4, .int (nI i))]) hx hb dX5_ofTowers_118 rfl hl (by decide) rfl (fun ls hl => ?_)
          refine lv_iload_n hx hb dX5_ofTowers_119 rfl (lv_at hl 0 rfl) ?_
          refine lv_iload_n hx hb dX5_ofTowers_120 rfl (lv_at hl 5 rfl) ?_
          refine lv_iconst (v := 5) hx hb dX5_ofTowers_121 (by decide) ?_
          refine z_icmp_ne (tgt := 144) (P := True) hx hb dX5_ofTowers_122 (by decide) (by decide) (fun c122 => (show False from c122 trivial).elim) (fun c122 => ?_)
          refine lv_iload hx hb dX5_ofTowers_125 (lv_at hl 1 rfl) ?_
          refine z_if_eq (tgt := 144) (P := True) hx hb dX5_ofTowers_127 (by decide) (by decide) (fun c127 => ?_) (fun c127 => (show False from c127 trivial).elim)
          refine lv_iconst (v := 0) hx hb dX5_ofTowers_144 (by decide) ?_
          refine z_iadd (v := (((xn + 0) + 0) + 0)) hx hb dX5_ofTowers_145 (rfl) ?_
          refine lv_istore_n (lv' := [(3, .int (((xn + 0) + 0) + 0)), (6, .int 0), (5, .int 0), (0, .ref m0), (1, .int (nI pl)), (2, .int (nI 5)), (4, .int (nI i))]) hx hb dX5_ofTowers_146 rfl hl (by decide) rfl (fun ls hl => ?_)
          refine lv_iinc (v := nI (i + 1)) (lv' := [(4, .int (nI (i + 1))), (3, .int (((xn + 0) + 0) + 0)), (6, .int 0), (5, .int 0), (0, .ref m0), (1, .int (nI pl)), (2, .int (nI 5))]) hx hb dX5_ofTowers_147 hl (k := 6) rfl (nI_1 (i)) (by decide) rfl (fun ls hl => ?_)
          refine lv_goto (tgt := 5) hx hb dX5_ofTowers_150 (by decide) ?_
          exact ih5 (by omega) _ (⟨_, by first | (simp [-Nat.add_zero, -Nat.zero_add, -Nat.reduceAdd, exn, sm, pOTf, zb, hne, hne2, c9, c25, c48, c61, c87, c122, c127]; done) | exact absurd (c25.symm.trans c48) hne2, lv_sub hl [4, 5, 6, 1, 0] rfl⟩)
        · skip
          refine lv_iconst (v := 1) hx hb dX5_ofTowers_51 (by decide) ?_
          refine lv_goto (tgt := 56) hx hb dX5_ofTowers_52 (by decide) ?_
          refine lv_istore (lv' := [(6, .int 1), (5, .int 0), (0, .ref m0), (1, .int (nI pl)), (2, .int (nI 5)), (3, .int xn), (4, .int (nI i))]) hx hb dX5_ofTowers_56 hl (by decide) rfl (fun ls hl => ?_)
          refine lv_iload_n hx hb dX5_ofTowers_58 rfl (lv_at hl 5 rfl) ?_
          refine lv_iload_n hx hb dX5_ofTowers_59 rfl (lv_at hl 4 rfl) ?_
          refine lv_iconst (v := 2) hx hb dX5_ofTowers_60 (by decide) ?_
          refine z_icmp_ne (tgt := 81) (P := False) hx hb dX5_ofTowers_61 (by decide) (by decide) (fun c61 => ?_) (fun c61 => (show False from c61).elim)
          refine lv_iconst (v := 0) hx hb dX5_ofTowers_81 (by decide) ?_
          refine z_iadd (v := (xn + 0)) hx hb dX5_ofTowers_82 (rfl) ?_
          refine lv_istore_n (lv' := [(3, .int (xn + 0)), (6, .int 1), (5, .int 0), (0, .ref m0), (1, .int (nI pl)), (2, .int (nI 5)), (4, .int (nI i))]) hx hb dX5_ofTowers_83 rfl hl (by decide) rfl (fun ls hl => ?_)
          refine lv_iload_n hx hb dX5_ofTowers_84 rfl (lv_at hl 0 rfl) ?_
          refine lv_iload_n hx hb dX5_ofTowers_85 rfl (lv_at hl 5 rfl) ?_
          refine lv_iconst (v := 3) hx hb dX5_ofTowers_86 (by decide) ?_
          refine z_icmp_ne (tgt := 116) (P := False) hx hb dX5_ofTowers_87 (by decide) (by decide) (fun c87 => ?_) (fun c87 => (show False from c87).elim)
          refine lv_iconst (v := 0) hx hb dX5_ofTowers_116 (by decide) ?_
          refine z_iadd (v := ((xn + 0) + 0)) hx hb dX5_ofTowers_117 (rfl) ?_
          refine lv_istore_n (lv' := [(3, .int ((xn + 0) + 0)), (6, .int 1), (5, .int 0), (0, .ref m0), (1, .int (nI pl)), (2, .int (nI 5)), (4, .int (nI i))]) hx hb dX5_ofTowers_118 rfl hl (by decide) rfl (fun ls hl => ?_)
          refine lv_iload_n hx hb dX5_ofTowers_119 rfl (lv_at hl 0 rfl) ?_
          refine lv_iload_n hx hb dX5_ofTowers_120 rfl (lv_at hl 5 rfl) ?_
          refine lv_iconst (v := 5) hx hb dX5_ofTowers_121 (by decide) ?_
          refine z_icmp_ne (tgt := 144) (P := True) hx hb dX5_ofTowers_122 (by decide) (by decide) (fun c122 => (show False from c122 trivial).elim) (fun c122 => ?_)
          refine lv_iload hx hb dX5_ofTowers_125 (lv_at hl 1 rfl) ?_
          refine z_if_eq (tgt := 144) (P := False) hx hb dX5_ofTowers_127 (by decide) (by decide) (fun c127 => (show False from c127).elim) (fun c127 => ?_)
          refine lv_aload_n hx hb dX5_ofTowers_130 rfl (lv_at hl 3 rfl) ?_
          refine lv_iload hx hb dX5_ofTowers_131 (lv_at hl 6 rfl) ?_
          refine lv_iload_n hx hb dX5_ofTowers_133 rfl (lv_at hl 4 rfl) ?_
          refine z_ci (va_runV (As := [.int (nI i), .int (nI pl)]) (rest := [.int ((xn + 0) + 0)]) ⟨hx, hb, hml, hown, hts⟩ (c_X5_isShadedBy l D cI cZ cL (m0 := m0) (m1 := m1) (m2 := m2) (m3 := m3) (m4 := m4) (m5 := m5) (gs := gs) (gp := gp) (gl := gl) (gk := gk) (fx := fx) (kn := kn) (ln := ln) (th := th) (hs := hs) (q := i) (pl := pl) (hz := hz) (hq := by omega) (hpl := by omega) (hhz := by omega) (hH := hH)) (cwV 2 hts gX5_ofTowers_X5_isShadedBy rfl rfl rfl (by decide +kernel) ⟨Nat.le_of_ble_eq_true rfl, Nat.le_of_ble_eq_true rfl⟩) (z_preV hK (hP.sub [0, 1, 2, 3, 4, 5] rfl) 0 4 rfl rfl) rfl rfl hl.1 rfl (lv_room (Nat.le_of_ble_eq_true rfl)) dX5_ofTowers_134 ⟨Nat.le_of_ble_eq_true rfl, Nat.le_of_ble_eq_true rfl⟩) ?_
          refine z_if_eq (tgt := 144) (P := (pIS gs hz pl i) = false) hx hb dX5_ofTowers_137 (by decide) (zb_eq0) (fun c137 => ?_) (fun c137 => ?_)
          · skip
            refine lv_iconst (v := 0) hx hb dX5_ofTowers_144 (by decide) ?_
            refine z_iadd (v := (((xn + 0) + 0) + 0)) hx hb dX5_ofTowers_145 (rfl) ?_
            refine lv_istore_n (lv' := [(3, .int (((xn + 0) + 0) + 0)), (6, .int 1), (5, .int 0), (0, .ref m0), (1, .int (nI pl)), (2, .int (nI 5)), (4, .int (nI i))]) hx hb dX5_ofTowers_146 rfl hl (by decide) rfl (fun ls hl => ?_)
            refine lv_iinc (v := nI (i + 1)) (lv' := [(4, .int (nI (i + 1))), (3, .int (((xn + 0) + 0) + 0)), (6, .int 1), (5, .int 0), (0, .ref m0), (1, .int (nI pl)), (2, .int (nI 5))]) hx hb dX5_ofTowers_147 hl (k := 6) rfl (nI_1 (i)) (by decide) rfl (fun ls hl => ?_)
            refine lv_goto (tgt := 5) hx hb dX5_ofTowers_150 (by decide) ?_
            exact ih5 (by omega) _ (⟨_, by first | (simp [-Nat.add_zero, -Nat.zero_add, -Nat.reduceAdd, exn, sm, pOTf, zb, hne, hne2, c9, c25, c48, c61, c87, c122, c127, c137]; done) | exact absurd (c25.symm.trans c48) hne2, lv_sub hl [4, 5, 6, 1, 0] rfl⟩)
          · skip
            refine lv_iconst (v := 1) hx hb dX5_ofTowers_140 (by decide) ?_
            refine lv_goto (tgt := 145) hx hb dX5_ofTowers_141 (by decide) ?_
            refine z_iadd (v := (((xn + 0) + 0) + 1)) hx hb dX5_ofTowers_145 (rfl) ?_
            refine lv_istore_n (lv' := [(3, .int (((xn + 0) + 0) + 1)), (6, .int 1), (5, .int 0), (0, .ref m0), (1, .int (nI pl)), (2, .int (nI 5)), (4, .int (nI i))]) hx hb dX5_ofTowers_146 rfl hl (by decide) rfl (fun ls hl => ?_)
            refine lv_iinc (v := nI (i + 1)) (lv' := [(4, .int (nI (i + 1))), (3, .int (((xn + 0) + 0) + 1)), (6, .int 1), (5, .int 0), (0, .ref m0), (1, .int (nI pl)), (2, .int (nI 5))]) hx hb dX5_ofTowers_147 hl (k := 6) rfl (nI_1 (i)) (by decide) rfl (fun ls hl => ?_)
            refine lv_goto (tgt := 5) hx hb dX5_ofTowers_150 (by decide) ?_
            exact ih5 (by omega) _ (⟨_, by first | (simp [-Nat.add_zero, -Nat.zero_add, -Nat.reduceAdd, exn, sm, pOTf, zb, hne, hne2, c9, c25, c48, c61, c87, c122, c127, c137]; done) | exact absurd (c25.symm.trans c48) hne2, lv_sub hl [4, 5, 6, 1, 0] rfl⟩)
      · skip
        refine lv_iconst (v := 1) hx hb dX5_ofTowers_28 (by decide) ?_
        refine lv_goto (tgt := 33) hx hb dX5_ofTowers_29 (by decide) ?_
        refine lv_istore (lv' := [(5, .int 1), (0, .ref m0), (1, .int (nI pl)), (2, .int (nI 5)), (3, .int xn), (4, .int (nI i))]) hx hb dX5_ofTowers_33 hl (by decide) rfl (fun ls hl => ?_)
        refine lv_aload_n hx hb dX5_ofTowers_35 rfl (lv_at hl 1 rfl) ?_
        refine va_get (D := D) (ci := 4) (v := .ref m1) (C := RX5) (T := TX5) (N := 9) hx hb hts in4 hown hK hP 0 rfl rfl 0 (by decide) fl7 (fun _ h9 => h9) rfl dX5_ofTowers_36 ?_
        refine lv_bipush (v := 36) hx hb dX5_ofTowers_39 (by decide) ?_
        refine lv_iload hx hb dX5_ofTowers_41 (lv_at hl 5 rfl) ?_
        refine z_iadd (v := nI (36 + i)) hx hb dX5_ofTowers_43 (nI_add (36) (i)) ?_
        refine z_iald hx hb hK hP 1 0 rfl rfl (k := (36 + i)) (rfl) (by omega) (by decide) dX5_ofTowers_44 ?_
        refine lv_iconst (v := 2) hx hb dX5_ofTowers_45 (by decide) ?_
        refine lv_iload_n hx hb dX5_ofTowers_46 rfl (lv_at hl 2 rfl) ?_
        refine z_isub (v := nI (2 - pl)) hx hb dX5_ofTowers_47 (pk_sub (a := 2) (b := pl) (by omega)) ?_
        refine z_icmp_ne (tgt := 55) (P := (gs (36 + i)) = (nI (2 - pl))) hx hb dX5_ofTowers_48 (by decide) (Iff.rfl) (fun c48 => ?_) (fun c48 => ?_)
        · skip
          refine lv_iconst (v := 0) hx hb dX5_ofTowers_55 (by decide) ?_
          refine lv_istore (lv' := [(6, .int 0), (5, .int 1), (0, .ref m0), (1, .int (nI pl)), (2, .int (nI 5)), (3, .int xn), (4, .int (nI i))]) hx hb dX5_ofTowers_56 hl (by decide) rfl (fun ls hl => ?_)
          refine lv_iload_n hx hb dX5_ofTowers_58 rfl (lv_at hl 5 rfl) ?_
          refine lv_iload_n hx hb dX5_ofTowers_59 rfl (lv_at hl 4 rfl) ?_
          refine lv_iconst (v := 2) hx hb dX5_ofTowers_60 (by decide) ?_
          refine z_icmp_ne (tgt := 81) (P := False) hx hb dX5_ofTowers_61 (by decide) (by decide) (fun c61 => ?_) (fun c61 => (show False from c61).elim)
          refine lv_iconst (v := 0) hx hb dX5_ofTowers_81 (by decide) ?_
          refine z_iadd (v := (xn + 0)) hx hb dX5_ofTowers_82 (rfl) ?_
          refine lv_istore_n (lv' := [(3, .int (xn + 0)), (6, .int 0), (5, .int 1), (0, .ref m0), (1, .int (nI pl)), (2, .int (nI 5)), (4, .int (nI i))]) hx hb dX5_ofTowers_83 rfl hl (by decide) rfl (fun ls hl => ?_)
          refine lv_iload_n hx hb dX5_ofTowers_84 rfl (lv_at hl 0 rfl) ?_
          refine lv_iload_n hx hb dX5_ofTowers_85 rfl (lv_at hl 5 rfl) ?_
          refine lv_iconst (v := 3) hx hb dX5_ofTowers_86 (by decide) ?_
          refine z_icmp_ne (tgt := 116) (P := False) hx hb dX5_ofTowers_87 (by decide) (by decide) (fun c87 => ?_) (fun c87 => (show False from c87).elim)
          refine lv_iconst (v := 0) hx hb dX5_ofTowers_116 (by decide) ?_
          refine z_iadd (v := ((xn + 0) + 0)) hx hb dX5_ofTowers_117 (rfl) ?_
          refine lv_istore_n (lv' := [(3, .int ((xn + 0) + 0)), (6, .int 0), (5, .int 1), (0, .ref m0), (1, .int (nI pl)), (2, .int (nI 5)), (4, .int (nI i))]) hx hb dX5_ofTowers_118 rfl hl (by decide) rfl (fun ls hl => ?_)
          refine lv_iload_n hx hb dX5_ofTowers_119 rfl (lv_at hl 0 rfl) ?_
          refine lv_iload_n hx hb dX5_ofTowers_120 rfl (lv_at hl 5 rfl) ?_
          refine lv_iconst (v := 5) hx hb dX5_ofTowers_121 (by decide) ?_
          refine z_icmp_ne (tgt := 144) (P := True) hx hb dX5_ofTowers_122 (by decide) (by decide) (fun c122 => (show False from c122 trivial).elim) (fun c122 => ?_)
          refine lv_iload hx hb dX5_ofTowers_125 (lv_at hl 1 rfl) ?_
          refine z_if_eq (tgt := 144) (P := True) hx hb dX5_ofTowers_127 (by decide) (by decide) (fun c127 => ?_) (fun c127 => (show False from c127 trivial).elim)
          refine lv_iconst (v := 0) hx hb dX5_ofTowers_144 (by decide) ?_
          refine z_iadd (v := (((xn + 0) + 0) + 0)) hx hb dX5_ofTowers_145 (rfl) ?_
          refine lv_istore_n (lv' := [(3, .int (((xn + 0) + 0) + 0)), (6, .int 0), (5, .int 1), (0, .ref m0), (1, .int (nI pl)), (2, .int (nI 5)), (4, .int (nI i))]) hx hb dX5_ofTowers_146 rfl hl (by decide) rfl (fun ls hl => ?_)
          refine lv_iinc (v := nI (i + 1)) (lv' := [(4, .int (nI (i + 1))), (3, .int (((xn + 0) + 0) + 0)), (6, .int 0), (5, .int 1), (0, .ref m0), (1, .int (nI pl)), (2, .int (nI 5))]) hx hb dX5_ofTowers_147 hl (k := 6) rfl (nI_1 (i)) (by decide) rfl (fun ls hl => ?_)
          refine lv_goto (tgt := 5) hx hb dX5_ofTowers_150 (by decide) ?_
          exact ih5 (by omega) _ (⟨_, by first | (simp [-Nat.add_zero, -Nat.zero_add, -Nat.reduceAdd, exn, sm, pOTf, zb, hne, hne2, c9, c25, c48, c61, c87, c122, c127]; done) | exact absurd (c25.symm.trans c48) hne2, lv_sub hl [4, 5, 6, 1, 0] rfl⟩)
        · skip
          refine lv_iconst (v := 1) hx hb dX5_ofTowers_51 (by decide) ?_
          refine lv_goto (tgt := 56) hx hb dX5_ofTowers_52 (by decide) ?_
          refine lv_istore (lv' := [(6, .int 1), (5, .int 1), (0, .ref m0), (1, .int (nI pl)), (2, .int (nI 5)), (3, .int xn), (4, .int (nI i))]) hx hb dX5_ofTowers_56 hl (by decide) rfl (fun ls hl => ?_)
          refine lv_iload_n hx hb dX5_ofTowers_58 rfl (lv_at hl 5 rfl) ?_
          refine lv_iload_n hx hb dX5_ofTowers_59 rfl (lv_at hl 4 rfl) ?_
          refine lv_iconst (v := 2) hx hb dX5_ofTowers_60 (by decide) ?_
          refine z_icmp_ne (tgt := 81) (P := False) hx hb dX5_ofTowers_61 (by decide) (by decide) (fun c61 => ?_) (fun c61 => (show False from c61).elim)
          refine lv_iconst (v := 0) hx hb dX5_ofTowers_81 (by decide) ?_
          refine z_iadd (v := (xn + 0)) hx hb dX5_ofTowers_82 (rfl) ?_
          refine lv_istore_n (lv' := [(3, .int (xn + 0)), (6, .int 1), (5, .int 1), (0, .ref m0), (1, .int (nI pl)), (2, .int (nI 5)), (4, .int (nI i))]) hx hb dX5_ofTowers_83 rfl hl (by decide) rfl (fun ls hl => ?_)
          refine lv_iload_n hx hb dX5_ofTowers_84 rfl (lv_at hl 0 rfl) ?_
          refine lv_iload_n hx hb dX5_ofTowers_85 rfl (lv_at hl 5 rfl) ?_
          refine lv_iconst (v := 3) hx hb dX5_ofTowers_86 (by decide) ?_
          refine z_icmp_ne (tgt := 116) (P := False) hx hb dX5_ofTowers_87 (by decide) (by decide) (fun c87 => ?_) (fun c87 => (show False from c87).elim)
          refine lv_iconst (v := 0) hx hb dX5_ofTowers_116 (by decide) ?_
          refine z_iadd (v := ((xn + 0) + 0)) hx hb dX5_ofTowers_117 (rfl) ?_
          refine lv_istore_n (lv' := [(3, .int ((xn + 0) + 0)), (6, .int 1), (5, .int 1), (0, .ref m0), (1, .int (nI pl)), (2, .int (nI 5)), (4, .int (nI i))]) hx hb dX5_ofTowers_118 rfl hl (by decide) rfl (fun ls hl => ?_)
          refine lv_iload_n hx hb dX5_ofTowers_119 rfl (lv_at hl 0 rfl) ?_
          refine lv_iload_n hx hb dX5_ofTowers_120 rfl (lv_at hl 5 rfl) ?_
          refine lv_iconst (v := 5) hx hb dX5_ofTowers_121 (by decide) ?_
          refine z_icmp_ne (tgt := 144) (P := True) hx hb dX5_ofTowers_122 (by decide) (by decide) (fun c122 => (show False from c122 trivial).elim) (fun c122 => ?_)
          refine lv_iload hx hb dX5_ofTowers_125 (lv_at hl 1 rfl) ?_
          refine z_if_eq (tgt := 144) (P := False) hx hb dX5_ofTowers_127 (by decide) (by decide) (fun c127 => (show False from c127).elim) (fun c127 => ?_)
          refine lv_aload_n hx hb dX5_ofTowers_130 rfl (lv_at hl 3 rfl) ?_
          refine lv_iload hx hb dX5_ofTowers_131 (lv_at hl 6 rfl) ?_
          refine lv_iload_n hx hb dX5_ofTowers_133 rfl (lv_at hl 4 rfl) ?_
          refine z_ci (va_runV (As := [.int (nI i), .int (nI pl)]) (rest := [.int ((xn + 0) + 0)]) ⟨hx, hb, hml, hown, hts⟩ (c_X5_isShadedBy l D cI cZ cL (m0 := m0) (m1 := m1) (m2 := m2) (m3 := m3) (m4 := m4) (m5 := m5) (gs := gs) (gp := gp) (gl := gl) (gk := gk) (fx := fx) (kn := kn) (ln := ln) (th := th) (hs := hs) (q := i) (pl := pl) (hz := hz) (hq := by omega) (hpl := by omega) (hhz := by omega) (hH := hH)) (cwV 2 hts gX5_ofTowers_X5_isShadedBy rfl rfl rfl (by decide +kernel) ⟨Nat.le_of_ble_eq_true rfl, Nat.le_of_ble_eq_true rfl⟩) (z_preV hK (hP.sub [0, 1, 2, 3, 4, 5] rfl) 0 4 rfl rfl) rfl rfl hl.1 rfl (lv_room (Nat.le_of_ble_eq_true rfl)) dX5_ofTowers_134 ⟨Nat.le_of_ble_eq_true rfl, Nat.le_of_ble_eq_true rfl⟩) ?_
          refine z_if_eq (tgt := 144) (P := (pIS gs hz pl i) = false) hx hb dX5_ofTowers_137 (by decide) (zb_eq0) (fun c137 => ?_) (fun c137 => ?_)
          · skip
            refine lv_iconst (v := 0) hx hb dX5_ofTowers_144 (by decide) ?_
            refine z_iadd (v := (((xn + 0) + 0) + 0)) hx hb dX5_ofTowers_145 (rfl) ?_
            refine lv_istore_n (lv' := [(3, .int (((xn + 0) + 0) + 0)), (6, .int 1), (5, .int 1), (0, .ref m0), (1, .int (nI pl)), (2, .int (nI 5)), (4, .int (nI i))]) hx hb dX5_ofTowers_146 rfl hl (by decide) rfl (fun ls hl => ?_)
            refine lv_iinc (v := nI (i + 1)) (lv' := [(4, .int (nI (i + 1))), (3, .int (((xn + 0) + 0) + 0)), (6, .int 1), (5, .int 1), (0, .ref m0), (1, .int (nI pl)), (2, .int (nI 5))]) hx hb dX5_ofTowers_147 hl (k := 6) rfl (nI_1 (i)) (by decide) rfl (fun ls hl => ?_)
            refine lv_goto (tgt := 5) hx hb dX5_ofTowers_150 (by decide) ?_
            exact ih5 (by omega) _ (⟨_, by first | (simp [-Nat.add_zero, -Nat.zero_add, -Nat.reduceAdd, exn, sm, pOTf, zb, hne, hne2, c9, c25, c48, c61, c87, c122, c127, c137]; done) | exact absurd (c25.symm.trans c48) hne2, lv_sub hl [4, 5, 6, 1, 0] rfl⟩)
          · skip
            refine lv_iconst (v := 1) hx hb dX5_ofTowers_140 (by decide) ?_
            refine lv_goto (tgt := 145) hx hb dX5_ofTowers_141 (by decide) ?_
            refine z_iadd (v := (((xn + 0) + 0) + 1)) hx hb dX5_ofTowers_145 (rfl) ?_
            refine lv_istore_n (lv' := [(3, .int (((xn + 0) + 0) + 1)), (6, .int 1), (5, .int 1), (0, .ref m0), (1, .int (nI pl)), (2, .int (nI 5)), (4, .int (nI i))]) hx hb dX5_ofTowers_146 rfl hl (by decide) rfl (fun ls hl => ?_)
            refine lv_iinc (v := nI (i + 1)) (lv' := [(4, .int (nI (i + 1))), (3, .int (((xn + 0) + 0) + 1)), (6, .int 1), (5, .int 1), (0, .ref m0), (1, .int (nI pl)), (2, .int (nI 5))]) hx hb dX5_ofTowers_147 hl (k := 6) rfl (nI_1 (i)) (by decide) rfl (fun ls hl => ?_)
            refine lv_goto (tgt := 5) hx hb dX5_ofTowers_150 (by decide) ?_
            exact ih5 (by omega) _ (⟨_, by first | (simp [-Nat.add_zero, -Nat.zero_add, -Nat.reduceAdd, exn, sm, pOTf, zb, hne, hne2, c9, c25, c48, c61, c87, c122, c127, c137]; done) | exact absurd (c25.symm.trans c48) hne2, lv_sub hl [4, 5, 6, 1, 0] rfl⟩)

set_option maxHeartbeats 4000000 in
set_option maxRecDepth 100000 in
/-- something of a player -/
theorem c_X5_ofPlayer (l : Launch) (D : va_G) (cI cZ cL : ClassId) (m0 : Nat) (m1 : Nat) (m2 : Nat) (m3 : Nat) (m4 : Nat) (m5 : Nat) (gs : Nat → Int32) (gp : Nat → Int32) (gl : Nat → Int32) (gk : Nat → Int32) (fx : Nat → Int32) (kn : Nat) (ln : Nat) (th : Int32) (hs : Int64) (pl : Nat) (wh : Nat) (hz : Nat) (hpl : pl < 2) (hwh : wh < 6) (hhz : hz < 12) (hH : gs 108 = nI hz) : Met l yX5_ofPlayer wsX5_ofPlayer ({ frames := 6, cells := 0, slots := 0, locals := 146 }) (va_Pc [.ref m0, .int (nI pl), .int (nI wh)] (zW D cI cZ cL [(m0, .inr (4, [.ref m1, .ref m2, .int (nI kn), .ref m3, .ref m4, .ref m5, .int (nI ln), .int th, .long hs])), (m1, .inl (cI, 228, .inl gs)), (m2, .inl (cI, 684, .inl gp)), (m3, .inl (cI, 228, .inl gl)), (m4, .inl (cZ, 2, .inl gk)), (m5, .inl (cI, 60, .inl fx))])) (zQi (pPlM gs hz pl wh)) 0 0 (fun _ => False) := by
  refine Met.ofW (cc := cX5_ofPlayer) (maxL := 3) (ret := (some .int)) (by decide) rfl ?_
  intro p e s m args below meth c s₁ B hml hv
  obtain ⟨rfl, hP, hK⟩ := hv
  have hx := B.exec
  have hb := B.bytes
  have hr := B.returns
  have hts := atoms_spec (ws := wsX5_ofPlayer) B.pre
  have hown : s.vm.findClass RX5 = some m.cls := findClass_of_methodNamed B.named
  have hlocks := B.notSynchronized
  have in4 : ∀ w ∈ u_ws RX5 TX5 9, w ∈ wsX5_ofPlayer := by decide +kernel
  have fl7 := hts (.fieldLink RX5 7 "TowerShadesModel" "s" "[I") (by decide +kernel)
  have hl := lv_entry ([.ref m0, .int (nI pl), .int (nI wh)]) (n := 3) (Nat.le_of_ble_eq_true rfl)
  rw [lg_entry_eq]
  generalize (lg_sl ([.ref m0, .int (nI pl), .int (nI wh)]) ++ List.replicate (3 - (lg_sl ([.ref m0, .int (nI pl), .int (nI wh)])).length) Slot.unset).toArray = ls at hl ⊢
  have hl : lv_has ls 3 [(0, .ref m0), (1, .int (nI pl)), (2, .int (nI wh))] := hl
  rcases (show wh = 0 ∨ wh = 1 ∨ wh = 2 ∨ wh = 3 ∨ wh = 4 ∨ wh = 5 by omega) with rfl | rfl | rfl | rfl | rfl | rfl
  · skip
    refine lv_iload_n hx hb dX5_ofPlayer_0 rfl (lv_at hl 2 rfl) ?_
    refine z_if_ne (tgt := 16) (P := True) hx hb dX5_ofPlayer_1 (by decide) (by decide) (fun c1 => (show False from c1 trivial).elim) (fun c1 => ?_)
    refine lv_aload_n hx hb dX5_ofPlayer_4 rfl (lv_at hl 0 rfl) ?_
    refine va_get (D := D) (ci := 4) (v := .ref m1) (C := RX5) (T := TX5) (N := 9) hx hb hts in4 hown hK hP 0 rfl rfl 0 (by decide) fl7 (fun _ h9 => h9) rfl dX5_ofPlayer_5 ?_
    refine lv_bipush (v := 112) hx hb dX5_ofPlayer_8 (by decide) ?_
    refine lv_iload_n hx hb dX5_ofPlayer_10 rfl (lv_at hl 1 rfl) ?_
    refine z_iadd (v := nI (112 + pl)) hx hb dX5_ofPlayer_11 (nI_add (112) (pl)) ?_
    refine z_iald hx hb hK hP 1 0 rfl rfl (k := (112 + pl)) (rfl) (by omega) (by decide) dX5_ofPlayer_12 ?_
    refine lv_goto (tgt := 49) hx hb dX5_ofPlayer_13 (by decide) ?_
    exact z_iret hx hb hr hlocks dX5_ofPlayer_49 (rfl)
  · skip
    refine lv_iload_n hx hb dX5_ofPlayer_0 rfl (lv_at hl 2 rfl) ?_
    refine z_if_ne (tgt := 16) (P := False) hx hb dX5_ofPlayer_1 (by decide) (by decide) (fun c1 => ?_) (fun c1 => (show False from c1).elim)
    refine lv_iload_n hx hb dX5_ofPlayer_16 rfl (lv_at hl 2 rfl) ?_
    refine lv_iconst (v := 1) hx hb dX5_ofPlayer_17 (by decide) ?_
    refine z_icmp_ne (tgt := 29) (P := True) hx hb dX5_ofPlayer_18 (by decide) (by decide) (fun c18 => (show False from c18 trivial).elim) (fun c18 => ?_)
    refine lv_aload_n hx hb dX5_ofPlayer_21 rfl (lv_at hl 0 rfl) ?_
    refine lv_iload_n hx hb dX5_ofPlayer_22 rfl (lv_at hl 1 rfl) ?_
    refine z_ci (va_runV (As := [.int (nI pl)]) (rest := []) ⟨hx, hb, hml, hown, hts⟩ (c_X5_towers l D cI cZ cL (m0 := m0) (m1 := m1) (m2 := m2) (m3 := m3) (m4 := m4) (m5 := m5) (gs := gs) (gp := gp) (gl := gl) (gk := gk) (fx := fx) (kn := kn) (ln := ln) (th := th) (hs := hs) (pl := pl) (hpl := by omega)) (cwV 1 hts gX5_ofPlayer_X5_towers rfl rfl rfl (by decide +kernel) ⟨Nat.le_of_ble_eq_true rfl, Nat.le_of_ble_eq_true rfl⟩) (z_preV hK (hP.sub [0, 1, 2, 3, 4, 5] rfl) 0 4 rfl rfl) rfl rfl hl.1 rfl (lv_room (Nat.le_of_ble_eq_true rfl)) dX5_ofPlayer_23 ⟨Nat.le_of_ble_eq_true rfl, Nat.le_of_ble_eq_true rfl⟩) ?_
    refine lv_goto (tgt := 49) hx hb dX5_ofPlayer_26 (by decide) ?_
    exact z_iret hx hb hr hlocks dX5_ofPlayer_49 (rfl)
  · skip
    refine lv_iload_n hx hb dX5_ofPlayer_0 rfl (lv_at hl 2 rfl) ?_
    refine z_if_ne (tgt := 16) (P := False) hx hb dX5_ofPlayer_1 (by decide) (by decide) (fun c1 => ?_) (fun c1 => (show False from c1).elim)
    refine lv_iload_n hx hb dX5_ofPlayer_16 rfl (lv_at hl 2 rfl) ?_
    refine lv_iconst (v := 1) hx hb dX5_ofPlayer_17 (by decide) ?_
    refine z_icmp_ne (tgt := 29) (P := False) hx hb dX5_ofPlayer_18 (by decide) (by decide) (fun c18 => ?_) (fun c18 => (show False from c18).elim)
    refine lv_iload_n hx hb dX5_ofPlayer_29 rfl (lv_at hl 2 rfl) ?_
    refine lv_iconst (v := 4) hx hb dX5_ofPlayer_30 (by decide) ?_
    refine z_icmp_ne (tgt := 43) (P := False) hx hb dX5_ofPlayer_31 (by decide) (by decide) (fun c31 => ?_) (fun c31 => (show False from c31).elim)
    refine lv_aload_n hx hb dX5_ofPlayer_43 rfl (lv_at hl 0 rfl) ?_
    refine lv_iload_n hx hb dX5_ofPlayer_44 rfl (lv_at hl 1 rfl) ?_
    refine lv_iload_n hx hb dX5_ofPlayer_45 rfl (lv_at hl 2 rfl) ?_
    refine z_ci (va_runV (As := [.int (nI pl), .int (nI 2)]) (rest := []) ⟨hx, hb, hml, hown, hts⟩ (c_X5_ofTowers l D cI cZ cL (m0 := m0) (m1 := m1) (m2 := m2) (m3 := m3) (m4 := m4) (m5 := m5) (gs := gs) (gp := gp) (gl := gl) (gk := gk) (fx := fx) (kn := kn) (ln := ln) (th := th) (hs := hs) (pl := pl) (wh := 2) (hz := hz) (hpl := by omega) (hwh := by omega) (hhz := by omega) (hH := hH)) (cwV 2 hts gX5_ofPlayer_X5_ofTowers rfl rfl rfl (by decide +kernel) ⟨Nat.le_of_ble_eq_true rfl, Nat.le_of_ble_eq_true rfl⟩) (z_preV hK (hP.sub [0, 1, 2, 3, 4, 5] rfl) 0 4 rfl rfl) rfl rfl hl.1 rfl (lv_room (Nat.le_of_ble_eq_true rfl)) dX5_ofPlayer_46 ⟨Nat.le_of_ble_eq_true rfl, Nat.le_of_ble_eq_true rfl⟩) ?_
    exact z_iret hx hb hr hlocks dX5_ofPlayer_49 (rfl)
  · skip
    refine lv_iload_n hx hb dX5_ofPlayer_0 rfl (lv_at hl 2 rfl) ?_
    refine z_if_ne (tgt := 16) (P := False) hx hb dX5_ofPlayer_1 (by decide) (by decide) (fun c1 => ?_) (fun c1 => (show False from c1).elim)
    refine lv_iload_n hx hb dX5_ofPlayer_16 rfl (lv_at hl 2 rfl) ?_
    refine lv_iconst (v := 1) hx hb dX5_ofPlayer_17 (by decide) ?_
    refine z_icmp_ne (tgt := 29) (P := False) hx hb dX5_ofPlayer_18 (by decide) (by decide) (fun c18 => ?_) (fun c18 => (show False from c18).elim)
    refine lv_iload_n hx hb dX5_ofPlayer_29 rfl (lv_at hl 2 rfl) ?_
    refine lv_iconst (v := 4) hx hb dX5_ofPlayer_30 (by decide) ?_
    refine z_icmp_ne (tgt := 43) (P := False) hx hb dX5_ofPlayer_31 (by decide) (by decide) (fun c31 => ?_) (fun c31 => (show False from c31).elim)
    refine lv_aload_n hx hb dX5_ofPlayer_43 rfl (lv_at hl 0 rfl) ?_
    refine lv_iload_n hx hb dX5_ofPlayer_44 rfl (lv_at hl 1 rfl) ?_
    refine lv_iload_n hx hb dX5_ofPlayer_45 rfl (lv_at hl 2 rfl) ?_
    refine z_ci (va_runV (As := [.int (nI pl), .int (nI 3)]) (rest := []) ⟨hx, hb, hml, hown, hts⟩ (c_X5_ofTowers l D cI cZ cL (m0 := m0) (m1 := m1) (m2 := m2) (m3 := m3) (m4 := m4) (m5 := m5) (gs := gs) (gp := gp) (gl := gl) (gk := gk) (fx := fx) (kn := kn) (ln := ln) (th := th) (hs := hs) (pl := pl) (wh := 3) (hz := hz) (hpl := by omega) (hwh := by omega) (hhz := by omega) (hH := hH)) (cwV 2 hts gX5_ofPlayer_X5_ofTowers rfl rfl rfl (by decide +kernel) ⟨Nat.le_of_ble_eq_true rfl, Nat.le_of_ble_eq_true rfl⟩) (z_preV hK (hP.sub [0, 1, 2, 3, 4, 5] rfl) 0 4 rfl rfl) rfl rfl hl.1 rfl (lv_room (Nat.le_of_ble_eq_true rfl)) dX5_ofPlayer_46 ⟨Nat.le_of_ble_eq_true rfl, Nat.le_of_ble_eq_true rfl⟩) ?_
    exact z_iret hx hb hr hlocks dX5_ofPlayer_49 (rfl)
  · skip
    refine lv_iload_n hx hb dX5_ofPlayer_0 rfl (lv_at hl 2 rfl) ?_
    refine z_if_ne (tgt := 16) (P := False) hx hb dX5_ofPlayer_1 (by decide) (by decide) (fun c1 => ?_) (fun c1 => (show False from c1).elim)
    refine lv_iload_n hx hb dX5_ofPlayer_16 rfl (lv_at hl 2 rfl) ?_
    refine lv_iconst (v := 1) hx hb dX5_ofPlayer_17 (by decide) ?_
    refine z_icmp_ne (tgt := 29) (P := False) hx hb dX5_ofPlayer_18 (by decide) (by decide) (fun c18 => ?_) (fun c18 => (show False from c18).elim)
    refine lv_iload_n hx hb dX5_ofPlayer_29 rfl (lv_at hl 2 rfl) ?_
    refine lv_iconst (v := 4) hx hb dX5_ofPlayer_30 (by decide) ?_
    refine z_icmp_ne (tgt := 43) (P := True) hx hb dX5_ofPlayer_31 (by decide) (by decide) (fun c31 => (show False from c31 trivial).elim) (fun c31 => ?_)
    refine lv_aload_n hx hb dX5_ofPlayer_34 rfl (lv_at hl 0 rfl) ?_
    refine lv_iconst (v := 0) hx hb dX5_ofPlayer_35 (by decide) ?_
    refine lv_iload_n hx hb dX5_ofPlayer_36 rfl (lv_at hl 1 rfl) ?_
    refine z_ci (va_runV (As := [.int 0, .int (nI pl)]) (rest := []) ⟨hx, hb, hml, hown, hts⟩ (c_X5_payment l D cI cZ cL (m0 := m0) (m1 := m1) (m2 := m2) (m3 := m3) (m4 := m4) (m5 := m5) (gs := gs) (gp := gp) (gl := gl) (gk := gk) (fx := fx) (kn := kn) (ln := ln) (th := th) (hs := hs) (P := 0) (pl := pl) (hz := hz) (hpp := by omega) (hpl := by omega) (hhz := by omega) (hHP := hH)) (cwV 2 hts gX5_ofPlayer_X5_payment rfl rfl rfl (by decide +kernel) ⟨Nat.le_of_ble_eq_true rfl, Nat.le_of_ble_eq_true rfl⟩) (z_preV hK (hP.sub [0, 1, 2, 3, 4, 5] rfl) 0 4 rfl rfl) rfl rfl hl.1 rfl (lv_room (Nat.le_of_ble_eq_true rfl)) dX5_ofPlayer_37 ⟨Nat.le_of_ble_eq_true rfl, Nat.le_of_ble_eq_true rfl⟩) ?_
    refine lv_goto (tgt := 49) hx hb dX5_ofPlayer_40 (by decide) ?_
    exact z_iret hx hb hr hlocks dX5_ofPlayer_49 (rfl)
  · skip
    refine lv_iload_n hx hb dX5_ofPlayer_0 rfl (lv_at hl 2 rfl) ?_
    refine z_if_ne (tgt := 16) (P := False) hx hb dX5_ofPlayer_1 (by decide) (by decide) (fun c1 => ?_) (fun c1 => (show False from c1).elim)
    refine lv_iload_n hx hb dX5_ofPlayer_16 rfl (lv_at hl 2 rfl) ?_
    refine lv_iconst (v := 1) hx hb dX5_ofPlayer_17 (by decide) ?_
    refine z_icmp_ne (tgt := 29) (P := False) hx hb dX5_ofPlayer_18 (by decide) (by decide) (fun c18 => ?_) (fun c18 => (show False from c18).elim)
    refine lv_iload_n hx hb dX5_ofPlayer_29 rfl (lv_at hl 2 rfl) ?_
    refine lv_iconst (v := 4) hx hb dX5_ofPlayer_30 (by decide) ?_
    refine z_icmp_ne (tgt := 43) (P := False) hx hb dX5_ofPlayer_31 (by decide) (by decide) (fun c31 => ?_) (fun c31 => (show False from c31).elim)
    refine lv_aload_n hx hb dX5_ofPlayer_43 rfl (lv_at hl 0 rfl) ?_
    refine lv_iload_n hx hb dX5_ofPlayer_44 rfl (lv_at hl 1 rfl) ?_
    refine lv_iload_n hx hb dX5_ofPlayer_45 rfl (lv_at hl 2 rfl) ?_
    refine z_ci (va_runV (As := [.int (nI pl), .int (nI 5)]) (rest := []) ⟨hx, hb, hml, hown, hts⟩ (c_X5_ofTowers l D cI cZ cL (m0 := m0) (m1 := m1) (m2 := m2) (m3 := m3) (m4 := m4) (m5 := m5) (gs := gs) (gp := gp) (gl := gl) (gk := gk) (fx := fx) (kn := kn) (ln := ln) (th := th) (hs := hs) (pl := pl) (wh := 5) (hz := hz) (hpl := by omega) (hwh := by omega) (hhz := by omega) (hH := hH)) (cwV 2 hts gX5_ofPlayer_X5_ofTowers rfl rfl rfl (by decide +kernel) ⟨Nat.le_of_ble_eq_true rfl, Nat.le_of_ble_eq_true rfl⟩) (z_preV hK (hP.sub [0, 1, 2, 3, 4, 5] rfl) 0 4 rfl rfl) rfl rfl hl.1 rfl (lv_room (Nat.le_of_ble_eq_true rfl)) dX5_ofPlayer_46 ⟨Nat.le_of_ble_eq_true rfl, Nat.le_of_ble_eq_true rfl⟩) ?_
    exact z_iret hx hb hr hlocks dX5_ofPlayer_49 (rfl)

set_option maxHeartbeats 4000000 in
set_option maxRecDepth 100000 in
/-- crowds -/
theorem c_X5_crowds (l : Launch) (D : va_G) (cI cZ cL : ClassId) (m0 : Nat) (m1 : Nat) (m2 : Nat) (m3 : Nat) (m4 : Nat) (m5 : Nat) (gs : Nat → Int32) (gp : Nat → Int32) (gl : Nat → Int32) (gk : Nat → Int32) (fx : Nat → Int32) (kn : Nat) (ln : Nat) (th : Int32) (hs : Int64) : Met l yX5_crowds wsX5_crowds ({ frames := 0, cells := 0, slots := 0, locals := 0 }) (va_Pc [.ref m0] (zW D cI cZ cL [(m0, .inr (4, [.ref m1, .ref m2, .int (nI kn), .ref m3, .ref m4, .ref m5, .int (nI ln), .int th, .long hs])), (m1, .inl (cI, 228, .inl gs)), (m2, .inl (cI, 684, .inl gp)), (m3, .inl (cI, 228, .inl gl)), (m4, .inl (cZ, 2, .inl gk)), (m5, .inl (cI, 60, .inl fx))])) (zQi (sm (fun k => gs (72 + k)) 36)) 0 0 (fun _ => False) := by
  refine Met.ofW (cc := cX5_crowds) (maxL := 3) (ret := (some .int)) (by decide) rfl ?_
  intro p e s m args below meth c s₁ B hml hv
  obtain ⟨rfl, hP, hK⟩ := hv
  have hx := B.exec
  have hb := B.bytes
  have hr := B.returns
  have hts := atoms_spec (ws := wsX5_crowds) B.pre
  have hown : s.vm.findClass RX5 = some m.cls := findClass_of_methodNamed B.named
  have hlocks := B.notSynchronized
  have in4 : ∀ w ∈ u_ws RX5 TX5 9, w ∈ wsX5_crowds := by decide +kernel
  have fl7 := hts (.fieldLink RX5 7 "TowerShadesModel" "s" "[I") (by decide +kernel)
  have hl := lv_entry ([.ref m0]) (n := 3) (Nat.le_of_ble_eq_true rfl)
  rw [lg_entry_eq]
  generalize (lg_sl ([.ref m0]) ++ List.replicate (3 - (lg_sl ([.ref m0])).length) Slot.unset).toArray = ls at hl ⊢
  have hl : lv_has ls 3 [(0, .ref m0)] := hl
  refine lv_iconst (v := 0) hx hb dX5_crowds_0 (by decide) ?_
  refine lv_istore_n (lv' := [(1, .int 0), (0, .ref m0)]) hx hb dX5_crowds_1 rfl hl (by decide) rfl (fun ls hl => ?_)
  refine lv_iconst (v := 0) hx hb dX5_crowds_2 (by decide) ?_
  refine lv_istore_n (lv' := [(2, .int 0), (1, .int 0), (0, .ref m0)]) hx hb dX5_crowds_3 rfl hl (by decide) rfl (fun ls hl => ?_)
  refine z_up (N := 36) (i0 := 0) (fun i ls => ∃ xn : Int32, xn = sm (fun k => gs (72 + k)) i ∧ lv_has ls 3 [(0, .ref m0), (1, .int xn), (2, .int (nI i))]) (by omega) (⟨_, rfl, lv_sub hl [2, 1, 0] rfl⟩) (fun i ls hi4 hI ih4 => ?_)
  obtain ⟨xn, exn, hl⟩ := hI
  refine lv_iload_n hx hb dX5_crowds_4 rfl (lv_at hl 2 rfl) ?_
  refine lv_bipush (v := 36) hx hb dX5_crowds_5 (by decide) ?_
  refine z_icmp_ge (tgt := 28) (P := 36 ≤ i) hx hb dX5_crowds_7 (by decide) (nI_leI (a := 36) (b := i) (by omega) (by omega)) (fun c7 => ?_) (fun c7 => ?_)
  · skip
    refine lv_iload_n hx hb dX5_crowds_28 rfl (lv_at hl 1 rfl) ?_
    exact z_iret hx hb hr hlocks dX5_crowds_29 (by rw [exn, show i = 36 by omega])
  · skip
    refine lv_iload_n hx hb dX5_crowds_10 rfl (lv_at hl 1 rfl) ?_
    refine lv_aload_n hx hb dX5_crowds_11 rfl (lv_at hl 0 rfl) ?_
    refine va_get (D := D) (ci := 4) (v := .ref m1) (C := RX5) (T := TX5) (N := 9) hx hb hts in4 hown hK hP 0 rfl rfl 0 (by decide) fl7 (fun _ h9 => h9) rfl dX5_crowds_12 ?_
    refine lv_bipush (v := 72) hx hb dX5_crowds_15 (by decide) ?_
    refine lv_iload_n hx hb dX5_crowds_17 rfl (lv_at hl 2 rfl) ?_
    refine z_iadd (v := nI (72 + i)) hx hb dX5_crowds_18 (nI_add (72) (i)) ?_
    refine z_iald hx hb hK hP 1 0 rfl rfl (k := (72 + i)) (rfl) (by omega) (by decide) dX5_crowds_19 ?_
    refine z_iadd (v := (xn + (gs (72 + i)))) hx hb dX5_crowds_20 (rfl) ?_
    refine lv_istore_n (lv' := [(1, .int (xn + (gs (72 + i)))), (0, .ref m0), (2, .int (nI i))]) hx hb dX5_crowds_21 rfl hl (by decide) rfl (fun ls hl => ?_)
    refine lv_iinc (v := nI (i + 1)) (lv' := [(2, .int (nI (i + 1))), (1, .int (xn + (gs (72 + i)))), (0, .ref m0)]) hx hb dX5_crowds_22 hl (k := 2) rfl (nI_1 (i)) (by decide) rfl (fun ls hl => ?_)
    refine lv_goto (tgt := 4) hx hb dX5_crowds_25 (by decide) ?_
    exact ih4 (by omega) _ (⟨_, by simp [exn, sm] <;> rfl, lv_sub hl [2, 1, 0] rfl⟩)

set_option maxHeartbeats 4000000 in
set_option maxRecDepth 100000 in
/-- a number -/
theorem c_X5_counted (l : Launch) (D : va_G) (cI cZ cL : ClassId) (m0 : Nat) (m1 : Nat) (m2 : Nat) (m3 : Nat) (m4 : Nat) (m5 : Nat) (gs : Nat → Int32) (gp : Nat → Int32) (gl : Nat → Int32) (gk : Nat → Int32) (fx : Nat → Int32) (kn : Nat) (ln : Nat) (th : Int32) (hs : Int64) (wh : Nat) (hz : Nat) (hwh : wh < 10) (hhz : hz < 12) (hH : gs 108 = nI hz) : Met l yX5_counted wsX5_counted ({ frames := 6, cells := 0, slots := 0, locals := 143 }) (va_Pc [.ref m0, .int (nI wh)] (zW D cI cZ cL [(m0, .inr (4, [.ref m1, .ref m2, .int (nI kn), .ref m3, .ref m4, .ref m5, .int (nI ln), .int th, .long hs])), (m1, .inl (cI, 228, .inl gs)), (m2, .inl (cI, 684, .inl gp)), (m3, .inl (cI, 228, .inl gl)), (m4, .inl (cZ, 2, .inl gk)), (m5, .inl (cI, 60, .inl fx))])) (zQi (pCoM gs kn hz wh)) 0 0 (fun _ => False) := by
  refine Met.ofW (cc := cX5_counted) (maxL := 2) (ret := (some .int)) (by decide) rfl ?_
  intro p e s m args below meth c s₁ B hml hv
  obtain ⟨rfl, hP, hK⟩ := hv
  have hx := B.exec
  have hb := B.bytes
  have hr := B.returns
  have hts := atoms_spec (ws := wsX5_counted) B.pre
  have hown : s.vm.findClass RX5 = some m.cls := findClass_of_methodNamed B.named
  have hlocks := B.notSynchronized
  have in4 : ∀ w ∈ u_ws RX5 TX5 9, w ∈ wsX5_counted := by decide +kernel
  have fl7 := hts (.fieldLink RX5 7 "TowerShadesModel" "s" "[I") (by decide +kernel)
  have fl34 := hts (.fieldLink RX5 34 "TowerShadesModel" "known" "I") (by decide +kernel)
  have hl := lv_entry ([.ref m0, .int (nI wh)]) (n := 2) (Nat.le_of_ble_eq_true rfl)
  rw [lg_entry_eq]
  generalize (lg_sl ([.ref m0, .int (nI wh)]) ++ List.replicate (2 - (lg_sl ([.ref m0, .int (nI wh)])).length) Slot.unset).toArray = ls at hl ⊢
  have hl : lv_has ls 2 [(0, .ref m0), (1, .int (nI wh))] := hl
  refine lv_iload_n hx hb dX5_counted_0 rfl (lv_at hl 1 rfl) ?_
  rcases (show wh = 0 ∨ wh = 1 ∨ wh = 2 ∨ wh = 3 ∨ wh = 4 ∨ wh = 5 ∨ wh = 6 ∨ wh = 7 ∨ wh = 8 ∨ wh = 9 by omega) with rfl | rfl | rfl | rfl | rfl | rfl | rfl | rfl | rfl | rfl
  · skip
    refine lv_tableIn (off := 51) (tgt := 52) hx hb dX5_counted_1 (by decide) (by decide) rfl (by decide) ?_
    refine lv_aload_n hx hb dX5_counted_52 rfl (lv_at hl 0 rfl) ?_
    refine va_get (D := D) (ci := 4) (v := .ref m1) (C := RX5) (T := TX5) (N := 9) hx hb hts in4 hown hK hP 0 rfl rfl 0 (by decide) fl7 (fun _ h9 => h9) rfl dX5_counted_53 ?_
    refine lv_bipush (v := 108) hx hb dX5_counted_56 (by decide) ?_
    refine z_iald hx hb hK hP 1 0 rfl rfl (k := 108) (rfl) (by omega) (by decide) dX5_counted_58 ?_
    exact z_iret hx hb hr hlocks dX5_counted_59 (rfl)
  · skip
    refine lv_tableIn (off := 59) (tgt := 60) hx hb dX5_counted_1 (by decide) (by decide) rfl (by decide) ?_
    refine lv_aload_n hx hb dX5_counted_60 rfl (lv_at hl 0 rfl) ?_
    refine va_get (D := D) (ci := 4) (v := .ref m1) (C := RX5) (T := TX5) (N := 9) hx hb hts in4 hown hK hP 0 rfl rfl 0 (by decide) fl7 (fun _ h9 => h9) rfl dX5_counted_61 ?_
    refine lv_bipush (v := 108) hx hb dX5_counted_64 (by decide) ?_
    refine z_iald hx hb hK hP 1 0 rfl rfl (k := 108) (rfl) (by omega) (by decide) dX5_counted_66 ?_
    refine z_top (y := nI hz) hH ?_
    refine z_ci (va_runS (As := [.int (nI hz)]) (rest := []) ⟨hx, hb, hml, hown, hts⟩ (c_X5_sideAt l (hz := hz) (hhz := by omega)) (va_cwS 1 hts gX5_counted_X5_sideAt rfl rfl rfl (by decide +kernel) ⟨Nat.le_of_ble_eq_true rfl, Nat.le_of_ble_eq_true rfl⟩) z_preS rfl rfl hl.1 rfl (lv_room (Nat.le_of_ble_eq_true rfl)) dX5_counted_67 ⟨Nat.le_of_ble_eq_true rfl, Nat.le_of_ble_eq_true rfl⟩) ?_
    exact z_iret hx hb hr hlocks dX5_counted_70 (rfl)
  · skip
    refine lv_tableIn (off := 70) (tgt := 71) hx hb dX5_counted_1 (by decide) (by decide) rfl (by decide) ?_
    refine lv_aload_n hx hb dX5_counted_71 rfl (lv_at hl 0 rfl) ?_
    refine va_get (D := D) (ci := 4) (v := .ref m1) (C := RX5) (T := TX5) (N := 9) hx hb hts in4 hown hK hP 0 rfl rfl 0 (by decide) fl7 (fun _ h9 => h9) rfl dX5_counted_72 ?_
    refine lv_bipush (v := 108) hx hb dX5_counted_75 (by decide) ?_
    refine z_iald hx hb hK hP 1 0 rfl rfl (k := 108) (rfl) (by omega) (by decide) dX5_counted_77 ?_
    refine z_top (y := nI hz) hH ?_
    refine z_ci (va_runS (As := [.int (nI hz)]) (rest := []) ⟨hx, hb, hml, hown, hts⟩ (c_X5_steepnessAt l (hz := hz) (hhz := by omega)) (va_cwS 1 hts gX5_counted_X5_steepnessAt rfl rfl rfl (by decide +kernel) ⟨Nat.le_of_ble_eq_true rfl, Nat.le_of_ble_eq_true rfl⟩) z_preS rfl rfl hl.1 rfl (lv_room (Nat.le_of_ble_eq_true rfl)) dX5_counted_78 ⟨Nat.le_of_ble_eq_true rfl, Nat.le_of_ble_eq_true rfl⟩) ?_
    exact z_iret hx hb hr hlocks dX5_counted_81 (rfl)
  · skip
    refine lv_tableIn (off := 81) (tgt := 82) hx hb dX5_counted_1 (by decide) (by decide) rfl (by decide) ?_
    refine lv_aload_n hx hb dX5_counted_82 rfl (lv_at hl 0 rfl) ?_
    refine va_get (D := D) (ci := 4) (v := .ref m1) (C := RX5) (T := TX5) (N := 9) hx hb hts in4 hown hK hP 0 rfl rfl 0 (by decide) fl7 (fun _ h9 => h9) rfl dX5_counted_83 ?_
    refine lv_bipush (v := 109) hx hb dX5_counted_86 (by decide) ?_
    refine lv_iload_n hx hb dX5_counted_88 rfl (lv_at hl 1 rfl) ?_
    refine z_iadd (v := nI (109 + 3)) hx hb dX5_counted_89 (nI_add (109) (3)) ?_
    refine lv_iconst (v := 3) hx hb dX5_counted_90 (by decide) ?_
    refine z_isub (v := nI ((109 + 3) - 3)) hx hb dX5_counted_91 (pk_sub (a := (109 + 3)) (b := 3) (by omega)) ?_
    refine z_iald hx hb hK hP 1 0 rfl rfl (k := ((109 + 3) - 3)) (rfl) (by omega) (by decide) dX5_counted_92 ?_
    exact z_iret hx hb hr hlocks dX5_counted_93 (rfl)
  · skip
    refine lv_tableIn (off := 81) (tgt := 82) hx hb dX5_counted_1 (by decide) (by decide) rfl (by decide) ?_
    refine lv_aload_n hx hb dX5_counted_82 rfl (lv_at hl 0 rfl) ?_
    refine va_get (D := D) (ci := 4) (v := .ref m1) (C := RX5) (T := TX5) (N := 9) hx hb hts in4 hown hK hP 0 rfl rfl 0 (by decide) fl7 (fun _ h9 => h9) rfl dX5_counted_83 ?_
    refine lv_bipush (v := 109) hx hb dX5_counted_86 (by decide) ?_
    refine lv_iload_n hx hb dX5_counted_88 rfl (lv_at hl 1 rfl) ?_
    refine z_iadd (v := nI (109 + 4)) hx hb dX5_counted_89 (nI_add (109) (4)) ?_
    refine lv_iconst (v := 3) hx hb dX5_counted_90 (by decide) ?_
    refine z_isub (v := nI ((109 + 4) - 3)) hx hb dX5_counted_91 (pk_sub (a := (109 + 4)) (b := 3) (by omega)) ?_
    refine z_iald hx hb hK hP 1 0 rfl rfl (k := ((109 + 4) - 3)) (rfl) (by omega) (by decide) dX5_counted_92 ?_
    exact z_iret hx hb hr hlocks dX5_counted_93 (rfl)
  · skip
    refine lv_tableIn (off := 93) (tgt := 94) hx hb dX5_counted_1 (by decide) (by decide) rfl (by decide) ?_
    refine lv_aload_n hx hb dX5_counted_94 rfl (lv_at hl 0 rfl) ?_
    refine lv_aload_n hx hb dX5_counted_95 rfl (lv_at hl 0 rfl) ?_
    refine va_get (D := D) (ci := 4) (v := .ref m1) (C := RX5) (T := TX5) (N := 9) hx hb hts in4 hown hK hP 0 rfl rfl 0 (by decide) fl7 (fun _ h9 => h9) rfl dX5_counted_96 ?_
    refine lv_bipush (v := 108) hx hb dX5_counted_99 (by decide) ?_
    refine z_iald hx hb hK hP 1 0 rfl rfl (k := 108) (rfl) (by omega) (by decide) dX5_counted_101 ?_
    refine z_top (y := nI hz) hH ?_
    refine z_ci (va_runV (As := [.int (nI hz)]) (rest := []) ⟨hx, hb, hml, hown, hts⟩ (c_X5_darkAt l D cI cZ cL (m0 := m0) (m1 := m1) (m2 := m2) (m3 := m3) (m4 := m4) (m5 := m5) (gs := gs) (gp := gp) (gl := gl) (gk := gk) (fx := fx) (kn := kn) (ln := ln) (th := th) (hs := hs) (hu := hz) (hhu := by omega)) (cwV 1 hts gX5_counted_X5_darkAt rfl rfl rfl (by decide +kernel) ⟨Nat.le_of_ble_eq_true rfl, Nat.le_of_ble_eq_true rfl⟩) (z_preV hK (hP.sub [0, 1, 2, 3, 4, 5] rfl) 0 4 rfl rfl) rfl rfl hl.1 rfl (lv_room (Nat.le_of_ble_eq_true rfl)) dX5_counted_102 ⟨Nat.le_of_ble_eq_true rfl, Nat.le_of_ble_eq_true rfl⟩) ?_
    exact z_iret hx hb hr hlocks dX5_counted_105 (rfl)
  · skip
    refine lv_tableIn (off := 105) (tgt := 106) hx hb dX5_counted_1 (by decide) (by decide) rfl (by decide) ?_
    refine lv_aload_n hx hb dX5_counted_106 rfl (lv_at hl 0 rfl) ?_
    refine lv_iconst (v := 0) hx hb dX5_counted_107 (by decide) ?_
    refine z_ci (va_runV (As := [.int 0]) (rest := []) ⟨hx, hb, hml, hown, hts⟩ (c_X5_towers l D cI cZ cL (m0 := m0) (m1 := m1) (m2 := m2) (m3 := m3) (m4 := m4) (m5 := m5) (gs := gs) (gp := gp) (gl := gl) (gk := gk) (fx := fx) (kn := kn) (ln := ln) (th := th) (hs := hs) (pl := 0) (hpl := by omega)) (cwV 1 hts gX5_counted_X5_towers rfl rfl rfl (by decide +kernel) ⟨Nat.le_of_ble_eq_true rfl, Nat.le_of_ble_eq_true rfl⟩) (z_preV hK (hP.sub [0, 1, 2, 3, 4, 5] rfl) 0 4 rfl rfl) rfl rfl hl.1 rfl (lv_room (Nat.le_of_ble_eq_true rfl)) dX5_counted_108 ⟨Nat.le_of_ble_eq_true rfl, Nat.le_of_ble_eq_true rfl⟩) ?_
    refine lv_aload_n hx hb dX5_counted_111 rfl (lv_at hl 0 rfl) ?_
    refine lv_iconst (v := 1) hx hb dX5_counted_112 (by decide) ?_
    refine z_ci (va_runV (As := [.int 1]) (rest := [.int (nI (pTM gs 0))]) ⟨hx, hb, hml, hown, hts⟩ (c_X5_towers l D cI cZ cL (m0 := m0) (m1 := m1) (m2 := m2) (m3 := m3) (m4 := m4) (m5 := m5) (gs := gs) (gp := gp) (gl := gl) (gk := gk) (fx := fx) (kn := kn) (ln := ln) (th := th) (hs := hs) (pl := 1) (hpl := by omega)) (cwV 1 hts gX5_counted_X5_towers rfl rfl rfl (by decide +kernel) ⟨Nat.le_of_ble_eq_true rfl, Nat.le_of_ble_eq_true rfl⟩) (z_preV hK (hP.sub [0, 1, 2, 3, 4, 5] rfl) 0 4 rfl rfl) rfl rfl hl.1 rfl (lv_room (Nat.le_of_ble_eq_true rfl)) dX5_counted_113 ⟨Nat.le_of_ble_eq_true rfl, Nat.le_of_ble_eq_true rfl⟩) ?_
    refine z_iadd (v := nI (pTM gs 0 + pTM gs 1)) hx hb dX5_counted_116 (nI_add (pTM gs 0) (pTM gs 1)) ?_
    exact z_iret hx hb hr hlocks dX5_counted_117 (rfl)
  · skip
    refine lv_tableIn (off := 117) (tgt := 118) hx hb dX5_counted_1 (by decide) (by decide) rfl (by decide) ?_
    refine lv_aload_n hx hb dX5_counted_118 rfl (lv_at hl 0 rfl) ?_
    refine z_ci (va_runV (As := []) (rest := []) ⟨hx, hb, hml, hown, hts⟩ (c_X5_crowds l D cI cZ cL (m0 := m0) (m1 := m1) (m2 := m2) (m3 := m3) (m4 := m4) (m5 := m5) (gs := gs) (gp := gp) (gl := gl) (gk := gk) (fx := fx) (kn := kn) (ln := ln) (th := th) (hs := hs)) (cwV 0 hts gX5_counted_X5_crowds rfl rfl rfl (by decide +kernel) ⟨Nat.le_of_ble_eq_true rfl, Nat.le_of_ble_eq_true rfl⟩) (z_preV hK (hP.sub [0, 1, 2, 3, 4, 5] rfl) 0 4 rfl rfl) rfl rfl hl.1 rfl (lv_room (Nat.le_of_ble_eq_true rfl)) dX5_counted_119 ⟨Nat.le_of_ble_eq_true rfl, Nat.le_of_ble_eq_true rfl⟩) ?_
    exact z_iret hx hb hr hlocks dX5_counted_122 (rfl)
  · skip
    refine lv_tableIn (off := 122) (tgt := 123) hx hb dX5_counted_1 (by decide) (by decide) rfl (by decide) ?_
    refine lv_aload_n hx hb dX5_counted_123 rfl (lv_at hl 0 rfl) ?_
    refine va_get (D := D) (ci := 4) (v := .ref m1) (C := RX5) (T := TX5) (N := 9) hx hb hts in4 hown hK hP 0 rfl rfl 0 (by decide) fl7 (fun _ h9 => h9) rfl dX5_counted_124 ?_
    refine lv_bipush (v := 111) hx hb dX5_counted_127 (by decide) ?_
    refine z_iald hx hb hK hP 1 0 rfl rfl (k := 111) (rfl) (by omega) (by decide) dX5_counted_129 ?_
    exact z_iret hx hb hr hlocks dX5_counted_130 (rfl)
  · skip
    refine lv_tableOut (tgt := 131) hx hb dX5_counted_1 (by decide) (by decide) ?_
    refine lv_aload_n hx hb dX5_counted_131 rfl (lv_at hl 0 rfl) ?_
    refine va_get (D := D) (ci := 4) (v := .int (nI kn)) (C := RX5) (T := TX5) (N := 9) hx hb hts in4 hown hK hP 0 rfl rfl 2 (by decide) fl34 (fun _ h9 => h9) rfl dX5_counted_132 ?_
    exact z_iret hx hb hr hlocks dX5_counted_135 (rfl)

set_option maxHeartbeats 4000000 in
set_option maxRecDepth 100000 in
/-- the least height -/
theorem c_X5_least (l : Launch) (D : va_G) (cI cZ cL : ClassId) (m0 : Nat) (m1 : Nat) (m2 : Nat) (m3 : Nat) (m4 : Nat) (m5 : Nat) (gs : Nat → Int32) (gp : Nat → Int32) (gl : Nat → Int32) (gk : Nat → Int32) (fx : Nat → Int32) (kn : Nat) (ln : Nat) (th : Int32) (hs : Int64) (f : Nat) (q : Nat) (hz : Nat) (hf : f < 36) (hq : q < 36) (hhz : hz < 12) (hH : gs 108 = nI hz) : Met l yX5_least wsX5_least ({ frames := 2, cells := 0, slots := 0, locals := 47 }) (va_Pc [.ref m0, .int (nI f), .int (nI q)] (zW D cI cZ cL [(m0, .inr (4, [.ref m1, .ref m2, .int (nI kn), .ref m3, .ref m4, .ref m5, .int (nI ln), .int th, .long hs])), (m1, .inl (cI, 228, .inl gs)), (m2, .inl (cI, 684, .inl gp)), (m3, .inl (cI, 228, .inl gl)), (m4, .inl (cZ, 2, .inl gk)), (m5, .inl (cI, 60, .inl fx))])) (zQi (pLeM gs hz f q)) 0 0 (fun _ => False) := by
  refine Met.ofW (cc := cX5_least) (maxL := 5) (ret := (some .int)) (by decide) rfl ?_
  intro p e s m args below meth c s₁ B hml hv
  obtain ⟨rfl, hP, hK⟩ := hv
  have hx := B.exec
  have hb := B.bytes
  have hr := B.returns
  have hts := atoms_spec (ws := wsX5_least) B.pre
  have hown : s.vm.findClass RX5 = some m.cls := findClass_of_methodNamed B.named
  have hlocks := B.notSynchronized
  have in4 : ∀ w ∈ u_ws RX5 TX5 9, w ∈ wsX5_least := by decide +kernel
  have fl7 := hts (.fieldLink RX5 7 "TowerShadesModel" "s" "[I") (by decide +kernel)
  have hl := lv_entry ([.ref m0, .int (nI f), .int (nI q)]) (n := 5) (Nat.le_of_ble_eq_true rfl)
  rw [lg_entry_eq]
  generalize (lg_sl ([.ref m0, .int (nI f), .int (nI q)]) ++ List.replicate (5 - (lg_sl ([.ref m0, .int (nI f), .int (nI q)])).length) Slot.unset).toArray = ls at hl ⊢
  have hl : lv_has ls 5 [(0, .ref m0), (1, .int (nI f)), (2, .int (nI q))] := hl
  have hDi := pDi_le (sd := hz / 3) (q := q) (f := f) (by omega) hq
  refine lv_iload_n hx hb dX5_least_0 rfl (lv_at hl 1 rfl) ?_
  refine lv_iload_n hx hb dX5_least_1 rfl (lv_at hl 2 rfl) ?_
  refine lv_aload_n hx hb dX5_least_2 rfl (lv_at hl 0 rfl) ?_
  refine va_get (D := D) (ci := 4) (v := .ref m1) (C := RX5) (T := TX5) (N := 9) hx hb hts in4 hown hK hP 0 rfl rfl 0 (by decide) fl7 (fun _ h9 => h9) rfl dX5_least_3 ?_
  refine lv_bipush (v := 108) hx hb dX5_least_6 (by decide) ?_
  refine z_iald hx hb hK hP 1 0 rfl rfl (k := 108) (rfl) (by omega) (by decide) dX5_least_8 ?_
  refine z_top (y := nI hz) hH ?_
  refine z_ci (va_runS (As := [.int (nI hz)]) (rest := [.int (nI q), .int (nI f)]) ⟨hx, hb, hml, hown, hts⟩ (c_X5_sideAt l (hz := hz) (hhz := by omega)) (va_cwS 1 hts gX5_least_X5_sideAt rfl rfl rfl (by decide +kernel) ⟨Nat.le_of_ble_eq_true rfl, Nat.le_of_ble_eq_true rfl⟩) z_preS rfl rfl hl.1 rfl (lv_room (Nat.le_of_ble_eq_true rfl)) dX5_least_9 ⟨Nat.le_of_ble_eq_true rfl, Nat.le_of_ble_eq_true rfl⟩) ?_
  refine z_ci (va_runS (As := [.int (nI f), .int (nI q), .int (nI (hz / 3))]) (rest := []) ⟨hx, hb, hml, hown, hts⟩ (c_X5_distance l (f := f) (q := q) (sd := hz / 3) (hf := by omega) (hq := by omega) (hs := by omega)) (va_cwS 3 hts gX5_least_X5_distance rfl rfl rfl (by decide +kernel) ⟨Nat.le_of_ble_eq_true rfl, Nat.le_of_ble_eq_true rfl⟩) z_preS rfl rfl hl.1 rfl (lv_room (Nat.le_of_ble_eq_true rfl)) dX5_least_12 ⟨Nat.le_of_ble_eq_true rfl, Nat.le_of_ble_eq_true rfl⟩) ?_
  refine lv_istore_n (lv' := [(3, .int (nI (pDi (hz / 3) q f))), (0, .ref m0), (1, .int (nI f)), (2, .int (nI q))]) hx hb dX5_least_15 rfl hl (by decide) rfl (fun ls hl => ?_)
  refine lv_aload_n hx hb dX5_least_16 rfl (lv_at hl 1 rfl) ?_
  refine va_get (D := D) (ci := 4) (v := .ref m1) (C := RX5) (T := TX5) (N := 9) hx hb hts in4 hown hK hP 0 rfl rfl 0 (by decide) fl7 (fun _ h9 => h9) rfl dX5_least_17 ?_
  refine lv_iconst (v := 0) hx hb dX5_least_20 (by decide) ?_
  refine lv_iload_n hx hb dX5_least_21 rfl (lv_at hl 3 rfl) ?_
  refine z_iadd (v := nI (0 + q)) hx hb dX5_least_22 (nI_add (0) (q)) ?_
  refine z_iald hx hb hK hP 1 0 rfl rfl (k := (0 + q)) (rfl) (by omega) (by decide) dX5_least_23 ?_
  refine lv_iload_n hx hb dX5_least_24 rfl (lv_at hl 0 rfl) ?_
  refine lv_aload_n hx hb dX5_least_25 rfl (lv_at hl 1 rfl) ?_
  refine va_get (D := D) (ci := 4) (v := .ref m1) (C := RX5) (T := TX5) (N := 9) hx hb hts in4 hown hK hP 0 rfl rfl 0 (by decide) fl7 (fun _ h9 => h9) rfl dX5_least_26 ?_
  refine lv_bipush (v := 108) hx hb dX5_least_29 (by decide) ?_
  refine z_iald hx hb hK hP 1 0 rfl rfl (k := 108) (rfl) (by omega) (by decide) dX5_least_31 ?_
  refine z_top (y := nI hz) hH ?_
  refine z_ci (va_runS (As := [.int (nI hz)]) (rest := [.int (nI (pDi (hz / 3) q f)), .int (gs (0 + q))]) ⟨hx, hb, hml, hown, hts⟩ (c_X5_steepnessAt l (hz := hz) (hhz := by omega)) (va_cwS 1 hts gX5_least_X5_steepnessAt rfl rfl rfl (by decide +kernel) ⟨Nat.le_of_ble_eq_true rfl, Nat.le_of_ble_eq_true rfl⟩) z_preS rfl rfl hl.1 rfl (lv_room (Nat.le_of_ble_eq_true rfl)) dX5_least_32 ⟨Nat.le_of_ble_eq_true rfl, Nat.le_of_ble_eq_true rfl⟩) ?_
  refine z_imul (v := nI (pDi (hz / 3) q f * pSt hz)) hx hb dX5_least_35 (pk_mul (pDi (hz / 3) q f) (pSt hz)) ?_
  refine z_iadd (v := ((gs (0 + q)) + (nI (pDi (hz / 3) q f * pSt hz)))) hx hb dX5_least_36 (rfl) ?_
  refine lv_iconst (v := 1) hx hb dX5_least_37 (by decide) ?_
  refine z_iadd (v := (((gs (0 + q)) + (nI (pDi (hz / 3) q f * pSt hz))) + 1)) hx hb dX5_least_38 (rfl) ?_
  refine lv_istore (lv' := [(4, .int (((gs (0 + q)) + (nI (pDi (hz / 3) q f * pSt hz))) + 1)), (3, .int (nI (pDi (hz / 3) q f))), (0, .ref m0), (1, .int (nI f)), (2, .int (nI q))]) hx hb dX5_least_39 hl (by decide) rfl (fun ls hl => ?_)
  refine lv_iload_n hx hb dX5_least_41 rfl (lv_at hl 1 rfl) ?_
  refine z_if_eq (tgt := 52) (P := pDi (hz / 3) q f = 0) hx hb dX5_least_42 (by decide) (nI_eq (a := pDi (hz / 3) q f) (b := 0) (by omega) (by omega)) (fun c42 => ?_) (fun c42 => ?_)
  · skip
    refine lv_iconst (v := (-1)) hx hb dX5_least_52 (by decide) ?_
    refine lv_goto (tgt := 58) hx hb dX5_least_53 (by decide) ?_
    exact z_iret hx hb hr hlocks dX5_least_58 (by simp [-Nat.add_zero, -Nat.zero_add, -Nat.reduceAdd, pLeM, c42])
  · skip
    refine lv_iload hx hb dX5_least_45 (lv_at hl 0 rfl) ?_
    refine lv_bipush (v := 9) hx hb dX5_least_47 (by decide) ?_
    refine z_icmp_le (tgt := 56) (P := (((gs (0 + q)) + (nI (pDi (hz / 3) q f * pSt hz))) + 1) ≤ 9) hx hb dX5_least_49 (by decide) (Iff.rfl) (fun c49 => ?_) (fun c49 => ?_)
    · skip
      refine lv_iload hx hb dX5_least_56 (lv_at hl 0 rfl) ?_
      exact z_iret hx hb hr hlocks dX5_least_58 (by simp [-Nat.add_zero, -Nat.zero_add, -Nat.reduceAdd, pLeM, c42, c49])
    · skip
      refine lv_iconst (v := (-1)) hx hb dX5_least_52 (by decide) ?_
      refine lv_goto (tgt := 58) hx hb dX5_least_53 (by decide) ?_
      exact z_iret hx hb hr hlocks dX5_least_58 (by simp [-Nat.add_zero, -Nat.zero_add, -Nat.reduceAdd, pLeM, c42, c49])

set_option maxHeartbeats 4000000 in
set_option maxRecDepth 100000 in
/-- the darkest hour -/
theorem c_X5_darkest (l : Launch) (D : va_G) (cI cZ cL : ClassId) (m0 : Nat) (m1 : Nat) (m2 : Nat) (m3 : Nat) (m4 : Nat) (m5 : Nat) (gs : Nat → Int32) (gp : Nat → Int32) (gl : Nat → Int32) (gk : Nat → Int32) (fx : Nat → Int32) (kn : Nat) (ln : Nat) (th : Int32) (hs : Int64) : Met l yX5_darkest wsX5_darkest ({ frames := 6, cells := 0, slots := 0, locals := 143 }) (va_Pc [.ref m0] (zW D cI cZ cL [(m0, .inr (4, [.ref m1, .ref m2, .int (nI kn), .ref m3, .ref m4, .ref m5, .int (nI ln), .int th, .long hs])), (m1, .inl (cI, 228, .inl gs)), (m2, .inl (cI, 684, .inl gp)), (m3, .inl (cI, 228, .inl gl)), (m4, .inl (cZ, 2, .inl gk)), (m5, .inl (cI, 60, .inl fx))])) (zQi (nI (bd (pDn (fun k => gs (0 + 0 + k))) 12))) 0 0 (fun _ => False) := by
  refine Met.ofW (cc := cX5_darkest) (maxL := 3) (ret := (some .int)) (by decide) rfl ?_
  intro p e s m args below meth c s₁ B hml hv
  obtain ⟨rfl, hP, hK⟩ := hv
  have hx := B.exec
  have hb := B.bytes
  have hr := B.returns
  have hts := atoms_spec (ws := wsX5_darkest) B.pre
  have hown : s.vm.findClass RX5 = some m.cls := findClass_of_methodNamed B.named
  have hlocks := B.notSynchronized
  have hl := lv_entry ([.ref m0]) (n := 3) (Nat.le_of_ble_eq_true rfl)
  rw [lg_entry_eq]
  generalize (lg_sl ([.ref m0]) ++ List.replicate (3 - (lg_sl ([.ref m0])).length) Slot.unset).toArray = ls at hl ⊢
  have hl : lv_has ls 3 [(0, .ref m0)] := hl
  refine lv_iconst (v := 0) hx hb dX5_darkest_0 (by decide) ?_
  refine lv_istore_n (lv' := [(1, .int 0), (0, .ref m0)]) hx hb dX5_darkest_1 rfl hl (by decide) rfl (fun ls hl => ?_)
  refine lv_iconst (v := 1) hx hb dX5_darkest_2 (by decide) ?_
  refine lv_istore_n (lv' := [(2, .int 1), (1, .int 0), (0, .ref m0)]) hx hb dX5_darkest_3 rfl hl (by decide) rfl (fun ls hl => ?_)
  refine z_up (N := 12) (i0 := 1) (fun i ls => ∃ bn : Nat, bn = bd (pDn (fun k => gs (0 + 0 + k))) i ∧ lv_has ls 3 [(0, .ref m0), (1, .int (nI bn)), (2, .int (nI i))]) (by omega) (⟨_, (bd_1 _).symm, lv_sub hl [2, 1, 0] rfl⟩) (fun i ls hi4 hI ih4 => ?_)
  obtain ⟨bn, ebn, hl⟩ := hI
  have hbn : bn ≤ i := by rw [ebn]; exact bd_le _ _
  have hd1 := pDn_le (fun k => gs (0 + 0 + k)) i
  have hd2 := pDn_le (fun k => gs (0 + 0 + k)) bn
  refine lv_iload_n hx hb dX5_darkest_4 rfl (lv_at hl 2 rfl) ?_
  refine lv_bipush (v := 12) hx hb dX5_darkest_5 (by decide) ?_
  refine z_icmp_ge (tgt := 35) (P := 12 ≤ i) hx hb dX5_darkest_7 (by decide) (nI_leI (a := 12) (b := i) (by omega) (by omega)) (fun c7 => ?_) (fun c7 => ?_)
  · skip
    refine lv_iload_n hx hb dX5_darkest_35 rfl (lv_at hl 1 rfl) ?_
    exact z_iret hx hb hr hlocks dX5_darkest_36 (by rw [ebn, show i = 12 by omega])
  · skip
    refine lv_aload_n hx hb dX5_darkest_10 rfl (lv_at hl 0 rfl) ?_
    refine lv_iload_n hx hb dX5_darkest_11 rfl (lv_at hl 2 rfl) ?_
    refine z_ci (va_runV (As := [.int (nI i)]) (rest := []) ⟨hx, hb, hml, hown, hts⟩ (c_X5_darkAt l D cI cZ cL (m0 := m0) (m1 := m1) (m2 := m2) (m3 := m3) (m4 := m4) (m5 := m5) (gs := gs) (gp := gp) (gl := gl) (gk := gk) (fx := fx) (kn := kn) (ln := ln) (th := th) (hs := hs) (hu := i) (hhu := by omega)) (cwV 1 hts gX5_darkest_X5_darkAt rfl rfl rfl (by decide +kernel) ⟨Nat.le_of_ble_eq_true rfl, Nat.le_of_ble_eq_true rfl⟩) (z_preV hK (hP.sub [0, 1, 2, 3, 4, 5] rfl) 0 4 rfl rfl) rfl rfl hl.1 rfl (lv_room (Nat.le_of_ble_eq_true rfl)) dX5_darkest_12 ⟨Nat.le_of_ble_eq_true rfl, Nat.le_of_ble_eq_true rfl⟩) ?_
    refine lv_aload_n hx hb dX5_darkest_15 rfl (lv_at hl 0 rfl) ?_
    refine lv_iload_n hx hb dX5_darkest_16 rfl (lv_at hl 1 rfl) ?_
    refine z_ci (va_runV (As := [.int (nI bn)]) (rest := [.int (nI (pDn (fun k => gs (0 + 0 + k)) i))]) ⟨hx, hb, hml, hown, hts⟩ (c_X5_darkAt l D cI cZ cL (m0 := m0) (m1 := m1) (m2 := m2) (m3 := m3) (m4 := m4) (m5 := m5) (gs := gs) (gp := gp) (gl := gl) (gk := gk) (fx := fx) (kn := kn) (ln := ln) (th := th) (hs := hs) (hu := bn) (hhu := by omega)) (cwV 1 hts gX5_darkest_X5_darkAt rfl rfl rfl (by decide +kernel) ⟨Nat.le_of_ble_eq_true rfl, Nat.le_of_ble_eq_true rfl⟩) (z_preV hK (hP.sub [0, 1, 2, 3, 4, 5] rfl) 0 4 rfl rfl) rfl rfl hl.1 rfl (lv_room (Nat.le_of_ble_eq_true rfl)) dX5_darkest_17 ⟨Nat.le_of_ble_eq_true rfl, Nat.le_of_ble_eq_true rfl⟩) ?_
    refine z_icmp_le (tgt := 27) (P := pDn (fun k => gs (0 + 0 + k)) i ≤ pDn (fun k => gs (0 + 0 + k)) bn) hx hb dX5_darkest_20 (by decide) (nI_leI (a := pDn (fun k => gs (0 + 0 + k)) i) (b := pDn (fun k => gs (0 + 0 + k)) bn) (by omega) (by omega)) (fun c20 => ?_) (fun c20 => ?_)
    · skip
      refine lv_iload_n hx hb dX5_darkest_27 rfl (lv_at hl 1 rfl) ?_
      refine lv_istore_n (lv' := [(1, .int (nI bn)), (0, .ref m0), (2, .int (nI i))]) hx hb dX5_darkest_28 rfl hl (by decide) rfl (fun ls hl => ?_)
      refine lv_iinc (v := nI (i + 1)) (lv' := [(2, .int (nI (i + 1))), (1, .int (nI bn)), (0, .ref m0)]) hx hb dX5_darkest_29 hl (k := 2) rfl (nI_1 (i)) (by decide) rfl (fun ls hl => ?_)
      refine lv_goto (tgt := 4) hx hb dX5_darkest_32 (by decide) ?_
      exact ih4 (by omega) _ (⟨_, by simp only [bd, ← ebn]; first | rw [if_pos (by omega)] | rw [if_neg (by omega)], lv_sub hl [2, 1, 0] rfl⟩)
    · skip
      refine lv_iload_n hx hb dX5_darkest_23 rfl (lv_at hl 2 rfl) ?_
      refine lv_goto (tgt := 28) hx hb dX5_darkest_24 (by decide) ?_
      refine lv_istore_n (lv' := [(1, .int (nI i)), (0, .ref m0), (2, .int (nI i))]) hx hb dX5_darkest_28 rfl hl (by decide) rfl (fun ls hl => ?_)
      refine lv_iinc (v := nI (i + 1)) (lv' := [(2, .int (nI (i + 1))), (1, .int (nI i)), (0, .ref m0)]) hx hb dX5_darkest_29 hl (k := 2) rfl (nI_1 (i)) (by decide) rfl (fun ls hl => ?_)
      refine lv_goto (tgt := 4) hx hb dX5_darkest_32 (by decide) ?_
      exact ih4 (by omega) _ (⟨_, by simp only [bd, ← ebn]; first | rw [if_pos (by omega)] | rw [if_neg (by omega)], lv_sub hl [2, 1, 0] rfl⟩)
