set_option maxHeartbeats 4000000 in
set_option maxRecDepth 100000 in
/-- the buffer is full -/
theorem c_X1_isFull (l : Launch) (D : va_G) (cI cZ cL : ClassId) (b0 : Nat) (b1 : Nat) (fx : Nat → Int32) (ln : Nat) (hln : ln ≤ 60) : Met l yX1_isFull wsX1_isFull ({ frames := 0, cells := 0, slots := 0, locals := 0 }) (va_Pc [.ref b0] (zW D cI cZ cL [(b0, .inr (1, [.ref b1, .int (nI ln)])), (b1, .inl (cI, 60, .inl fx))])) (zQi (zb (decide (60 ≤ ln)))) 0 0 (fun _ => False) := by
  refine Met.ofW (cc := cX1_isFull) (maxL := 1) (ret := (some .boolean)) (by decide) rfl ?_
  intro p e s m args below meth c s₁ B hml hv
  obtain ⟨rfl, hP, hK⟩ := hv
  have hx := B.exec
  have hb := B.bytes
  have hr := B.returns
  have hts := atoms_spec (ws := wsX1_isFull) B.pre
  have hown : s.vm.findClass RX1 = some m.cls := findClass_of_methodNamed B.named
  have hlocks := B.notSynchronized
  have in1 : ∀ w ∈ u_ws RX1 TX1 2, w ∈ wsX1_isFull := by decide +kernel
  have fl15 := hts (.fieldLink RX1 15 "TowerShades$FieldText" "length" "I") (by decide +kernel)
  have hl := lv_entry ([.ref b0]) (n := 1) (Nat.le_of_ble_eq_true rfl)
  rw [lg_entry_eq]
  generalize (lg_sl ([.ref b0]) ++ List.replicate (1 - (lg_sl ([.ref b0])).length) Slot.unset).toArray = ls at hl ⊢
  have hl : lv_has ls 1 [(0, .ref b0)] := hl
  refine lv_aload_n hx hb dX1_isFull_0 rfl (lv_at hl 0 rfl) ?_
  refine va_get (D := D) (ci := 1) (v := .int (nI ln)) (C := RX1) (T := TX1) (N := 2) hx hb hts in1 hown hK hP 0 rfl rfl 1 (by decide) fl15 (fun _ h9 => h9) rfl dX1_isFull_1 ?_
  refine lv_bipush (v := 60) hx hb dX1_isFull_4 (by decide) ?_
  refine z_icmp_lt (tgt := 13) (P := ln < 60) hx hb dX1_isFull_6 (by decide) (nI_ltI (a := ln) (b := 60) (by omega) (by omega)) (fun c6 => ?_) (fun c6 => ?_)
  · skip
    refine lv_iconst (v := 0) hx hb dX1_isFull_13 (by decide) ?_
    exact z_zret hx hb hr hlocks dX1_isFull_14 (by simp [zb, c6] <;> omega)
  · skip
    refine lv_iconst (v := 1) hx hb dX1_isFull_9 (by decide) ?_
    refine lv_goto (tgt := 14) hx hb dX1_isFull_10 (by decide) ?_
    exact z_zret hx hb hr hlocks dX1_isFull_14 (by simp [zb, c6] <;> omega)

set_option maxHeartbeats 4000000 in
set_option maxRecDepth 100000 in
/-- the least digit behind a mark -/
theorem c_X1_leastDigit (l : Launch) (x : Int32) : Met l yX1_leastDigit wsX1_leastDigit ({ frames := 0, cells := 0, slots := 0, locals := 0 }) (va_Pc [.int x] (fun _ => True)) (zQi (pLd x)) 0 0 (fun _ => False) := by
  refine Met.ofW (cc := cX1_leastDigit) (maxL := 1) (ret := (some .int)) (by decide) rfl ?_
  intro p e s m args below meth c s₁ B hml hv
  obtain ⟨rfl, -⟩ := hv
  have hx := B.exec
  have hb := B.bytes
  have hr := B.returns
  have hts := atoms_spec (ws := wsX1_leastDigit) B.pre
  have hown : s.vm.findClass RX1 = some m.cls := findClass_of_methodNamed B.named
  have hlocks := B.notSynchronized
  have hl := lv_entry ([.int x]) (n := 1) (Nat.le_of_ble_eq_true rfl)
  rw [lg_entry_eq]
  generalize (lg_sl ([.int x]) ++ List.replicate (1 - (lg_sl ([.int x])).length) Slot.unset).toArray = ls at hl ⊢
  have hl : lv_has ls 1 [(0, .int x)] := hl
  refine lv_iload_n hx hb dX1_leastDigit_0 rfl (lv_at hl 0 rfl) ?_
  refine lv_bipush (v := 61) hx hb dX1_leastDigit_1 (by decide) ?_
  refine z_icmp_ne (tgt := 11) (P := x = 61) hx hb dX1_leastDigit_3 (by decide) (Iff.rfl) (fun c3 => ?_) (fun c3 => ?_)
  · skip
    refine lv_bipush (v := 49) hx hb dX1_leastDigit_11 (by decide) ?_
    exact z_iret hx hb hr hlocks dX1_leastDigit_13 (by simp [pLd, c3])
  · skip
    refine lv_bipush (v := 48) hx hb dX1_leastDigit_6 (by decide) ?_
    refine lv_goto (tgt := 13) hx hb dX1_leastDigit_8 (by decide) ?_
    exact z_iret hx hb hr hlocks dX1_leastDigit_13 (by simp [pLd, c3])

set_option maxHeartbeats 4000000 in
set_option maxRecDepth 100000 in
/-- whether a sign fits -/
theorem c_X1_fits (l : Launch) (D : va_G) (cI cZ cL : ClassId) (b0 : Nat) (b1 : Nat) (fx : Nat → Int32) (ln : Nat) (i : Nat) (hi : i < 60) : Met l yX1_fits wsX1_fits ({ frames := 1, cells := 0, slots := 0, locals := 20 }) (va_Pc [.ref b0, .int (nI i)] (zW D cI cZ cL [(b0, .inr (1, [.ref b1, .int (nI ln)])), (b1, .inl (cI, 60, .inl fx))])) (zQi (zb (pFt fx i))) 0 0 (fun _ => False) := by
  refine Met.ofW (cc := cX1_fits) (maxL := 3) (ret := (some .boolean)) (by decide) rfl ?_
  intro p e s m args below meth c s₁ B hml hv
  obtain ⟨rfl, hP, hK⟩ := hv
  have hx := B.exec
  have hb := B.bytes
  have hr := B.returns
  have hts := atoms_spec (ws := wsX1_fits) B.pre
  have hown : s.vm.findClass RX1 = some m.cls := findClass_of_methodNamed B.named
  have hlocks := B.notSynchronized
  have in1 : ∀ w ∈ u_ws RX1 TX1 2, w ∈ wsX1_fits := by decide +kernel
  have fl11 := hts (.fieldLink RX1 11 "TowerShades$FieldText" "codes" "[I") (by decide +kernel)
  have hl := lv_entry ([.ref b0, .int (nI i)]) (n := 3) (Nat.le_of_ble_eq_true rfl)
  rw [lg_entry_eq]
  generalize (lg_sl ([.ref b0, .int (nI i)]) ++ List.replicate (3 - (lg_sl ([.ref b0, .int (nI i)])).length) Slot.unset).toArray = ls at hl ⊢
  have hl : lv_has ls 3 [(0, .ref b0), (1, .int (nI i))] := hl
  refine lv_aload_n hx hb dX1_fits_0 rfl (lv_at hl 0 rfl) ?_
  refine va_get (D := D) (ci := 1) (v := .ref b1) (C := RX1) (T := TX1) (N := 2) hx hb hts in1 hown hK hP 0 rfl rfl 0 (by decide) fl11 (fun _ h9 => h9) rfl dX1_fits_1 ?_
  refine lv_iload_n hx hb dX1_fits_4 rfl (lv_at hl 1 rfl) ?_
  refine z_iald hx hb hK hP 1 0 rfl rfl (k := i) (rfl) (by omega) (by decide) dX1_fits_5 ?_
  refine lv_istore_n (lv' := [(2, .int (fx i)), (0, .ref b0), (1, .int (nI i))]) hx hb dX1_fits_6 rfl hl (by decide) rfl (fun ls hl => ?_)
  refine lv_iload_n hx hb dX1_fits_7 rfl (lv_at hl 2 rfl) ?_
  refine lv_iconst (v := 5) hx hb dX1_fits_8 (by decide) ?_
  refine z_irem (v := nI (i % 5)) hx hb dX1_fits_9 (by decide) (pk_rem (a := i) (d := 5) (by omega) (by omega) (by omega)) ?_
  rcases (show i % 5 = 0 ∨ i % 5 = 1 ∨ i % 5 = 2 ∨ i % 5 = 3 ∨ i % 5 = 4 by omega) with h5 | h5 | h5 | h5 | h5
  · skip
    refine z_top (y := nI 0) (by rw [h5]) ?_
    refine lv_tableIn (off := 30) (tgt := 40) hx hb dX1_fits_10 (by decide) (by decide) rfl (by decide) ?_
    refine lv_iload_n hx hb dX1_fits_40 rfl (lv_at hl 0 rfl) ?_
    refine lv_bipush (v := 97) hx hb dX1_fits_41 (by decide) ?_
    refine z_icmp_lt (tgt := 56) (P := ¬ 97 ≤ (fx i)) hx hb dX1_fits_43 (by decide) (Int32.not_le.symm) (fun c43 => ?_) (fun c43 => ?_)
    · skip
      refine lv_iconst (v := 0) hx hb dX1_fits_56 (by decide) ?_
      exact z_zret hx hb hr hlocks dX1_fits_57 (by simp [pFt, h5, zb, c43])
    · skip
      replace c43 := Classical.not_not.mp c43
      refine lv_iload_n hx hb dX1_fits_46 rfl (lv_at hl 0 rfl) ?_
      refine lv_bipush (v := 102) hx hb dX1_fits_47 (by decide) ?_
      refine z_icmp_gt (tgt := 56) (P := ¬ (fx i) ≤ 102) hx hb dX1_fits_49 (by decide) (Int32.not_le.symm) (fun c49 => ?_) (fun c49 => ?_)
      · skip
        refine lv_iconst (v := 0) hx hb dX1_fits_56 (by decide) ?_
        exact z_zret hx hb hr hlocks dX1_fits_57 (by simp [pFt, h5, zb, c43, c49])
      · skip
        replace c49 := Classical.not_not.mp c49
        refine lv_iconst (v := 1) hx hb dX1_fits_52 (by decide) ?_
        refine lv_goto (tgt := 57) hx hb dX1_fits_53 (by decide) ?_
        exact z_zret hx hb hr hlocks dX1_fits_57 (by simp [pFt, h5, zb, c43, c49])
  · skip
    refine z_top (y := nI 1) (by rw [h5]) ?_
    refine lv_tableIn (off := 48) (tgt := 58) hx hb dX1_fits_10 (by decide) (by decide) rfl (by decide) ?_
    refine lv_iload_n hx hb dX1_fits_58 rfl (lv_at hl 0 rfl) ?_
    refine lv_bipush (v := 49) hx hb dX1_fits_59 (by decide) ?_
    refine z_icmp_lt (tgt := 74) (P := ¬ 49 ≤ (fx i)) hx hb dX1_fits_61 (by decide) (Int32.not_le.symm) (fun c61 => ?_) (fun c61 => ?_)
    · skip
      refine lv_iconst (v := 0) hx hb dX1_fits_74 (by decide) ?_
      exact z_zret hx hb hr hlocks dX1_fits_75 (by simp [pFt, h5, zb, c61])
    · skip
      replace c61 := Classical.not_not.mp c61
      refine lv_iload_n hx hb dX1_fits_64 rfl (lv_at hl 0 rfl) ?_
      refine lv_bipush (v := 54) hx hb dX1_fits_65 (by decide) ?_
      refine z_icmp_gt (tgt := 74) (P := ¬ (fx i) ≤ 54) hx hb dX1_fits_67 (by decide) (Int32.not_le.symm) (fun c67 => ?_) (fun c67 => ?_)
      · skip
        refine lv_iconst (v := 0) hx hb dX1_fits_74 (by decide) ?_
        exact z_zret hx hb hr hlocks dX1_fits_75 (by simp [pFt, h5, zb, c61, c67])
      · skip
        replace c67 := Classical.not_not.mp c67
        refine lv_iconst (v := 1) hx hb dX1_fits_70 (by decide) ?_
        refine lv_goto (tgt := 75) hx hb dX1_fits_71 (by decide) ?_
        exact z_zret hx hb hr hlocks dX1_fits_75 (by simp [pFt, h5, zb, c61, c67])
  · skip
    refine z_top (y := nI 2) (by rw [h5]) ?_
    refine lv_tableIn (off := 66) (tgt := 76) hx hb dX1_fits_10 (by decide) (by decide) rfl (by decide) ?_
    refine lv_iload_n hx hb dX1_fits_76 rfl (lv_at hl 0 rfl) ?_
    refine lv_bipush (v := 43) hx hb dX1_fits_77 (by decide) ?_
    refine z_icmp_eq (tgt := 94) (P := (fx i) = 43) hx hb dX1_fits_79 (by decide) (Iff.rfl) (fun c79 => ?_) (fun c79 => ?_)
    · skip
      refine lv_iconst (v := 1) hx hb dX1_fits_94 (by decide) ?_
      refine lv_goto (tgt := 99) hx hb dX1_fits_95 (by decide) ?_
      exact z_zret hx hb hr hlocks dX1_fits_99 (by simp [pFt, h5, zb, c79])
    · skip
      refine lv_iload_n hx hb dX1_fits_82 rfl (lv_at hl 0 rfl) ?_
      refine lv_bipush (v := 45) hx hb dX1_fits_83 (by decide) ?_
      refine z_icmp_eq (tgt := 94) (P := (fx i) = 45) hx hb dX1_fits_85 (by decide) (Iff.rfl) (fun c85 => ?_) (fun c85 => ?_)
      · skip
        refine lv_iconst (v := 1) hx hb dX1_fits_94 (by decide) ?_
        refine lv_goto (tgt := 99) hx hb dX1_fits_95 (by decide) ?_
        exact z_zret hx hb hr hlocks dX1_fits_99 (by simp [pFt, h5, zb, c79, c85])
      · skip
        refine lv_iload_n hx hb dX1_fits_88 rfl (lv_at hl 0 rfl) ?_
        refine lv_bipush (v := 61) hx hb dX1_fits_89 (by decide) ?_
        refine z_icmp_ne (tgt := 98) (P := (fx i) = 61) hx hb dX1_fits_91 (by decide) (Iff.rfl) (fun c91 => ?_) (fun c91 => ?_)
        · skip
          refine lv_iconst (v := 0) hx hb dX1_fits_98 (by decide) ?_
          exact z_zret hx hb hr hlocks dX1_fits_99 (by simp [pFt, h5, zb, c79, c85, c91])
        · skip
          refine lv_iconst (v := 1) hx hb dX1_fits_94 (by decide) ?_
          refine lv_goto (tgt := 99) hx hb dX1_fits_95 (by decide) ?_
          exact z_zret hx hb hr hlocks dX1_fits_99 (by simp [pFt, h5, zb, c79, c85, c91])
  · skip
    refine z_top (y := nI 3) (by rw [h5]) ?_
    refine lv_tableIn (off := 90) (tgt := 100) hx hb dX1_fits_10 (by decide) (by decide) rfl (by decide) ?_
    refine lv_iload_n hx hb dX1_fits_100 rfl (lv_at hl 0 rfl) ?_
    refine lv_aload_n hx hb dX1_fits_101 rfl (lv_at hl 1 rfl) ?_
    refine va_get (D := D) (ci := 1) (v := .ref b1) (C := RX1) (T := TX1) (N := 2) hx hb hts in1 hown hK hP 0 rfl rfl 0 (by decide) fl11 (fun _ h9 => h9) rfl dX1_fits_102 ?_
    refine lv_iload_n hx hb dX1_fits_105 rfl (lv_at hl 2 rfl) ?_
    refine lv_iconst (v := 1) hx hb dX1_fits_106 (by decide) ?_
    refine z_isub (v := nI (i - 1)) hx hb dX1_fits_107 (pk_sub (a := i) (b := 1) (by omega)) ?_
    refine z_iald hx hb hK hP 1 0 rfl rfl (k := (i - 1)) (rfl) (by omega) (by decide) dX1_fits_108 ?_
    refine z_ci (va_runS (As := [.int (fx (i - 1))]) (rest := [.int (fx i)]) ⟨hx, hb, hml, hown, hts⟩ (c_X1_leastDigit l (x := fx (i - 1))) (va_cwS 1 hts gX1_fits_X1_leastDigit rfl rfl rfl (by decide +kernel) ⟨Nat.le_of_ble_eq_true rfl, Nat.le_of_ble_eq_true rfl⟩) z_preS rfl rfl hl.1 rfl (lv_room (Nat.le_of_ble_eq_true rfl)) dX1_fits_109 ⟨Nat.le_of_ble_eq_true rfl, Nat.le_of_ble_eq_true rfl⟩) ?_
    refine z_icmp_lt (tgt := 125) (P := ¬ (pLd (fx (i - 1))) ≤ (fx i)) hx hb dX1_fits_112 (by decide) (Int32.not_le.symm) (fun c112 => ?_) (fun c112 => ?_)
    · skip
      refine lv_iconst (v := 0) hx hb dX1_fits_125 (by decide) ?_
      exact z_zret hx hb hr hlocks dX1_fits_126 (by simp [pFt, h5, zb, c112])
    · skip
      replace c112 := Classical.not_not.mp c112
      refine lv_iload_n hx hb dX1_fits_115 rfl (lv_at hl 0 rfl) ?_
      refine lv_bipush (v := 57) hx hb dX1_fits_116 (by decide) ?_
      refine z_icmp_gt (tgt := 125) (P := ¬ (fx i) ≤ 57) hx hb dX1_fits_118 (by decide) (Int32.not_le.symm) (fun c118 => ?_) (fun c118 => ?_)
      · skip
        refine lv_iconst (v := 0) hx hb dX1_fits_125 (by decide) ?_
        exact z_zret hx hb hr hlocks dX1_fits_126 (by simp [pFt, h5, zb, c112, c118])
      · skip
        replace c118 := Classical.not_not.mp c118
        refine lv_iconst (v := 1) hx hb dX1_fits_121 (by decide) ?_
        refine lv_goto (tgt := 126) hx hb dX1_fits_122 (by decide) ?_
        exact z_zret hx hb hr hlocks dX1_fits_126 (by simp [pFt, h5, zb, c112, c118])
  · skip
    refine z_top (y := nI 4) (by rw [h5]) ?_
    refine lv_tableOut (tgt := 127) hx hb dX1_fits_10 (by decide) (by decide) ?_
    refine lv_iload_n hx hb dX1_fits_127 rfl (lv_at hl 0 rfl) ?_
    refine lv_bipush (v := 59) hx hb dX1_fits_128 (by decide) ?_
    refine z_icmp_ne (tgt := 137) (P := (fx i) = 59) hx hb dX1_fits_130 (by decide) (Iff.rfl) (fun c130 => ?_) (fun c130 => ?_)
    · skip
      refine lv_iconst (v := 0) hx hb dX1_fits_137 (by decide) ?_
      exact z_zret hx hb hr hlocks dX1_fits_138 (by simp [pFt, h5, zb, c130])
    · skip
      refine lv_iconst (v := 1) hx hb dX1_fits_133 (by decide) ?_
      refine lv_goto (tgt := 138) hx hb dX1_fits_134 (by decide) ?_
      exact z_zret hx hb hr hlocks dX1_fits_138 (by simp [pFt, h5, zb, c130])

set_option maxHeartbeats 4000000 in
set_option maxRecDepth 100000 in
/-- the first error -/
theorem c_X1_errorIndex (l : Launch) (D : va_G) (cI cZ cL : ClassId) (b0 : Nat) (b1 : Nat) (fx : Nat → Int32) (ln : Nat) (hln : ln ≤ 60) : Met l yX1_errorIndex wsX1_errorIndex ({ frames := 2, cells := 0, slots := 0, locals := 42 }) (va_Pc [.ref b0] (zW D cI cZ cL [(b0, .inr (1, [.ref b1, .int (nI ln)])), (b1, .inl (cI, 60, .inl fx))])) (zQi (nI (pEr fx ln))) 0 0 (fun _ => False) := by
  refine Met.ofW (cc := cX1_errorIndex) (maxL := 2) (ret := (some .int)) (by decide) rfl ?_
  intro p e s m args below meth c s₁ B hml hv
  obtain ⟨rfl, hP, hK⟩ := hv
  have hx := B.exec
  have hb := B.bytes
  have hr := B.returns
  have hts := atoms_spec (ws := wsX1_errorIndex) B.pre
  have hown : s.vm.findClass RX1 = some m.cls := findClass_of_methodNamed B.named
  have hlocks := B.notSynchronized
  have in1 : ∀ w ∈ u_ws RX1 TX1 2, w ∈ wsX1_errorIndex := by decide +kernel
  have fl15 := hts (.fieldLink RX1 15 "TowerShades$FieldText" "length" "I") (by decide +kernel)
  have hl := lv_entry ([.ref b0]) (n := 2) (Nat.le_of_ble_eq_true rfl)
  rw [lg_entry_eq]
  generalize (lg_sl ([.ref b0]) ++ List.replicate (2 - (lg_sl ([.ref b0])).length) Slot.unset).toArray = ls at hl ⊢
  have hl : lv_has ls 2 [(0, .ref b0)] := hl
  refine lv_iconst (v := 0) hx hb dX1_errorIndex_0 (by decide) ?_
  refine lv_istore_n (lv' := [(1, .int 0), (0, .ref b0)]) hx hb dX1_errorIndex_1 rfl hl (by decide) rfl (fun ls hl => ?_)
  refine z_up (N := ln) (i0 := 0) (fun i ls => (fd (fun i => !pFt fx i) i = 0) ∧ lv_has ls 2 [(0, .ref b0), (1, .int (nI i))]) (by omega) (⟨rfl, lv_sub hl [1, 0] rfl⟩) (fun i ls hi2 hI ih2 => ?_)
  obtain ⟨hn, hl⟩ := hI
  refine lv_iload_n hx hb dX1_errorIndex_2 rfl (lv_at hl 1 rfl) ?_
  refine lv_aload_n hx hb dX1_errorIndex_3 rfl (lv_at hl 0 rfl) ?_
  refine va_get (D := D) (ci := 1) (v := .int (nI ln)) (C := RX1) (T := TX1) (N := 2) hx hb hts in1 hown hK hP 0 rfl rfl 1 (by decide) fl15 (fun _ h9 => h9) rfl dX1_errorIndex_4 ?_
  refine z_icmp_ge (tgt := 26) (P := ln ≤ i) hx hb dX1_errorIndex_7 (by decide) (nI_leI (a := ln) (b := i) (by omega) (by omega)) (fun c7 => ?_) (fun c7 => ?_)
  · skip
    refine lv_aload_n hx hb dX1_errorIndex_26 rfl (lv_at hl 0 rfl) ?_
    refine va_get (D := D) (ci := 1) (v := .int (nI ln)) (C := RX1) (T := TX1) (N := 2) hx hb hts in1 hown hK hP 0 rfl rfl 1 (by decide) fl15 (fun _ h9 => h9) rfl dX1_errorIndex_27 ?_
    exact z_iret hx hb hr hlocks dX1_errorIndex_30 (by rw [pEr, show ln = i by omega, hn]; simp)
  · skip
    refine lv_aload_n hx hb dX1_errorIndex_10 rfl (lv_at hl 0 rfl) ?_
    refine lv_iload_n hx hb dX1_errorIndex_11 rfl (lv_at hl 1 rfl) ?_
    refine z_ci (va_runV (As := [.int (nI i)]) (rest := []) ⟨hx, hb, hml, hown, hts⟩ (c_X1_fits l D cI cZ cL (b0 := b0) (b1 := b1) (fx := fx) (ln := ln) (i := i) (hi := by omega)) (cwV 1 hts gX1_errorIndex_X1_fits rfl rfl rfl (by decide +kernel) ⟨Nat.le_of_ble_eq_true rfl, Nat.le_of_ble_eq_true rfl⟩) (z_preV hK (hP.sub [0, 1] rfl) 0 1 rfl rfl) rfl rfl hl.1 rfl (lv_room (Nat.le_of_ble_eq_true rfl)) dX1_errorIndex_12 ⟨Nat.le_of_ble_eq_true rfl, Nat.le_of_ble_eq_true rfl⟩) ?_
    refine z_if_ne (tgt := 20) (P := (pFt fx i) = false) hx hb dX1_errorIndex_15 (by decide) (zb_eq0) (fun c15 => ?_) (fun c15 => ?_)
    · skip
      refine lv_iinc (v := nI (i + 1)) (lv' := [(1, .int (nI (i + 1))), (0, .ref b0)]) hx hb dX1_errorIndex_20 hl (k := 1) rfl (nI_1 (i)) (by decide) rfl (fun ls hl => ?_)
      refine lv_goto (tgt := 2) hx hb dX1_errorIndex_23 (by decide) ?_
      exact ih2 (by omega) _ (⟨fd_none hn (by simpa using c15), lv_sub hl [1, 0] rfl⟩)
    · skip
      refine lv_iload_n hx hb dX1_errorIndex_18 rfl (lv_at hl 1 rfl) ?_
      exact z_iret hx hb hr hlocks dX1_errorIndex_19 (by rw [pEr, fd_hit (i := i) hn (by simpa using c15) (by omega)]; simp)

set_option maxHeartbeats 4000000 in
set_option maxRecDepth 100000 in
/-- the buffer tells a field -/
theorem c_X1_isWhole (l : Launch) (D : va_G) (cI cZ cL : ClassId) (b0 : Nat) (b1 : Nat) (fx : Nat → Int32) (ln : Nat) (hln : ln ≤ 60) : Met l yX1_isWhole wsX1_isWhole ({ frames := 3, cells := 0, slots := 0, locals := 63 }) (va_Pc [.ref b0] (zW D cI cZ cL [(b0, .inr (1, [.ref b1, .int (nI ln)])), (b1, .inl (cI, 60, .inl fx))])) (zQi (zb (pWh fx ln))) 0 0 (fun _ => False) := by
  refine Met.ofW (cc := cX1_isWhole) (maxL := 1) (ret := (some .boolean)) (by decide) rfl ?_
  intro p e s m args below meth c s₁ B hml hv
  obtain ⟨rfl, hP, hK⟩ := hv
  have hx := B.exec
  have hb := B.bytes
  have hr := B.returns
  have hts := atoms_spec (ws := wsX1_isWhole) B.pre
  have hown : s.vm.findClass RX1 = some m.cls := findClass_of_methodNamed B.named
  have hlocks := B.notSynchronized
  have in1 : ∀ w ∈ u_ws RX1 TX1 2, w ∈ wsX1_isWhole := by decide +kernel
  have fl15 := hts (.fieldLink RX1 15 "TowerShades$FieldText" "length" "I") (by decide +kernel)
  have hl := lv_entry ([.ref b0]) (n := 1) (Nat.le_of_ble_eq_true rfl)
  rw [lg_entry_eq]
  generalize (lg_sl ([.ref b0]) ++ List.replicate (1 - (lg_sl ([.ref b0])).length) Slot.unset).toArray = ls at hl ⊢
  have hl : lv_has ls 1 [(0, .ref b0)] := hl
  have hE := pEr_le fx ln
  refine lv_aload_n hx hb dX1_isWhole_0 rfl (lv_at hl 0 rfl) ?_
  refine va_get (D := D) (ci := 1) (v := .int (nI ln)) (C := RX1) (T := TX1) (N := 2) hx hb hts in1 hown hK hP 0 rfl rfl 1 (by decide) fl15 (fun _ h9 => h9) rfl dX1_isWhole_1 ?_
  refine lv_iconst (v := 5) hx hb dX1_isWhole_4 (by decide) ?_
  refine z_irem (v := nI (ln % 5)) hx hb dX1_isWhole_5 (by decide) (pk_rem (a := ln) (d := 5) (by omega) (by omega) (by omega)) ?_
  refine lv_iconst (v := 4) hx hb dX1_isWhole_6 (by decide) ?_
  refine z_icmp_ne (tgt := 25) (P := (ln % 5) = 4) hx hb dX1_isWhole_7 (by decide) (nI_eq (a := (ln % 5)) (b := 4) (by omega) (by omega)) (fun c7 => ?_) (fun c7 => ?_)
  · skip
    refine lv_iconst (v := 0) hx hb dX1_isWhole_25 (by decide) ?_
    exact z_zret hx hb hr hlocks dX1_isWhole_26 (by simp [pWh, zb, c7])
  · skip
    refine lv_aload_n hx hb dX1_isWhole_10 rfl (lv_at hl 0 rfl) ?_
    refine z_ci (va_runV (As := []) (rest := []) ⟨hx, hb, hml, hown, hts⟩ (c_X1_errorIndex l D cI cZ cL (b0 := b0) (b1 := b1) (fx := fx) (ln := ln) (hln := by omega)) (cwV 0 hts gX1_isWhole_X1_errorIndex rfl rfl rfl (by decide +kernel) ⟨Nat.le_of_ble_eq_true rfl, Nat.le_of_ble_eq_true rfl⟩) (z_preV hK (hP.sub [0, 1] rfl) 0 1 rfl rfl) rfl rfl hl.1 rfl (lv_room (Nat.le_of_ble_eq_true rfl)) dX1_isWhole_11 ⟨Nat.le_of_ble_eq_true rfl, Nat.le_of_ble_eq_true rfl⟩) ?_
    refine lv_aload_n hx hb dX1_isWhole_14 rfl (lv_at hl 0 rfl) ?_
    refine va_get (D := D) (ci := 1) (v := .int (nI ln)) (C := RX1) (T := TX1) (N := 2) hx hb hts in1 hown hK hP 0 rfl rfl 1 (by decide) fl15 (fun _ h9 => h9) rfl dX1_isWhole_15 ?_
    refine z_icmp_ne (tgt := 25) (P := pEr fx ln = ln) hx hb dX1_isWhole_18 (by decide) (nI_eq (a := pEr fx ln) (b := ln) (by omega) (by omega)) (fun c18 => ?_) (fun c18 => ?_)
    · skip
      refine lv_iconst (v := 0) hx hb dX1_isWhole_25 (by decide) ?_
      exact z_zret hx hb hr hlocks dX1_isWhole_26 (by simp [pWh, zb, c7, c18])
    · skip
      refine lv_iconst (v := 1) hx hb dX1_isWhole_21 (by decide) ?_
      refine lv_goto (tgt := 26) hx hb dX1_isWhole_22 (by decide) ?_
      exact z_zret hx hb hr hlocks dX1_isWhole_26 (by simp [pWh, zb, c7, c18])

set_option maxHeartbeats 4000000 in
set_option maxRecDepth 100000 in
/-- entries -/
theorem c_X1_entries (l : Launch) (D : va_G) (cI cZ cL : ClassId) (b0 : Nat) (b1 : Nat) (fx : Nat → Int32) (ln : Nat) (hln : ln ≤ 60) : Met l yX1_entries wsX1_entries ({ frames := 0, cells := 0, slots := 0, locals := 0 }) (va_Pc [.ref b0] (zW D cI cZ cL [(b0, .inr (1, [.ref b1, .int (nI ln)])), (b1, .inl (cI, 60, .inl fx))])) (zQi (nI ((ln + 1) / 5))) 0 0 (fun _ => False) := by
  refine Met.ofW (cc := cX1_entries) (maxL := 1) (ret := (some .int)) (by decide) rfl ?_
  intro p e s m args below meth c s₁ B hml hv
  obtain ⟨rfl, hP, hK⟩ := hv
  have hx := B.exec
  have hb := B.bytes
  have hr := B.returns
  have hts := atoms_spec (ws := wsX1_entries) B.pre
  have hown : s.vm.findClass RX1 = some m.cls := findClass_of_methodNamed B.named
  have hlocks := B.notSynchronized
  have in1 : ∀ w ∈ u_ws RX1 TX1 2, w ∈ wsX1_entries := by decide +kernel
  have fl15 := hts (.fieldLink RX1 15 "TowerShades$FieldText" "length" "I") (by decide +kernel)
  have hl := lv_entry ([.ref b0]) (n := 1) (Nat.le_of_ble_eq_true rfl)
  rw [lg_entry_eq]
  generalize (lg_sl ([.ref b0]) ++ List.replicate (1 - (lg_sl ([.ref b0])).length) Slot.unset).toArray = ls at hl ⊢
  have hl : lv_has ls 1 [(0, .ref b0)] := hl
  refine lv_aload_n hx hb dX1_entries_0 rfl (lv_at hl 0 rfl) ?_
  refine va_get (D := D) (ci := 1) (v := .int (nI ln)) (C := RX1) (T := TX1) (N := 2) hx hb hts in1 hown hK hP 0 rfl rfl 1 (by decide) fl15 (fun _ h9 => h9) rfl dX1_entries_1 ?_
  refine lv_iconst (v := 1) hx hb dX1_entries_4 (by decide) ?_
  refine z_iadd (v := nI (ln + 1)) hx hb dX1_entries_5 (nI_add (ln) (1)) ?_
  refine lv_iconst (v := 5) hx hb dX1_entries_6 (by decide) ?_
  refine z_idiv (v := nI ((ln + 1) / 5)) hx hb dX1_entries_7 (by decide) (pk_div (a := (ln + 1)) (d := 5) (by omega) (by omega) (by omega)) ?_
  exact z_iret hx hb hr hlocks dX1_entries_8 (rfl)

set_option maxHeartbeats 4000000 in
set_option maxRecDepth 100000 in
/-- an entry's square -/
theorem c_X1_square (l : Launch) (D : va_G) (cI cZ cL : ClassId) (b0 : Nat) (b1 : Nat) (fx : Nat → Int32) (ln : Nat) (en : Nat) (he : en < 12) : Met l yX1_square wsX1_square ({ frames := 0, cells := 0, slots := 0, locals := 0 }) (va_Pc [.ref b0, .int (nI en)] (zW D cI cZ cL [(b0, .inr (1, [.ref b1, .int (nI ln)])), (b1, .inl (cI, 60, .inl fx))])) (zQi (pSqI fx en)) 0 0 (fun _ => False) := by
  refine Met.ofW (cc := cX1_square) (maxL := 3) (ret := (some .int)) (by decide) rfl ?_
  intro p e s m args below meth c s₁ B hml hv
  obtain ⟨rfl, hP, hK⟩ := hv
  have hx := B.exec
  have hb := B.bytes
  have hr := B.returns
  have hts := atoms_spec (ws := wsX1_square) B.pre
  have hown : s.vm.findClass RX1 = some m.cls := findClass_of_methodNamed B.named
  have hlocks := B.notSynchronized
  have in1 : ∀ w ∈ u_ws RX1 TX1 2, w ∈ wsX1_square := by decide +kernel
  have fl11 := hts (.fieldLink RX1 11 "TowerShades$FieldText" "codes" "[I") (by decide +kernel)
  have hl := lv_entry ([.ref b0, .int (nI en)]) (n := 3) (Nat.le_of_ble_eq_true rfl)
  rw [lg_entry_eq]
  generalize (lg_sl ([.ref b0, .int (nI en)]) ++ List.replicate (3 - (lg_sl ([.ref b0, .int (nI en)])).length) Slot.unset).toArray = ls at hl ⊢
  have hl : lv_has ls 3 [(0, .ref b0), (1, .int (nI en))] := hl
  refine lv_iload_n hx hb dX1_square_0 rfl (lv_at hl 1 rfl) ?_
  refine lv_iconst (v := 5) hx hb dX1_square_1 (by decide) ?_
  refine z_imul (v := nI (en * 5)) hx hb dX1_square_2 (pk_mul (en) (5)) ?_
  refine lv_istore_n (lv' := [(2, .int (nI (en * 5))), (0, .ref b0), (1, .int (nI en))]) hx hb dX1_square_3 rfl hl (by decide) rfl (fun ls hl => ?_)
  refine lv_aload_n hx hb dX1_square_4 rfl (lv_at hl 1 rfl) ?_
  refine va_get (D := D) (ci := 1) (v := .ref b1) (C := RX1) (T := TX1) (N := 2) hx hb hts in1 hown hK hP 0 rfl rfl 0 (by decide) fl11 (fun _ h9 => h9) rfl dX1_square_5 ?_
  refine lv_iload_n hx hb dX1_square_8 rfl (lv_at hl 0 rfl) ?_
  refine z_iald hx hb hK hP 1 0 rfl rfl (k := (en * 5)) (rfl) (by omega) (by decide) dX1_square_9 ?_
  refine lv_bipush (v := 97) hx hb dX1_square_10 (by decide) ?_
  refine z_isub (v := ((fx (en * 5)) - 97)) hx hb dX1_square_12 (rfl) ?_
  refine lv_bipush (v := 6) hx hb dX1_square_13 (by decide) ?_
  refine z_imul (v := (((fx (en * 5)) - 97) * 6)) hx hb dX1_square_15 (rfl) ?_
  refine lv_aload_n hx hb dX1_square_16 rfl (lv_at hl 1 rfl) ?_
  refine va_get (D := D) (ci := 1) (v := .ref b1) (C := RX1) (T := TX1) (N := 2) hx hb hts in1 hown hK hP 0 rfl rfl 0 (by decide) fl11 (fun _ h9 => h9) rfl dX1_square_17 ?_
  refine lv_iload_n hx hb dX1_square_20 rfl (lv_at hl 0 rfl) ?_
  refine lv_iconst (v := 1) hx hb dX1_square_21 (by decide) ?_
  refine z_iadd (v := nI ((en * 5) + 1)) hx hb dX1_square_22 (nI_add ((en * 5)) (1)) ?_
  refine z_iald hx hb hK hP 1 0 rfl rfl (k := ((en * 5) + 1)) (rfl) (by omega) (by decide) dX1_square_23 ?_
  refine z_iadd (v := ((((fx (en * 5)) - 97) * 6) + (fx ((en * 5) + 1)))) hx hb dX1_square_24 (rfl) ?_
  refine lv_bipush (v := 49) hx hb dX1_square_25 (by decide) ?_
  refine z_isub (v := (((((fx (en * 5)) - 97) * 6) + (fx ((en * 5) + 1))) - 49)) hx hb dX1_square_27 (rfl) ?_
  exact z_iret hx hb hr hlocks dX1_square_28 (rfl)

set_option maxHeartbeats 4000000 in
set_option maxRecDepth 100000 in
/-- an entry's mark -/
theorem c_X1_mark (l : Launch) (D : va_G) (cI cZ cL : ClassId) (b0 : Nat) (b1 : Nat) (fx : Nat → Int32) (ln : Nat) (en : Nat) (he : en < 12) : Met l yX1_mark wsX1_mark ({ frames := 0, cells := 0, slots := 0, locals := 0 }) (va_Pc [.ref b0, .int (nI en)] (zW D cI cZ cL [(b0, .inr (1, [.ref b1, .int (nI ln)])), (b1, .inl (cI, 60, .inl fx))])) (zQi (fx (en * 5 + 2))) 0 0 (fun _ => False) := by
  refine Met.ofW (cc := cX1_mark) (maxL := 2) (ret := (some .int)) (by decide) rfl ?_
  intro p e s m args below meth c s₁ B hml hv
  obtain ⟨rfl, hP, hK⟩ := hv
  have hx := B.exec
  have hb := B.bytes
  have hr := B.returns
  have hts := atoms_spec (ws := wsX1_mark) B.pre
  have hown : s.vm.findClass RX1 = some m.cls := findClass_of_methodNamed B.named
  have hlocks := B.notSynchronized
  have in1 : ∀ w ∈ u_ws RX1 TX1 2, w ∈ wsX1_mark := by decide +kernel
  have fl11 := hts (.fieldLink RX1 11 "TowerShades$FieldText" "codes" "[I") (by decide +kernel)
  have hl := lv_entry ([.ref b0, .int (nI en)]) (n := 2) (Nat.le_of_ble_eq_true rfl)
  rw [lg_entry_eq]
  generalize (lg_sl ([.ref b0, .int (nI en)]) ++ List.replicate (2 - (lg_sl ([.ref b0, .int (nI en)])).length) Slot.unset).toArray = ls at hl ⊢
  have hl : lv_has ls 2 [(0, .ref b0), (1, .int (nI en))] := hl
  refine lv_aload_n hx hb dX1_mark_0 rfl (lv_at hl 0 rfl) ?_
  refine va_get (D := D) (ci := 1) (v := .ref b1) (C := RX1) (T := TX1) (N := 2) hx hb hts in1 hown hK hP 0 rfl rfl 0 (by decide) fl11 (fun _ h9 => h9) rfl dX1_mark_1 ?_
  refine lv_iload_n hx hb dX1_mark_4 rfl (lv_at hl 1 rfl) ?_
  refine lv_iconst (v := 5) hx hb dX1_mark_5 (by decide) ?_
  refine z_imul (v := nI (en * 5)) hx hb dX1_mark_6 (pk_mul (en) (5)) ?_
  refine lv_iconst (v := 2) hx hb dX1_mark_7 (by decide) ?_
  refine z_iadd (v := nI ((en * 5) + 2)) hx hb dX1_mark_8 (nI_add ((en * 5)) (2)) ?_
  refine z_iald hx hb hK hP 1 0 rfl rfl (k := ((en * 5) + 2)) (rfl) (by omega) (by decide) dX1_mark_9 ?_
  exact z_iret hx hb hr hlocks dX1_mark_10 (rfl)

set_option maxHeartbeats 4000000 in
set_option maxRecDepth 100000 in
/-- an entry's number -/
theorem c_X1_number (l : Launch) (D : va_G) (cI cZ cL : ClassId) (b0 : Nat) (b1 : Nat) (fx : Nat → Int32) (ln : Nat) (en : Nat) (he : en < 12) : Met l yX1_number wsX1_number ({ frames := 0, cells := 0, slots := 0, locals := 0 }) (va_Pc [.ref b0, .int (nI en)] (zW D cI cZ cL [(b0, .inr (1, [.ref b1, .int (nI ln)])), (b1, .inl (cI, 60, .inl fx))])) (zQi (fx (en * 5 + 3) - 48)) 0 0 (fun _ => False) := by
  refine Met.ofW (cc := cX1_number) (maxL := 2) (ret := (some .int)) (by decide) rfl ?_
  intro p e s m args below meth c s₁ B hml hv
  obtain ⟨rfl, hP, hK⟩ := hv
  have hx := B.exec
  have hb := B.bytes
  have hr := B.returns
  have hts := atoms_spec (ws := wsX1_number) B.pre
  have hown : s.vm.findClass RX1 = some m.cls := findClass_of_methodNamed B.named
  have hlocks := B.notSynchronized
  have in1 : ∀ w ∈ u_ws RX1 TX1 2, w ∈ wsX1_number := by decide +kernel
  have fl11 := hts (.fieldLink RX1 11 "TowerShades$FieldText" "codes" "[I") (by decide +kernel)
  have hl := lv_entry ([.ref b0, .int (nI en)]) (n := 2) (Nat.le_of_ble_eq_true rfl)
  rw [lg_entry_eq]
  generalize (lg_sl ([.ref b0, .int (nI en)]) ++ List.replicate (2 - (lg_sl ([.ref b0, .int (nI en)])).length) Slot.unset).toArray = ls at hl ⊢
  have hl : lv_has ls 2 [(0, .ref b0), (1, .int (nI en))] := hl
  refine lv_aload_n hx hb dX1_number_0 rfl (lv_at hl 0 rfl) ?_
  refine va_get (D := D) (ci := 1) (v := .ref b1) (C := RX1) (T := TX1) (N := 2) hx hb hts in1 hown hK hP 0 rfl rfl 0 (by decide) fl11 (fun _ h9 => h9) rfl dX1_number_1 ?_
  refine lv_iload_n hx hb dX1_number_4 rfl (lv_at hl 1 rfl) ?_
  refine lv_iconst (v := 5) hx hb dX1_number_5 (by decide) ?_
  refine z_imul (v := nI (en * 5)) hx hb dX1_number_6 (pk_mul (en) (5)) ?_
  refine lv_iconst (v := 3) hx hb dX1_number_7 (by decide) ?_
  refine z_iadd (v := nI ((en * 5) + 3)) hx hb dX1_number_8 (nI_add ((en * 5)) (3)) ?_
  refine z_iald hx hb hK hP 1 0 rfl rfl (k := ((en * 5) + 3)) (rfl) (by omega) (by decide) dX1_number_9 ?_
  refine lv_bipush (v := 48) hx hb dX1_number_10 (by decide) ?_
  refine z_isub (v := ((fx ((en * 5) + 3)) - 48)) hx hb dX1_number_12 (rfl) ?_
  exact z_iret hx hb hr hlocks dX1_number_13 (rfl)

set_option maxHeartbeats 4000000 in
set_option maxRecDepth 100000 in
/-- where a saved state lies -/
theorem c_X2_place (l : Launch) (D : va_G) (cI cZ cL : ClassId) (d0 : Nat) (d1 : Nat) (fn : Nat → Int32) (od : Nat) (sz6 : Nat) (ag : Nat) (hod : od < 6) (hag : ag < 7) : Met l yX2_place wsX2_place ({ frames := 0, cells := 0, slots := 0, locals := 0 }) (va_Pc [.ref d0, .int (nI ag)] (zW D cI cZ cL [(d0, .inr (2, [.ref d1, .int (nI od), .int (nI sz6)])), (d1, .inl (cI, 684, .inl fn))])) (zQi (nI ((od + ag) % 6 * 114))) 0 0 (fun _ => False) := by
  refine Met.ofW (cc := cX2_place) (maxL := 2) (ret := (some .int)) (by decide) rfl ?_
  intro p e s m args below meth c s₁ B hml hv
  obtain ⟨rfl, hP, hK⟩ := hv
  have hx := B.exec
  have hb := B.bytes
  have hr := B.returns
  have hts := atoms_spec (ws := wsX2_place) B.pre
  have hown : s.vm.findClass RX2 = some m.cls := findClass_of_methodNamed B.named
  have hlocks := B.notSynchronized
  have in2 : ∀ w ∈ u_ws RX2 TX2 3, w ∈ wsX2_place := by decide +kernel
  have fl27 := hts (.fieldLink RX2 27 "TowerShades$SavedStates" "oldest" "I") (by decide +kernel)
  have hl := lv_entry ([.ref d0, .int (nI ag)]) (n := 2) (Nat.le_of_ble_eq_true rfl)
  rw [lg_entry_eq]
  generalize (lg_sl ([.ref d0, .int (nI ag)]) ++ List.replicate (2 - (lg_sl ([.ref d0, .int (nI ag)])).length) Slot.unset).toArray = ls at hl ⊢
  have hl : lv_has ls 2 [(0, .ref d0), (1, .int (nI ag))] := hl
  refine lv_aload_n hx hb dX2_place_0 rfl (lv_at hl 0 rfl) ?_
  refine va_get (D := D) (ci := 2) (v := .int (nI od)) (C := RX2) (T := TX2) (N := 3) hx hb hts in2 hown hK hP 0 rfl rfl 1 (by decide) fl27 (fun _ h9 => h9) rfl dX2_place_1 ?_
  refine lv_iload_n hx hb dX2_place_4 rfl (lv_at hl 1 rfl) ?_
  refine z_iadd (v := nI (od + ag)) hx hb dX2_place_5 (nI_add (od) (ag)) ?_
  refine lv_bipush (v := 6) hx hb dX2_place_6 (by decide) ?_
  refine z_irem (v := nI ((od + ag) % 6)) hx hb dX2_place_8 (by decide) (pk_rem (a := (od + ag)) (d := 6) (by omega) (by omega) (by omega)) ?_
  refine lv_bipush (v := 114) hx hb dX2_place_9 (by decide) ?_
  refine z_imul (v := nI (((od + ag) % 6) * 114)) hx hb dX2_place_11 (pk_mul (((od + ag) % 6)) (114)) ?_
  exact z_iret hx hb hr hlocks dX2_place_12 (rfl)
