set_option maxHeartbeats 4000000 in
set_option maxRecDepth 100000 in
/-- a state written to a row -/
theorem c_X0_writeTo (l : Launch) (D : va_G) (cI cZ cL : ClassId) (sz : Nat) (a0 : Nat) (a1 : Nat) (a2 : Nat) (a3 : Nat) (a4 : Nat) (fh : Nat → Int32) (fo : Nat → Int32) (fc : Nat → Int32) (fs : Nat → Int32) (hz : Nat) (mv : Nat) (tu : Int32) (rf : Int32) (t0 : Nat) (nn : Nat) (fn : Nat → Int32) (st0 : Nat) (hst : st0 + 114 ≤ nn) (hnn : nn < 1000) : Met l yX0_writeTo wsX0_writeTo ({ frames := 1, cells := 0, slots := 0, locals := 40 }) (va_Pc [.ref a0, .ref t0, .int (nI st0)] (zM D cI cZ cL [(a0, .inr (0, [.ref a1, .ref a2, .ref a3, .ref a4, .int (nI hz), .int (nI mv), .int tu, .int rf])), (a1, .inl (cI, 36, .inl fh)), (a2, .inl (cI, 36, .inl fo)), (a3, .inl (cI, 36, .inl fc)), (a4, .inl (cI, 2, .inl fs)), (t0, .inl (cI, nn, .inl fn))] sz)) (zQmv D [(a0, .inr (0, [.ref a1, .ref a2, .ref a3, .ref a4, .int (nI hz), .int (nI mv), .int tu, .int rf])), (a1, .inl (cI, 36, .inl fh)), (a2, .inl (cI, 36, .inl fo)), (a3, .inl (cI, 36, .inl fc)), (a4, .inl (cI, 2, .inl fs)), (t0, .inl (cI, nn, .inl fn))] [(a0, .inr (0, [.ref a1, .ref a2, .ref a3, .ref a4, .int (nI hz), .int (nI mv), .int tu, .int rf])), (a1, .inl (cI, 36, .inl fh)), (a2, .inl (cI, 36, .inl fo)), (a3, .inl (cI, 36, .inl fc)), (a4, .inl (cI, 2, .inl fs)), (t0, .inl (cI, nn, .inl (va_cpy (cG fh fo fc fs hz mv tu rf) fn 0 st0 114)))] sz) 0 0 (va_A [(a0, .inr (0, [.ref a1, .ref a2, .ref a3, .ref a4, .int (nI hz), .int (nI mv), .int tu, .int rf])), (a1, .inl (cI, 36, .inl fh)), (a2, .inl (cI, 36, .inl fo)), (a3, .inl (cI, 36, .inl fc)), (a4, .inl (cI, 2, .inl fs)), (t0, .inl (cI, nn, .inl fn))] sz) := by
  refine Met.ofW (cc := cX0_writeTo) (maxL := 4) (ret := none) (by decide) rfl ?_
  intro p e s m args below meth c s₁ B hml hv
  obtain ⟨rfl, hsz, ⟨hP, hK⟩, hD0⟩ := hv
  have hx := B.exec
  have hb := B.bytes
  have hr := B.returns
  have hts := atoms_spec (ws := wsX0_writeTo) B.pre
  have hown : s.vm.findClass RX0 = some m.cls := findClass_of_methodNamed B.named
  have hlocks := B.notSynchronized
  subst hsz
  have hD := hD0.self (sz := s.heap.size)
  generalize hAe : va_A [(a0, .inr (0, [.ref a1, .ref a2, .ref a3, .ref a4, .int (nI hz), .int (nI mv), .int tu, .int rf])), (a1, .inl (cI, 36, .inl fh)), (a2, .inl (cI, 36, .inl fo)), (a3, .inl (cI, 36, .inl fc)), (a4, .inl (cI, 2, .inl fs)), (t0, .inl (cI, nn, .inl fn))] s.heap.size = A at hD ⊢
  have hA : ∀ q : Nat, s.heap.size ≤ q → A q := fun q h => by rw [← hAe]; exact Or.inr h
  have hS : va_S A s.heap s.heap [] := va_S.rf
  have in0 : ∀ w ∈ u_ws RX0 TX0 8, w ∈ wsX0_writeTo := by decide +kernel
  have fl9 := hts (.fieldLink RX0 9 "TowerShades$Field" "heights" "[I") (by decide +kernel)
  have fl15 := hts (.fieldLink RX0 15 "TowerShades$Field" "owners" "[I") (by decide +kernel)
  have fl18 := hts (.fieldLink RX0 18 "TowerShades$Field" "crowds" "[I") (by decide +kernel)
  have fl21 := hts (.fieldLink RX0 21 "TowerShades$Field" "scores" "[I") (by decide +kernel)
  have fl30 := hts (.fieldLink RX0 30 "TowerShades$Field" "hourNow" "I") (by decide +kernel)
  have fl34 := hts (.fieldLink RX0 34 "TowerShades$Field" "mover" "I") (by decide +kernel)
  have fl37 := hts (.fieldLink RX0 37 "TowerShades$Field" "turns" "I") (by decide +kernel)
  have fl40 := hts (.fieldLink RX0 40 "TowerShades$Field" "refused" "I") (by decide +kernel)
  have hl := lv_entry ([.ref a0, .ref t0, .int (nI st0)]) (n := 4) (Nat.le_of_ble_eq_true rfl)
  rw [lg_entry_eq]
  generalize (lg_sl ([.ref a0, .ref t0, .int (nI st0)]) ++ List.replicate (4 - (lg_sl ([.ref a0, .ref t0, .int (nI st0)])).length) Slot.unset).toArray = ls at hl ⊢
  have hl : lv_has ls 4 [(0, .ref a0), (1, .ref t0), (2, .int (nI st0))] := hl
  refine lv_aload_n hx hb dX0_writeTo_0 rfl (lv_at hl 0 rfl) ?_
  refine va_get (D := D) (ci := 0) (v := .ref a1) (C := RX0) (T := TX0) (N := 8) hx hb hts in0 hown hK hP 0 rfl rfl 0 (by decide) fl9 (fun _ h9 => h9) rfl dX0_writeTo_1 ?_
  refine lv_iconst (v := 0) hx hb dX0_writeTo_4 (by decide) ?_
  refine lv_aload_n hx hb dX0_writeTo_5 rfl (lv_at hl 1 rfl) ?_
  refine lv_iload_n hx hb dX0_writeTo_6 rfl (lv_at hl 2 rfl) ?_
  refine lv_bipush (v := 36) hx hb dX0_writeTo_7 (by decide) ?_
  refine z_copy hx hb (hml.trans hl.1.symm) hown (hts (.methodLink RX0 24 arraycopyName) (by decide +kernel)) (hts (.native arraycopyName) (by decide +kernel)) (hts (.static arraycopyName) (by decide +kernel)) (hts (.initialized "java/lang/System") (by decide +kernel)) hK hP hD hS 1 5 rfl rfl (a := 0) (b := st0) (k := 36) (rfl) (rfl) (rfl) (by omega) (by omega) (by omega) (by omega) (Nat.le_of_ble_eq_true rfl) (Nat.le_of_ble_eq_true rfl) dX0_writeTo_9 (g2 := (va_cpy fh fn 0 st0 36)) (rfl) (fun H locs hP hD hS => ?_)
  have hP : va_P D vwCl [(a0, .inr (0, [.ref a1, .ref a2, .ref a3, .ref a4, .int (nI hz), .int (nI mv), .int tu, .int rf])), (a1, .inl (cI, 36, .inl fh)), (a2, .inl (cI, 36, .inl fo)), (a3, .inl (cI, 36, .inl fc)), (a4, .inl (cI, 2, .inl fs)), (t0, .inl (cI, nn, .inl (va_cpy fh fn 0 st0 36)))] _ := hP
  have hD : va_D A [(a0, .inr (0, [.ref a1, .ref a2, .ref a3, .ref a4, .int (nI hz), .int (nI mv), .int tu, .int rf])), (a1, .inl (cI, 36, .inl fh)), (a2, .inl (cI, 36, .inl fo)), (a3, .inl (cI, 36, .inl fc)), (a4, .inl (cI, 2, .inl fs)), (t0, .inl (cI, nn, .inl (va_cpy fh fn 0 st0 36)))] := hD
  refine lv_aload_n hx hb dX0_writeTo_12 rfl (lv_at hl 0 rfl) ?_
  refine va_get (D := D) (ci := 0) (v := .ref a2) (C := RX0) (T := TX0) (N := 8) hx hb hts in0 hown hK hP 0 rfl rfl 1 (by decide) fl15 (fun _ h9 => h9) rfl dX0_writeTo_13 ?_
  refine lv_iconst (v := 0) hx hb dX0_writeTo_16 (by decide) ?_
  refine lv_aload_n hx hb dX0_writeTo_17 rfl (lv_at hl 1 rfl) ?_
  refine lv_iload_n hx hb dX0_writeTo_18 rfl (lv_at hl 2 rfl) ?_
  refine lv_bipush (v := 36) hx hb dX0_writeTo_19 (by decide) ?_
  refine z_iadd (v := nI (st0 + 36)) hx hb dX0_writeTo_21 (nI_add (st0) (36)) ?_
  refine lv_bipush (v := 36) hx hb dX0_writeTo_22 (by decide) ?_
  refine z_copy hx hb (hml.trans hl.1.symm) hown (hts (.methodLink RX0 24 arraycopyName) (by decide +kernel)) (hts (.native arraycopyName) (by decide +kernel)) (hts (.static arraycopyName) (by decide +kernel)) (hts (.initialized "java/lang/System") (by decide +kernel)) hK hP hD hS 2 5 rfl rfl (a := 0) (b := (st0 + 36)) (k := 36) (rfl) (rfl) (rfl) (by omega) (by omega) (by omega) (by omega) (Nat.le_of_ble_eq_true rfl) (Nat.le_of_ble_eq_true rfl) dX0_writeTo_24 (g2 := (va_cpy fo (va_cpy fh fn 0 st0 36) 0 (st0 + 36) 36)) (rfl) (fun H locs hP hD hS => ?_)
  have hP : va_P D vwCl [(a0, .inr (0, [.ref a1, .ref a2, .ref a3, .ref a4, .int (nI hz), .int (nI mv), .int tu, .int rf])), (a1, .inl (cI, 36, .inl fh)), (a2, .inl (cI, 36, .inl fo)), (a3, .inl (cI, 36, .inl fc)), (a4, .inl (cI, 2, .inl fs)), (t0, .inl (cI, nn, .inl (va_cpy fo (va_cpy fh fn 0 st0 36) 0 (st0 + 36) 36)))] _ := hP
  have hD : va_D A [(a0, .inr (0, [.ref a1, .ref a2, .ref a3, .ref a4, .int (nI hz), .int (nI mv), .int tu, .int rf])), (a1, .inl (cI, 36, .inl fh)), (a2, .inl (cI, 36, .inl fo)), (a3, .inl (cI, 36, .inl fc)), (a4, .inl (cI, 2, .inl fs)), (t0, .inl (cI, nn, .inl (va_cpy fo (va_cpy fh fn 0 st0 36) 0 (st0 + 36) 36)))] := hD
  refine lv_aload_n hx hb dX0_writeTo_27 rfl (lv_at hl 0 rfl) ?_
  refine va_get (D := D) (ci := 0) (v := .ref a3) (C := RX0) (T := TX0) (N := 8) hx hb hts in0 hown hK hP 0 rfl rfl 2 (by decide) fl18 (fun _ h9 => h9) rfl dX0_writeTo_28 ?_
  refine lv_iconst (v := 0) hx hb dX0_writeTo_31 (by decide) ?_
  refine lv_aload_n hx hb dX0_writeTo_32 rfl (lv_at hl 1 rfl) ?_
  refine lv_iload_n hx hb dX0_writeTo_33 rfl (lv_at hl 2 rfl) ?_
  refine lv_bipush (v := 72) hx hb dX0_writeTo_34 (by decide) ?_
  refine z_iadd (v := nI (st0 + 72)) hx hb dX0_writeTo_36 (nI_add (st0) (72)) ?_
  refine lv_bipush (v := 36) hx hb dX0_writeTo_37 (by decide) ?_
  refine z_copy hx hb (hml.trans hl.1.symm) hown (hts (.methodLink RX0 24 arraycopyName) (by decide +kernel)) (hts (.native arraycopyName) (by decide +kernel)) (hts (.static arraycopyName) (by decide +kernel)) (hts (.initialized "java/lang/System") (by decide +kernel)) hK hP hD hS 3 5 rfl rfl (a := 0) (b := (st0 + 72)) (k := 36) (rfl) (rfl) (rfl) (by omega) (by omega) (by omega) (by omega) (Nat.le_of_ble_eq_true rfl) (Nat.le_of_ble_eq_true rfl) dX0_writeTo_39 (g2 := (va_cpy fc (va_cpy fo (va_cpy fh fn 0 st0 36) 0 (st0 + 36) 36) 0 (st0 + 72) 36)) (rfl) (fun H locs hP hD hS => ?_)
  have hP : va_P D vwCl [(a0, .inr (0, [.ref a1, .ref a2, .ref a3, .ref a4, .int (nI hz), .int (nI mv), .int tu, .int rf])), (a1, .inl (cI, 36, .inl fh)), (a2, .inl (cI, 36, .inl fo)), (a3, .inl (cI, 36, .inl fc)), (a4, .inl (cI, 2, .inl fs)), (t0, .inl (cI, nn, .inl (va_cpy fc (va_cpy fo (va_cpy fh fn 0 st0 36) 0 (st0 + 36) 36) 0 (st0 + 72) 36)))] _ := hP
  have hD : va_D A [(a0, .inr (0, [.ref a1, .ref a2, .ref a3, .ref a4, .int (nI hz), .int (nI mv), .int tu, .int rf])), (a1, .inl (cI, 36, .inl fh)), (a2, .inl (cI, 36, .inl fo)), (a3, .inl (cI, 36, .inl fc)), (a4, .inl (cI, 2, .inl fs)), (t0, .inl (cI, nn, .inl (va_cpy fc (va_cpy fo (va_cpy fh fn 0 st0 36) 0 (st0 + 36) 36) 0 (st0 + 72) 36)))] := hD
  refine lv_aload_n hx hb dX0_writeTo_42 rfl (lv_at hl 0 rfl) ?_
  refine va_get (D := D) (ci := 0) (v := .ref a4) (C := RX0) (T := TX0) (N := 8) hx hb hts in0 hown hK hP 0 rfl rfl 3 (by decide) fl21 (fun _ h9 => h9) rfl dX0_writeTo_43 ?_
  refine lv_iconst (v := 0) hx hb dX0_writeTo_46 (by decide) ?_
  refine lv_aload_n hx hb dX0_writeTo_47 rfl (lv_at hl 1 rfl) ?_
  refine lv_iload_n hx hb dX0_writeTo_48 rfl (lv_at hl 2 rfl) ?_
  refine lv_bipush (v := 108) hx hb dX0_writeTo_49 (by decide) ?_
  refine z_iadd (v := nI (st0 + 108)) hx hb dX0_writeTo_51 (nI_add (st0) (108)) ?_
  refine lv_iconst (v := 2) hx hb dX0_writeTo_52 (by decide) ?_
  refine z_copy hx hb (hml.trans hl.1.symm) hown (hts (.methodLink RX0 24 arraycopyName) (by decide +kernel)) (hts (.native arraycopyName) (by decide +kernel)) (hts (.static arraycopyName) (by decide +kernel)) (hts (.initialized "java/lang/System") (by decide +kernel)) hK hP hD hS 4 5 rfl rfl (a := 0) (b := (st0 + 108)) (k := 2) (rfl) (rfl) (rfl) (by omega) (by omega) (by omega) (by omega) (Nat.le_of_ble_eq_true rfl) (Nat.le_of_ble_eq_true rfl) dX0_writeTo_53 (g2 := (va_cpy fs (va_cpy fc (va_cpy fo (va_cpy fh fn 0 st0 36) 0 (st0 + 36) 36) 0 (st0 + 72) 36) 0 (st0 + 108) 2)) (rfl) (fun H locs hP hD hS => ?_)
  have hP : va_P D vwCl [(a0, .inr (0, [.ref a1, .ref a2, .ref a3, .ref a4, .int (nI hz), .int (nI mv), .int tu, .int rf])), (a1, .inl (cI, 36, .inl fh)), (a2, .inl (cI, 36, .inl fo)), (a3, .inl (cI, 36, .inl fc)), (a4, .inl (cI, 2, .inl fs)), (t0, .inl (cI, nn, .inl (va_cpy fs (va_cpy fc (va_cpy fo (va_cpy fh fn 0 st0 36) 0 (st0 + 36) 36) 0 (st0 + 72) 36) 0 (st0 + 108) 2)))] _ := hP
  have hD : va_D A [(a0, .inr (0, [.ref a1, .ref a2, .ref a3, .ref a4, .int (nI hz), .int (nI mv), .int tu, .int rf])), (a1, .inl (cI, 36, .inl fh)), (a2, .inl (cI, 36, .inl fo)), (a3, .inl (cI, 36, .inl fc)), (a4, .inl (cI, 2, .inl fs)), (t0, .inl (cI, nn, .inl (va_cpy fs (va_cpy fc (va_cpy fo (va_cpy fh fn 0 st0 36) 0 (st0 + 36) 36) 0 (st0 + 72) 36) 0 (st0 + 108) 2)))] := hD
  refine lv_iload_n hx hb dX0_writeTo_56 rfl (lv_at hl 2 rfl) ?_
  refine lv_bipush (v := 108) hx hb dX0_writeTo_57 (by decide) ?_
  refine z_iadd (v := nI (st0 + 108)) hx hb dX0_writeTo_59 (nI_add (st0) (108)) ?_
  refine lv_iconst (v := 2) hx hb dX0_writeTo_60 (by decide) ?_
  refine z_iadd (v := nI ((st0 + 108) + 2)) hx hb dX0_writeTo_61 (nI_add ((st0 + 108)) (2)) ?_
  refine lv_istore_n (lv' := [(3, .int (nI ((st0 + 108) + 2))), (0, .ref a0), (1, .ref t0), (2, .int (nI st0))]) hx hb dX0_writeTo_62 rfl hl (by decide) rfl (fun ls hl => ?_)
  refine lv_aload_n hx hb dX0_writeTo_63 rfl (lv_at hl 2 rfl) ?_
  refine lv_iload_n hx hb dX0_writeTo_64 rfl (lv_at hl 0 rfl) ?_
  refine lv_aload_n hx hb dX0_writeTo_65 rfl (lv_at hl 1 rfl) ?_
  refine va_get (D := D) (ci := 0) (v := .int (nI hz)) (C := RX0) (T := TX0) (N := 8) hx hb hts in0 hown hK hP 0 rfl rfl 4 (by decide) fl30 (fun _ h9 => h9) rfl dX0_writeTo_66 ?_
  refine z_iast hx hb hK hP hD hS 5 0 rfl rfl (k := ((st0 + 108) + 2)) (rfl) (by omega) (by omega) dX0_writeTo_69 (g := upd (va_cpy fs (va_cpy fc (va_cpy fo (va_cpy fh fn 0 st0 36) 0 (st0 + 36) 36) 0 (st0 + 72) 36) 0 (st0 + 108) 2) ((st0 + 108) + 2) (nI hz)) (rfl) (fun H locs hP hD hS => ?_)
  have hP : va_P D vwCl [(a0, .inr (0, [.ref a1, .ref a2, .ref a3, .ref a4, .int (nI hz), .int (nI mv), .int tu, .int rf])), (a1, .inl (cI, 36, .inl fh)), (a2, .inl (cI, 36, .inl fo)), (a3, .inl (cI, 36, .inl fc)), (a4, .inl (cI, 2, .inl fs)), (t0, .inl (cI, nn, .inl (upd (va_cpy fs (va_cpy fc (va_cpy fo (va_cpy fh fn 0 st0 36) 0 (st0 + 36) 36) 0 (st0 + 72) 36) 0 (st0 + 108) 2) ((st0 + 108) + 2) (nI hz))))] _ := hP
  have hD : va_D A [(a0, .inr (0, [.ref a1, .ref a2, .ref a3, .ref a4, .int (nI hz), .int (nI mv), .int tu, .int rf])), (a1, .inl (cI, 36, .inl fh)), (a2, .inl (cI, 36, .inl fo)), (a3, .inl (cI, 36, .inl fc)), (a4, .inl (cI, 2, .inl fs)), (t0, .inl (cI, nn, .inl (upd (va_cpy fs (va_cpy fc (va_cpy fo (va_cpy fh fn 0 st0 36) 0 (st0 + 36) 36) 0 (st0 + 72) 36) 0 (st0 + 108) 2) ((st0 + 108) + 2) (nI hz))))] := hD
  refine lv_aload_n hx hb dX0_writeTo_70 rfl (lv_at hl 2 rfl) ?_
  refine lv_iload_n hx hb dX0_writeTo_71 rfl (lv_at hl 0 rfl) ?_
  refine lv_iconst (v := 1) hx hb dX0_writeTo_72 (by decide) ?_
  refine z_iadd (v := nI (((st0 + 108) + 2) + 1)) hx hb dX0_writeTo_73 (nI_add (((st0 + 108) + 2)) (1)) ?_
  refine lv_aload_n hx hb dX0_writeTo_74 rfl (lv_at hl 1 rfl) ?_
  refine va_get (D := D) (ci := 0) (v := .int (nI mv)) (C := RX0) (T := TX0) (N := 8) hx hb hts in0 hown hK hP 0 rfl rfl 5 (by decide) fl34 (fun _ h9 => h9) rfl dX0_writeTo_75 ?_
  refine z_iast hx hb hK hP hD hS 5 0 rfl rfl (k := (((st0 + 108) + 2) + 1)) (rfl) (by omega) (by omega) dX0_writeTo_78 (g := upd (upd (va_cpy fs (va_cpy fc (va_cpy fo (va_cpy fh fn 0 st0 36) 0 (st0 + 36) 36) 0 (st0 + 72) 36) 0 (st0 + 108) 2) ((st0 + 108) + 2) (nI hz)) (((st0 + 108) + 2) + 1) (nI mv)) (rfl) (fun H locs hP hD hS => ?_)
  have hP : va_P D vwCl [(a0, .inr (0, [.ref a1, .ref a2, .ref a3, .ref a4, .int (nI hz), .int (nI mv), .int tu, .int rf])), (a1, .inl (cI, 36, .inl fh)), (a2, .inl (cI, 36, .inl fo)), (a3, .inl (cI, 36, .inl fc)), (a4, .inl (cI, 2, .inl fs)), (t0, .inl (cI, nn, .inl (upd (upd (va_cpy fs (va_cpy fc (va_cpy fo (va_cpy fh fn 0 st0 36) 0 (st0 + 36) 36) 0 (st0 + 72) 36) 0 (st0 + 108) 2) ((st0 + 108) + 2) (nI hz)) (((st0 + 108) + 2) + 1) (nI mv))))] _ := hP
  have hD : va_D A [(a0, .inr (0, [.ref a1, .ref a2, .ref a3, .ref a4, .int (nI hz), .int (nI mv), .int tu, .int rf])), (a1, .inl (cI, 36, .inl fh)), (a2, .inl (cI, 36, .inl fo)), (a3, .inl (cI, 36, .inl fc)), (a4, .inl (cI, 2, .inl fs)), (t0, .inl (cI, nn, .inl (upd (upd (va_cpy fs (va_cpy fc (va_cpy fo (va_cpy fh fn 0 st0 36) 0 (st0 + 36) 36) 0 (st0 + 72) 36) 0 (st0 + 108) 2) ((st0 + 108) + 2) (nI hz)) (((st0 + 108) + 2) + 1) (nI mv))))] := hD
  refine lv_aload_n hx hb dX0_writeTo_79 rfl (lv_at hl 2 rfl) ?_
  refine lv_iload_n hx hb dX0_writeTo_80 rfl (lv_at hl 0 rfl) ?_
  refine lv_iconst (v := 2) hx hb dX0_writeTo_81 (by decide) ?_
  refine z_iadd (v := nI (((st0 + 108) + 2) + 2)) hx hb dX0_writeTo_82 (nI_add (((st0 + 108) + 2)) (2)) ?_
  refine lv_aload_n hx hb dX0_writeTo_83 rfl (lv_at hl 1 rfl) ?_
  refine va_get (D := D) (ci := 0) (v := .int tu) (C := RX0) (T := TX0) (N := 8) hx hb hts in0 hown hK hP 0 rfl rfl 6 (by decide) fl37 (fun _ h9 => h9) rfl dX0_writeTo_84 ?_
  refine z_iast hx hb hK hP hD hS 5 0 rfl rfl (k := (((st0 + 108) + 2) + 2)) (rfl) (by omega) (by omega) dX0_writeTo_87 (g := upd (upd (upd (va_cpy fs (va_cpy fc (va_cpy fo (va_cpy fh fn 0 st0 36) 0 (st0 + 36) 36) 0 (st0 + 72) 36) 0 (st0 + 108) 2) ((st0 + 108) + 2) (nI hz)) (((st0 + 108) + 2) + 1) (nI mv)) (((st0 + 108) + 2) + 2) tu) (rfl) (fun H locs hP hD hS => ?_)
  have hP : va_P D vwCl [(a0, .inr (0, [.ref a1, .ref a2, .ref a3, .ref a4, .int (nI hz), .int (nI mv), .int tu, .int rf])), (a1, .inl (cI, 36, .inl fh)), (a2, .inl (cI, 36, .inl fo)), (a3, .inl (cI, 36, .inl fc)), (a4, .inl (cI, 2, .inl fs)), (t0, .inl (cI, nn, .inl (upd (upd (upd (va_cpy fs (va_cpy fc (va_cpy fo (va_cpy fh fn 0 st0 36) 0 (st0 + 36) 36) 0 (st0 + 72) 36) 0 (st0 + 108) 2) ((st0 + 108) + 2) (nI hz)) (((st0 + 108) + 2) + 1) (nI mv)) (((st0 + 108) + 2) + 2) tu)))] _ := hP
  have hD : va_D A [(a0, .inr (0, [.ref a1, .ref a2, .ref a3, .ref a4, .int (nI hz), .int (nI mv), .int tu, .int rf])), (a1, .inl (cI, 36, .inl fh)), (a2, .inl (cI, 36, .inl fo)), (a3, .inl (cI, 36, .inl fc)), (a4, .inl (cI, 2, .inl fs)), (t0, .inl (cI, nn, .inl (upd (upd (upd (va_cpy fs (va_cpy fc (va_cpy fo (va_cpy fh fn 0 st0 36) 0 (st0 + 36) 36) 0 (st0 + 72) 36) 0 (st0 + 108) 2) ((st0 + 108) + 2) (nI hz)) (((st0 + 108) + 2) + 1) (nI mv)) (((st0 + 108) + 2) + 2) tu)))] := hD
  refine lv_aload_n hx hb dX0_writeTo_88 rfl (lv_at hl 2 rfl) ?_
  refine lv_iload_n hx hb dX0_writeTo_89 rfl (lv_at hl 0 rfl) ?_
  refine lv_iconst (v := 3) hx hb dX0_writeTo_90 (by decide) ?_
  refine z_iadd (v := nI (((st0 + 108) + 2) + 3)) hx hb dX0_writeTo_91 (nI_add (((st0 + 108) + 2)) (3)) ?_
  refine lv_aload_n hx hb dX0_writeTo_92 rfl (lv_at hl 1 rfl) ?_
  refine va_get (D := D) (ci := 0) (v := .int rf) (C := RX0) (T := TX0) (N := 8) hx hb hts in0 hown hK hP 0 rfl rfl 7 (by decide) fl40 (fun _ h9 => h9) rfl dX0_writeTo_93 ?_
  refine z_iast hx hb hK hP hD hS 5 0 rfl rfl (k := (((st0 + 108) + 2) + 3)) (rfl) (by omega) (by omega) dX0_writeTo_96 (g := upd (upd (upd (upd (va_cpy fs (va_cpy fc (va_cpy fo (va_cpy fh fn 0 st0 36) 0 (st0 + 36) 36) 0 (st0 + 72) 36) 0 (st0 + 108) 2) ((st0 + 108) + 2) (nI hz)) (((st0 + 108) + 2) + 1) (nI mv)) (((st0 + 108) + 2) + 2) tu) (((st0 + 108) + 2) + 3) rf) (rfl) (fun H locs hP hD hS => ?_)
  have hP : va_P D vwCl [(a0, .inr (0, [.ref a1, .ref a2, .ref a3, .ref a4, .int (nI hz), .int (nI mv), .int tu, .int rf])), (a1, .inl (cI, 36, .inl fh)), (a2, .inl (cI, 36, .inl fo)), (a3, .inl (cI, 36, .inl fc)), (a4, .inl (cI, 2, .inl fs)), (t0, .inl (cI, nn, .inl (upd (upd (upd (upd (va_cpy fs (va_cpy fc (va_cpy fo (va_cpy fh fn 0 st0 36) 0 (st0 + 36) 36) 0 (st0 + 72) 36) 0 (st0 + 108) 2) ((st0 + 108) + 2) (nI hz)) (((st0 + 108) + 2) + 1) (nI mv)) (((st0 + 108) + 2) + 2) tu) (((st0 + 108) + 2) + 3) rf)))] _ := hP
  have hD : va_D A [(a0, .inr (0, [.ref a1, .ref a2, .ref a3, .ref a4, .int (nI hz), .int (nI mv), .int tu, .int rf])), (a1, .inl (cI, 36, .inl fh)), (a2, .inl (cI, 36, .inl fo)), (a3, .inl (cI, 36, .inl fc)), (a4, .inl (cI, 2, .inl fs)), (t0, .inl (cI, nn, .inl (upd (upd (upd (upd (va_cpy fs (va_cpy fc (va_cpy fo (va_cpy fh fn 0 st0 36) 0 (st0 + 36) 36) 0 (st0 + 72) 36) 0 (st0 + 108) 2) ((st0 + 108) + 2) (nI hz)) (((st0 + 108) + 2) + 1) (nI mv)) (((st0 + 108) + 2) + 2) tu) (((st0 + 108) + 2) + 3) rf)))] := hD
  have hW9 : ([(a0, .inr (0, [.ref a1, .ref a2, .ref a3, .ref a4, .int (nI hz), .int (nI mv), .int tu, .int rf])), (a1, .inl (cI, 36, .inl fh)), (a2, .inl (cI, 36, .inl fo)), (a3, .inl (cI, 36, .inl fc)), (a4, .inl (cI, 2, .inl fs)), (t0, .inl (cI, nn, .inl (upd (upd (upd (upd (va_cpy fs (va_cpy fc (va_cpy fo (va_cpy fh fn 0 st0 36) 0 (st0 + 36) 36) 0 (st0 + 72) 36) 0 (st0 + 108) 2) ((st0 + 108) + 2) (nI hz)) (((st0 + 108) + 2) + 1) (nI mv)) (((st0 + 108) + 2) + 2) tu) (((st0 + 108) + 2) + 3) rf)))] : va_W) = [(a0, .inr (0, [.ref a1, .ref a2, .ref a3, .ref a4, .int (nI hz), .int (nI mv), .int tu, .int rf])), (a1, .inl (cI, 36, .inl fh)), (a2, .inl (cI, 36, .inl fo)), (a3, .inl (cI, 36, .inl fc)), (a4, .inl (cI, 2, .inl fs)), (t0, .inl (cI, nn, .inl (va_cpy (cG fh fo fc fs hz mv tu rf) fn 0 st0 114)))] := by rw [← cG_wr]
  rw [hW9] at hP hD
  have hP9 : va_P D vwCl [(a0, .inr (0, [.ref a1, .ref a2, .ref a3, .ref a4, .int (nI hz), .int (nI mv), .int tu, .int rf])), (a1, .inl (cI, 36, .inl fh)), (a2, .inl (cI, 36, .inl fo)), (a3, .inl (cI, 36, .inl fc)), (a4, .inl (cI, 2, .inl fs)), (t0, .inl (cI, nn, .inl (va_cpy (cG fh fo fc fs hz mv tu rf) fn 0 st0 114)))] _ := hP
  have hD9 : va_D A [(a0, .inr (0, [.ref a1, .ref a2, .ref a3, .ref a4, .int (nI hz), .int (nI mv), .int tu, .int rf])), (a1, .inl (cI, 36, .inl fh)), (a2, .inl (cI, 36, .inl fo)), (a3, .inl (cI, 36, .inl fc)), (a4, .inl (cI, 2, .inl fs)), (t0, .inl (cI, nn, .inl (va_cpy (cG fh fo fc fs hz mv tu rf) fn 0 st0 114)))] := hD
  subst hAe
  exact z_mvret hx hb hr hlocks dX0_writeTo_97 hP9 hD9 hS

set_option maxHeartbeats 4000000 in
set_option maxRecDepth 100000 in
/-- a state read from a row -/
theorem c_X0_readFrom (l : Launch) (D : va_G) (cI cZ cL : ClassId) (sz : Nat) (a0 : Nat) (a1 : Nat) (a2 : Nat) (a3 : Nat) (a4 : Nat) (fh : Nat → Int32) (fo : Nat → Int32) (fc : Nat → Int32) (fs : Nat → Int32) (hz : Nat) (mv : Nat) (tu : Int32) (rf : Int32) (t0 : Nat) (nn : Nat) (fn : Nat → Int32) (st0 : Nat) (hz2 : Nat) (mv2 : Nat) (hst : st0 + 114 ≤ nn) (hnn : nn < 1000) (hh2 : fn (st0 + 108 + 2) = nI hz2) (hm2 : fn (st0 + 108 + 2 + 1) = nI mv2) : Met l yX0_readFrom wsX0_readFrom ({ frames := 1, cells := 0, slots := 0, locals := 40 }) (va_Pc [.ref a0, .ref t0, .int (nI st0)] (zM D cI cZ cL [(a0, .inr (0, [.ref a1, .ref a2, .ref a3, .ref a4, .int (nI hz), .int (nI mv), .int tu, .int rf])), (a1, .inl (cI, 36, .inl fh)), (a2, .inl (cI, 36, .inl fo)), (a3, .inl (cI, 36, .inl fc)), (a4, .inl (cI, 2, .inl fs)), (t0, .inl (cI, nn, .inl fn))] sz)) (zQmv D [(a0, .inr (0, [.ref a1, .ref a2, .ref a3, .ref a4, .int (nI hz), .int (nI mv), .int tu, .int rf])), (a1, .inl (cI, 36, .inl fh)), (a2, .inl (cI, 36, .inl fo)), (a3, .inl (cI, 36, .inl fc)), (a4, .inl (cI, 2, .inl fs)), (t0, .inl (cI, nn, .inl fn))] [(a0, .inr (0, [.ref a1, .ref a2, .ref a3, .ref a4, .int (nI hz2), .int (nI mv2), .int (fn (st0 + 108 + 2 + 2)), .int (fn (st0 + 108 + 2 + 3))])), (a1, .inl (cI, 36, .inl (va_cpy fn fh st0 0 36))), (a2, .inl (cI, 36, .inl (va_cpy fn fo (st0 + 36) 0 36))), (a3, .inl (cI, 36, .inl (va_cpy fn fc (st0 + 72) 0 36))), (a4, .inl (cI, 2, .inl (va_cpy fn fs (st0 + 108) 0 2))), (t0, .inl (cI, nn, .inl fn))] sz) 0 0 (va_A [(a0, .inr (0, [.ref a1, .ref a2, .ref a3, .ref a4, .int (nI hz), .int (nI mv), .int tu, .int rf])), (a1, .inl (cI, 36, .inl fh)), (a2, .inl (cI, 36, .inl fo)), (a3, .inl (cI, 36, .inl fc)), (a4, .inl (cI, 2, .inl fs)), (t0, .inl (cI, nn, .inl fn))] sz) := by
  refine Met.ofW (cc := cX0_readFrom) (maxL := 4) (ret := none) (by decide) rfl ?_
  intro p e s m args below meth c s₁ B hml hv
  obtain ⟨rfl, hsz, ⟨hP, hK⟩, hD0⟩ := hv
  have hx := B.exec
  have hb := B.bytes
  have hr := B.returns
  have hts := atoms_spec (ws := wsX0_readFrom) B.pre
  have hown : s.vm.findClass RX0 = some m.cls := findClass_of_methodNamed B.named
  have hlocks := B.notSynchronized
  subst hsz
  have hD := hD0.self (sz := s.heap.size)
  generalize hAe : va_A [(a0, .inr (0, [.ref a1, .ref a2, .ref a3, .ref a4, .int (nI hz), .int (nI mv), .int tu, .int rf])), (a1, .inl (cI, 36, .inl fh)), (a2, .inl (cI, 36, .inl fo)), (a3, .inl (cI, 36, .inl fc)), (a4, .inl (cI, 2, .inl fs)), (t0, .inl (cI, nn, .inl fn))] s.heap.size = A at hD ⊢
  have hA : ∀ q : Nat, s.heap.size ≤ q → A q := fun q h => by rw [← hAe]; exact Or.inr h
  have hS : va_S A s.heap s.heap [] := va_S.rf
  have in0 : ∀ w ∈ u_ws RX0 TX0 8, w ∈ wsX0_readFrom := by decide +kernel
  have fl9 := hts (.fieldLink RX0 9 "TowerShades$Field" "heights" "[I") (by decide +kernel)
  have fl15 := hts (.fieldLink RX0 15 "TowerShades$Field" "owners" "[I") (by decide +kernel)
  have fl18 := hts (.fieldLink RX0 18 "TowerShades$Field" "crowds" "[I") (by decide +kernel)
  have fl21 := hts (.fieldLink RX0 21 "TowerShades$Field" "scores" "[I") (by decide +kernel)
  have fl30 := hts (.fieldLink RX0 30 "TowerShades$Field" "hourNow" "I") (by decide +kernel)
  have fl34 := hts (.fieldLink RX0 34 "TowerShades$Field" "mover" "I") (by decide +kernel)
  have fl37 := hts (.fieldLink RX0 37 "TowerShades$Field" "turns" "I") (by decide +kernel)
  have fl40 := hts (.fieldLink RX0 40 "TowerShades$Field" "refused" "I") (by decide +kernel)
  have hl := lv_entry ([.ref a0, .ref t0, .int (nI st0)]) (n := 4) (Nat.le_of_ble_eq_true rfl)
  rw [lg_entry_eq]
  generalize (lg_sl ([.ref a0, .ref t0, .int (nI st0)]) ++ List.replicate (4 - (lg_sl ([.ref a0, .ref t0, .int (nI st0)])).length) Slot.unset).toArray = ls at hl ⊢
  have hl : lv_has ls 4 [(0, .ref a0), (1, .ref t0), (2, .int (nI st0))] := hl
  refine lv_aload_n hx hb dX0_readFrom_0 rfl (lv_at hl 1 rfl) ?_
  refine lv_iload_n hx hb dX0_readFrom_1 rfl (lv_at hl 2 rfl) ?_
  refine lv_aload_n hx hb dX0_readFrom_2 rfl (lv_at hl 0 rfl) ?_
  refine va_get (D := D) (ci := 0) (v := .ref a1) (C := RX0) (T := TX0) (N := 8) hx hb hts in0 hown hK hP 0 rfl rfl 0 (by decide) fl9 (fun _ h9 => h9) rfl dX0_readFrom_3 ?_
  refine lv_iconst (v := 0) hx hb dX0_readFrom_6 (by decide) ?_
  refine lv_bipush (v := 36) hx hb dX0_readFrom_7 (by decide) ?_
  refine z_copy hx hb (hml.trans hl.1.symm) hown (hts (.methodLink RX0 24 arraycopyName) (by decide +kernel)) (hts (.native arraycopyName) (by decide +kernel)) (hts (.static arraycopyName) (by decide +kernel)) (hts (.initialized "java/lang/System") (by decide +kernel)) hK hP hD hS 5 1 rfl rfl (a := st0) (b := 0) (k := 36) (rfl) (rfl) (rfl) (by omega) (by omega) (by omega) (by omega) (Nat.le_of_ble_eq_true rfl) (Nat.le_of_ble_eq_true rfl) dX0_readFrom_9 (g2 := (va_cpy fn fh st0 0 36)) (rfl) (fun H locs hP hD hS => ?_)
  have hP : va_P D vwCl [(a0, .inr (0, [.ref a1, .ref a2, .ref a3, .ref a4, .int (nI hz), .int (nI mv), .int tu, .int rf])), (a1, .inl (cI, 36, .inl (va_cpy fn fh st0 0 36))), (a2, .inl (cI, 36, .inl fo)), (a3, .inl (cI, 36, .inl fc)), (a4, .inl (cI, 2, .inl fs)), (t0, .inl (cI, nn, .inl fn))] _ := hP
  have hD : va_D A [(a0, .inr (0, [.ref a1, .ref a2, .ref a3, .ref a4, .int (nI hz), .int (nI mv), .int tu, .int rf])), (a1, .inl (cI, 36, .inl (va_cpy fn fh st0 0 36))), (a2, .inl (cI, 36, .inl fo)), (a3, .inl (cI, 36, .inl fc)), (a4, .inl (cI, 2, .inl fs)), (t0, .inl (cI, nn, .inl fn))] := hD
  refine lv_aload_n hx hb dX0_readFrom_12 rfl (lv_at hl 1 rfl) ?_
  refine lv_iload_n hx hb dX0_readFrom_13 rfl (lv_at hl 2 rfl) ?_
  refine lv_bipush (v := 36) hx hb dX0_readFrom_14 (by decide) ?_
  refine z_iadd (v := nI (st0 + 36)) hx hb dX0_readFrom_16 (nI_add (st0) (36)) ?_
  refine lv_aload_n hx hb dX0_readFrom_17 rfl (lv_at hl 0 rfl) ?_
  refine va_get (D := D) (ci := 0) (v := .ref a2) (C := RX0) (T := TX0) (N := 8) hx hb hts in0 hown hK hP 0 rfl rfl 1 (by decide) fl15 (fun _ h9 => h9) rfl dX0_readFrom_18 ?_
  refine lv_iconst (v := 0) hx hb dX0_readFrom_21 (by decide) ?_
  refine lv_bipush (v := 36) hx hb dX0_readFrom_22 (by decide) ?_
  refine z_copy hx hb (hml.trans hl.1.symm) hown (hts (.methodLink RX0 24 arraycopyName) (by decide +kernel)) (hts (.native arraycopyName) (by decide +kernel)) (hts (.static arraycopyName) (by decide +kernel)) (hts (.initialized "java/lang/System") (by decide +kernel)) hK hP hD hS 5 2 rfl rfl (a := (st0 + 36)) (b := 0) (k := 36) (rfl) (rfl) (rfl) (by omega) (by omega) (by omega) (by omega) (Nat.le_of_ble_eq_true rfl) (Nat.le_of_ble_eq_true rfl) dX0_readFrom_24 (g2 := (va_cpy fn fo (st0 + 36) 0 36)) (rfl) (fun H locs hP hD hS => ?_)
  have hP : va_P D vwCl [(a0, .inr (0, [.ref a1, .ref a2, .ref a3, .ref a4, .int (nI hz), .int (nI mv), .int tu, .int rf])), (a1, .inl (cI, 36, .inl (va_cpy fn fh st0 0 36))), (a2, .inl (cI, 36, .inl (va_cpy fn fo (st0 + 36) 0 36))), (a3, .inl (cI, 36, .inl fc)), (a4, .inl (cI, 2, .inl fs)), (t0, .inl (cI, nn, .inl fn))] _ := hP
  have hD : va_D A [(a0, .inr (0, [.ref a1, .ref a2, .ref a3, .ref a4, .int (nI hz), .int (nI mv), .int tu, .int rf])), (a1, .inl (cI, 36, .inl (va_cpy fn fh st0 0 36))), (a2, .inl (cI, 36, .inl (va_cpy fn fo (st0 + 36) 0 36))), (a3, .inl (cI, 36, .inl fc)), (a4, .inl (cI, 2, .inl fs)), (t0, .inl (cI, nn, .inl fn))] := hD
  refine lv_aload_n hx hb dX0_readFrom_27 rfl (lv_at hl 1 rfl) ?_
  refine lv_iload_n hx hb dX0_readFrom_28 rfl (lv_at hl 2 rfl) ?_
  refine lv_bipush (v := 72) hx hb dX0_readFrom_29 (by decide) ?_
  refine z_iadd (v := nI (st0 + 72)) hx hb dX0_readFrom_31 (nI_add (st0) (72)) ?_
  refine lv_aload_n hx hb dX0_readFrom_32 rfl (lv_at hl 0 rfl) ?_
  refine va_get (D := D) (ci := 0) (v := .ref a3) (C := RX0) (T := TX0) (N := 8) hx hb hts in0 hown hK hP 0 rfl rfl 2 (by decide) fl18 (fun _ h9 => h9) rfl dX0_readFrom_33 ?_
  refine lv_iconst (v := 0) hx hb dX0_readFrom_36 (by decide) ?_
  refine lv_bipush (v := 36) hx hb dX0_readFrom_37 (by decide) ?_
  refine z_copy hx hb (hml.trans hl.1.symm) hown (hts (.methodLink RX0 24 arraycopyName) (by decide +kernel)) (hts (.native arraycopyName) (by decide +kernel)) (hts (.static arraycopyName) (by decide +kernel)) (hts (.initialized "java/lang/System") (by decide +kernel)) hK hP hD hS 5 3 rfl rfl (a := (st0 + 72)) (b := 0) (k := 36) (rfl) (rfl) (rfl) (by omega) (by omega) (by omega) (by omega) (Nat.le_of_ble_eq_true rfl) (Nat.le_of_ble_eq_true rfl) dX0_readFrom_39 (g2 := (va_cpy fn fc (st0 + 72) 0 36)) (rfl) (fun H locs hP hD hS => ?_)
  have hP : va_P D vwCl [(a0, .inr (0, [.ref a1, .ref a2, .ref a3, .ref a4, .int (nI hz), .int (nI mv), .int tu, .int rf])), (a1, .inl (cI, 36, .inl (va_cpy fn fh st0 0 36))), (a2, .inl (cI, 36, .inl (va_cpy fn fo (st0 + 36) 0 36))), (a3, .inl (cI, 36, .inl (va_cpy fn fc (st0 + 72) 0 36))), (a4, .inl (cI, 2, .inl fs)), (t0, .inl (cI, nn, .inl fn))] _ := hP
  have hD : va_D A [(a0, .inr (0, [.ref a1, .ref a2, .ref a3, .ref a4, .int (nI hz), .int (nI mv), .int tu, .int rf])), (a1, .inl (cI, 36, .inl (va_cpy fn fh st0 0 36))), (a2, .inl (cI, 36, .inl (va_cpy fn fo (st0 + 36) 0 36))), (a3, .inl (cI, 36, .inl (va_cpy fn fc (st0 + 72) 0 36))), (a4, .inl (cI, 2, .inl fs)), (t0, .inl (cI, nn, .inl fn))] := hD
  refine lv_aload_n hx hb dX0_readFrom_42 rfl (lv_at hl 1 rfl) ?_
  refine lv_iload_n hx hb dX0_readFrom_43 rfl (lv_at hl 2 rfl) ?_
  refine lv_bipush (v := 108) hx hb dX0_readFrom_44 (by decide) ?_
  refine z_iadd (v := nI (st0 + 108)) hx hb dX0_readFrom_46 (nI_add (st0) (108)) ?_
  refine lv_aload_n hx hb dX0_readFrom_47 rfl (lv_at hl 0 rfl) ?_
  refine va_get (D := D) (ci := 0) (v := .ref a4) (C := RX0) (T := TX0) (N := 8) hx hb hts in0 hown hK hP 0 rfl rfl 3 (by decide) fl21 (fun _ h9 => h9) rfl dX0_readFrom_48 ?_
  refine lv_iconst (v := 0) hx hb dX0_readFrom_51 (by decide) ?_
  refine lv_iconst (v := 2) hx hb dX0_readFrom_52 (by decide) ?_
  refine z_copy hx hb (hml.trans hl.1.symm) hown (hts (.methodLink RX0 24 arraycopyName) (by decide +kernel)) (hts (.native arraycopyName) (by decide +kernel)) (hts (.static arraycopyName) (by decide +kernel)) (hts (.initialized "java/lang/System") (by decide +kernel)) hK hP hD hS 5 4 rfl rfl (a := (st0 + 108)) (b := 0) (k := 2) (rfl) (rfl) (rfl) (by omega) (by omega) (by omega) (by omega) (Nat.le_of_ble_eq_true rfl) (Nat.le_of_ble_eq_true rfl) dX0_readFrom_53 (g2 := (va_cpy fn fs (st0 + 108) 0 2)) (rfl) (fun H locs hP hD hS => ?_)
  have hP : va_P D vwCl [(a0, .inr (0, [.ref a1, .ref a2, .ref a3, .ref a4, .int (nI hz), .int (nI mv), .int tu, .int rf])), (a1, .inl (cI, 36, .inl (va_cpy fn fh st0 0 36))), (a2, .inl (cI, 36, .inl (va_cpy fn fo (st0 + 36) 0 36))), (a3, .inl (cI, 36, .inl (va_cpy fn fc (st0 + 72) 0 36))), (a4, .inl (cI, 2, .inl (va_cpy fn fs (st0 + 108) 0 2))), (t0, .inl (cI, nn, .inl fn))] _ := hP
  have hD : va_D A [(a0, .inr (0, [.ref a1, .ref a2, .ref a3, .ref a4, .int (nI hz), .int (nI mv), .int tu, .int rf])), (a1, .inl (cI, 36, .inl (va_cpy fn fh st0 0 36))), (a2, .inl (cI, 36, .inl (va_cpy fn fo (st0 + 36) 0 36))), (a3, .inl (cI, 36, .inl (va_cpy fn fc (st0 + 72) 0 36))), (a4, .inl (cI, 2, .inl (va_cpy fn fs (st0 + 108) 0 2))), (t0, .inl (cI, nn, .inl fn))] := hD
  refine lv_iload_n hx hb dX0_readFrom_56 rfl (lv_at hl 2 rfl) ?_
  refine lv_bipush (v := 108) hx hb dX0_readFrom_57 (by decide) ?_
  refine z_iadd (v := nI (st0 + 108)) hx hb dX0_readFrom_59 (nI_add (st0) (108)) ?_
  refine lv_iconst (v := 2) hx hb dX0_readFrom_60 (by decide) ?_
  refine z_iadd (v := nI ((st0 + 108) + 2)) hx hb dX0_readFrom_61 (nI_add ((st0 + 108)) (2)) ?_
  refine lv_istore_n (lv' := [(3, .int (nI ((st0 + 108) + 2))), (0, .ref a0), (1, .ref t0), (2, .int (nI st0))]) hx hb dX0_readFrom_62 rfl hl (by decide) rfl (fun ls hl => ?_)
  refine lv_aload_n hx hb dX0_readFrom_63 rfl (lv_at hl 1 rfl) ?_
  refine lv_aload_n hx hb dX0_readFrom_64 rfl (lv_at hl 2 rfl) ?_
  refine lv_iload_n hx hb dX0_readFrom_65 rfl (lv_at hl 0 rfl) ?_
  refine z_iald hx hb hK hP 5 0 rfl rfl (k := ((st0 + 108) + 2)) (rfl) (by omega) (by omega) dX0_readFrom_66 ?_
  refine z_top (y := nI hz2) hh2 ?_
  refine va_put (D := D) (ci := 0) (v := .int (nI hz2)) (ty := .int) (C := RX0) (T := TX0) (N := 8) hx hb hts in0 tyX0 tyX0_ok nmX0 hown hK hP hD hS 0 rfl rfl 4 (by decide) fl30 (fun _ h9 => h9) rfl (by decide +kernel) rfl rfl (Nat.le_of_ble_eq_true rfl) dX0_readFrom_67 (fun H locs hP hD hS => ?_)
  have hP : va_P D vwCl [(a0, .inr (0, [.ref a1, .ref a2, .ref a3, .ref a4, .int (nI hz2), .int (nI mv), .int tu, .int rf])), (a1, .inl (cI, 36, .inl (va_cpy fn fh st0 0 36))), (a2, .inl (cI, 36, .inl (va_cpy fn fo (st0 + 36) 0 36))), (a3, .inl (cI, 36, .inl (va_cpy fn fc (st0 + 72) 0 36))), (a4, .inl (cI, 2, .inl (va_cpy fn fs (st0 + 108) 0 2))), (t0, .inl (cI, nn, .inl fn))] _ := hP
  have hD : va_D A [(a0, .inr (0, [.ref a1, .ref a2, .ref a3, .ref a4, .int (nI hz2), .int (nI mv), .int tu, .int rf])), (a1, .inl (cI, 36, .inl (va_cpy fn fh st0 0 36))), (a2, .inl (cI, 36, .inl (va_cpy fn fo (st0 + 36) 0 36))), (a3, .inl (cI, 36, .inl (va_cpy fn fc (st0 + 72) 0 36))), (a4, .inl (cI, 2, .inl (va_cpy fn fs (st0 + 108) 0 2))), (t0, .inl (cI, nn, .inl fn))] := hD
  refine lv_aload_n hx hb dX0_readFrom_70 rfl (lv_at hl 1 rfl) ?_
  refine lv_aload_n hx hb dX0_readFrom_71 rfl (lv_at hl 2 rfl) ?_
  refine lv_iload_n hx hb dX0_readFrom_72 rfl (lv_at hl 0 rfl) ?_
  refine lv_iconst (v := 1) hx hb dX0_readFrom_73 (by decide) ?_
  refine z_iadd (v := nI (((st0 + 108) + 2) + 1)) hx hb dX0_readFrom_74 (nI_add (((st0 + 108) + 2)) (1)) ?_
  refine z_iald hx hb hK hP 5 0 rfl rfl (k := (((st0 + 108) + 2) + 1)) (rfl) (by omega) (by omega) dX0_readFrom_75 ?_
  refine z_top (y := nI mv2) hm2 ?_
  refine va_put (D := D) (ci := 0) (v := .int (nI mv2)) (ty := .int) (C := RX0) (T := TX0) (N := 8) hx hb hts in0 tyX0 tyX0_ok nmX0 hown hK hP hD hS 0 rfl rfl 5 (by decide) fl34 (fun _ h9 => h9) rfl (by decide +kernel) rfl rfl (Nat.le_of_ble_eq_true rfl) dX0_readFrom_76 (fun H locs hP hD hS => ?_)
  have hP : va_P D vwCl [(a0, .inr (0, [.ref a1, .ref a2, .ref a3, .ref a4, .int (nI hz2), .int (nI mv2), .int tu, .int rf])), (a1, .inl (cI, 36, .inl (va_cpy fn fh st0 0 36))), (a2, .inl (cI, 36, .inl (va_cpy fn fo (st0 + 36) 0 36))), (a3, .inl (cI, 36, .inl (va_cpy fn fc (st0 + 72) 0 36))), (a4, .inl (cI, 2, .inl (va_cpy fn fs (st0 + 108) 0 2))), (t0, .inl (cI, nn, .inl fn))] _ := hP
  have hD : va_D A [(a0, .inr (0, [.ref a1, .ref a2, .ref a3, .ref a4, .int (nI hz2), .int (nI mv2), .int tu, .int rf])), (a1, .inl (cI, 36, .inl (va_cpy fn fh st0 0 36))), (a2, .inl (cI, 36, .inl (va_cpy fn fo (st0 + 36) 0 36))), (a3, .inl (cI, 36, .inl (va_cpy fn fc (st0 + 72) 0 36))), (a4, .inl (cI, 2, .inl (va_cpy fn fs (st0 + 108) 0 2))), (t0, .inl (cI, nn, .inl fn))] := hD
  refine lv_aload_n hx hb dX0_readFrom_79 rfl (lv_at hl 1 rfl) ?_
  refine lv_aload_n hx hb dX0_readFrom_80 rfl (lv_at hl 2 rfl) ?_
  refine lv_iload_n hx hb dX0_readFrom_81 rfl (lv_at hl 0 rfl) ?_
  refine lv_iconst (v := 2) hx hb dX0_readFrom_82 (by decide) ?_
  refine z_iadd (v := nI (((st0 + 108) + 2) + 2)) hx hb dX0_readFrom_83 (nI_add (((st0 + 108) + 2)) (2)) ?_
  refine z_iald hx hb hK hP 5 0 rfl rfl (k := (((st0 + 108) + 2) + 2)) (rfl) (by omega) (by omega) dX0_readFrom_84 ?_
  refine va_put (D := D) (ci := 0) (v := .int (fn (((st0 + 108) + 2) + 2))) (ty := .int) (C := RX0) (T := TX0) (N := 8) hx hb hts in0 tyX0 tyX0_ok nmX0 hown hK hP hD hS 0 rfl rfl 6 (by decide) fl37 (fun _ h9 => h9) rfl (by decide +kernel) rfl rfl (Nat.le_of_ble_eq_true rfl) dX0_readFrom_85 (fun H locs hP hD hS => ?_)
  have hP : va_P D vwCl [(a0, .inr (0, [.ref a1, .ref a2, .ref a3, .ref a4, .int (nI hz2), .int (nI mv2), .int (fn (((st0 + 108) + 2) + 2)), .int rf])), (a1, .inl (cI, 36, .inl (va_cpy fn fh st0 0 36))), (a2, .inl (cI, 36, .inl (va_cpy fn fo (st0 + 36) 0 36))), (a3, .inl (cI, 36, .inl (va_cpy fn fc (st0 + 72) 0 36))), (a4, .inl (cI, 2, .inl (va_cpy fn fs (st0 + 108) 0 2))), (t0, .inl (cI, nn, .inl fn))] _ := hP
  have hD : va_D A [(a0, .inr (0, [.ref a1, .ref a2, .ref a3, .ref a4, .int (nI hz2), .int (nI mv2), .int (fn (((st0 + 108) + 2) + 2)), .int rf])), (a1, .inl (cI, 36, .inl (va_cpy fn fh st0 0 36))), (a2, .inl (cI, 36, .inl (va_cpy fn fo (st0 + 36) 0 36))), (a3, .inl (cI, 36, .inl (va_cpy fn fc (st0 + 72) 0 36))), (a4, .inl (cI, 2, .inl (va_cpy fn fs (st0 + 108) 0 2))), (t0, .inl (cI, nn, .inl fn))] := hD
  refine lv_aload_n hx hb dX0_readFrom_88 rfl (lv_at hl 1 rfl) ?_
  refine lv_aload_n hx hb dX0_readFrom_89 rfl (lv_at hl 2 rfl) ?_
  refine lv_iload_n hx hb dX0_readFrom_90 rfl (lv_at hl 0 rfl) ?_
  refine lv_iconst (v := 3) hx hb dX0_readFrom_91 (by decide) ?_
  refine z_iadd (v := nI (((st0 + 108) + 2) + 3)) hx hb dX0_readFrom_92 (nI_add (((st0 + 108) + 2)) (3)) ?_
  refine z_iald hx hb hK hP 5 0 rfl rfl (k := (((st0 + 108) + 2) + 3)) (rfl) (by omega) (by omega) dX0_readFrom_93 ?_
  refine va_put (D := D) (ci := 0) (v := .int (fn (((st0 + 108) + 2) + 3))) (ty := .int) (C := RX0) (T := TX0) (N := 8) hx hb hts in0 tyX0 tyX0_ok nmX0 hown hK hP hD hS 0 rfl rfl 7 (by decide) fl40 (fun _ h9 => h9) rfl (by decide +kernel) rfl rfl (Nat.le_of_ble_eq_true rfl) dX0_readFrom_94 (fun H locs hP hD hS => ?_)
  have hP : va_P D vwCl [(a0, .inr (0, [.ref a1, .ref a2, .ref a3, .ref a4, .int (nI hz2), .int (nI mv2), .int (fn (((st0 + 108) + 2) + 2)), .int (fn (((st0 + 108) + 2) + 3))])), (a1, .inl (cI, 36, .inl (va_cpy fn fh st0 0 36))), (a2, .inl (cI, 36, .inl (va_cpy fn fo (st0 + 36) 0 36))), (a3, .inl (cI, 36, .inl (va_cpy fn fc (st0 + 72) 0 36))), (a4, .inl (cI, 2, .inl (va_cpy fn fs (st0 + 108) 0 2))), (t0, .inl (cI, nn, .inl fn))] _ := hP
  have hD : va_D A [(a0, .inr (0, [.ref a1, .ref a2, .ref a3, .ref a4, .int (nI hz2), .int (nI mv2), .int (fn (((st0 + 108) + 2) + 2)), .int (fn (((st0 + 108) + 2) + 3))])), (a1, .inl (cI, 36, .inl (va_cpy fn fh st0 0 36))), (a2, .inl (cI, 36, .inl (va_cpy fn fo (st0 + 36) 0 36))), (a3, .inl (cI, 36, .inl (va_cpy fn fc (st0 + 72) 0 36))), (a4, .inl (cI, 2, .inl (va_cpy fn fs (st0 + 108) 0 2))), (t0, .inl (cI, nn, .inl fn))] := hD
  have hW9 : ([(a0, .inr (0, [.ref a1, .ref a2, .ref a3, .ref a4, .int (nI hz2), .int (nI mv2), .int (fn (((st0 + 108) + 2) + 2)), .int (fn (((st0 + 108) + 2) + 3))])), (a1, .inl (cI, 36, .inl (va_cpy fn fh st0 0 36))), (a2, .inl (cI, 36, .inl (va_cpy fn fo (st0 + 36) 0 36))), (a3, .inl (cI, 36, .inl (va_cpy fn fc (st0 + 72) 0 36))), (a4, .inl (cI, 2, .inl (va_cpy fn fs (st0 + 108) 0 2))), (t0, .inl (cI, nn, .inl fn))] : va_W) = [(a0, .inr (0, [.ref a1, .ref a2, .ref a3, .ref a4, .int (nI hz2), .int (nI mv2), .int (fn (st0 + 108 + 2 + 2)), .int (fn (st0 + 108 + 2 + 3))])), (a1, .inl (cI, 36, .inl (va_cpy fn fh st0 0 36))), (a2, .inl (cI, 36, .inl (va_cpy fn fo (st0 + 36) 0 36))), (a3, .inl (cI, 36, .inl (va_cpy fn fc (st0 + 72) 0 36))), (a4, .inl (cI, 2, .inl (va_cpy fn fs (st0 + 108) 0 2))), (t0, .inl (cI, nn, .inl fn))] := rfl
  rw [hW9] at hP hD
  have hP9 : va_P D vwCl [(a0, .inr (0, [.ref a1, .ref a2, .ref a3, .ref a4, .int (nI hz2), .int (nI mv2), .int (fn (st0 + 108 + 2 + 2)), .int (fn (st0 + 108 + 2 + 3))])), (a1, .inl (cI, 36, .inl (va_cpy fn fh st0 0 36))), (a2, .inl (cI, 36, .inl (va_cpy fn fo (st0 + 36) 0 36))), (a3, .inl (cI, 36, .inl (va_cpy fn fc (st0 + 72) 0 36))), (a4, .inl (cI, 2, .inl (va_cpy fn fs (st0 + 108) 0 2))), (t0, .inl (cI, nn, .inl fn))] _ := hP
  have hD9 : va_D A [(a0, .inr (0, [.ref a1, .ref a2, .ref a3, .ref a4, .int (nI hz2), .int (nI mv2), .int (fn (st0 + 108 + 2 + 2)), .int (fn (st0 + 108 + 2 + 3))])), (a1, .inl (cI, 36, .inl (va_cpy fn fh st0 0 36))), (a2, .inl (cI, 36, .inl (va_cpy fn fo (st0 + 36) 0 36))), (a3, .inl (cI, 36, .inl (va_cpy fn fc (st0 + 72) 0 36))), (a4, .inl (cI, 2, .inl (va_cpy fn fs (st0 + 108) 0 2))), (t0, .inl (cI, nn, .inl fn))] := hD
  subst hAe
  exact z_mvret hx hb hr hlocks dX0_readFrom_97 hP9 hD9 hS

set_option maxHeartbeats 4000000 in
set_option maxRecDepth 100000 in
/-- a tower put -/
theorem c_X0_putTower (l : Launch) (D : va_G) (cI cZ cL : ClassId) (sz : Nat) (a0 : Nat) (a1 : Nat) (a2 : Nat) (a3 : Nat) (a4 : Nat) (fh : Nat → Int32) (fo : Nat → Int32) (fc : Nat → Int32) (fs : Nat → Int32) (hz : Nat) (mv : Nat) (tu : Int32) (rf : Int32) (q : Nat) (ow : Int32) (ht : Int32) (hq : q < 36) : Met l yX0_putTower wsX0_putTower ({ frames := 0, cells := 0, slots := 0, locals := 0 }) (va_Pc [.ref a0, .int (nI q), .int ow, .int ht] (zM D cI cZ cL [(a0, .inr (0, [.ref a1, .ref a2, .ref a3, .ref a4, .int (nI hz), .int (nI mv), .int tu, .int rf])), (a1, .inl (cI, 36, .inl fh)), (a2, .inl (cI, 36, .inl fo)), (a3, .inl (cI, 36, .inl fc)), (a4, .inl (cI, 2, .inl fs))] sz)) (zQmv D [(a0, .inr (0, [.ref a1, .ref a2, .ref a3, .ref a4, .int (nI hz), .int (nI mv), .int tu, .int rf])), (a1, .inl (cI, 36, .inl fh)), (a2, .inl (cI, 36, .inl fo)), (a3, .inl (cI, 36, .inl fc)), (a4, .inl (cI, 2, .inl fs))] [(a0, .inr (0, [.ref a1, .ref a2, .ref a3, .ref a4, .int (nI hz), .int (nI mv), .int tu, .int rf])), (a1, .inl (cI, 36, .inl (upd fh q ht))), (a2, .inl (cI, 36, .inl (upd fo q ow))), (a3, .inl (cI, 36, .inl fc)), (a4, .inl (cI, 2, .inl fs))] sz) 0 0 (va_A [(a0, .inr (0, [.ref a1, .ref a2, .ref a3, .ref a4, .int (nI hz), .int (nI mv), .int tu, .int rf])), (a1, .inl (cI, 36, .inl fh)), (a2, .inl (cI, 36, .inl fo)), (a3, .inl (cI, 36, .inl fc)), (a4, .inl (cI, 2, .inl fs))] sz) := by
  refine Met.ofW (cc := cX0_putTower) (maxL := 4) (ret := none) (by decide) rfl ?_
  intro p e s m args below meth c s₁ B hml hv
  obtain ⟨rfl, hsz, ⟨hP, hK⟩, hD0⟩ := hv
  have hx := B.exec
  have hb := B.bytes
  have hr := B.returns
  have hts := atoms_spec (ws := wsX0_putTower) B.pre
  have hown : s.vm.findClass RX0 = some m.cls := findClass_of_methodNamed B.named
  have hlocks := B.notSynchronized
  subst hsz
  have hD := hD0.self (sz := s.heap.size)
  generalize hAe : va_A [(a0, .inr (0, [.ref a1, .ref a2, .ref a3, .ref a4, .int (nI hz), .int (nI mv), .int tu, .int rf])), (a1, .inl (cI, 36, .inl fh)), (a2, .inl (cI, 36, .inl fo)), (a3, .inl (cI, 36, .inl fc)), (a4, .inl (cI, 2, .inl fs))] s.heap.size = A at hD ⊢
  have hA : ∀ q : Nat, s.heap.size ≤ q → A q := fun q h => by rw [← hAe]; exact Or.inr h
  have hS : va_S A s.heap s.heap [] := va_S.rf
  have in0 : ∀ w ∈ u_ws RX0 TX0 8, w ∈ wsX0_putTower := by decide +kernel
  have fl9 := hts (.fieldLink RX0 9 "TowerShades$Field" "heights" "[I") (by decide +kernel)
  have fl15 := hts (.fieldLink RX0 15 "TowerShades$Field" "owners" "[I") (by decide +kernel)
  have hl := lv_entry ([.ref a0, .int (nI q), .int ow, .int ht]) (n := 4) (Nat.le_of_ble_eq_true rfl)
  rw [lg_entry_eq]
  generalize (lg_sl ([.ref a0, .int (nI q), .int ow, .int ht]) ++ List.replicate (4 - (lg_sl ([.ref a0, .int (nI q), .int ow, .int ht])).length) Slot.unset).toArray = ls at hl ⊢
  have hl : lv_has ls 4 [(0, .ref a0), (1, .int (nI q)), (2, .int ow), (3, .int ht)] := hl
  refine lv_aload_n hx hb dX0_putTower_0 rfl (lv_at hl 0 rfl) ?_
  refine va_get (D := D) (ci := 0) (v := .ref a2) (C := RX0) (T := TX0) (N := 8) hx hb hts in0 hown hK hP 0 rfl rfl 1 (by decide) fl15 (fun _ h9 => h9) rfl dX0_putTower_1 ?_
  refine lv_iload_n hx hb dX0_putTower_4 rfl (lv_at hl 1 rfl) ?_
  refine lv_iload_n hx hb dX0_putTower_5 rfl (lv_at hl 2 rfl) ?_
  refine z_iast hx hb hK hP hD hS 2 0 rfl rfl (k := q) (rfl) (by omega) (by decide) dX0_putTower_6 (g := upd fo q ow) (rfl) (fun H locs hP hD hS => ?_)
  have hP : va_P D vwCl [(a0, .inr (0, [.ref a1, .ref a2, .ref a3, .ref a4, .int (nI hz), .int (nI mv), .int tu, .int rf])), (a1, .inl (cI, 36, .inl fh)), (a2, .inl (cI, 36, .inl (upd fo q ow))), (a3, .inl (cI, 36, .inl fc)), (a4, .inl (cI, 2, .inl fs))] _ := hP
  have hD : va_D A [(a0, .inr (0, [.ref a1, .ref a2, .ref a3, .ref a4, .int (nI hz), .int (nI mv), .int tu, .int rf])), (a1, .inl (cI, 36, .inl fh)), (a2, .inl (cI, 36, .inl (upd fo q ow))), (a3, .inl (cI, 36, .inl fc)), (a4, .inl (cI, 2, .inl fs))] := hD
  refine lv_aload_n hx hb dX0_putTower_7 rfl (lv_at hl 0 rfl) ?_
  refine va_get (D := D) (ci := 0) (v := .ref a1) (C := RX0) (T := TX0) (N := 8) hx hb hts in0 hown hK hP 0 rfl rfl 0 (by decide) fl9 (fun _ h9 => h9) rfl dX0_putTower_8 ?_
  refine lv_iload_n hx hb dX0_putTower_11 rfl (lv_at hl 1 rfl) ?_
  refine lv_iload_n hx hb dX0_putTower_12 rfl (lv_at hl 3 rfl) ?_
  refine z_iast hx hb hK hP hD hS 1 0 rfl rfl (k := q) (rfl) (by omega) (by decide) dX0_putTower_13 (g := upd fh q ht) (rfl) (fun H locs hP hD hS => ?_)
  have hP : va_P D vwCl [(a0, .inr (0, [.ref a1, .ref a2, .ref a3, .ref a4, .int (nI hz), .int (nI mv), .int tu, .int rf])), (a1, .inl (cI, 36, .inl (upd fh q ht))), (a2, .inl (cI, 36, .inl (upd fo q ow))), (a3, .inl (cI, 36, .inl fc)), (a4, .inl (cI, 2, .inl fs))] _ := hP
  have hD : va_D A [(a0, .inr (0, [.ref a1, .ref a2, .ref a3, .ref a4, .int (nI hz), .int (nI mv), .int tu, .int rf])), (a1, .inl (cI, 36, .inl (upd fh q ht))), (a2, .inl (cI, 36, .inl (upd fo q ow))), (a3, .inl (cI, 36, .inl fc)), (a4, .inl (cI, 2, .inl fs))] := hD
  have hP9 : va_P D vwCl [(a0, .inr (0, [.ref a1, .ref a2, .ref a3, .ref a4, .int (nI hz), .int (nI mv), .int tu, .int rf])), (a1, .inl (cI, 36, .inl (upd fh q ht))), (a2, .inl (cI, 36, .inl (upd fo q ow))), (a3, .inl (cI, 36, .inl fc)), (a4, .inl (cI, 2, .inl fs))] _ := hP
  have hD9 : va_D A [(a0, .inr (0, [.ref a1, .ref a2, .ref a3, .ref a4, .int (nI hz), .int (nI mv), .int tu, .int rf])), (a1, .inl (cI, 36, .inl (upd fh q ht))), (a2, .inl (cI, 36, .inl (upd fo q ow))), (a3, .inl (cI, 36, .inl fc)), (a4, .inl (cI, 2, .inl fs))] := hD
  subst hAe
  exact z_mvret hx hb hr hlocks dX0_putTower_14 hP9 hD9 hS

set_option maxHeartbeats 4000000 in
set_option maxRecDepth 100000 in
/-- a turn ends -/
theorem c_X0_endTurn (l : Launch) (D : va_G) (cI cZ cL : ClassId) (sz : Nat) (a0 : Nat) (a1 : Nat) (a2 : Nat) (a3 : Nat) (a4 : Nat) (fh : Nat → Int32) (fo : Nat → Int32) (fc : Nat → Int32) (fs : Nat → Int32) (hz : Nat) (mv : Nat) (tu : Int32) (rf : Int32) (hhz : hz < 12) (hmv : mv < 2) : Met l yX0_endTurn wsX0_endTurn ({ frames := 3, cells := 0, slots := 0, locals := 71 }) (va_Pc [.ref a0] (zM D cI cZ cL [(a0, .inr (0, [.ref a1, .ref a2, .ref a3, .ref a4, .int (nI hz), .int (nI mv), .int tu, .int rf])), (a1, .inl (cI, 36, .inl fh)), (a2, .inl (cI, 36, .inl fo)), (a3, .inl (cI, 36, .inl fc)), (a4, .inl (cI, 2, .inl fs))] sz)) (zQmv D [(a0, .inr (0, [.ref a1, .ref a2, .ref a3, .ref a4, .int (nI hz), .int (nI mv), .int tu, .int rf])), (a1, .inl (cI, 36, .inl fh)), (a2, .inl (cI, 36, .inl fo)), (a3, .inl (cI, 36, .inl fc)), (a4, .inl (cI, 2, .inl fs))] [(a0, .inr (0, [.ref a1, .ref a2, .ref a3, .ref a4, .int (nI ((hz + 1) % 12)), .int (nI (1 - mv)), .int (tu + 1), .int rf])), (a1, .inl (cI, 36, .inl fh)), (a2, .inl (cI, 36, .inl fo)), (a3, .inl (cI, 36, .inl fc)), (a4, .inl (cI, 2, .inl (pEs fs (pPy fo fh fc hz) 2)))] sz) 0 0 (va_A [(a0, .inr (0, [.ref a1, .ref a2, .ref a3, .ref a4, .int (nI hz), .int (nI mv), .int tu, .int rf])), (a1, .inl (cI, 36, .inl fh)), (a2, .inl (cI, 36, .inl fo)), (a3, .inl (cI, 36, .inl fc)), (a4, .inl (cI, 2, .inl fs))] sz) := by
  refine Met.ofW (cc := cX0_endTurn) (maxL := 2) (ret := none) (by decide) rfl ?_
  intro p e s m args below meth c s₁ B hml hv
  obtain ⟨rfl, hsz, ⟨hP, hK⟩, hD0⟩ := hv
  have hx := B.exec
  have hb := B.bytes
  have hr := B.returns
  have hts := atoms_spec (ws := wsX0_endTurn) B.pre
  have hown : s.vm.findClass RX0 = some m.cls := findClass_of_methodNamed B.named
  have hlocks := B.notSynchronized
  subst hsz
  have hD := hD0.self (sz := s.heap.size)
  generalize hAe : va_A [(a0, .inr (0, [.ref a1, .ref a2, .ref a3, .ref a4, .int (nI hz), .int (nI mv), .int tu, .int rf])), (a1, .inl (cI, 36, .inl fh)), (a2, .inl (cI, 36, .inl fo)), (a3, .inl (cI, 36, .inl fc)), (a4, .inl (cI, 2, .inl fs))] s.heap.size = A at hD ⊢
  have hA : ∀ q : Nat, s.heap.size ≤ q → A q := fun q h => by rw [← hAe]; exact Or.inr h
  have hS : va_S A s.heap s.heap [] := va_S.rf
  have in0 : ∀ w ∈ u_ws RX0 TX0 8, w ∈ wsX0_endTurn := by decide +kernel
  have fl21 := hts (.fieldLink RX0 21 "TowerShades$Field" "scores" "[I") (by decide +kernel)
  have fl30 := hts (.fieldLink RX0 30 "TowerShades$Field" "hourNow" "I") (by decide +kernel)
  have fl34 := hts (.fieldLink RX0 34 "TowerShades$Field" "mover" "I") (by decide +kernel)
  have fl37 := hts (.fieldLink RX0 37 "TowerShades$Field" "turns" "I") (by decide +kernel)
  have hl := lv_entry ([.ref a0]) (n := 2) (Nat.le_of_ble_eq_true rfl)
  rw [lg_entry_eq]
  generalize (lg_sl ([.ref a0]) ++ List.replicate (2 - (lg_sl ([.ref a0])).length) Slot.unset).toArray = ls at hl ⊢
  have hl : lv_has ls 2 [(0, .ref a0)] := hl
  refine lv_iconst (v := 0) hx hb dX0_endTurn_0 (by decide) ?_
  refine lv_istore_n (lv' := [(1, .int 0), (0, .ref a0)]) hx hb dX0_endTurn_1 rfl hl (by decide) rfl (fun ls hl => ?_)
  have hW9 : ([(a0, .inr (0, [.ref a1, .ref a2, .ref a3, .ref a4, .int (nI hz), .int (nI mv), .int tu, .int rf])), (a1, .inl (cI, 36, .inl fh)), (a2, .inl (cI, 36, .inl fo)), (a3, .inl (cI, 36, .inl fc)), (a4, .inl (cI, 2, .inl fs))] : va_W) = [(a0, .inr (0, [.ref a1, .ref a2, .ref a3, .ref a4, .int (nI hz), .int (nI mv), .int tu, .int rf])), (a1, .inl (cI, 36, .inl fh)), (a2, .inl (cI, 36, .inl fo)), (a3, .inl (cI, 36, .inl fc)), (a4, .inl (cI, 2, .inl (pEs fs (pPy fo fh fc hz) 0)))] := rfl
  rw [hW9] at hP hD
  refine z_upH (N := 2) (i0 := 0) (fun i H locs ls => va_P D vwCl [(a0, .inr (0, [.ref a1, .ref a2, .ref a3, .ref a4, .int (nI hz), .int (nI mv), .int tu, .int rf])), (a1, .inl (cI, 36, .inl fh)), (a2, .inl (cI, 36, .inl fo)), (a3, .inl (cI, 36, .inl fc)), (a4, .inl (cI, 2, .inl (pEs fs (pPy fo fh fc hz) i)))] H ∧ va_D A [(a0, .inr (0, [.ref a1, .ref a2, .ref a3, .ref a4, .int (nI hz), .int (nI mv), .int tu, .int rf])), (a1, .inl (cI, 36, .inl fh)), (a2, .inl (cI, 36, .inl fo)), (a3, .inl (cI, 36, .inl fc)), (a4, .inl (cI, 2, .inl (pEs fs (pPy fo fh fc hz) i)))] ∧ va_S A s.heap H locs ∧ lv_has ls 2 [(0, .ref a0), (1, .int (nI i))]) (by omega) (⟨hP, hD, hS, lv_sub hl [1, 0] rfl⟩) (fun i H locs ls hi2 hI ih2 => ?_)
  obtain ⟨hP, hD, hS, hl⟩ := hI
  refine lv_iload_n hx hb dX0_endTurn_2 rfl (lv_at hl 1 rfl) ?_
  refine lv_iconst (v := 2) hx hb dX0_endTurn_3 (by decide) ?_
  refine z_icmp_ge (tgt := 27) (P := 2 ≤ i) hx hb dX0_endTurn_4 (by decide) (nI_leI (a := 2) (b := i) (by omega) (by omega)) (fun c4 => ?_) (fun c4 => ?_)
  · skip
    obtain rfl : i = 2 := by omega
    refine lv_aload_n hx hb dX0_endTurn_27 rfl (lv_at hl 0 rfl) ?_
    refine lv_aload_n hx hb dX0_endTurn_28 rfl (lv_at hl 0 rfl) ?_
    refine va_get (D := D) (ci := 0) (v := .int (nI hz)) (C := RX0) (T := TX0) (N := 8) hx hb hts in0 hown hK hP 0 rfl rfl 4 (by decide) fl30 (fun _ h9 => h9) rfl dX0_endTurn_29 ?_
    refine lv_iconst (v := 1) hx hb dX0_endTurn_32 (by decide) ?_
    refine z_iadd (v := nI (hz + 1)) hx hb dX0_endTurn_33 (nI_add (hz) (1)) ?_
    refine lv_bipush (v := 12) hx hb dX0_endTurn_34 (by decide) ?_
    refine z_irem (v := nI ((hz + 1) % 12)) hx hb dX0_endTurn_36 (by decide) (pk_rem (a := (hz + 1)) (d := 12) (by omega) (by omega) (by omega)) ?_
    refine va_put (D := D) (ci := 0) (v := .int (nI ((hz + 1) % 12))) (ty := .int) (C := RX0) (T := TX0) (N := 8) hx hb hts in0 tyX0 tyX0_ok nmX0 hown hK hP hD hS 0 rfl rfl 4 (by decide) fl30 (fun _ h9 => h9) rfl (by decide +kernel) rfl rfl (Nat.le_of_ble_eq_true rfl) dX0_endTurn_37 (fun H locs hP hD hS => ?_)
    have hP : va_P D vwCl [(a0, .inr (0, [.ref a1, .ref a2, .ref a3, .ref a4, .int (nI ((hz + 1) % 12)), .int (nI mv), .int tu, .int rf])), (a1, .inl (cI, 36, .inl fh)), (a2, .inl (cI, 36, .inl fo)), (a3, .inl (cI, 36, .inl fc)), (a4, .inl (cI, 2, .inl (pEs fs (pPy fo fh fc hz) 2)))] _ := hP
    have hD : va_D A [(a0, .inr (0, [.ref a1, .ref a2, .ref a3, .ref a4, .int (nI ((hz + 1) % 12)), .int (nI mv), .int tu, .int rf])), (a1, .inl (cI, 36, .inl fh)), (a2, .inl (cI, 36, .inl fo)), (a3, .inl (cI, 36, .inl fc)), (a4, .inl (cI, 2, .inl (pEs fs (pPy fo fh fc hz) 2)))] := hD
    refine lv_aload_n hx hb dX0_endTurn_40 rfl (lv_at hl 0 rfl) ?_
    refine lv_iconst (v := 1) hx hb dX0_endTurn_41 (by decide) ?_
    refine lv_aload_n hx hb dX0_endTurn_42 rfl (lv_at hl 0 rfl) ?_
    refine va_get (D := D) (ci := 0) (v := .int (nI mv)) (C := RX0) (T := TX0) (N := 8) hx hb hts in0 hown hK hP 0 rfl rfl 5 (by decide) fl34 (fun _ h9 => h9) rfl dX0_endTurn_43 ?_
    refine z_isub (v := nI (1 - mv)) hx hb dX0_endTurn_46 (pk_sub (a := 1) (b := mv) (by omega)) ?_
    refine va_put (D := D) (ci := 0) (v := .int (nI (1 - mv))) (ty := .int) (C := RX0) (T := TX0) (N := 8) hx hb hts in0 tyX0 tyX0_ok nmX0 hown hK hP hD hS 0 rfl rfl 5 (by decide) fl34 (fun _ h9 => h9) rfl (by decide +kernel) rfl rfl (Nat.le_of_ble_eq_true rfl) dX0_endTurn_47 (fun H locs hP hD hS => ?_)
    have hP : va_P D vwCl [(a0, .inr (0, [.ref a1, .ref a2, .ref a3, .ref a4, .int (nI ((hz + 1) % 12)), .int (nI (1 - mv)), .int tu, .int rf])), (a1, .inl (cI, 36, .inl fh)), (a2, .inl (cI, 36, .inl fo)), (a3, .inl (cI, 36, .inl fc)), (a4, .inl (cI, 2, .inl (pEs fs (pPy fo fh fc hz) 2)))] _ := hP
    have hD : va_D A [(a0, .inr (0, [.ref a1, .ref a2, .ref a3, .ref a4, .int (nI ((hz + 1) % 12)), .int (nI (1 - mv)), .int tu, .int rf])), (a1, .inl (cI, 36, .inl fh)), (a2, .inl (cI, 36, .inl fo)), (a3, .inl (cI, 36, .inl fc)), (a4, .inl (cI, 2, .inl (pEs fs (pPy fo fh fc hz) 2)))] := hD
    refine lv_aload_n hx hb dX0_endTurn_50 rfl (lv_at hl 0 rfl) ?_
    refine lv_dup hx hb dX0_endTurn_51 rfl ?_
    refine va_get (D := D) (ci := 0) (v := .int tu) (C := RX0) (T := TX0) (N := 8) hx hb hts in0 hown hK hP 0 rfl rfl 6 (by decide) fl37 (fun _ h9 => h9) rfl dX0_endTurn_52 ?_
    refine lv_iconst (v := 1) hx hb dX0_endTurn_55 (by decide) ?_
    refine z_iadd (v := (tu + 1)) hx hb dX0_endTurn_56 (rfl) ?_
    refine va_put (D := D) (ci := 0) (v := .int (tu + 1)) (ty := .int) (C := RX0) (T := TX0) (N := 8) hx hb hts in0 tyX0 tyX0_ok nmX0 hown hK hP hD hS 0 rfl rfl 6 (by decide) fl37 (fun _ h9 => h9) rfl (by decide +kernel) rfl rfl (Nat.le_of_ble_eq_true rfl) dX0_endTurn_57 (fun H locs hP hD hS => ?_)
    have hP : va_P D vwCl [(a0, .inr (0, [.ref a1, .ref a2, .ref a3, .ref a4, .int (nI ((hz + 1) % 12)), .int (nI (1 - mv)), .int (tu + 1), .int rf])), (a1, .inl (cI, 36, .inl fh)), (a2, .inl (cI, 36, .inl fo)), (a3, .inl (cI, 36, .inl fc)), (a4, .inl (cI, 2, .inl (pEs fs (pPy fo fh fc hz) 2)))] _ := hP
    have hD : va_D A [(a0, .inr (0, [.ref a1, .ref a2, .ref a3, .ref a4, .int (nI ((hz + 1) % 12)), .int (nI (1 - mv)), .int (tu + 1), .int rf])), (a1, .inl (cI, 36, .inl fh)), (a2, .inl (cI, 36, .inl fo)), (a3, .inl (cI, 36, .inl fc)), (a4, .inl (cI, 2, .inl (pEs fs (pPy fo fh fc hz) 2)))] := hD
    have hP9 : va_P D vwCl [(a0, .inr (0, [.ref a1, .ref a2, .ref a3, .ref a4, .int (nI ((hz + 1) % 12)), .int (nI (1 - mv)), .int (tu + 1), .int rf])), (a1, .inl (cI, 36, .inl fh)), (a2, .inl (cI, 36, .inl fo)), (a3, .inl (cI, 36, .inl fc)), (a4, .inl (cI, 2, .inl (pEs fs (pPy fo fh fc hz) 2)))] _ := hP
    have hD9 : va_D A [(a0, .inr (0, [.ref a1, .ref a2, .ref a3, .ref a4, .int (nI ((hz + 1) % 12)), .int (nI (1 - mv)), .int (tu + 1), .int rf])), (a1, .inl (cI, 36, .inl fh)), (a2, .inl (cI, 36, .inl fo)), (a3, .inl (cI, 36, .inl fc)), (a4, .inl (cI, 2, .inl (pEs fs (pPy fo fh fc hz) 2)))] := hD
    subst hAe
    exact z_mvret hx hb hr hlocks dX0_endTurn_60 hP9 hD9 hS
  · skip
    refine lv_aload_n hx hb dX0_endTurn_7 rfl (lv_at hl 0 rfl) ?_
    refine va_get (D := D) (ci := 0) (v := .ref a4) (C := RX0) (T := TX0) (N := 8) hx hb hts in0 hown hK hP 0 rfl rfl 3 (by decide) fl21 (fun _ h9 => h9) rfl dX0_endTurn_8 ?_
    refine lv_iload_n hx hb dX0_endTurn_11 rfl (lv_at hl 1 rfl) ?_
    refine lv_dup2_11 hx hb dX0_endTurn_12 rfl rfl ?_
    refine z_iald hx hb hK hP 4 0 rfl rfl (k := i) (rfl) (by omega) (by decide) dX0_endTurn_13 ?_
    refine lv_aload_n hx hb dX0_endTurn_14 rfl (lv_at hl 0 rfl) ?_
    refine lv_iload_n hx hb dX0_endTurn_15 rfl (lv_at hl 1 rfl) ?_
    refine z_ci (va_runV (As := [.int (nI i)]) (rest := [.int ((pEs fs (pPy fo fh fc hz) i) i), .int (nI i), .ref a4]) ⟨hx, hb, hml, hown, hts⟩ (c_X0_payNow l D cI cZ cL (a0 := a0) (a1 := a1) (a2 := a2) (a3 := a3) (a4 := a4) (fh := fh) (fo := fo) (fc := fc) (fs := (pEs fs (pPy fo fh fc hz) i)) (hz := hz) (mv := mv) (tu := tu) (rf := rf) (pl := i) (hpl := by omega) (hhz := by omega)) (cwV 1 hts gX0_endTurn_X0_payNow rfl rfl rfl (by decide +kernel) ⟨Nat.le_of_ble_eq_true rfl, Nat.le_of_ble_eq_true rfl⟩) (z_preV hK (hP.sub [0, 1, 2, 3, 4] rfl) 0 0 rfl rfl) rfl rfl hl.1 rfl (lv_room (Nat.le_of_ble_eq_true rfl)) dX0_endTurn_16 ⟨Nat.le_of_ble_eq_true rfl, Nat.le_of_ble_eq_true rfl⟩) ?_
    refine z_iadd (v := (((pEs fs (pPy fo fh fc hz) i) i) + (pPy fo fh fc hz i))) hx hb dX0_endTurn_19 (rfl) ?_
    refine z_iast hx hb hK hP hD hS 4 0 rfl rfl (k := i) (rfl) (by omega) (by decide) dX0_endTurn_20 (g := (pEs fs (pPy fo fh fc hz) (i + 1))) (rfl) (fun H locs hP hD hS => ?_)
    have hP : va_P D vwCl [(a0, .inr (0, [.ref a1, .ref a2, .ref a3, .ref a4, .int (nI hz), .int (nI mv), .int tu, .int rf])), (a1, .inl (cI, 36, .inl fh)), (a2, .inl (cI, 36, .inl fo)), (a3, .inl (cI, 36, .inl fc)), (a4, .inl (cI, 2, .inl (pEs fs (pPy fo fh fc hz) (i + 1))))] _ := hP
    have hD : va_D A [(a0, .inr (0, [.ref a1, .ref a2, .ref a3, .ref a4, .int (nI hz), .int (nI mv), .int tu, .int rf])), (a1, .inl (cI, 36, .inl fh)), (a2, .inl (cI, 36, .inl fo)), (a3, .inl (cI, 36, .inl fc)), (a4, .inl (cI, 2, .inl (pEs fs (pPy fo fh fc hz) (i + 1))))] := hD
    refine lv_iinc (v := nI (i + 1)) (lv' := [(1, .int (nI (i + 1))), (0, .ref a0)]) hx hb dX0_endTurn_21 hl (k := 1) rfl (nI_1 (i)) (by decide) rfl (fun ls hl => ?_)
    refine lv_goto (tgt := 2) hx hb dX0_endTurn_24 (by decide) ?_
    exact ih2 (by omega) _ _ _ (⟨hP, hD, hS, lv_sub hl [1, 0] rfl⟩)

set_option maxHeartbeats 4000000 in
set_option maxRecDepth 100000 in
/-- what a raise would bring -/
theorem c_X0_worthOfRaising (l : Launch) (D : va_G) (cI cZ cL : ClassId) (sz : Nat) (a0 : Nat) (a1 : Nat) (a2 : Nat) (a3 : Nat) (a4 : Nat) (fh : Nat → Int32) (fo : Nat → Int32) (fc : Nat → Int32) (fs : Nat → Int32) (hz : Nat) (mv : Nat) (tu : Int32) (rf : Int32) (q : Nat) (hq : q < 36) (hhz : hz < 12) (hmv : mv < 2) : Met l yX0_worthOfRaising wsX0_worthOfRaising ({ frames := 3, cells := 0, slots := 0, locals := 71 }) (va_Pc [.ref a0, .int (nI q)] (zM D cI cZ cL [(a0, .inr (0, [.ref a1, .ref a2, .ref a3, .ref a4, .int (nI hz), .int (nI mv), .int tu, .int rf])), (a1, .inl (cI, 36, .inl fh)), (a2, .inl (cI, 36, .inl fo)), (a3, .inl (cI, 36, .inl fc)), (a4, .inl (cI, 2, .inl fs))] sz)) (zQmi D (cWo fo fh fc hz mv q) [(a0, .inr (0, [.ref a1, .ref a2, .ref a3, .ref a4, .int (nI hz), .int (nI mv), .int tu, .int rf])), (a1, .inl (cI, 36, .inl fh)), (a2, .inl (cI, 36, .inl fo)), (a3, .inl (cI, 36, .inl fc)), (a4, .inl (cI, 2, .inl fs))] [(a0, .inr (0, [.ref a1, .ref a2, .ref a3, .ref a4, .int (nI hz), .int (nI mv), .int tu, .int rf])), (a1, .inl (cI, 36, .inl fh)), (a2, .inl (cI, 36, .inl fo)), (a3, .inl (cI, 36, .inl fc)), (a4, .inl (cI, 2, .inl fs))] sz) 0 0 (va_A [(a0, .inr (0, [.ref a1, .ref a2, .ref a3, .ref a4, .int (nI hz), .int (nI mv), .int tu, .int rf])), (a1, .inl (cI, 36, .inl fh)), (a2, .inl (cI, 36, .inl fo)), (a3, .inl (cI, 36, .inl fc)), (a4, .inl (cI, 2, .inl fs))] sz) := by
  refine Met.ofW (cc := cX0_worthOfRaising) (maxL := 5) (ret := (some .int)) (by decide) rfl ?_
  intro p e s m args below meth c s₁ B hml hv
  obtain ⟨rfl, hsz, ⟨hP, hK⟩, hD0⟩ := hv
  have hx := B.exec
  have hb := B.bytes
  have hr := B.returns
  have hts := atoms_spec (ws := wsX0_worthOfRaising) B.pre
  have hown : s.vm.findClass RX0 = some m.cls := findClass_of_methodNamed B.named
  have hlocks := B.notSynchronized
  subst hsz
  have hD := hD0.self (sz := s.heap.size)
  generalize hAe : va_A [(a0, .inr (0, [.ref a1, .ref a2, .ref a3, .ref a4, .int (nI hz), .int (nI mv), .int tu, .int rf])), (a1, .inl (cI, 36, .inl fh)), (a2, .inl (cI, 36, .inl fo)), (a3, .inl (cI, 36, .inl fc)), (a4, .inl (cI, 2, .inl fs))] s.heap.size = A at hD ⊢
  have hA : ∀ q : Nat, s.heap.size ≤ q → A q := fun q h => by rw [← hAe]; exact Or.inr h
  have hS : va_S A s.heap s.heap [] := va_S.rf
  have in0 : ∀ w ∈ u_ws RX0 TX0 8, w ∈ wsX0_worthOfRaising := by decide +kernel
  have fl9 := hts (.fieldLink RX0 9 "TowerShades$Field" "heights" "[I") (by decide +kernel)
  have fl15 := hts (.fieldLink RX0 15 "TowerShades$Field" "owners" "[I") (by decide +kernel)
  have fl34 := hts (.fieldLink RX0 34 "TowerShades$Field" "mover" "I") (by decide +kernel)
  have hl := lv_entry ([.ref a0, .int (nI q)]) (n := 5) (Nat.le_of_ble_eq_true rfl)
  rw [lg_entry_eq]
  generalize (lg_sl ([.ref a0, .int (nI q)]) ++ List.replicate (5 - (lg_sl ([.ref a0, .int (nI q)])).length) Slot.unset).toArray = ls at hl ⊢
  have hl : lv_has ls 5 [(0, .ref a0), (1, .int (nI q))] := hl
  have hr3 := pRe_le fo fh hz mv q
  refine lv_aload_n hx hb dX0_worthOfRaising_0 rfl (lv_at hl 0 rfl) ?_
  refine lv_iload_n hx hb dX0_worthOfRaising_1 rfl (lv_at hl 1 rfl) ?_
  refine z_ci (va_runV (As := [.int (nI q)]) (rest := []) ⟨hx, hb, hml, hown, hts⟩ (c_X0_refusalReason l D cI cZ cL (a0 := a0) (a1 := a1) (a2 := a2) (a3 := a3) (a4 := a4) (fh := fh) (fo := fo) (fc := fc) (fs := fs) (hz := hz) (mv := mv) (tu := tu) (rf := rf) (q := q) (hq := by omega) (hhz := by omega) (hmv := by omega)) (cwV 1 hts gX0_worthOfRaising_X0_refusalReason rfl rfl rfl (by decide +kernel) ⟨Nat.le_of_ble_eq_true rfl, Nat.le_of_ble_eq_true rfl⟩) (z_preV hK (hP.sub [0, 1, 2, 3, 4] rfl) 0 0 rfl rfl) rfl rfl hl.1 rfl (lv_room (Nat.le_of_ble_eq_true rfl)) dX0_worthOfRaising_2 ⟨Nat.le_of_ble_eq_true rfl, Nat.le_of_ble_eq_true rfl⟩) ?_
  refine z_if_eq (tgt := 12) (P := pRe fo fh hz mv q = 0) hx hb dX0_worthOfRaising_5 (by decide) (nI_eq (a := pRe fo fh hz mv q) (b := 0) (by omega) (by omega)) (fun c5 => ?_) (fun c5 => ?_)
  · skip
    refine lv_aload_n hx hb dX0_worthOfRaising_12 rfl (lv_at hl 0 rfl) ?_
    refine va_get (D := D) (ci := 0) (v := .ref a2) (C := RX0) (T := TX0) (N := 8) hx hb hts in0 hown hK hP 0 rfl rfl 1 (by decide) fl15 (fun _ h9 => h9) rfl dX0_worthOfRaising_13 ?_
    refine lv_iload_n hx hb dX0_worthOfRaising_16 rfl (lv_at hl 1 rfl) ?_
    refine z_iald hx hb hK hP 2 0 rfl rfl (k := q) (rfl) (by omega) (by decide) dX0_worthOfRaising_17 ?_
    refine lv_istore_n (lv' := [(2, .int (fo q)), (0, .ref a0), (1, .int (nI q))]) hx hb dX0_worthOfRaising_18 rfl hl (by decide) rfl (fun ls hl => ?_)
    refine lv_aload_n hx hb dX0_worthOfRaising_19 rfl (lv_at hl 1 rfl) ?_
    refine va_get (D := D) (ci := 0) (v := .ref a1) (C := RX0) (T := TX0) (N := 8) hx hb hts in0 hown hK hP 0 rfl rfl 0 (by decide) fl9 (fun _ h9 => h9) rfl dX0_worthOfRaising_20 ?_
    refine lv_iload_n hx hb dX0_worthOfRaising_23 rfl (lv_at hl 2 rfl) ?_
    refine z_iald hx hb hK hP 1 0 rfl rfl (k := q) (rfl) (by omega) (by decide) dX0_worthOfRaising_24 ?_
    refine lv_istore_n (lv' := [(3, .int (fh q)), (2, .int (fo q)), (0, .ref a0), (1, .int (nI q))]) hx hb dX0_worthOfRaising_25 rfl hl (by decide) rfl (fun ls hl => ?_)
    refine lv_aload_n hx hb dX0_worthOfRaising_26 rfl (lv_at hl 2 rfl) ?_
    refine lv_iload_n hx hb dX0_worthOfRaising_27 rfl (lv_at hl 3 rfl) ?_
    refine lv_aload_n hx hb dX0_worthOfRaising_28 rfl (lv_at hl 2 rfl) ?_
    refine va_get (D := D) (ci := 0) (v := .int (nI mv)) (C := RX0) (T := TX0) (N := 8) hx hb hts in0 hown hK hP 0 rfl rfl 5 (by decide) fl34 (fun _ h9 => h9) rfl dX0_worthOfRaising_29 ?_
    refine lv_iload_n hx hb dX0_worthOfRaising_32 rfl (lv_at hl 0 rfl) ?_
    refine lv_iconst (v := 1) hx hb dX0_worthOfRaising_33 (by decide) ?_
    refine z_iadd (v := ((fh q) + 1)) hx hb dX0_worthOfRaising_34 (rfl) ?_
    refine z_cmv (wr := []) (ws' := [(a0, .inr (0, [.ref a1, .ref a2, .ref a3, .ref a4, .int (nI hz), .int (nI mv), .int tu, .int rf])), (a1, .inl (cI, 36, .inl (upd fh q ((fh q) + 1)))), (a2, .inl (cI, 36, .inl (upd fo q (nI mv)))), (a3, .inl (cI, 36, .inl fc)), (a4, .inl (cI, 2, .inl fs))]) (va_runV (As := [.int (nI q), .int (nI mv), .int ((fh q) + 1)]) (rest := []) ⟨hx, hb, hml, hown, hts⟩ (c_X0_putTower l D cI cZ cL _ (a0 := a0) (a1 := a1) (a2 := a2) (a3 := a3) (a4 := a4) (fh := fh) (fo := fo) (fc := fc) (fs := fs) (hz := hz) (mv := mv) (tu := tu) (rf := rf) (q := q) (ow := nI mv) (ht := ((fh q) + 1)) (hq := by omega)) (cwV 3 hts gX0_worthOfRaising_X0_putTower rfl rfl rfl (by decide +kernel) ⟨Nat.le_of_ble_eq_true rfl, Nat.le_of_ble_eq_true rfl⟩) (z_preMV hK (hP.sub [0, 1, 2, 3, 4] rfl) (hD.sub [0, 1, 2, 3, 4] (by decide) rfl) 0 0 rfl rfl) rfl rfl hl.1 rfl (lv_room (Nat.le_of_ble_eq_true rfl)) dX0_worthOfRaising_35 ⟨Nat.le_of_ble_eq_true rfl, Nat.le_of_ble_eq_true rfl⟩) hP hD hS hA [0, 1, 2, 3, 4] [] [0, 1, 2, 3, 4] rfl rfl (by decide) (by decide) rfl rfl (by decide) (fun H locs hP hD hS => ?_)
    refine lv_aload_n hx hb dX0_worthOfRaising_38 rfl (lv_at hl 2 rfl) ?_
    refine lv_aload_n hx hb dX0_worthOfRaising_39 rfl (lv_at hl 2 rfl) ?_
    refine va_get (D := D) (ci := 0) (v := .int (nI mv)) (C := RX0) (T := TX0) (N := 8) hx hb hts in0 hown hK hP 0 rfl rfl 5 (by decide) fl34 (fun _ h9 => h9) rfl dX0_worthOfRaising_40 ?_
    refine z_ci (va_runV (As := [.int (nI mv)]) (rest := []) ⟨hx, hb, hml, hown, hts⟩ (c_X0_payNow l D cI cZ cL (a0 := a0) (a1 := a1) (a2 := a2) (a3 := a3) (a4 := a4) (fh := (upd fh q ((fh q) + 1))) (fo := (upd fo q (nI mv))) (fc := fc) (fs := fs) (hz := hz) (mv := mv) (tu := tu) (rf := rf) (pl := mv) (hpl := by omega) (hhz := by omega)) (cwV 1 hts gX0_worthOfRaising_X0_payNow rfl rfl rfl (by decide +kernel) ⟨Nat.le_of_ble_eq_true rfl, Nat.le_of_ble_eq_true rfl⟩) (z_preV hK (hP.sub [0, 1, 2, 3, 4] rfl) 0 0 rfl rfl) rfl rfl hl.1 rfl (lv_room (Nat.le_of_ble_eq_true rfl)) dX0_worthOfRaising_43 ⟨Nat.le_of_ble_eq_true rfl, Nat.le_of_ble_eq_true rfl⟩) ?_
    refine lv_aload_n hx hb dX0_worthOfRaising_46 rfl (lv_at hl 2 rfl) ?_
    refine lv_iconst (v := 1) hx hb dX0_worthOfRaising_47 (by decide) ?_
    refine lv_aload_n hx hb dX0_worthOfRaising_48 rfl (lv_at hl 2 rfl) ?_
    refine va_get (D := D) (ci := 0) (v := .int (nI mv)) (C := RX0) (T := TX0) (N := 8) hx hb hts in0 hown hK hP 0 rfl rfl 5 (by decide) fl34 (fun _ h9 => h9) rfl dX0_worthOfRaising_49 ?_
    refine z_isub (v := nI (1 - mv)) hx hb dX0_worthOfRaising_52 (pk_sub (a := 1) (b := mv) (by omega)) ?_
    refine z_ci (va_runV (As := [.int (nI (1 - mv))]) (rest := [.int (pPy (upd fo q (nI mv)) (upd fh q ((fh q) + 1)) fc hz mv)]) ⟨hx, hb, hml, hown, hts⟩ (c_X0_payNow l D cI cZ cL (a0 := a0) (a1 := a1) (a2 := a2) (a3 := a3) (a4 := a4) (fh := (upd fh q ((fh q) + 1))) (fo := (upd fo q (nI mv))) (fc := fc) (fs := fs) (hz := hz) (mv := mv) (tu := tu) (rf := rf) (pl := (1 - mv)) (hpl := by omega) (hhz := by omega)) (cwV 1 hts gX0_worthOfRaising_X0_payNow rfl rfl rfl (by decide +kernel) ⟨Nat.le_of_ble_eq_true rfl, Nat.le_of_ble_eq_true rfl⟩) (z_preV hK (hP.sub [0, 1, 2, 3, 4] rfl) 0 0 rfl rfl) rfl rfl hl.1 rfl (lv_room (Nat.le_of_ble_eq_true rfl)) dX0_worthOfRaising_53 ⟨Nat.le_of_ble_eq_true rfl, Nat.le_of_ble_eq_true rfl⟩) ?_
    refine z_isub (v := ((pPy (upd fo q (nI mv)) (upd fh q ((fh q) + 1)) fc hz mv) - (pPy (upd fo q (nI mv)) (upd fh q ((fh q) + 1)) fc hz (1 - mv)))) hx hb dX0_worthOfRaising_56 (rfl) ?_
    refine lv_istore (lv' := [(4, .int ((pPy (upd fo q (nI mv)) (upd fh q ((fh q) + 1)) fc hz mv) - (pPy (upd fo q (nI mv)) (upd fh q ((fh q) + 1)) fc hz (1 - mv)))), (3, .int (fh q)), (2, .int (fo q)), (0, .ref a0), (1, .int (nI q))]) hx hb dX0_worthOfRaising_57 hl (by decide) rfl (fun ls hl => ?_)
    refine lv_aload_n hx hb dX0_worthOfRaising_59 rfl (lv_at hl 3 rfl) ?_
    refine lv_iload_n hx hb dX0_worthOfRaising_60 rfl (lv_at hl 4 rfl) ?_
    refine lv_iload_n hx hb dX0_worthOfRaising_61 rfl (lv_at hl 2 rfl) ?_
    refine lv_iload_n hx hb dX0_worthOfRaising_62 rfl (lv_at hl 1 rfl) ?_
    refine z_cmv (wr := []) (ws' := [(a0, .inr (0, [.ref a1, .ref a2, .ref a3, .ref a4, .int (nI hz), .int (nI mv), .int tu, .int rf])), (a1, .inl (cI, 36, .inl (upd (upd fh q ((fh q) + 1)) q (fh q)))), (a2, .inl (cI, 36, .inl (upd (upd fo q (nI mv)) q (fo q)))), (a3, .inl (cI, 36, .inl fc)), (a4, .inl (cI, 2, .inl fs))]) (va_runV (As := [.int (nI q), .int (fo q), .int (fh q)]) (rest := []) ⟨hx, hb, hml, hown, hts⟩ (c_X0_putTower l D cI cZ cL _ (a0 := a0) (a1 := a1) (a2 := a2) (a3 := a3) (a4 := a4) (fh := (upd fh q ((fh q) + 1))) (fo := (upd fo q (nI mv))) (fc := fc) (fs := fs) (hz := hz) (mv := mv) (tu := tu) (rf := rf) (q := q) (ow := fo q) (ht := fh q) (hq := by omega)) (cwV 3 hts gX0_worthOfRaising_X0_putTower rfl rfl rfl (by decide +kernel) ⟨Nat.le_of_ble_eq_true rfl, Nat.le_of_ble_eq_true rfl⟩) (z_preMV hK (hP.sub [0, 1, 2, 3, 4] rfl) (hD.sub [0, 1, 2, 3, 4] (by decide) rfl) 0 0 rfl rfl) rfl rfl hl.1 rfl (lv_room (Nat.le_of_ble_eq_true rfl)) dX0_worthOfRaising_63 ⟨Nat.le_of_ble_eq_true rfl, Nat.le_of_ble_eq_true rfl⟩) hP hD hS hA [0, 1, 2, 3, 4] [] [0, 1, 2, 3, 4] rfl rfl (by decide) (by decide) rfl rfl (by decide) (fun H locs hP hD hS => ?_)
    refine lv_iload hx hb dX0_worthOfRaising_66 (lv_at hl 0 rfl) ?_
    have hW9 : ([(a0, .inr (0, [.ref a1, .ref a2, .ref a3, .ref a4, .int (nI hz), .int (nI mv), .int tu, .int rf])), (a1, .inl (cI, 36, .inl (upd (upd fh q ((fh q) + 1)) q (fh q)))), (a2, .inl (cI, 36, .inl (upd (upd fo q (nI mv)) q (fo q)))), (a3, .inl (cI, 36, .inl fc)), (a4, .inl (cI, 2, .inl fs))] : va_W) = [(a0, .inr (0, [.ref a1, .ref a2, .ref a3, .ref a4, .int (nI hz), .int (nI mv), .int tu, .int rf])), (a1, .inl (cI, 36, .inl fh)), (a2, .inl (cI, 36, .inl fo)), (a3, .inl (cI, 36, .inl fc)), (a4, .inl (cI, 2, .inl fs))] := by simp [upd_back]
    rw [hW9] at hP hD
    have hP9 : va_P D vwCl [(a0, .inr (0, [.ref a1, .ref a2, .ref a3, .ref a4, .int (nI hz), .int (nI mv), .int tu, .int rf])), (a1, .inl (cI, 36, .inl fh)), (a2, .inl (cI, 36, .inl fo)), (a3, .inl (cI, 36, .inl fc)), (a4, .inl (cI, 2, .inl fs))] _ := hP
    have hD9 : va_D A [(a0, .inr (0, [.ref a1, .ref a2, .ref a3, .ref a4, .int (nI hz), .int (nI mv), .int tu, .int rf])), (a1, .inl (cI, 36, .inl fh)), (a2, .inl (cI, 36, .inl fo)), (a3, .inl (cI, 36, .inl fc)), (a4, .inl (cI, 2, .inl fs))] := hD
    subst hAe
    exact z_miret hx hb hr hlocks dX0_worthOfRaising_68 (by simp [cWo, c5]) hP9 hD9 hS
  · skip
    refine lv_sipush (v := (-999)) hx hb dX0_worthOfRaising_8 (by decide) ?_
    have hP9 : va_P D vwCl [(a0, .inr (0, [.ref a1, .ref a2, .ref a3, .ref a4, .int (nI hz), .int (nI mv), .int tu, .int rf])), (a1, .inl (cI, 36, .inl fh)), (a2, .inl (cI, 36, .inl fo)), (a3, .inl (cI, 36, .inl fc)), (a4, .inl (cI, 2, .inl fs))] _ := hP
    have hD9 : va_D A [(a0, .inr (0, [.ref a1, .ref a2, .ref a3, .ref a4, .int (nI hz), .int (nI mv), .int tu, .int rf])), (a1, .inl (cI, 36, .inl fh)), (a2, .inl (cI, 36, .inl fo)), (a3, .inl (cI, 36, .inl fc)), (a4, .inl (cI, 2, .inl fs))] := hD
    subst hAe
    exact z_miret hx hb hr hlocks dX0_worthOfRaising_11 (by simp [cWo, c5]) hP9 hD9 hS

set_option maxHeartbeats 4000000 in
set_option maxRecDepth 100000 in
/-- a sign added -/
theorem c_X1_add (l : Launch) (D : va_G) (cI cZ cL : ClassId) (sz : Nat) (b0 : Nat) (b1 : Nat) (fx : Nat → Int32) (ln : Nat) (p0 : Int32) (hl6 : ln < 60) : Met l yX1_add wsX1_add ({ frames := 0, cells := 0, slots := 0, locals := 0 }) (va_Pc [.ref b0, .int p0] (zM D cI cZ cL [(b0, .inr (1, [.ref b1, .int (nI ln)])), (b1, .inl (cI, 60, .inl fx))] sz)) (zQmv D [(b0, .inr (1, [.ref b1, .int (nI ln)])), (b1, .inl (cI, 60, .inl fx))] [(b0, .inr (1, [.ref b1, .int (nI (ln + 1))])), (b1, .inl (cI, 60, .inl (upd fx ln p0)))] sz) 0 0 (va_A [(b0, .inr (1, [.ref b1, .int (nI ln)])), (b1, .inl (cI, 60, .inl fx))] sz) := by
  refine Met.ofW (cc := cX1_add) (maxL := 2) (ret := none) (by decide) rfl ?_
  intro p e s m args below meth c s₁ B hml hv
  obtain ⟨rfl, hsz, ⟨hP, hK⟩, hD0⟩ := hv
  have hx := B.exec
  have hb := B.bytes
  have hr := B.returns
  have hts := atoms_spec (ws := wsX1_add) B.pre
  have hown : s.vm.findClass RX1 = some m.cls := findClass_of_methodNamed B.named
  have hlocks := B.notSynchronized
  subst hsz
  have hD := hD0.self (sz := s.heap.size)
  generalize hAe : va_A [(b0, .inr (1, [.ref b1, .int (nI ln)])), (b1, .inl (cI, 60, .inl fx))] s.heap.size = A at hD ⊢
  have hA : ∀ q : Nat, s.heap.size ≤ q → A q := fun q h => by rw [← hAe]; exact Or.inr h
  have hS : va_S A s.heap s.heap [] := va_S.rf
  have in1 : ∀ w ∈ u_ws RX1 TX1 2, w ∈ wsX1_add := by decide +kernel
  have fl11 := hts (.fieldLink RX1 11 "TowerShades$FieldText" "codes" "[I") (by decide +kernel)
  have fl15 := hts (.fieldLink RX1 15 "TowerShades$FieldText" "length" "I") (by decide +kernel)
  have hl := lv_entry ([.ref b0, .int p0]) (n := 2) (Nat.le_of_ble_eq_true rfl)
  rw [lg_entry_eq]
  generalize (lg_sl ([.ref b0, .int p0]) ++ List.replicate (2 - (lg_sl ([.ref b0, .int p0])).length) Slot.unset).toArray = ls at hl ⊢
  have hl : lv_has ls 2 [(0, .ref b0), (1, .int p0)] := hl
  refine lv_aload_n hx hb dX1_add_0 rfl (lv_at hl 0 rfl) ?_
  refine va_get (D := D) (ci := 1) (v := .ref b1) (C := RX1) (T := TX1) (N := 2) hx hb hts in1 hown hK hP 0 rfl rfl 0 (by decide) fl11 (fun _ h9 => h9) rfl dX1_add_1 ?_
  refine lv_aload_n hx hb dX1_add_4 rfl (lv_at hl 0 rfl) ?_
  refine va_get (D := D) (ci := 1) (v := .int (nI ln)) (C := RX1) (T := TX1) (N := 2) hx hb hts in1 hown hK hP 0 rfl rfl 1 (by decide) fl15 (fun _ h9 => h9) rfl dX1_add_5 ?_
  refine lv_iload_n hx hb dX1_add_8 rfl (lv_at hl 1 rfl) ?_
  refine z_iast hx hb hK hP hD hS 1 0 rfl rfl (k := ln) (rfl) (by omega) (by decide) dX1_add_9 (g := upd fx ln p0) (rfl) (fun H locs hP hD hS => ?_)
  have hP : va_P D vwCl [(b0, .inr (1, [.ref b1, .int (nI ln)])), (b1, .inl (cI, 60, .inl (upd fx ln p0)))] _ := hP
  have hD : va_D A [(b0, .inr (1, [.ref b1, .int (nI ln)])), (b1, .inl (cI, 60, .inl (upd fx ln p0)))] := hD
  refine lv_aload_n hx hb dX1_add_10 rfl (lv_at hl 0 rfl) ?_
  refine lv_dup hx hb dX1_add_11 rfl ?_
  refine va_get (D := D) (ci := 1) (v := .int (nI ln)) (C := RX1) (T := TX1) (N := 2) hx hb hts in1 hown hK hP 0 rfl rfl 1 (by decide) fl15 (fun _ h9 => h9) rfl dX1_add_12 ?_
  refine lv_iconst (v := 1) hx hb dX1_add_15 (by decide) ?_
  refine z_iadd (v := nI (ln + 1)) hx hb dX1_add_16 (nI_add (ln) (1)) ?_
  refine va_put (D := D) (ci := 1) (v := .int (nI (ln + 1))) (ty := .int) (C := RX1) (T := TX1) (N := 2) hx hb hts in1 tyX1 tyX1_ok nmX1 hown hK hP hD hS 0 rfl rfl 1 (by decide) fl15 (fun _ h9 => h9) rfl (by decide +kernel) rfl rfl (Nat.le_of_ble_eq_true rfl) dX1_add_17 (fun H locs hP hD hS => ?_)
  have hP : va_P D vwCl [(b0, .inr (1, [.ref b1, .int (nI (ln + 1))])), (b1, .inl (cI, 60, .inl (upd fx ln p0)))] _ := hP
  have hD : va_D A [(b0, .inr (1, [.ref b1, .int (nI (ln + 1))])), (b1, .inl (cI, 60, .inl (upd fx ln p0)))] := hD
  have hP9 : va_P D vwCl [(b0, .inr (1, [.ref b1, .int (nI (ln + 1))])), (b1, .inl (cI, 60, .inl (upd fx ln p0)))] _ := hP
  have hD9 : va_D A [(b0, .inr (1, [.ref b1, .int (nI (ln + 1))])), (b1, .inl (cI, 60, .inl (upd fx ln p0)))] := hD
  subst hAe
  exact z_mvret hx hb hr hlocks dX1_add_20 hP9 hD9 hS

set_option maxHeartbeats 4000000 in
set_option maxRecDepth 100000 in
/-- a state saved -/
theorem c_X2_push (l : Launch) (D : va_G) (cI cZ cL : ClassId) (sz : Nat) (d0 : Nat) (d1 : Nat) (fn : Nat → Int32) (od : Nat) (sz6 : Nat) (a0 : Nat) (a1 : Nat) (a2 : Nat) (a3 : Nat) (a4 : Nat) (fh : Nat → Int32) (fo : Nat → Int32) (fc : Nat → Int32) (fs : Nat → Int32) (hz : Nat) (mv : Nat) (tu : Int32) (rf : Int32) (hod : od < 6) (hs6 : sz6 < 7) : Met l yX2_push wsX2_push ({ frames := 2, cells := 0, slots := 0, locals := 63 }) (va_Pc [.ref d0, .ref a0] (zM D cI cZ cL [(d0, .inr (2, [.ref d1, .int (nI od), .int (nI sz6)])), (d1, .inl (cI, 684, .inl fn)), (a0, .inr (0, [.ref a1, .ref a2, .ref a3, .ref a4, .int (nI hz), .int (nI mv), .int tu, .int rf])), (a1, .inl (cI, 36, .inl fh)), (a2, .inl (cI, 36, .inl fo)), (a3, .inl (cI, 36, .inl fc)), (a4, .inl (cI, 2, .inl fs))] sz)) (zQmv D [(d0, .inr (2, [.ref d1, .int (nI od), .int (nI sz6)])), (d1, .inl (cI, 684, .inl fn)), (a0, .inr (0, [.ref a1, .ref a2, .ref a3, .ref a4, .int (nI hz), .int (nI mv), .int tu, .int rf])), (a1, .inl (cI, 36, .inl fh)), (a2, .inl (cI, 36, .inl fo)), (a3, .inl (cI, 36, .inl fc)), (a4, .inl (cI, 2, .inl fs))] [(d0, .inr (2, [.ref d1, .int (nI (pRo od sz6)), .int (nI (pRz sz6))])), (d1, .inl (cI, 684, .inl (va_cpy (cG fh fo fc fs hz mv tu rf) fn 0 ((od + sz6) % 6 * 114) 114))), (a0, .inr (0, [.ref a1, .ref a2, .ref a3, .ref a4, .int (nI hz), .int (nI mv), .int tu, .int rf])), (a1, .inl (cI, 36, .inl fh)), (a2, .inl (cI, 36, .inl fo)), (a3, .inl (cI, 36, .inl fc)), (a4, .inl (cI, 2, .inl fs))] sz) 0 0 (va_A [(d0, .inr (2, [.ref d1, .int (nI od), .int (nI sz6)])), (d1, .inl (cI, 684, .inl fn)), (a0, .inr (0, [.ref a1, .ref a2, .ref a3, .ref a4, .int (nI hz), .int (nI mv), .int tu, .int rf])), (a1, .inl (cI, 36, .inl fh)), (a2, .inl (cI, 36, .inl fo)), (a3, .inl (cI, 36, .inl fc)), (a4, .inl (cI, 2, .inl fs))] sz) := by
  refine Met.ofW (cc := cX2_push) (maxL := 2) (ret := none) (by decide) rfl ?_
  intro p e s m args below meth c s₁ B hml hv
  obtain ⟨rfl, hsz, ⟨hP, hK⟩, hD0⟩ := hv
  have hx := B.exec
  have hb := B.bytes
  have hr := B.returns
  have hts := atoms_spec (ws := wsX2_push) B.pre
  have hown : s.vm.findClass RX2 = some m.cls := findClass_of_methodNamed B.named
  have hlocks := B.notSynchronized
  subst hsz
  have hD := hD0.self (sz := s.heap.size)
  generalize hAe : va_A [(d0, .inr (2, [.ref d1, .int (nI od), .int (nI sz6)])), (d1, .inl (cI, 684, .inl fn)), (a0, .inr (0, [.ref a1, .ref a2, .ref a3, .ref a4, .int (nI hz), .int (nI mv), .int tu, .int rf])), (a1, .inl (cI, 36, .inl fh)), (a2, .inl (cI, 36, .inl fo)), (a3, .inl (cI, 36, .inl fc)), (a4, .inl (cI, 2, .inl fs))] s.heap.size = A at hD ⊢
  have hA : ∀ q : Nat, s.heap.size ≤ q → A q := fun q h => by rw [← hAe]; exact Or.inr h
  have hS : va_S A s.heap s.heap [] := va_S.rf
  have in2 : ∀ w ∈ u_ws RX2 TX2 3, w ∈ wsX2_push := by decide +kernel
  have fl11 := hts (.fieldLink RX2 11 "TowerShades$SavedStates" "numbers" "[I") (by decide +kernel)
  have fl15 := hts (.fieldLink RX2 15 "TowerShades$SavedStates" "size" "I") (by decide +kernel)
  have fl27 := hts (.fieldLink RX2 27 "TowerShades$SavedStates" "oldest" "I") (by decide +kernel)
  have hl := lv_entry ([.ref d0, .ref a0]) (n := 2) (Nat.le_of_ble_eq_true rfl)
  rw [lg_entry_eq]
  generalize (lg_sl ([.ref d0, .ref a0]) ++ List.replicate (2 - (lg_sl ([.ref d0, .ref a0])).length) Slot.unset).toArray = ls at hl ⊢
  have hl : lv_has ls 2 [(0, .ref d0), (1, .ref a0)] := hl
  refine lv_aload_n hx hb dX2_push_0 rfl (lv_at hl 1 rfl) ?_
  refine lv_aload_n hx hb dX2_push_1 rfl (lv_at hl 0 rfl) ?_
  refine va_get (D := D) (ci := 2) (v := .ref d1) (C := RX2) (T := TX2) (N := 3) hx hb hts in2 hown hK hP 0 rfl rfl 0 (by decide) fl11 (fun _ h9 => h9) rfl dX2_push_2 ?_
  refine lv_aload_n hx hb dX2_push_5 rfl (lv_at hl 0 rfl) ?_
  refine lv_aload_n hx hb dX2_push_6 rfl (lv_at hl 0 rfl) ?_
  refine va_get (D := D) (ci := 2) (v := .int (nI sz6)) (C := RX2) (T := TX2) (N := 3) hx hb hts in2 hown hK hP 0 rfl rfl 2 (by decide) fl15 (fun _ h9 => h9) rfl dX2_push_7 ?_
  refine z_ci (va_runV (As := [.int (nI sz6)]) (rest := [.ref d1, .ref a0]) ⟨hx, hb, hml, hown, hts⟩ (c_X2_place l D cI cZ cL (d0 := d0) (d1 := d1) (fn := fn) (od := od) (sz6 := sz6) (ag := sz6) (hod := by omega) (hag := by omega)) (cwV 1 hts gX2_push_X2_place rfl rfl rfl (by decide +kernel) ⟨Nat.le_of_ble_eq_true rfl, Nat.le_of_ble_eq_true rfl⟩) (z_preV hK (hP.sub [0, 1] rfl) 0 2 rfl rfl) rfl rfl hl.1 rfl (lv_room (Nat.le_of_ble_eq_true rfl)) dX2_push_10 ⟨Nat.le_of_ble_eq_true rfl, Nat.le_of_ble_eq_true rfl⟩) ?_
  refine z_cmv (wr := [(d0, .inr (2, [.ref d1, .int (nI od), .int (nI sz6)]))]) (ws' := [(d0, .inr (2, [.ref d1, .int (nI od), .int (nI sz6)])), (d1, .inl (cI, 684, .inl (va_cpy (cG fh fo fc fs hz mv tu rf) fn 0 ((od + sz6) % 6 * 114) 114))), (a0, .inr (0, [.ref a1, .ref a2, .ref a3, .ref a4, .int (nI hz), .int (nI mv), .int tu, .int rf])), (a1, .inl (cI, 36, .inl fh)), (a2, .inl (cI, 36, .inl fo)), (a3, .inl (cI, 36, .inl fc)), (a4, .inl (cI, 2, .inl fs))]) (va_runV (As := [.ref d1, .int (nI ((od + sz6) % 6 * 114))]) (rest := []) ⟨hx, hb, hml, hown, hts⟩ (c_X0_writeTo l D cI cZ cL _ (a0 := a0) (a1 := a1) (a2 := a2) (a3 := a3) (a4 := a4) (fh := fh) (fo := fo) (fc := fc) (fs := fs) (hz := hz) (mv := mv) (tu := tu) (rf := rf) (t0 := d1) (nn := 684) (fn := fn) (st0 := ((od + sz6) % 6 * 114)) (hst := by omega) (hnn := by omega)) (cwV 2 hts gX2_push_X0_writeTo rfl rfl rfl (by decide +kernel) ⟨Nat.le_of_ble_eq_true rfl, Nat.le_of_ble_eq_true rfl⟩) (z_preMV hK (hP.sub [2, 3, 4, 5, 6, 1] rfl) (hD.sub [2, 3, 4, 5, 6, 1] (by decide) rfl) 0 0 rfl rfl) rfl rfl hl.1 rfl (lv_room (Nat.le_of_ble_eq_true rfl)) dX2_push_13 ⟨Nat.le_of_ble_eq_true rfl, Nat.le_of_ble_eq_true rfl⟩) hP hD hS hA [2, 3, 4, 5, 6, 1] [0] [0, 6, 1, 2, 3, 4, 5] rfl rfl (by decide) (by decide) rfl rfl (by decide) (fun H locs hP hD hS => ?_)
  refine lv_aload_n hx hb dX2_push_16 rfl (lv_at hl 0 rfl) ?_
  refine va_get (D := D) (ci := 2) (v := .int (nI sz6)) (C := RX2) (T := TX2) (N := 3) hx hb hts in2 hown hK hP 0 rfl rfl 2 (by decide) fl15 (fun _ h9 => h9) rfl dX2_push_17 ?_
  refine lv_bipush (v := 6) hx hb dX2_push_20 (by decide) ?_
  refine z_icmp_ge (tgt := 38) (P := 6 ≤ sz6) hx hb dX2_push_22 (by decide) (nI_leI (a := 6) (b := sz6) (by omega) (by omega)) (fun c22 => ?_) (fun c22 => ?_)
  · skip
    refine lv_aload_n hx hb dX2_push_38 rfl (lv_at hl 0 rfl) ?_
    refine lv_aload_n hx hb dX2_push_39 rfl (lv_at hl 0 rfl) ?_
    refine va_get (D := D) (ci := 2) (v := .int (nI od)) (C := RX2) (T := TX2) (N := 3) hx hb hts in2 hown hK hP 0 rfl rfl 1 (by decide) fl27 (fun _ h9 => h9) rfl dX2_push_40 ?_
    refine lv_iconst (v := 1) hx hb dX2_push_43 (by decide) ?_
    refine z_iadd (v := nI (od + 1)) hx hb dX2_push_44 (nI_add (od) (1)) ?_
    refine lv_bipush (v := 6) hx hb dX2_push_45 (by decide) ?_
    refine z_irem (v := nI ((od + 1) % 6)) hx hb dX2_push_47 (by decide) (pk_rem (a := (od + 1)) (d := 6) (by omega) (by omega) (by omega)) ?_
    refine va_put (D := D) (ci := 2) (v := .int (nI ((od + 1) % 6))) (ty := .int) (C := RX2) (T := TX2) (N := 3) hx hb hts in2 tyX2 tyX2_ok nmX2 hown hK hP hD hS 0 rfl rfl 1 (by decide) fl27 (fun _ h9 => h9) rfl (by decide +kernel) rfl rfl (Nat.le_of_ble_eq_true rfl) dX2_push_48 (fun H locs hP hD hS => ?_)
    have hP : va_P D vwCl [(d0, .inr (2, [.ref d1, .int (nI ((od + 1) % 6)), .int (nI sz6)])), (d1, .inl (cI, 684, .inl (va_cpy (cG fh fo fc fs hz mv tu rf) fn 0 ((od + sz6) % 6 * 114) 114))), (a0, .inr (0, [.ref a1, .ref a2, .ref a3, .ref a4, .int (nI hz), .int (nI mv), .int tu, .int rf])), (a1, .inl (cI, 36, .inl fh)), (a2, .inl (cI, 36, .inl fo)), (a3, .inl (cI, 36, .inl fc)), (a4, .inl (cI, 2, .inl fs))] _ := hP
    have hD : va_D A [(d0, .inr (2, [.ref d1, .int (nI ((od + 1) % 6)), .int (nI sz6)])), (d1, .inl (cI, 684, .inl (va_cpy (cG fh fo fc fs hz mv tu rf) fn 0 ((od + sz6) % 6 * 114) 114))), (a0, .inr (0, [.ref a1, .ref a2, .ref a3, .ref a4, .int (nI hz), .int (nI mv), .int tu, .int rf])), (a1, .inl (cI, 36, .inl fh)), (a2, .inl (cI, 36, .inl fo)), (a3, .inl (cI, 36, .inl fc)), (a4, .inl (cI, 2, .inl fs))] := hD
    have hW9 : ([(d0, .inr (2, [.ref d1, .int (nI ((od + 1) % 6)), .int (nI sz6)])), (d1, .inl (cI, 684, .inl (va_cpy (cG fh fo fc fs hz mv tu rf) fn 0 ((od + sz6) % 6 * 114) 114))), (a0, .inr (0, [.ref a1, .ref a2, .ref a3, .ref a4, .int (nI hz), .int (nI mv), .int tu, .int rf])), (a1, .inl (cI, 36, .inl fh)), (a2, .inl (cI, 36, .inl fo)), (a3, .inl (cI, 36, .inl fc)), (a4, .inl (cI, 2, .inl fs))] : va_W) = [(d0, .inr (2, [.ref d1, .int (nI (pRo od sz6)), .int (nI (pRz sz6))])), (d1, .inl (cI, 684, .inl (va_cpy (cG fh fo fc fs hz mv tu rf) fn 0 ((od + sz6) % 6 * 114) 114))), (a0, .inr (0, [.ref a1, .ref a2, .ref a3, .ref a4, .int (nI hz), .int (nI mv), .int tu, .int rf])), (a1, .inl (cI, 36, .inl fh)), (a2, .inl (cI, 36, .inl fo)), (a3, .inl (cI, 36, .inl fc)), (a4, .inl (cI, 2, .inl fs))] := by rw [pRo, pRz]; first | rw [if_pos (by omega), if_pos (by omega)] | rw [if_neg (by omega), if_neg (by omega)]
    rw [hW9] at hP hD
    have hP9 : va_P D vwCl [(d0, .inr (2, [.ref d1, .int (nI (pRo od sz6)), .int (nI (pRz sz6))])), (d1, .inl (cI, 684, .inl (va_cpy (cG fh fo fc fs hz mv tu rf) fn 0 ((od + sz6) % 6 * 114) 114))), (a0, .inr (0, [.ref a1, .ref a2, .ref a3, .ref a4, .int (nI hz), .int (nI mv), .int tu, .int rf])), (a1, .inl (cI, 36, .inl fh)), (a2, .inl (cI, 36, .inl fo)), (a3, .inl (cI, 36, .inl fc)), (a4, .inl (cI, 2, .inl fs))] _ := hP
    have hD9 : va_D A [(d0, .inr (2, [.ref d1, .int (nI (pRo od sz6)), .int (nI (pRz sz6))])), (d1, .inl (cI, 684, .inl (va_cpy (cG fh fo fc fs hz mv tu rf) fn 0 ((od + sz6) % 6 * 114) 114))), (a0, .inr (0, [.ref a1, .ref a2, .ref a3, .ref a4, .int (nI hz), .int (nI mv), .int tu, .int rf])), (a1, .inl (cI, 36, .inl fh)), (a2, .inl (cI, 36, .inl fo)), (a3, .inl (cI, 36, .inl fc)), (a4, .inl (cI, 2, .inl fs))] := hD
    subst hAe
    exact z_mvret hx hb hr hlocks dX2_push_51 hP9 hD9 hS
  · skip
    refine lv_aload_n hx hb dX2_push_25 rfl (lv_at hl 0 rfl) ?_
    refine lv_dup hx hb dX2_push_26 rfl ?_
    refine va_get (D := D) (ci := 2) (v := .int (nI sz6)) (C := RX2) (T := TX2) (N := 3) hx hb hts in2 hown hK hP 0 rfl rfl 2 (by decide) fl15 (fun _ h9 => h9) rfl dX2_push_27 ?_
    refine lv_iconst (v := 1) hx hb dX2_push_30 (by decide) ?_
    refine z_iadd (v := nI (sz6 + 1)) hx hb dX2_push_31 (nI_add (sz6) (1)) ?_
    refine va_put (D := D) (ci := 2) (v := .int (nI (sz6 + 1))) (ty := .int) (C := RX2) (T := TX2) (N := 3) hx hb hts in2 tyX2 tyX2_ok nmX2 hown hK hP hD hS 0 rfl rfl 2 (by decide) fl15 (fun _ h9 => h9) rfl (by decide +kernel) rfl rfl (Nat.le_of_ble_eq_true rfl) dX2_push_32 (fun H locs hP hD hS => ?_)
    have hP : va_P D vwCl [(d0, .inr (2, [.ref d1, .int (nI od), .int (nI (sz6 + 1))])), (d1, .inl (cI, 684, .inl (va_cpy (cG fh fo fc fs hz mv tu rf) fn 0 ((od + sz6) % 6 * 114) 114))), (a0, .inr (0, [.ref a1, .ref a2, .ref a3, .ref a4, .int (nI hz), .int (nI mv), .int tu, .int rf])), (a1, .inl (cI, 36, .inl fh)), (a2, .inl (cI, 36, .inl fo)), (a3, .inl (cI, 36, .inl fc)), (a4, .inl (cI, 2, .inl fs))] _ := hP
    have hD : va_D A [(d0, .inr (2, [.ref d1, .int (nI od), .int (nI (sz6 + 1))])), (d1, .inl (cI, 684, .inl (va_cpy (cG fh fo fc fs hz mv tu rf) fn 0 ((od + sz6) % 6 * 114) 114))), (a0, .inr (0, [.ref a1, .ref a2, .ref a3, .ref a4, .int (nI hz), .int (nI mv), .int tu, .int rf])), (a1, .inl (cI, 36, .inl fh)), (a2, .inl (cI, 36, .inl fo)), (a3, .inl (cI, 36, .inl fc)), (a4, .inl (cI, 2, .inl fs))] := hD
    refine lv_goto (tgt := 51) hx hb dX2_push_35 (by decide) ?_
    have hW9 : ([(d0, .inr (2, [.ref d1, .int (nI od), .int (nI (sz6 + 1))])), (d1, .inl (cI, 684, .inl (va_cpy (cG fh fo fc fs hz mv tu rf) fn 0 ((od + sz6) % 6 * 114) 114))), (a0, .inr (0, [.ref a1, .ref a2, .ref a3, .ref a4, .int (nI hz), .int (nI mv), .int tu, .int rf])), (a1, .inl (cI, 36, .inl fh)), (a2, .inl (cI, 36, .inl fo)), (a3, .inl (cI, 36, .inl fc)), (a4, .inl (cI, 2, .inl fs))] : va_W) = [(d0, .inr (2, [.ref d1, .int (nI (pRo od sz6)), .int (nI (pRz sz6))])), (d1, .inl (cI, 684, .inl (va_cpy (cG fh fo fc fs hz mv tu rf) fn 0 ((od + sz6) % 6 * 114) 114))), (a0, .inr (0, [.ref a1, .ref a2, .ref a3, .ref a4, .int (nI hz), .int (nI mv), .int tu, .int rf])), (a1, .inl (cI, 36, .inl fh)), (a2, .inl (cI, 36, .inl fo)), (a3, .inl (cI, 36, .inl fc)), (a4, .inl (cI, 2, .inl fs))] := by rw [pRo, pRz]; first | rw [if_pos (by omega), if_pos (by omega)] | rw [if_neg (by omega), if_neg (by omega)]
    rw [hW9] at hP hD
    have hP9 : va_P D vwCl [(d0, .inr (2, [.ref d1, .int (nI (pRo od sz6)), .int (nI (pRz sz6))])), (d1, .inl (cI, 684, .inl (va_cpy (cG fh fo fc fs hz mv tu rf) fn 0 ((od + sz6) % 6 * 114) 114))), (a0, .inr (0, [.ref a1, .ref a2, .ref a3, .ref a4, .int (nI hz), .int (nI mv), .int tu, .int rf])), (a1, .inl (cI, 36, .inl fh)), (a2, .inl (cI, 36, .inl fo)), (a3, .inl (cI, 36, .inl fc)), (a4, .inl (cI, 2, .inl fs))] _ := hP
    have hD9 : va_D A [(d0, .inr (2, [.ref d1, .int (nI (pRo od sz6)), .int (nI (pRz sz6))])), (d1, .inl (cI, 684, .inl (va_cpy (cG fh fo fc fs hz mv tu rf) fn 0 ((od + sz6) % 6 * 114) 114))), (a0, .inr (0, [.ref a1, .ref a2, .ref a3, .ref a4, .int (nI hz), .int (nI mv), .int tu, .int rf])), (a1, .inl (cI, 36, .inl fh)), (a2, .inl (cI, 36, .inl fo)), (a3, .inl (cI, 36, .inl fc)), (a4, .inl (cI, 2, .inl fs))] := hD
    subst hAe
    exact z_mvret hx hb hr hlocks dX2_push_51 hP9 hD9 hS
