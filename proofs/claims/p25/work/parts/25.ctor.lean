set_option maxHeartbeats 4000000 in
set_option maxRecDepth 100000 in
/-- a new field -/
theorem c_X0_init (l : Launch) (D : va_G) (cI cZ cL : ClassId) (sz : Nat) (a0 : Nat) : Met l yX0_init wsX0_init ({ frames := 1, cells := 4, slots := 110, locals := 12 }) (va_Pc [.ref a0] (zM D cI cZ cL [(a0, .inr (0, [.null, .null, .null, .null, .int 0, .int 0, .int 0, .int 0]))] sz)) (zQc (S := Nat × Nat × Nat × Nat) D [(a0, .inr (0, [.null, .null, .null, .null, .int 0, .int 0, .int 0, .int 0]))] sz (fun u => [(a0, .inr (0, [.ref u.1, .ref u.2.1, .ref u.2.2.1, .ref u.2.2.2, .int (nI 0), .int (nI 0), .int 0, .int 0])), (u.1, .inl (cI, 36, .inl (fun _ => (0 : Int32)))), (u.2.1, .inl (cI, 36, .inl (pIn (-1) 36))), (u.2.2.1, .inl (cI, 36, .inl (pIn 1 36))), (u.2.2.2, .inl (cI, 2, .inl (fun _ => (0 : Int32))))])) 4 110 (va_A [(a0, .inr (0, [.null, .null, .null, .null, .int 0, .int 0, .int 0, .int 0]))] sz) := by
  refine Met.ofW (cc := cX0_init) (maxL := 2) (ret := none) (by decide) rfl ?_
  intro p e s m args below meth c s₁ B hml hv
  obtain ⟨rfl, hsz, ⟨hP, hK⟩, hD0⟩ := hv
  have hx := B.exec
  have hb := B.bytes
  have hr := B.returns
  have hts := atoms_spec (ws := wsX0_init) B.pre
  have hown : s.vm.findClass RX0 = some m.cls := findClass_of_methodNamed B.named
  have hlocks := B.notSynchronized
  have hin : meth.name = "<init>" := (name_of_methodNamed B.named B.method).1
  subst hsz
  have hD := hD0.self (sz := s.heap.size)
  generalize hAe : va_A [(a0, .inr (0, [.null, .null, .null, .null, .int 0, .int 0, .int 0, .int 0]))] s.heap.size = A at hD ⊢
  have hA : ∀ q : Nat, s.heap.size ≤ q → A q := fun q h => by rw [← hAe]; exact Or.inr h
  have hS : va_S A s.heap s.heap [] := va_S.rf
  have in0 : ∀ w ∈ u_ws RX0 TX0 8, w ∈ wsX0_init := by decide +kernel
  have fl9 := hts (.fieldLink RX0 9 "TowerShades$Field" "heights" "[I") (by decide +kernel)
  have fl15 := hts (.fieldLink RX0 15 "TowerShades$Field" "owners" "[I") (by decide +kernel)
  have fl18 := hts (.fieldLink RX0 18 "TowerShades$Field" "crowds" "[I") (by decide +kernel)
  have fl21 := hts (.fieldLink RX0 21 "TowerShades$Field" "scores" "[I") (by decide +kernel)
  have hl := lv_entry ([.ref a0]) (n := 2) (Nat.le_of_ble_eq_true rfl)
  rw [lg_entry_eq]
  generalize (lg_sl ([.ref a0]) ++ List.replicate (2 - (lg_sl ([.ref a0])).length) Slot.unset).toArray = ls at hl ⊢
  have hl : lv_has ls 2 [(0, .ref a0)] := hl
  refine lv_aload_n hx hb dX0_init_0 rfl (lv_at hl 0 rfl) ?_
  refine W.objInit hx hb hown (hts (.methodLink RX0 3 objectInit) (by decide +kernel)) (hts (.instanceMethod objectInit) (by decide +kernel)) (hts (.code objectInit ⟨#[0xb1]⟩ 1 none) (by decide +kernel)) rfl (by rw [hml]; exact hl.1) rfl dX0_init_1 (Nat.le_of_ble_eq_true rfl) (Nat.le_of_ble_eq_true rfl) ?_
  refine W.eq (g2 := F0 m 4 ls []) rfl ?_
  refine lv_aload_n hx hb dX0_init_4 rfl (lv_at hl 0 rfl) ?_
  refine lv_bipush (v := 36) hx hb dX0_init_5 (by decide) ?_
  refine z_new hx hb (atype := .int) (hts (.arrayClass .int) (by decide +kernel)) rfl hK hP hD hS hA 0 rfl (fun C h => by cases h) (N' := 36) (a0 := (36, .inl (fun _ => (0 : Int32)))) (fun _ => rfl) (by decide) (by decide) (Nat.le_of_ble_eq_true rfl) (Nat.le_of_ble_eq_true rfl) (Nat.le_of_ble_eq_true rfl) dX0_init_7 (fun q_1 H hP hD hS => ?_)
  have hP : va_P D vwCl [(a0, .inr (0, [.null, .null, .null, .null, .int 0, .int 0, .int 0, .int 0])), (q_1, .inl (cI, 36, .inl (fun _ => (0 : Int32))))] _ := hP
  have hD : va_D A [(a0, .inr (0, [.null, .null, .null, .null, .int 0, .int 0, .int 0, .int 0])), (q_1, .inl (cI, 36, .inl (fun _ => (0 : Int32))))] := hD
  refine va_putF (D := D) (ci := 0) (v := .ref q_1) (ty := .array .int) (C := RX0) (T := TX0) (N := 8) hx hb hts in0 tyX0 tyX0_ok nmX0 hown hK hP hD hS 0 rfl rfl 0 (by decide) fl9 (fun _ h9 => h9) rfl hin rfl (by decide +kernel) rfl rfl (Nat.le_of_ble_eq_true rfl) dX0_init_9 (fun H locs hP hD hS => ?_)
  have hP : va_P D vwCl [(a0, .inr (0, [.ref q_1, .null, .null, .null, .int 0, .int 0, .int 0, .int 0])), (q_1, .inl (cI, 36, .inl (fun _ => (0 : Int32))))] _ := hP
  have hD : va_D A [(a0, .inr (0, [.ref q_1, .null, .null, .null, .int 0, .int 0, .int 0, .int 0])), (q_1, .inl (cI, 36, .inl (fun _ => (0 : Int32))))] := hD
  refine lv_aload_n hx hb dX0_init_12 rfl (lv_at hl 0 rfl) ?_
  refine lv_bipush (v := 36) hx hb dX0_init_13 (by decide) ?_
  refine z_new hx hb (atype := .int) (hts (.arrayClass .int) (by decide +kernel)) rfl hK hP hD hS hA 0 rfl (fun C h => by cases h) (N' := 36) (a0 := (36, .inl (fun _ => (0 : Int32)))) (fun _ => rfl) (by decide) (by decide) (Nat.le_of_ble_eq_true rfl) (Nat.le_of_ble_eq_true rfl) (Nat.le_of_ble_eq_true rfl) dX0_init_15 (fun q_2 H hP hD hS => ?_)
  have hP : va_P D vwCl [(a0, .inr (0, [.ref q_1, .null, .null, .null, .int 0, .int 0, .int 0, .int 0])), (q_1, .inl (cI, 36, .inl (fun _ => (0 : Int32)))), (q_2, .inl (cI, 36, .inl (fun _ => (0 : Int32))))] _ := hP
  have hD : va_D A [(a0, .inr (0, [.ref q_1, .null, .null, .null, .int 0, .int 0, .int 0, .int 0])), (q_1, .inl (cI, 36, .inl (fun _ => (0 : Int32)))), (q_2, .inl (cI, 36, .inl (fun _ => (0 : Int32))))] := hD
  refine va_putF (D := D) (ci := 0) (v := .ref q_2) (ty := .array .int) (C := RX0) (T := TX0) (N := 8) hx hb hts in0 tyX0 tyX0_ok nmX0 hown hK hP hD hS 0 rfl rfl 1 (by decide) fl15 (fun _ h9 => h9) rfl hin rfl (by decide +kernel) rfl rfl (Nat.le_of_ble_eq_true rfl) dX0_init_17 (fun H locs hP hD hS => ?_)
  have hP : va_P D vwCl [(a0, .inr (0, [.ref q_1, .ref q_2, .null, .null, .int 0, .int 0, .int 0, .int 0])), (q_1, .inl (cI, 36, .inl (fun _ => (0 : Int32)))), (q_2, .inl (cI, 36, .inl (fun _ => (0 : Int32))))] _ := hP
  have hD : va_D A [(a0, .inr (0, [.ref q_1, .ref q_2, .null, .null, .int 0, .int 0, .int 0, .int 0])), (q_1, .inl (cI, 36, .inl (fun _ => (0 : Int32)))), (q_2, .inl (cI, 36, .inl (fun _ => (0 : Int32))))] := hD
  refine lv_aload_n hx hb dX0_init_20 rfl (lv_at hl 0 rfl) ?_
  refine lv_bipush (v := 36) hx hb dX0_init_21 (by decide) ?_
  refine z_new hx hb (atype := .int) (hts (.arrayClass .int) (by decide +kernel)) rfl hK hP hD hS hA 0 rfl (fun C h => by cases h) (N' := 36) (a0 := (36, .inl (fun _ => (0 : Int32)))) (fun _ => rfl) (by decide) (by decide) (Nat.le_of_ble_eq_true rfl) (Nat.le_of_ble_eq_true rfl) (Nat.le_of_ble_eq_true rfl) dX0_init_23 (fun q_3 H hP hD hS => ?_)
  have hP : va_P D vwCl [(a0, .inr (0, [.ref q_1, .ref q_2, .null, .null, .int 0, .int 0, .int 0, .int 0])), (q_1, .inl (cI, 36, .inl (fun _ => (0 : Int32)))), (q_2, .inl (cI, 36, .inl (fun _ => (0 : Int32)))), (q_3, .inl (cI, 36, .inl (fun _ => (0 : Int32))))] _ := hP
  have hD : va_D A [(a0, .inr (0, [.ref q_1, .ref q_2, .null, .null, .int 0, .int 0, .int 0, .int 0])), (q_1, .inl (cI, 36, .inl (fun _ => (0 : Int32)))), (q_2, .inl (cI, 36, .inl (fun _ => (0 : Int32)))), (q_3, .inl (cI, 36, .inl (fun _ => (0 : Int32))))] := hD
  refine va_putF (D := D) (ci := 0) (v := .ref q_3) (ty := .array .int) (C := RX0) (T := TX0) (N := 8) hx hb hts in0 tyX0 tyX0_ok nmX0 hown hK hP hD hS 0 rfl rfl 2 (by decide) fl18 (fun _ h9 => h9) rfl hin rfl (by decide +kernel) rfl rfl (Nat.le_of_ble_eq_true rfl) dX0_init_25 (fun H locs hP hD hS => ?_)
  have hP : va_P D vwCl [(a0, .inr (0, [.ref q_1, .ref q_2, .ref q_3, .null, .int 0, .int 0, .int 0, .int 0])), (q_1, .inl (cI, 36, .inl (fun _ => (0 : Int32)))), (q_2, .inl (cI, 36, .inl (fun _ => (0 : Int32)))), (q_3, .inl (cI, 36, .inl (fun _ => (0 : Int32))))] _ := hP
  have hD : va_D A [(a0, .inr (0, [.ref q_1, .ref q_2, .ref q_3, .null, .int 0, .int 0, .int 0, .int 0])), (q_1, .inl (cI, 36, .inl (fun _ => (0 : Int32)))), (q_2, .inl (cI, 36, .inl (fun _ => (0 : Int32)))), (q_3, .inl (cI, 36, .inl (fun _ => (0 : Int32))))] := hD
  refine lv_aload_n hx hb dX0_init_28 rfl (lv_at hl 0 rfl) ?_
  refine lv_iconst (v := 2) hx hb dX0_init_29 (by decide) ?_
  refine z_new hx hb (atype := .int) (hts (.arrayClass .int) (by decide +kernel)) rfl hK hP hD hS hA 0 rfl (fun C h => by cases h) (N' := 2) (a0 := (2, .inl (fun _ => (0 : Int32)))) (fun _ => rfl) (by decide) (by decide) (Nat.le_of_ble_eq_true rfl) (Nat.le_of_ble_eq_true rfl) (Nat.le_of_ble_eq_true rfl) dX0_init_30 (fun q_4 H hP hD hS => ?_)
  have hP : va_P D vwCl [(a0, .inr (0, [.ref q_1, .ref q_2, .ref q_3, .null, .int 0, .int 0, .int 0, .int 0])), (q_1, .inl (cI, 36, .inl (fun _ => (0 : Int32)))), (q_2, .inl (cI, 36, .inl (fun _ => (0 : Int32)))), (q_3, .inl (cI, 36, .inl (fun _ => (0 : Int32)))), (q_4, .inl (cI, 2, .inl (fun _ => (0 : Int32))))] _ := hP
  have hD : va_D A [(a0, .inr (0, [.ref q_1, .ref q_2, .ref q_3, .null, .int 0, .int 0, .int 0, .int 0])), (q_1, .inl (cI, 36, .inl (fun _ => (0 : Int32)))), (q_2, .inl (cI, 36, .inl (fun _ => (0 : Int32)))), (q_3, .inl (cI, 36, .inl (fun _ => (0 : Int32)))), (q_4, .inl (cI, 2, .inl (fun _ => (0 : Int32))))] := hD
  refine va_putF (D := D) (ci := 0) (v := .ref q_4) (ty := .array .int) (C := RX0) (T := TX0) (N := 8) hx hb hts in0 tyX0 tyX0_ok nmX0 hown hK hP hD hS 0 rfl rfl 3 (by decide) fl21 (fun _ h9 => h9) rfl hin rfl (by decide +kernel) rfl rfl (Nat.le_of_ble_eq_true rfl) dX0_init_32 (fun H locs hP hD hS => ?_)
  have hP : va_P D vwCl [(a0, .inr (0, [.ref q_1, .ref q_2, .ref q_3, .ref q_4, .int 0, .int 0, .int 0, .int 0])), (q_1, .inl (cI, 36, .inl (fun _ => (0 : Int32)))), (q_2, .inl (cI, 36, .inl (fun _ => (0 : Int32)))), (q_3, .inl (cI, 36, .inl (fun _ => (0 : Int32)))), (q_4, .inl (cI, 2, .inl (fun _ => (0 : Int32))))] _ := hP
  have hD : va_D A [(a0, .inr (0, [.ref q_1, .ref q_2, .ref q_3, .ref q_4, .int 0, .int 0, .int 0, .int 0])), (q_1, .inl (cI, 36, .inl (fun _ => (0 : Int32)))), (q_2, .inl (cI, 36, .inl (fun _ => (0 : Int32)))), (q_3, .inl (cI, 36, .inl (fun _ => (0 : Int32)))), (q_4, .inl (cI, 2, .inl (fun _ => (0 : Int32))))] := hD
  refine lv_iconst (v := 0) hx hb dX0_init_35 (by decide) ?_
  refine lv_istore_n (lv' := [(1, .int 0), (0, .ref a0)]) hx hb dX0_init_36 rfl hl (by decide) rfl (fun ls hl => ?_)
  have hW9 : ([(a0, .inr (0, [.ref q_1, .ref q_2, .ref q_3, .ref q_4, .int 0, .int 0, .int 0, .int 0])), (q_1, .inl (cI, 36, .inl (fun _ => (0 : Int32)))), (q_2, .inl (cI, 36, .inl (fun _ => (0 : Int32)))), (q_3, .inl (cI, 36, .inl (fun _ => (0 : Int32)))), (q_4, .inl (cI, 2, .inl (fun _ => (0 : Int32))))] : va_W) = [(a0, .inr (0, [.ref q_1, .ref q_2, .ref q_3, .ref q_4, .int 0, .int 0, .int 0, .int 0])), (q_1, .inl (cI, 36, .inl (fun _ => (0 : Int32)))), (q_2, .inl (cI, 36, .inl (pIn (-1) 0))), (q_3, .inl (cI, 36, .inl (pIn 1 0))), (q_4, .inl (cI, 2, .inl (fun _ => (0 : Int32))))] := by rw [← pIn_0, ← pIn_0]
  rw [hW9] at hP hD
  refine z_upH (N := 36) (i0 := 0) (fun i H locs ls => va_P D vwCl [(a0, .inr (0, [.ref q_1, .ref q_2, .ref q_3, .ref q_4, .int 0, .int 0, .int 0, .int 0])), (q_1, .inl (cI, 36, .inl (fun _ => (0 : Int32)))), (q_2, .inl (cI, 36, .inl (pIn (-1) i))), (q_3, .inl (cI, 36, .inl (pIn 1 i))), (q_4, .inl (cI, 2, .inl (fun _ => (0 : Int32))))] H ∧ va_D A [(a0, .inr (0, [.ref q_1, .ref q_2, .ref q_3, .ref q_4, .int 0, .int 0, .int 0, .int 0])), (q_1, .inl (cI, 36, .inl (fun _ => (0 : Int32)))), (q_2, .inl (cI, 36, .inl (pIn (-1) i))), (q_3, .inl (cI, 36, .inl (pIn 1 i))), (q_4, .inl (cI, 2, .inl (fun _ => (0 : Int32))))] ∧ va_S A s.heap H locs ∧ lv_has ls 2 [(0, .ref a0), (1, .int (nI i))]) (by omega) (⟨hP, hD, hS, lv_sub hl [1, 0] rfl⟩) (fun i H locs ls hi37 hI ih37 => ?_)
  obtain ⟨hP, hD, hS, hl⟩ := hI
  refine lv_iload_n hx hb dX0_init_37 rfl (lv_at hl 1 rfl) ?_
  refine lv_bipush (v := 36) hx hb dX0_init_38 (by decide) ?_
  refine z_icmp_ge (tgt := 63) (P := 36 ≤ i) hx hb dX0_init_40 (by decide) (nI_leI (a := 36) (b := i) (by omega) (by omega)) (fun c40 => ?_) (fun c40 => ?_)
  · skip
    obtain rfl : i = 36 := by omega
    subst hAe
    exact z_cret (S := Nat × Nat × Nat × Nat) (q_1, q_2, q_3, q_4) hx hb hr hlocks dX0_init_63 hP hD hS
  · skip
    refine lv_aload_n hx hb dX0_init_43 rfl (lv_at hl 0 rfl) ?_
    refine va_get (D := D) (ci := 0) (v := .ref q_2) (C := RX0) (T := TX0) (N := 8) hx hb hts in0 hown hK hP 0 rfl rfl 1 (by decide) fl15 (fun _ h9 => h9) rfl dX0_init_44 ?_
    refine lv_iload_n hx hb dX0_init_47 rfl (lv_at hl 1 rfl) ?_
    refine lv_iconst (v := (-1)) hx hb dX0_init_48 (by decide) ?_
    refine z_iast hx hb hK hP hD hS 2 0 rfl rfl (k := i) (rfl) (by omega) (by decide) dX0_init_49 (g := (pIn (-1) (i + 1))) (pIn_s _ _) (fun H locs hP hD hS => ?_)
    have hP : va_P D vwCl [(a0, .inr (0, [.ref q_1, .ref q_2, .ref q_3, .ref q_4, .int 0, .int 0, .int 0, .int 0])), (q_1, .inl (cI, 36, .inl (fun _ => (0 : Int32)))), (q_2, .inl (cI, 36, .inl (pIn (-1) (i + 1)))), (q_3, .inl (cI, 36, .inl (pIn 1 i))), (q_4, .inl (cI, 2, .inl (fun _ => (0 : Int32))))] _ := hP
    have hD : va_D A [(a0, .inr (0, [.ref q_1, .ref q_2, .ref q_3, .ref q_4, .int 0, .int 0, .int 0, .int 0])), (q_1, .inl (cI, 36, .inl (fun _ => (0 : Int32)))), (q_2, .inl (cI, 36, .inl (pIn (-1) (i + 1)))), (q_3, .inl (cI, 36, .inl (pIn 1 i))), (q_4, .inl (cI, 2, .inl (fun _ => (0 : Int32))))] := hD
    refine lv_aload_n hx hb dX0_init_50 rfl (lv_at hl 0 rfl) ?_
    refine va_get (D := D) (ci := 0) (v := .ref q_3) (C := RX0) (T := TX0) (N := 8) hx hb hts in0 hown hK hP 0 rfl rfl 2 (by decide) fl18 (fun _ h9 => h9) rfl dX0_init_51 ?_
    refine lv_iload_n hx hb dX0_init_54 rfl (lv_at hl 1 rfl) ?_
    refine lv_iconst (v := 1) hx hb dX0_init_55 (by decide) ?_
    refine z_iast hx hb hK hP hD hS 3 0 rfl rfl (k := i) (rfl) (by omega) (by decide) dX0_init_56 (g := (pIn 1 (i + 1))) (pIn_s _ _) (fun H locs hP hD hS => ?_)
    have hP : va_P D vwCl [(a0, .inr (0, [.ref q_1, .ref q_2, .ref q_3, .ref q_4, .int 0, .int 0, .int 0, .int 0])), (q_1, .inl (cI, 36, .inl (fun _ => (0 : Int32)))), (q_2, .inl (cI, 36, .inl (pIn (-1) (i + 1)))), (q_3, .inl (cI, 36, .inl (pIn 1 (i + 1)))), (q_4, .inl (cI, 2, .inl (fun _ => (0 : Int32))))] _ := hP
    have hD : va_D A [(a0, .inr (0, [.ref q_1, .ref q_2, .ref q_3, .ref q_4, .int 0, .int 0, .int 0, .int 0])), (q_1, .inl (cI, 36, .inl (fun _ => (0 : Int32)))), (q_2, .inl (cI, 36, .inl (pIn (-1) (i + 1)))), (q_3, .inl (cI, 36, .inl (pIn 1 (i + 1)))), (q_4, .inl (cI, 2, .inl (fun _ => (0 : Int32))))] := hD
    refine lv_iinc (v := nI (i + 1)) (lv' := [(1, .int (nI (i + 1))), (0, .ref a0)]) hx hb dX0_init_57 hl (k := 1) rfl (nI_1 (i)) (by decide) rfl (fun ls hl => ?_)
    refine lv_goto (tgt := 37) hx hb dX0_init_60 (by decide) ?_
    exact ih37 (by omega) _ _ _ (⟨hP, hD, hS, lv_sub hl [1, 0] rfl⟩)

set_option maxHeartbeats 4000000 in
set_option maxRecDepth 100000 in
/-- a new text -/
theorem c_X1_init (l : Launch) (D : va_G) (cI cZ cL : ClassId) (sz : Nat) (b0 : Nat) : Met l yX1_init wsX1_init ({ frames := 1, cells := 1, slots := 60, locals := 12 }) (va_Pc [.ref b0] (zM D cI cZ cL [(b0, .inr (1, [.null, .int 0]))] sz)) (zQc (S := Nat) D [(b0, .inr (1, [.null, .int 0]))] sz (fun u => [(b0, .inr (1, [.ref u, .int (nI 0)])), (u, .inl (cI, 60, .inl (fun _ => (0 : Int32))))])) 1 60 (va_A [(b0, .inr (1, [.null, .int 0]))] sz) := by
  refine Met.ofW (cc := cX1_init) (maxL := 1) (ret := none) (by decide) rfl ?_
  intro p e s m args below meth c s₁ B hml hv
  obtain ⟨rfl, hsz, ⟨hP, hK⟩, hD0⟩ := hv
  have hx := B.exec
  have hb := B.bytes
  have hr := B.returns
  have hts := atoms_spec (ws := wsX1_init) B.pre
  have hown : s.vm.findClass RX1 = some m.cls := findClass_of_methodNamed B.named
  have hlocks := B.notSynchronized
  have hin : meth.name = "<init>" := (name_of_methodNamed B.named B.method).1
  subst hsz
  have hD := hD0.self (sz := s.heap.size)
  generalize hAe : va_A [(b0, .inr (1, [.null, .int 0]))] s.heap.size = A at hD ⊢
  have hA : ∀ q : Nat, s.heap.size ≤ q → A q := fun q h => by rw [← hAe]; exact Or.inr h
  have hS : va_S A s.heap s.heap [] := va_S.rf
  have in1 : ∀ w ∈ u_ws RX1 TX1 2, w ∈ wsX1_init := by decide +kernel
  have fl11 := hts (.fieldLink RX1 11 "TowerShades$FieldText" "codes" "[I") (by decide +kernel)
  have hl := lv_entry ([.ref b0]) (n := 1) (Nat.le_of_ble_eq_true rfl)
  rw [lg_entry_eq]
  generalize (lg_sl ([.ref b0]) ++ List.replicate (1 - (lg_sl ([.ref b0])).length) Slot.unset).toArray = ls at hl ⊢
  have hl : lv_has ls 1 [(0, .ref b0)] := hl
  refine lv_aload_n hx hb dX1_init_0 rfl (lv_at hl 0 rfl) ?_
  refine W.objInit hx hb hown (hts (.methodLink RX1 3 objectInit) (by decide +kernel)) (hts (.instanceMethod objectInit) (by decide +kernel)) (hts (.code objectInit ⟨#[0xb1]⟩ 1 none) (by decide +kernel)) rfl (by rw [hml]; exact hl.1) rfl dX1_init_1 (Nat.le_of_ble_eq_true rfl) (Nat.le_of_ble_eq_true rfl) ?_
  refine W.eq (g2 := F0 m 4 ls []) rfl ?_
  refine lv_aload_n hx hb dX1_init_4 rfl (lv_at hl 0 rfl) ?_
  refine lv_bipush (v := 60) hx hb dX1_init_5 (by decide) ?_
  refine z_new hx hb (atype := .int) (hts (.arrayClass .int) (by decide +kernel)) rfl hK hP hD hS hA 0 rfl (fun C h => by cases h) (N' := 60) (a0 := (60, .inl (fun _ => (0 : Int32)))) (fun _ => rfl) (by decide) (by decide) (Nat.le_of_ble_eq_true rfl) (Nat.le_of_ble_eq_true rfl) (Nat.le_of_ble_eq_true rfl) dX1_init_7 (fun q_1 H hP hD hS => ?_)
  have hP : va_P D vwCl [(b0, .inr (1, [.null, .int 0])), (q_1, .inl (cI, 60, .inl (fun _ => (0 : Int32))))] _ := hP
  have hD : va_D A [(b0, .inr (1, [.null, .int 0])), (q_1, .inl (cI, 60, .inl (fun _ => (0 : Int32))))] := hD
  refine va_putF (D := D) (ci := 1) (v := .ref q_1) (ty := .array .int) (C := RX1) (T := TX1) (N := 2) hx hb hts in1 tyX1 tyX1_ok nmX1 hown hK hP hD hS 0 rfl rfl 0 (by decide) fl11 (fun _ h9 => h9) rfl hin rfl (by decide +kernel) rfl rfl (Nat.le_of_ble_eq_true rfl) dX1_init_9 (fun H locs hP hD hS => ?_)
  have hP : va_P D vwCl [(b0, .inr (1, [.ref q_1, .int 0])), (q_1, .inl (cI, 60, .inl (fun _ => (0 : Int32))))] _ := hP
  have hD : va_D A [(b0, .inr (1, [.ref q_1, .int 0])), (q_1, .inl (cI, 60, .inl (fun _ => (0 : Int32))))] := hD
  subst hAe
  exact z_cret (S := Nat) (q_1) hx hb hr hlocks dX1_init_12 hP hD hS

set_option maxHeartbeats 4000000 in
set_option maxRecDepth 100000 in
/-- no saved states -/
theorem c_X2_init (l : Launch) (D : va_G) (cI cZ cL : ClassId) (sz : Nat) (d0 : Nat) : Met l yX2_init wsX2_init ({ frames := 1, cells := 1, slots := 684, locals := 12 }) (va_Pc [.ref d0] (zM D cI cZ cL [(d0, .inr (2, [.null, .int 0, .int 0]))] sz)) (zQc (S := Nat) D [(d0, .inr (2, [.null, .int 0, .int 0]))] sz (fun u => [(d0, .inr (2, [.ref u, .int (nI 0), .int (nI 0)])), (u, .inl (cI, 684, .inl (fun _ => (0 : Int32))))])) 1 684 (va_A [(d0, .inr (2, [.null, .int 0, .int 0]))] sz) := by
  refine Met.ofW (cc := cX2_init) (maxL := 1) (ret := none) (by decide) rfl ?_
  intro p e s m args below meth c s₁ B hml hv
  obtain ⟨rfl, hsz, ⟨hP, hK⟩, hD0⟩ := hv
  have hx := B.exec
  have hb := B.bytes
  have hr := B.returns
  have hts := atoms_spec (ws := wsX2_init) B.pre
  have hown : s.vm.findClass RX2 = some m.cls := findClass_of_methodNamed B.named
  have hlocks := B.notSynchronized
  have hin : meth.name = "<init>" := (name_of_methodNamed B.named B.method).1
  subst hsz
  have hD := hD0.self (sz := s.heap.size)
  generalize hAe : va_A [(d0, .inr (2, [.null, .int 0, .int 0]))] s.heap.size = A at hD ⊢
  have hA : ∀ q : Nat, s.heap.size ≤ q → A q := fun q h => by rw [← hAe]; exact Or.inr h
  have hS : va_S A s.heap s.heap [] := va_S.rf
  have in2 : ∀ w ∈ u_ws RX2 TX2 3, w ∈ wsX2_init := by decide +kernel
  have fl11 := hts (.fieldLink RX2 11 "TowerShades$SavedStates" "numbers" "[I") (by decide +kernel)
  have hl := lv_entry ([.ref d0]) (n := 1) (Nat.le_of_ble_eq_true rfl)
  rw [lg_entry_eq]
  generalize (lg_sl ([.ref d0]) ++ List.replicate (1 - (lg_sl ([.ref d0])).length) Slot.unset).toArray = ls at hl ⊢
  have hl : lv_has ls 1 [(0, .ref d0)] := hl
  refine lv_aload_n hx hb dX2_init_0 rfl (lv_at hl 0 rfl) ?_
  refine W.objInit hx hb hown (hts (.methodLink RX2 1 objectInit) (by decide +kernel)) (hts (.instanceMethod objectInit) (by decide +kernel)) (hts (.code objectInit ⟨#[0xb1]⟩ 1 none) (by decide +kernel)) rfl (by rw [hml]; exact hl.1) rfl dX2_init_1 (Nat.le_of_ble_eq_true rfl) (Nat.le_of_ble_eq_true rfl) ?_
  refine W.eq (g2 := F0 m 4 ls []) rfl ?_
  refine lv_aload_n hx hb dX2_init_4 rfl (lv_at hl 0 rfl) ?_
  refine lv_sipush (v := 684) hx hb dX2_init_5 (by decide) ?_
  refine z_new hx hb (atype := .int) (hts (.arrayClass .int) (by decide +kernel)) rfl hK hP hD hS hA 0 rfl (fun C h => by cases h) (N' := 684) (a0 := (684, .inl (fun _ => (0 : Int32)))) (fun _ => rfl) (by decide) (by decide) (Nat.le_of_ble_eq_true rfl) (Nat.le_of_ble_eq_true rfl) (Nat.le_of_ble_eq_true rfl) dX2_init_8 (fun q_1 H hP hD hS => ?_)
  have hP : va_P D vwCl [(d0, .inr (2, [.null, .int 0, .int 0])), (q_1, .inl (cI, 684, .inl (fun _ => (0 : Int32))))] _ := hP
  have hD : va_D A [(d0, .inr (2, [.null, .int 0, .int 0])), (q_1, .inl (cI, 684, .inl (fun _ => (0 : Int32))))] := hD
  refine va_putF (D := D) (ci := 2) (v := .ref q_1) (ty := .array .int) (C := RX2) (T := TX2) (N := 3) hx hb hts in2 tyX2 tyX2_ok nmX2 hown hK hP hD hS 0 rfl rfl 0 (by decide) fl11 (fun _ h9 => h9) rfl hin rfl (by decide +kernel) rfl rfl (Nat.le_of_ble_eq_true rfl) dX2_init_10 (fun H locs hP hD hS => ?_)
  have hP : va_P D vwCl [(d0, .inr (2, [.ref q_1, .int 0, .int 0])), (q_1, .inl (cI, 684, .inl (fun _ => (0 : Int32))))] _ := hP
  have hD : va_D A [(d0, .inr (2, [.ref q_1, .int 0, .int 0])), (q_1, .inl (cI, 684, .inl (fun _ => (0 : Int32))))] := hD
  subst hAe
  exact z_cret (S := Nat) (q_1) hx hb hr hlocks dX2_init_13 hP hD hS

set_option maxHeartbeats 4000000 in
set_option maxRecDepth 100000 in
/-- a new game -/
theorem c_X4_init (l : Launch) (D : va_G) (cI cZ cL : ClassId) (sz : Nat) (x0 : Nat) : Met l yX4_init wsX4_init ({ frames := 2, cells := 11, slots := 1097, locals := 33 }) (va_Pc [.ref x0] (zMn D cI cZ cL [(x0, .inr (3, [.null, .null, .null, .null, .null]))] sz)) (zQc (S := Nat × Nat × Nat × Nat × Nat × Nat × Nat × Nat × Nat × Nat × Nat) D [(x0, .inr (3, [.null, .null, .null, .null, .null]))] sz (fun u => [(x0, .inr (3, [.ref u.1, .ref u.2.2.2.2.2.1, .ref u.2.2.2.2.2.2.2.1, .ref u.2.2.2.2.2.2.2.2.2.1, .ref u.2.2.2.2.2.2.2.2.2.2])), (u.1, .inr (0, [.ref u.2.1, .ref u.2.2.1, .ref u.2.2.2.1, .ref u.2.2.2.2.1, .int (nI 0), .int (nI 0), .int 0, .int 0])), (u.2.1, .inl (cI, 36, .inl (fun _ => (0 : Int32)))), (u.2.2.1, .inl (cI, 36, .inl (pIn (-1) 36))), (u.2.2.2.1, .inl (cI, 36, .inl (pIn 1 36))), (u.2.2.2.2.1, .inl (cI, 2, .inl (fun _ => (0 : Int32)))), (u.2.2.2.2.2.1, .inr (1, [.ref u.2.2.2.2.2.2.1, .int (nI 0)])), (u.2.2.2.2.2.2.1, .inl (cI, 60, .inl (fun _ => (0 : Int32)))), (u.2.2.2.2.2.2.2.1, .inr (2, [.ref u.2.2.2.2.2.2.2.2.1, .int (nI 0), .int (nI 0)])), (u.2.2.2.2.2.2.2.2.1, .inl (cI, 684, .inl (fun _ => (0 : Int32)))), (u.2.2.2.2.2.2.2.2.2.1, .inl (cI, 228, .inl (fun _ => (0 : Int32)))), (u.2.2.2.2.2.2.2.2.2.2, .inl (cZ, 2, .inl (fun _ => (0 : Int32))))])) 11 1097 (va_A [(x0, .inr (3, [.null, .null, .null, .null, .null]))] sz) := by
  refine Met.ofW (cc := cX4_init) (maxL := 1) (ret := none) (by decide) rfl ?_
  intro p e s m args below meth c s₁ B hml hv
  obtain ⟨rfl, hsz, ⟨⟨hP, hK⟩, hN⟩, hD0⟩ := hv
  have hx := B.exec
  have hb := B.bytes
  have hr := B.returns
  have hts := atoms_spec (ws := wsX4_init) B.pre
  have hown : s.vm.findClass RX4 = some m.cls := findClass_of_methodNamed B.named
  have hlocks := B.notSynchronized
  have hin : meth.name = "<init>" := (name_of_methodNamed B.named B.method).1
  subst hsz
  have hD := hD0.self (sz := s.heap.size)
  generalize hAe : va_A [(x0, .inr (3, [.null, .null, .null, .null, .null]))] s.heap.size = A at hD ⊢
  have hA : ∀ q : Nat, s.heap.size ≤ q → A q := fun q h => by rw [← hAe]; exact Or.inr h
  have hS : va_S A s.heap s.heap [] := va_S.rf
  have in0 : ∀ w ∈ u_ws RX0 TX0 8, w ∈ wsX4_init := by decide +kernel
  have in1 : ∀ w ∈ u_ws RX1 TX1 2, w ∈ wsX4_init := by decide +kernel
  have in2 : ∀ w ∈ u_ws RX2 TX2 3, w ∈ wsX4_init := by decide +kernel
  have in3 : ∀ w ∈ u_ws RX4 TX4 5, w ∈ wsX4_init := by decide +kernel
  have fl10 := hts (.fieldLink RX4 10 "TowerShades" "field" "LTowerShades$Field;") (by decide +kernel)
  have fl19 := hts (.fieldLink RX4 19 "TowerShades" "text" "LTowerShades$FieldText;") (by decide +kernel)
  have fl26 := hts (.fieldLink RX4 26 "TowerShades" "saved" "LTowerShades$SavedStates;") (by decide +kernel)
  have fl30 := hts (.fieldLink RX4 30 "TowerShades" "slotNumbers" "[I") (by decide +kernel)
  have fl34 := hts (.fieldLink RX4 34 "TowerShades" "slotFilled" "[Z") (by decide +kernel)
  have hl := lv_entry ([.ref x0]) (n := 1) (Nat.le_of_ble_eq_true rfl)
  rw [lg_entry_eq]
  generalize (lg_sl ([.ref x0]) ++ List.replicate (1 - (lg_sl ([.ref x0])).length) Slot.unset).toArray = ls at hl ⊢
  have hl : lv_has ls 1 [(0, .ref x0)] := hl
  refine lv_aload_n hx hb dX4_init_0 rfl (lv_at hl 0 rfl) ?_
  refine W.objInit hx hb hown (hts (.methodLink RX4 1 objectInit) (by decide +kernel)) (hts (.instanceMethod objectInit) (by decide +kernel)) (hts (.code objectInit ⟨#[0xb1]⟩ 1 none) (by decide +kernel)) rfl (by rw [hml]; exact hl.1) rfl dX4_init_1 (Nat.le_of_ble_eq_true rfl) (Nat.le_of_ble_eq_true rfl) ?_
  refine W.eq (g2 := F0 m 4 ls []) rfl ?_
  refine lv_aload_n hx hb dX4_init_4 rfl (lv_at hl 0 rfl) ?_
  refine va_new (ci := 0) (fs := [.null, .null, .null, .null, .int 0, .int 0, .int 0, .int 0]) (C := RX0) (T := TX0) (N := 8) hx hb hts in0 tyX0 tyX0_ok hown (hts (.classLink RX4 7 RX0) (by decide +kernel)) (hts (.instantiable RX0 8) (by decide +kernel)) (hts (.initialized RX0) (by decide +kernel)) hK hP hD hS hA rfl (fun j hj => by rcases (show j = 0 ∨ j = 1 ∨ j = 2 ∨ j = 3 ∨ j = 4 ∨ j = 5 ∨ j = 6 ∨ j = 7 by omega) with rfl | rfl | rfl | rfl | rfl | rfl | rfl | rfl <;> rfl) (Nat.le_of_ble_eq_true rfl) (Nat.le_of_ble_eq_true rfl) dX4_init_5 (fun q_1 H hP hD hS => ?_)
  have hP : va_P D vwCl [(x0, .inr (3, [.null, .null, .null, .null, .null])), (q_1, .inr (0, [.null, .null, .null, .null, .int 0, .int 0, .int 0, .int 0]))] _ := hP
  have hD : va_D A [(x0, .inr (3, [.null, .null, .null, .null, .null])), (q_1, .inr (0, [.null, .null, .null, .null, .int 0, .int 0, .int 0, .int 0]))] := hD
  refine lv_dup hx hb dX4_init_8 rfl ?_
  refine z_cc (S := Nat × Nat × Nat × Nat) (wr := [(x0, .inr (3, [.null, .null, .null, .null, .null]))]) (ws' := fun u => [(x0, .inr (3, [.null, .null, .null, .null, .null])), (q_1, .inr (0, [.ref u.1, .ref u.2.1, .ref u.2.2.1, .ref u.2.2.2, .int (nI 0), .int (nI 0), .int 0, .int 0])), (u.1, .inl (cI, 36, .inl (fun _ => (0 : Int32)))), (u.2.1, .inl (cI, 36, .inl (pIn (-1) 36))), (u.2.2.1, .inl (cI, 36, .inl (pIn 1 36))), (u.2.2.2, .inl (cI, 2, .inl (fun _ => (0 : Int32))))]) (va_runI (As := []) (rest := [.ref q_1, .ref x0]) ⟨hx, hb, hml, hown, hts⟩ (c_X0_init l D cI cZ cL _ (a0 := q_1)) (cwI 0 hts gX4_init_X0_init rfl rfl rfl (hts (.initialized RX0) (by decide +kernel)) (hts (.methodLink RX4 9 yX0_init) (by decide +kernel)) (hts (.instanceMethod yX0_init) (by decide +kernel)) rfl (by decide +kernel) ⟨Nat.le_of_ble_eq_true rfl, Nat.le_of_ble_eq_true rfl⟩) (z_preMS hK (hP.sub [1] rfl) (hD.sub [1] (by decide) rfl)) rfl rfl hl.1 rfl (lv_room (Nat.le_of_ble_eq_true rfl)) dX4_init_9 ⟨Nat.le_of_ble_eq_true rfl, Nat.le_of_ble_eq_true rfl⟩) hP hD hS hA [1] [0] [0, 1, 2, 3, 4, 5] rfl rfl (by decide) (by decide) (fun _ => rfl) (fun _ => rfl) (by decide) (fun u_6 H locs hP hD hS => ?_)
  obtain ⟨q_2, q_3, q_4, q_5⟩ := u_6
  have hP : va_P D vwCl [(x0, .inr (3, [.null, .null, .null, .null, .null])), (q_1, .inr (0, [.ref q_2, .ref q_3, .ref q_4, .ref q_5, .int (nI 0), .int (nI 0), .int 0, .int 0])), (q_2, .inl (cI, 36, .inl (fun _ => (0 : Int32)))), (q_3, .inl (cI, 36, .inl (pIn (-1) 36))), (q_4, .inl (cI, 36, .inl (pIn 1 36))), (q_5, .inl (cI, 2, .inl (fun _ => (0 : Int32))))] _ := hP
  have hD : va_D A [(x0, .inr (3, [.null, .null, .null, .null, .null])), (q_1, .inr (0, [.ref q_2, .ref q_3, .ref q_4, .ref q_5, .int (nI 0), .int (nI 0), .int 0, .int 0])), (q_2, .inl (cI, 36, .inl (fun _ => (0 : Int32)))), (q_3, .inl (cI, 36, .inl (pIn (-1) 36))), (q_4, .inl (cI, 36, .inl (pIn 1 36))), (q_5, .inl (cI, 2, .inl (fun _ => (0 : Int32))))] := hD
  refine va_putF (D := D) (ci := 3) (v := .ref q_1) (ty := .object "TowerShades$Field") (C := RX4) (T := TX4) (N := 5) hx hb hts in3 tyX4 tyX4_ok nmX4 hown hK hP hD hS 0 rfl rfl 0 (by decide) fl10 (fun _ h9 => h9) rfl hin rfl (by decide +kernel) rfl rfl (Nat.le_of_ble_eq_true rfl) dX4_init_12 (fun H locs hP hD hS => ?_)
  have hP : va_P D vwCl [(x0, .inr (3, [.ref q_1, .null, .null, .null, .null])), (q_1, .inr (0, [.ref q_2, .ref q_3, .ref q_4, .ref q_5, .int (nI 0), .int (nI 0), .int 0, .int 0])), (q_2, .inl (cI, 36, .inl (fun _ => (0 : Int32)))), (q_3, .inl (cI, 36, .inl (pIn (-1) 36))), (q_4, .inl (cI, 36, .inl (pIn 1 36))), (q_5, .inl (cI, 2, .inl (fun _ => (0 : Int32))))] _ := hP
  have hD : va_D A [(x0, .inr (3, [.ref q_1, .null, .null, .null, .null])), (q_1, .inr (0, [.ref q_2, .ref q_3, .ref q_4, .ref q_5, .int (nI 0), .int (nI 0), .int 0, .int 0])), (q_2, .inl (cI, 36, .inl (fun _ => (0 : Int32)))), (q_3, .inl (cI, 36, .inl (pIn (-1) 36))), (q_4, .inl (cI, 36, .inl (pIn 1 36))), (q_5, .inl (cI, 2, .inl (fun _ => (0 : Int32))))] := hD
  refine lv_aload_n hx hb dX4_init_15 rfl (lv_at hl 0 rfl) ?_
  refine va_new (ci := 1) (fs := [.null, .int 0]) (C := RX1) (T := TX1) (N := 2) hx hb hts in1 tyX1 tyX1_ok hown (hts (.classLink RX4 16 RX1) (by decide +kernel)) (hts (.instantiable RX1 2) (by decide +kernel)) (hts (.initialized RX1) (by decide +kernel)) hK hP hD hS hA rfl (fun j hj => by rcases (show j = 0 ∨ j = 1 by omega) with rfl | rfl <;> rfl) (Nat.le_of_ble_eq_true rfl) (Nat.le_of_ble_eq_true rfl) dX4_init_16 (fun q_7 H hP hD hS => ?_)
  have hP : va_P D vwCl [(x0, .inr (3, [.ref q_1, .null, .null, .null, .null])), (q_1, .inr (0, [.ref q_2, .ref q_3, .ref q_4, .ref q_5, .int (nI 0), .int (nI 0), .int 0, .int 0])), (q_2, .inl (cI, 36, .inl (fun _ => (0 : Int32)))), (q_3, .inl (cI, 36, .inl (pIn (-1) 36))), (q_4, .inl (cI, 36, .inl (pIn 1 36))), (q_5, .inl (cI, 2, .inl (fun _ => (0 : Int32)))), (q_7, .inr (1, [.null, .int 0]))] _ := hP
  have hD : va_D A [(x0, .inr (3, [.ref q_1, .null, .null, .null, .null])), (q_1, .inr (0, [.ref q_2, .ref q_3, .ref q_4, .ref q_5, .int (nI 0), .int (nI 0), .int 0, .int 0])), (q_2, .inl (cI, 36, .inl (fun _ => (0 : Int32)))), (q_3, .inl (cI, 36, .inl (pIn (-1) 36))), (q_4, .inl (cI, 36, .inl (pIn 1 36))), (q_5, .inl (cI, 2, .inl (fun _ => (0 : Int32)))), (q_7, .inr (1, [.null, .int 0]))] := hD
  refine lv_dup hx hb dX4_init_19 rfl ?_
  refine z_cc (S := Nat) (wr := [(x0, .inr (3, [.ref q_1, .null, .null, .null, .null])), (q_1, .inr (0, [.ref q_2, .ref q_3, .ref q_4, .ref q_5, .int (nI 0), .int (nI 0), .int 0, .int 0])), (q_2, .inl (cI, 36, .inl (fun _ => (0 : Int32)))), (q_3, .inl (cI, 36, .inl (pIn (-1) 36))), (q_4, .inl (cI, 36, .inl (pIn 1 36))), (q_5, .inl (cI, 2, .inl (fun _ => (0 : Int32))))]) (ws' := fun u => [(x0, .inr (3, [.ref q_1, .null, .null, .null, .null])), (q_1, .inr (0, [.ref q_2, .ref q_3, .ref q_4, .ref q_5, .int (nI 0), .int (nI 0), .int 0, .int 0])), (q_2, .inl (cI, 36, .inl (fun _ => (0 : Int32)))), (q_3, .inl (cI, 36, .inl (pIn (-1) 36))), (q_4, .inl (cI, 36, .inl (pIn 1 36))), (q_5, .inl (cI, 2, .inl (fun _ => (0 : Int32)))), (q_7, .inr (1, [.ref u, .int (nI 0)])), (u, .inl (cI, 60, .inl (fun _ => (0 : Int32))))]) (va_runIN (As := []) (rest := [.ref q_7, .ref x0]) ⟨hx, hb, hml, hown, hts⟩ (c_X1_init l D cI cZ cL _ (b0 := q_7)) ⟨va_cnB 0 hts gX4_init_X1_init_n18 rfl rfl rfl hN.2.1 (hts (.initialized RX1) (by decide +kernel)) (by decide +kernel) ⟨Nat.le_of_ble_eq_true rfl, Nat.le_of_ble_eq_true rfl⟩, rfl, hts (.instanceMethod yX1_init) (by decide +kernel)⟩ (z_preMS hK (hP.sub [6] rfl) (hD.sub [6] (by decide) rfl)) rfl rfl hl.1 rfl (lv_room (Nat.le_of_ble_eq_true rfl)) dX4_init_20 ⟨Nat.le_of_ble_eq_true rfl, Nat.le_of_ble_eq_true rfl⟩) hP hD hS hA [6] [0, 1, 2, 3, 4, 5] [0, 1, 2, 3, 4, 5, 6, 7] rfl rfl (by decide) (by decide) (fun _ => rfl) (fun _ => rfl) (by decide) (fun u_9 H locs hP hD hS => ?_)
  obtain ⟨q_8, rfl⟩ : ∃ z, z = u_9 := ⟨_, rfl⟩
  have hP : va_P D vwCl [(x0, .inr (3, [.ref q_1, .null, .null, .null, .null])), (q_1, .inr (0, [.ref q_2, .ref q_3, .ref q_4, .ref q_5, .int (nI 0), .int (nI 0), .int 0, .int 0])), (q_2, .inl (cI, 36, .inl (fun _ => (0 : Int32)))), (q_3, .inl (cI, 36, .inl (pIn (-1) 36))), (q_4, .inl (cI, 36, .inl (pIn 1 36))), (q_5, .inl (cI, 2, .inl (fun _ => (0 : Int32)))), (q_7, .inr (1, [.ref q_8, .int (nI 0)])), (q_8, .inl (cI, 60, .inl (fun _ => (0 : Int32))))] _ := hP
  have hD : va_D A [(x0, .inr (3, [.ref q_1, .null, .null, .null, .null])), (q_1, .inr (0, [.ref q_2, .ref q_3, .ref q_4, .ref q_5, .int (nI 0), .int (nI 0), .int 0, .int 0])), (q_2, .inl (cI, 36, .inl (fun _ => (0 : Int32)))), (q_3, .inl (cI, 36, .inl (pIn (-1) 36))), (q_4, .inl (cI, 36, .inl (pIn 1 36))), (q_5, .inl (cI, 2, .inl (fun _ => (0 : Int32)))), (q_7, .inr (1, [.ref q_8, .int (nI 0)])), (q_8, .inl (cI, 60, .inl (fun _ => (0 : Int32))))] := hD
  refine va_putF (D := D) (ci := 3) (v := .ref q_7) (ty := .object "TowerShades$FieldText") (C := RX4) (T := TX4) (N := 5) hx hb hts in3 tyX4 tyX4_ok nmX4 hown hK hP hD hS 0 rfl rfl 1 (by decide) fl19 (fun _ h9 => h9) rfl hin rfl (by decide +kernel) rfl rfl (Nat.le_of_ble_eq_true rfl) dX4_init_23 (fun H locs hP hD hS => ?_)
  have hP : va_P D vwCl [(x0, .inr (3, [.ref q_1, .ref q_7, .null, .null, .null])), (q_1, .inr (0, [.ref q_2, .ref q_3, .ref q_4, .ref q_5, .int (nI 0), .int (nI 0), .int 0, .int 0])), (q_2, .inl (cI, 36, .inl (fun _ => (0 : Int32)))), (q_3, .inl (cI, 36, .inl (pIn (-1) 36))), (q_4, .inl (cI, 36, .inl (pIn 1 36))), (q_5, .inl (cI, 2, .inl (fun _ => (0 : Int32)))), (q_7, .inr (1, [.ref q_8, .int (nI 0)])), (q_8, .inl (cI, 60, .inl (fun _ => (0 : Int32))))] _ := hP
  have hD : va_D A [(x0, .inr (3, [.ref q_1, .ref q_7, .null, .null, .null])), (q_1, .inr (0, [.ref q_2, .ref q_3, .ref q_4, .ref q_5, .int (nI 0), .int (nI 0), .int 0, .int 0])), (q_2, .inl (cI, 36, .inl (fun _ => (0 : Int32)))), (q_3, .inl (cI, 36, .inl (pIn (-1) 36))), (q_4, .inl (cI, 36, .inl (pIn 1 36))), (q_5, .inl (cI, 2, .inl (fun _ => (0 : Int32)))), (q_7, .inr (1, [.ref q_8, .int (nI 0)])), (q_8, .inl (cI, 60, .inl (fun _ => (0 : Int32))))] := hD
  refine lv_aload_n hx hb dX4_init_26 rfl (lv_at hl 0 rfl) ?_
  refine va_new (ci := 2) (fs := [.null, .int 0, .int 0]) (C := RX2) (T := TX2) (N := 3) hx hb hts in2 tyX2 tyX2_ok hown (hts (.classLink RX4 23 RX2) (by decide +kernel)) (hts (.instantiable RX2 3) (by decide +kernel)) (hts (.initialized RX2) (by decide +kernel)) hK hP hD hS hA rfl (fun j hj => by rcases (show j = 0 ∨ j = 1 ∨ j = 2 by omega) with rfl | rfl | rfl <;> rfl) (Nat.le_of_ble_eq_true rfl) (Nat.le_of_ble_eq_true rfl) dX4_init_27 (fun q_10 H hP hD hS => ?_)
  have hP : va_P D vwCl [(x0, .inr (3, [.ref q_1, .ref q_7, .null, .null, .null])), (q_1, .inr (0, [.ref q_2, .ref q_3, .ref q_4, .ref q_5, .int (nI 0), .int (nI 0), .int 0, .int 0])), (q_2, .inl (cI, 36, .inl (fun _ => (0 : Int32)))), (q_3, .inl (cI, 36, .inl (pIn (-1) 36))), (q_4, .inl (cI, 36, .inl (pIn 1 36))), (q_5, .inl (cI, 2, .inl (fun _ => (0 : Int32)))), (q_7, .inr (1, [.ref q_8, .int (nI 0)])), (q_8, .inl (cI, 60, .inl (fun _ => (0 : Int32)))), (q_10, .inr (2, [.null, .int 0, .int 0]))] _ := hP
  have hD : va_D A [(x0, .inr (3, [.ref q_1, .ref q_7, .null, .null, .null])), (q_1, .inr (0, [.ref q_2, .ref q_3, .ref q_4, .ref q_5, .int (nI 0), .int (nI 0), .int 0, .int 0])), (q_2, .inl (cI, 36, .inl (fun _ => (0 : Int32)))), (q_3, .inl (cI, 36, .inl (pIn (-1) 36))), (q_4, .inl (cI, 36, .inl (pIn 1 36))), (q_5, .inl (cI, 2, .inl (fun _ => (0 : Int32)))), (q_7, .inr (1, [.ref q_8, .int (nI 0)])), (q_8, .inl (cI, 60, .inl (fun _ => (0 : Int32)))), (q_10, .inr (2, [.null, .int 0, .int 0]))] := hD
  refine lv_dup hx hb dX4_init_30 rfl ?_
  refine z_cc (S := Nat) (wr := [(x0, .inr (3, [.ref q_1, .ref q_7, .null, .null, .null])), (q_1, .inr (0, [.ref q_2, .ref q_3, .ref q_4, .ref q_5, .int (nI 0), .int (nI 0), .int 0, .int 0])), (q_2, .inl (cI, 36, .inl (fun _ => (0 : Int32)))), (q_3, .inl (cI, 36, .inl (pIn (-1) 36))), (q_4, .inl (cI, 36, .inl (pIn 1 36))), (q_5, .inl (cI, 2, .inl (fun _ => (0 : Int32)))), (q_7, .inr (1, [.ref q_8, .int (nI 0)])), (q_8, .inl (cI, 60, .inl (fun _ => (0 : Int32))))]) (ws' := fun u => [(x0, .inr (3, [.ref q_1, .ref q_7, .null, .null, .null])), (q_1, .inr (0, [.ref q_2, .ref q_3, .ref q_4, .ref q_5, .int (nI 0), .int (nI 0), .int 0, .int 0])), (q_2, .inl (cI, 36, .inl (fun _ => (0 : Int32)))), (q_3, .inl (cI, 36, .inl (pIn (-1) 36))), (q_4, .inl (cI, 36, .inl (pIn 1 36))), (q_5, .inl (cI, 2, .inl (fun _ => (0 : Int32)))), (q_7, .inr (1, [.ref q_8, .int (nI 0)])), (q_8, .inl (cI, 60, .inl (fun _ => (0 : Int32)))), (q_10, .inr (2, [.ref u, .int (nI 0), .int (nI 0)])), (u, .inl (cI, 684, .inl (fun _ => (0 : Int32))))]) (va_runIN (As := []) (rest := [.ref q_10, .ref x0]) ⟨hx, hb, hml, hown, hts⟩ (c_X2_init l D cI cZ cL _ (d0 := q_10)) ⟨va_cnB 0 hts gX4_init_X2_init_n25 rfl rfl rfl hN.2.2 (hts (.initialized RX2) (by decide +kernel)) (by decide +kernel) ⟨Nat.le_of_ble_eq_true rfl, Nat.le_of_ble_eq_true rfl⟩, rfl, hts (.instanceMethod yX2_init) (by decide +kernel)⟩ (z_preMS hK (hP.sub [8] rfl) (hD.sub [8] (by decide) rfl)) rfl rfl hl.1 rfl (lv_room (Nat.le_of_ble_eq_true rfl)) dX4_init_31 ⟨Nat.le_of_ble_eq_true rfl, Nat.le_of_ble_eq_true rfl⟩) hP hD hS hA [8] [0, 1, 2, 3, 4, 5, 6, 7] [0, 1, 2, 3, 4, 5, 6, 7, 8, 9] rfl rfl (by decide) (by decide) (fun _ => rfl) (fun _ => rfl) (by decide) (fun u_12 H locs hP hD hS => ?_)
  obtain ⟨q_11, rfl⟩ : ∃ z, z = u_12 := ⟨_, rfl⟩
  have hP : va_P D vwCl [(x0, .inr (3, [.ref q_1, .ref q_7, .null, .null, .null])), (q_1, .inr (0, [.ref q_2, .ref q_3, .ref q_4, .ref q_5, .int (nI 0), .int (nI 0), .int 0, .int 0])), (q_2, .inl (cI, 36, .inl (fun _ => (0 : Int32)))), (q_3, .inl (cI, 36, .inl (pIn (-1) 36))), (q_4, .inl (cI, 36, .inl (pIn 1 36))), (q_5, .inl (cI, 2, .inl (fun _ => (0 : Int32)))), (q_7, .inr (1, [.ref q_8, .int (nI 0)])), (q_8, .inl (cI, 60, .inl (fun _ => (0 : Int32)))), (q_10, .inr (2, [.ref q_11, .int (nI 0), .int (nI 0)])), (q_11, .inl (cI, 684, .inl (fun _ => (0 : Int32))))] _ := hP
  have hD : va_D A [(x0, .inr (3, [.ref q_1, .ref q_7, .null, .null, .null])), (q_1, .inr (0, [.ref q_2, .ref q_3, .ref q_4, .ref q_5, .int (nI 0), .int (nI 0), .int 0, .int 0])), (q_2, .inl (cI, 36, .inl (fun _ => (0 : Int32)))), (q_3, .inl (cI, 36, .inl (pIn (-1) 36))), (q_4, .inl (cI, 36, .inl (pIn 1 36))), (q_5, .inl (cI, 2, .inl (fun _ => (0 : Int32)))), (q_7, .inr (1, [.ref q_8, .int (nI 0)])), (q_8, .inl (cI, 60, .inl (fun _ => (0 : Int32)))), (q_10, .inr (2, [.ref q_11, .int (nI 0), .int (nI 0)])), (q_11, .inl (cI, 684, .inl (fun _ => (0 : Int32))))] := hD
  refine va_putF (D := D) (ci := 3) (v := .ref q_10) (ty := .object "TowerShades$SavedStates") (C := RX4) (T := TX4) (N := 5) hx hb hts in3 tyX4 tyX4_ok nmX4 hown hK hP hD hS 0 rfl rfl 2 (by decide) fl26 (fun _ h9 => h9) rfl hin rfl (by decide +kernel) rfl rfl (Nat.le_of_ble_eq_true rfl) dX4_init_34 (fun H locs hP hD hS => ?_)
  have hP : va_P D vwCl [(x0, .inr (3, [.ref q_1, .ref q_7, .ref q_10, .null, .null])), (q_1, .inr (0, [.ref q_2, .ref q_3, .ref q_4, .ref q_5, .int (nI 0), .int (nI 0), .int 0, .int 0])), (q_2, .inl (cI, 36, .inl (fun _ => (0 : Int32)))), (q_3, .inl (cI, 36, .inl (pIn (-1) 36))), (q_4, .inl (cI, 36, .inl (pIn 1 36))), (q_5, .inl (cI, 2, .inl (fun _ => (0 : Int32)))), (q_7, .inr (1, [.ref q_8, .int (nI 0)])), (q_8, .inl (cI, 60, .inl (fun _ => (0 : Int32)))), (q_10, .inr (2, [.ref q_11, .int (nI 0), .int (nI 0)])), (q_11, .inl (cI, 684, .inl (fun _ => (0 : Int32))))] _ := hP
  have hD : va_D A [(x0, .inr (3, [.ref q_1, .ref q_7, .ref q_10, .null, .null])), (q_1, .inr (0, [.ref q_2, .ref q_3, .ref q_4, .ref q_5, .int (nI 0), .int (nI 0), .int 0, .int 0])), (q_2, .inl (cI, 36, .inl (fun _ => (0 : Int32)))), (q_3, .inl (cI, 36, .inl (pIn (-1) 36))), (q_4, .inl (cI, 36, .inl (pIn 1 36))), (q_5, .inl (cI, 2, .inl (fun _ => (0 : Int32)))), (q_7, .inr (1, [.ref q_8, .int (nI 0)])), (q_8, .inl (cI, 60, .inl (fun _ => (0 : Int32)))), (q_10, .inr (2, [.ref q_11, .int (nI 0), .int (nI 0)])), (q_11, .inl (cI, 684, .inl (fun _ => (0 : Int32))))] := hD
  refine lv_aload_n hx hb dX4_init_37 rfl (lv_at hl 0 rfl) ?_
  refine lv_sipush (v := 228) hx hb dX4_init_38 (by decide) ?_
  refine z_new hx hb (atype := .int) (hts (.arrayClass .int) (by decide +kernel)) rfl hK hP hD hS hA 0 rfl (fun C h => by cases h) (N' := 228) (a0 := (228, .inl (fun _ => (0 : Int32)))) (fun _ => rfl) (by decide) (by decide) (Nat.le_of_ble_eq_true rfl) (Nat.le_of_ble_eq_true rfl) (Nat.le_of_ble_eq_true rfl) dX4_init_41 (fun q_13 H hP hD hS => ?_)
  have hP : va_P D vwCl [(x0, .inr (3, [.ref q_1, .ref q_7, .ref q_10, .null, .null])), (q_1, .inr (0, [.ref q_2, .ref q_3, .ref q_4, .ref q_5, .int (nI 0), .int (nI 0), .int 0, .int 0])), (q_2, .inl (cI, 36, .inl (fun _ => (0 : Int32)))), (q_3, .inl (cI, 36, .inl (pIn (-1) 36))), (q_4, .inl (cI, 36, .inl (pIn 1 36))), (q_5, .inl (cI, 2, .inl (fun _ => (0 : Int32)))), (q_7, .inr (1, [.ref q_8, .int (nI 0)])), (q_8, .inl (cI, 60, .inl (fun _ => (0 : Int32)))), (q_10, .inr (2, [.ref q_11, .int (nI 0), .int (nI 0)])), (q_11, .inl (cI, 684, .inl (fun _ => (0 : Int32)))), (q_13, .inl (cI, 228, .inl (fun _ => (0 : Int32))))] _ := hP
  have hD : va_D A [(x0, .inr (3, [.ref q_1, .ref q_7, .ref q_10, .null, .null])), (q_1, .inr (0, [.ref q_2, .ref q_3, .ref q_4, .ref q_5, .int (nI 0), .int (nI 0), .int 0, .int 0])), (q_2, .inl (cI, 36, .inl (fun _ => (0 : Int32)))), (q_3, .inl (cI, 36, .inl (pIn (-1) 36))), (q_4, .inl (cI, 36, .inl (pIn 1 36))), (q_5, .inl (cI, 2, .inl (fun _ => (0 : Int32)))), (q_7, .inr (1, [.ref q_8, .int (nI 0)])), (q_8, .inl (cI, 60, .inl (fun _ => (0 : Int32)))), (q_10, .inr (2, [.ref q_11, .int (nI 0), .int (nI 0)])), (q_11, .inl (cI, 684, .inl (fun _ => (0 : Int32)))), (q_13, .inl (cI, 228, .inl (fun _ => (0 : Int32))))] := hD
  refine va_putF (D := D) (ci := 3) (v := .ref q_13) (ty := .array .int) (C := RX4) (T := TX4) (N := 5) hx hb hts in3 tyX4 tyX4_ok nmX4 hown hK hP hD hS 0 rfl rfl 3 (by decide) fl30 (fun _ h9 => h9) rfl hin rfl (by decide +kernel) rfl rfl (Nat.le_of_ble_eq_true rfl) dX4_init_43 (fun H locs hP hD hS => ?_)
  have hP : va_P D vwCl [(x0, .inr (3, [.ref q_1, .ref q_7, .ref q_10, .ref q_13, .null])), (q_1, .inr (0, [.ref q_2, .ref q_3, .ref q_4, .ref q_5, .int (nI 0), .int (nI 0), .int 0, .int 0])), (q_2, .inl (cI, 36, .inl (fun _ => (0 : Int32)))), (q_3, .inl (cI, 36, .inl (pIn (-1) 36))), (q_4, .inl (cI, 36, .inl (pIn 1 36))), (q_5, .inl (cI, 2, .inl (fun _ => (0 : Int32)))), (q_7, .inr (1, [.ref q_8, .int (nI 0)])), (q_8, .inl (cI, 60, .inl (fun _ => (0 : Int32)))), (q_10, .inr (2, [.ref q_11, .int (nI 0), .int (nI 0)])), (q_11, .inl (cI, 684, .inl (fun _ => (0 : Int32)))), (q_13, .inl (cI, 228, .inl (fun _ => (0 : Int32))))] _ := hP
  have hD : va_D A [(x0, .inr (3, [.ref q_1, .ref q_7, .ref q_10, .ref q_13, .null])), (q_1, .inr (0, [.ref q_2, .ref q_3, .ref q_4, .ref q_5, .int (nI 0), .int (nI 0), .int 0, .int 0])), (q_2, .inl (cI, 36, .inl (fun _ => (0 : Int32)))), (q_3, .inl (cI, 36, .inl (pIn (-1) 36))), (q_4, .inl (cI, 36, .inl (pIn 1 36))), (q_5, .inl (cI, 2, .inl (fun _ => (0 : Int32)))), (q_7, .inr (1, [.ref q_8, .int (nI 0)])), (q_8, .inl (cI, 60, .inl (fun _ => (0 : Int32)))), (q_10, .inr (2, [.ref q_11, .int (nI 0), .int (nI 0)])), (q_11, .inl (cI, 684, .inl (fun _ => (0 : Int32)))), (q_13, .inl (cI, 228, .inl (fun _ => (0 : Int32))))] := hD
  refine lv_aload_n hx hb dX4_init_46 rfl (lv_at hl 0 rfl) ?_
  refine lv_iconst (v := 2) hx hb dX4_init_47 (by decide) ?_
  refine z_new hx hb (atype := .boolean) (hts (.arrayClass .boolean) (by decide +kernel)) rfl hK hP hD hS hA 1 rfl (fun C h => by cases h) (N' := 2) (a0 := (2, .inl (fun _ => (0 : Int32)))) (fun _ => rfl) (by decide) (by decide) (Nat.le_of_ble_eq_true rfl) (Nat.le_of_ble_eq_true rfl) (Nat.le_of_ble_eq_true rfl) dX4_init_48 (fun q_14 H hP hD hS => ?_)
  have hP : va_P D vwCl [(x0, .inr (3, [.ref q_1, .ref q_7, .ref q_10, .ref q_13, .null])), (q_1, .inr (0, [.ref q_2, .ref q_3, .ref q_4, .ref q_5, .int (nI 0), .int (nI 0), .int 0, .int 0])), (q_2, .inl (cI, 36, .inl (fun _ => (0 : Int32)))), (q_3, .inl (cI, 36, .inl (pIn (-1) 36))), (q_4, .inl (cI, 36, .inl (pIn 1 36))), (q_5, .inl (cI, 2, .inl (fun _ => (0 : Int32)))), (q_7, .inr (1, [.ref q_8, .int (nI 0)])), (q_8, .inl (cI, 60, .inl (fun _ => (0 : Int32)))), (q_10, .inr (2, [.ref q_11, .int (nI 0), .int (nI 0)])), (q_11, .inl (cI, 684, .inl (fun _ => (0 : Int32)))), (q_13, .inl (cI, 228, .inl (fun _ => (0 : Int32)))), (q_14, .inl (cZ, 2, .inl (fun _ => (0 : Int32))))] _ := hP
  have hD : va_D A [(x0, .inr (3, [.ref q_1, .ref q_7, .ref q_10, .ref q_13, .null])), (q_1, .inr (0, [.ref q_2, .ref q_3, .ref q_4, .ref q_5, .int (nI 0), .int (nI 0), .int 0, .int 0])), (q_2, .inl (cI, 36, .inl (fun _ => (0 : Int32)))), (q_3, .inl (cI, 36, .inl (pIn (-1) 36))), (q_4, .inl (cI, 36, .inl (pIn 1 36))), (q_5, .inl (cI, 2, .inl (fun _ => (0 : Int32)))), (q_7, .inr (1, [.ref q_8, .int (nI 0)])), (q_8, .inl (cI, 60, .inl (fun _ => (0 : Int32)))), (q_10, .inr (2, [.ref q_11, .int (nI 0), .int (nI 0)])), (q_11, .inl (cI, 684, .inl (fun _ => (0 : Int32)))), (q_13, .inl (cI, 228, .inl (fun _ => (0 : Int32)))), (q_14, .inl (cZ, 2, .inl (fun _ => (0 : Int32))))] := hD
  refine va_putF (D := D) (ci := 3) (v := .ref q_14) (ty := .array .boolean) (C := RX4) (T := TX4) (N := 5) hx hb hts in3 tyX4 tyX4_ok nmX4 hown hK hP hD hS 0 rfl rfl 4 (by decide) fl34 (fun _ h9 => h9) rfl hin rfl (by decide +kernel) rfl rfl (Nat.le_of_ble_eq_true rfl) dX4_init_50 (fun H locs hP hD hS => ?_)
  have hP : va_P D vwCl [(x0, .inr (3, [.ref q_1, .ref q_7, .ref q_10, .ref q_13, .ref q_14])), (q_1, .inr (0, [.ref q_2, .ref q_3, .ref q_4, .ref q_5, .int (nI 0), .int (nI 0), .int 0, .int 0])), (q_2, .inl (cI, 36, .inl (fun _ => (0 : Int32)))), (q_3, .inl (cI, 36, .inl (pIn (-1) 36))), (q_4, .inl (cI, 36, .inl (pIn 1 36))), (q_5, .inl (cI, 2, .inl (fun _ => (0 : Int32)))), (q_7, .inr (1, [.ref q_8, .int (nI 0)])), (q_8, .inl (cI, 60, .inl (fun _ => (0 : Int32)))), (q_10, .inr (2, [.ref q_11, .int (nI 0), .int (nI 0)])), (q_11, .inl (cI, 684, .inl (fun _ => (0 : Int32)))), (q_13, .inl (cI, 228, .inl (fun _ => (0 : Int32)))), (q_14, .inl (cZ, 2, .inl (fun _ => (0 : Int32))))] _ := hP
  have hD : va_D A [(x0, .inr (3, [.ref q_1, .ref q_7, .ref q_10, .ref q_13, .ref q_14])), (q_1, .inr (0, [.ref q_2, .ref q_3, .ref q_4, .ref q_5, .int (nI 0), .int (nI 0), .int 0, .int 0])), (q_2, .inl (cI, 36, .inl (fun _ => (0 : Int32)))), (q_3, .inl (cI, 36, .inl (pIn (-1) 36))), (q_4, .inl (cI, 36, .inl (pIn 1 36))), (q_5, .inl (cI, 2, .inl (fun _ => (0 : Int32)))), (q_7, .inr (1, [.ref q_8, .int (nI 0)])), (q_8, .inl (cI, 60, .inl (fun _ => (0 : Int32)))), (q_10, .inr (2, [.ref q_11, .int (nI 0), .int (nI 0)])), (q_11, .inl (cI, 684, .inl (fun _ => (0 : Int32)))), (q_13, .inl (cI, 228, .inl (fun _ => (0 : Int32)))), (q_14, .inl (cZ, 2, .inl (fun _ => (0 : Int32))))] := hD
  subst hAe
  exact z_cret (S := Nat × Nat × Nat × Nat × Nat × Nat × Nat × Nat × Nat × Nat × Nat) (q_1, q_2, q_3, q_4, q_5, q_7, q_8, q_10, q_11, q_13, q_14) hx hb hr hlocks dX4_init_53 hP hD hS
