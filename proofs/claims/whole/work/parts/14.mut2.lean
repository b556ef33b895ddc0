set_option maxHeartbeats 4000000 in
set_option maxRecDepth 100000 in
/-- load: no field -/
theorem c_X5_load_bad (l : Launch) (D : va_G) (cI cZ cL : ClassId) (sz : Nat) (m0 : Nat) (m1 : Nat) (m2 : Nat) (m3 : Nat) (m4 : Nat) (m5 : Nat) (gs : Nat → Int32) (gp : Nat → Int32) (gl : Nat → Int32) (gk : Nat → Int32) (fx : Nat → Int32) (kn : Nat) (ln : Nat) (th : Int32) (hs : Int64) (hw : pWh fx ln = false) (hln : ln ≤ 60) : Met l yX5_load wsX5_load ({ frames := 3, cells := 0, slots := 0, locals := 65 }) (va_Pc [.ref m0] (zM D cI cZ cL [(m0, .inr (4, [.ref m1, .ref m2, .int (nI kn), .ref m3, .ref m4, .ref m5, .int (nI ln), .int th, .long hs])), (m1, .inl (cI, 228, .inl gs)), (m2, .inl (cI, 684, .inl gp)), (m3, .inl (cI, 228, .inl gl)), (m4, .inl (cZ, 2, .inl gk)), (m5, .inl (cI, 60, .inl fx))] sz)) (zQmi D 0 [(m0, .inr (4, [.ref m1, .ref m2, .int (nI kn), .ref m3, .ref m4, .ref m5, .int (nI ln), .int th, .long hs])), (m1, .inl (cI, 228, .inl gs)), (m2, .inl (cI, 684, .inl gp)), (m3, .inl (cI, 228, .inl gl)), (m4, .inl (cZ, 2, .inl gk)), (m5, .inl (cI, 60, .inl fx))] [(m0, .inr (4, [.ref m1, .ref m2, .int (nI kn), .ref m3, .ref m4, .ref m5, .int (nI ln), .int (nI 1), .long hs])), (m1, .inl (cI, 228, .inl gs)), (m2, .inl (cI, 684, .inl gp)), (m3, .inl (cI, 228, .inl gl)), (m4, .inl (cZ, 2, .inl gk)), (m5, .inl (cI, 60, .inl fx))] sz) 0 0 (va_A [(m0, .inr (4, [.ref m1, .ref m2, .int (nI kn), .ref m3, .ref m4, .ref m5, .int (nI ln), .int th, .long hs])), (m1, .inl (cI, 228, .inl gs)), (m2, .inl (cI, 684, .inl gp)), (m3, .inl (cI, 228, .inl gl)), (m4, .inl (cZ, 2, .inl gk)), (m5, .inl (cI, 60, .inl fx))] sz) := by
  refine Met.ofW (cc := cX5_load) (maxL := 4) (ret := (some .int)) (by decide) rfl ?_
  intro p e s m args below meth c s₁ B hml hv
  obtain ⟨rfl, hsz, ⟨hP, hK⟩, hD0⟩ := hv
  have hx := B.exec
  have hb := B.bytes
  have hr := B.returns
  have hts := atoms_spec (ws := wsX5_load) B.pre
  have hown : s.vm.findClass RX5 = some m.cls := findClass_of_methodNamed B.named
  have hlocks := B.notSynchronized
  subst hsz
  have hD := hD0.self (sz := s.heap.size)
  generalize hAe : va_A [(m0, .inr (4, [.ref m1, .ref m2, .int (nI kn), .ref m3, .ref m4, .ref m5, .int (nI ln), .int th, .long hs])), (m1, .inl (cI, 228, .inl gs)), (m2, .inl (cI, 684, .inl gp)), (m3, .inl (cI, 228, .inl gl)), (m4, .inl (cZ, 2, .inl gk)), (m5, .inl (cI, 60, .inl fx))] s.heap.size = A at hD ⊢
  have hA : ∀ q : Nat, s.heap.size ≤ q → A q := fun q h => by rw [← hAe]; exact Or.inr h
  have hS : va_S A s.heap s.heap [] := va_S.rf
  have in4 : ∀ w ∈ u_ws RX5 TX5 9, w ∈ wsX5_load := by decide +kernel
  have fl85 := hts (.fieldLink RX5 85 "TowerShadesModel" "length" "I") (by decide +kernel)
  have hl := lv_entry ([.ref m0]) (n := 4) (Nat.le_of_ble_eq_true rfl)
  rw [lg_entry_eq]
  generalize (lg_sl ([.ref m0]) ++ List.replicate (4 - (lg_sl ([.ref m0])).length) Slot.unset).toArray = ls at hl ⊢
  have hl : lv_has ls 4 [(0, .ref m0)] := hl
  have hE := pEr_le fx ln
  refine lv_aload_n hx hb dX5_load_0 rfl (lv_at hl 0 rfl) ?_
  refine lv_aload_n hx hb dX5_load_1 rfl (lv_at hl 0 rfl) ?_
  refine z_ci (va_runV (As := []) (rest := [.ref m0]) ⟨hx, hb, hml, hown, hts⟩ (c_X5_errorAt l D cI cZ cL (m0 := m0) (m1 := m1) (m2 := m2) (m3 := m3) (m4 := m4) (m5 := m5) (gs := gs) (gp := gp) (gl := gl) (gk := gk) (fx := fx) (kn := kn) (ln := ln) (th := th) (hs := hs) (hln := by omega)) (cwV 0 hts gX5_load_X5_errorAt rfl rfl rfl (by decide +kernel) ⟨Nat.le_of_ble_eq_true rfl, Nat.le_of_ble_eq_true rfl⟩) (z_preV hK (hP.sub [0, 1, 2, 3, 4, 5] rfl) 0 4 rfl rfl) rfl rfl hl.1 rfl (lv_room (Nat.le_of_ble_eq_true rfl)) dX5_load_2 ⟨Nat.le_of_ble_eq_true rfl, Nat.le_of_ble_eq_true rfl⟩) ?_
  refine lv_aload_n hx hb dX5_load_5 rfl (lv_at hl 0 rfl) ?_
  refine va_get (D := D) (ci := 4) (v := .int (nI ln)) (C := RX5) (T := TX5) (N := 9) hx hb hts in4 hown hK hP 0 rfl rfl 6 (by decide) fl85 (fun _ h9 => h9) rfl dX5_load_6 ?_
  refine z_icmp_ne (tgt := 26) (P := pEr fx ln = ln) hx hb dX5_load_9 (by decide) (nI_eq (a := pEr fx ln) (b := ln) (by omega) (by omega)) (fun c9 => ?_) (fun c9 => ?_)
  · skip
    refine lv_iconst (v := 1) hx hb dX5_load_26 (by decide) ?_
    refine z_cmi (wr := []) (ws' := [(m0, .inr (4, [.ref m1, .ref m2, .int (nI kn), .ref m3, .ref m4, .ref m5, .int (nI ln), .int (nI 1), .long hs])), (m1, .inl (cI, 228, .inl gs)), (m2, .inl (cI, 684, .inl gp)), (m3, .inl (cI, 228, .inl gl)), (m4, .inl (cZ, 2, .inl gk)), (m5, .inl (cI, 60, .inl fx))]) (va_runV (As := [.int 1]) (rest := []) ⟨hx, hb, hml, hown, hts⟩ (c_X5_throwsAt l D cI cZ cL _ (m0 := m0) (m1 := m1) (m2 := m2) (m3 := m3) (m4 := m4) (m5 := m5) (gs := gs) (gp := gp) (gl := gl) (gk := gk) (fx := fx) (kn := kn) (ln := ln) (th := th) (hs := hs) (pc0 := 1) (hpc := by omega)) (cwV 1 hts gX5_load_X5_throwsAt rfl rfl rfl (by decide +kernel) ⟨Nat.le_of_ble_eq_true rfl, Nat.le_of_ble_eq_true rfl⟩) (z_preMV hK (hP.sub [0, 1, 2, 3, 4, 5] rfl) (hD.sub [0, 1, 2, 3, 4, 5] (by decide) rfl) 0 4 rfl rfl) rfl rfl hl.1 rfl (lv_room (Nat.le_of_ble_eq_true rfl)) dX5_load_27 ⟨Nat.le_of_ble_eq_true rfl, Nat.le_of_ble_eq_true rfl⟩) hP hD hS hA [0, 1, 2, 3, 4, 5] [] [0, 1, 2, 3, 4, 5] rfl rfl (by decide) (by decide) rfl rfl (by decide) (fun H locs hP hD hS => ?_)
    refine z_top (y := 1) (by decide) ?_
    refine z_if_eq (tgt := 35) (P := False) hx hb dX5_load_30 (by decide) (by decide) (fun c30 => (show False from c30).elim) (fun c30 => ?_)
    refine lv_iconst (v := 0) hx hb dX5_load_33 (by decide) ?_
    have hP9 : va_P D vwCl [(m0, .inr (4, [.ref m1, .ref m2, .int (nI kn), .ref m3, .ref m4, .ref m5, .int (nI ln), .int (nI 1), .long hs])), (m1, .inl (cI, 228, .inl gs)), (m2, .inl (cI, 684, .inl gp)), (m3, .inl (cI, 228, .inl gl)), (m4, .inl (cZ, 2, .inl gk)), (m5, .inl (cI, 60, .inl fx))] _ := hP
    have hD9 : va_D A [(m0, .inr (4, [.ref m1, .ref m2, .int (nI kn), .ref m3, .ref m4, .ref m5, .int (nI ln), .int (nI 1), .long hs])), (m1, .inl (cI, 228, .inl gs)), (m2, .inl (cI, 684, .inl gp)), (m3, .inl (cI, 228, .inl gl)), (m4, .inl (cZ, 2, .inl gk)), (m5, .inl (cI, 60, .inl fx))] := hD
    subst hAe
    exact z_miret hx hb hr hlocks dX5_load_34 (rfl) hP9 hD9 hS
  · skip
    refine lv_aload_n hx hb dX5_load_12 rfl (lv_at hl 0 rfl) ?_
    refine va_get (D := D) (ci := 4) (v := .int (nI ln)) (C := RX5) (T := TX5) (N := 9) hx hb hts in4 hown hK hP 0 rfl rfl 6 (by decide) fl85 (fun _ h9 => h9) rfl dX5_load_13 ?_
    refine lv_iconst (v := 5) hx hb dX5_load_16 (by decide) ?_
    refine z_irem (v := nI (ln % 5)) hx hb dX5_load_17 (by decide) (pk_rem (a := ln) (d := 5) (by omega) (by omega) (by omega)) ?_
    refine lv_iconst (v := 4) hx hb dX5_load_18 (by decide) ?_
    refine z_icmp_ne (tgt := 26) (P := (ln % 5) = 4) hx hb dX5_load_19 (by decide) (nI_eq (a := (ln % 5)) (b := 4) (by omega) (by omega)) (fun c19 => ?_) (fun c19 => (show False from by simp [pWh, c9, c19] at hw).elim)
    refine lv_iconst (v := 1) hx hb dX5_load_26 (by decide) ?_
    refine z_cmi (wr := []) (ws' := [(m0, .inr (4, [.ref m1, .ref m2, .int (nI kn), .ref m3, .ref m4, .ref m5, .int (nI ln), .int (nI 1), .long hs])), (m1, .inl (cI, 228, .inl gs)), (m2, .inl (cI, 684, .inl gp)), (m3, .inl (cI, 228, .inl gl)), (m4, .inl (cZ, 2, .inl gk)), (m5, .inl (cI, 60, .inl fx))]) (va_runV (As := [.int 1]) (rest := []) ⟨hx, hb, hml, hown, hts⟩ (c_X5_throwsAt l D cI cZ cL _ (m0 := m0) (m1 := m1) (m2 := m2) (m3 := m3) (m4 := m4) (m5 := m5) (gs := gs) (gp := gp) (gl := gl) (gk := gk) (fx := fx) (kn := kn) (ln := ln) (th := th) (hs := hs) (pc0 := 1) (hpc := by omega)) (cwV 1 hts gX5_load_X5_throwsAt rfl rfl rfl (by decide +kernel) ⟨Nat.le_of_ble_eq_true rfl, Nat.le_of_ble_eq_true rfl⟩) (z_preMV hK (hP.sub [0, 1, 2, 3, 4, 5] rfl) (hD.sub [0, 1, 2, 3, 4, 5] (by decide) rfl) 0 4 rfl rfl) rfl rfl hl.1 rfl (lv_room (Nat.le_of_ble_eq_true rfl)) dX5_load_27 ⟨Nat.le_of_ble_eq_true rfl, Nat.le_of_ble_eq_true rfl⟩) hP hD hS hA [0, 1, 2, 3, 4, 5] [] [0, 1, 2, 3, 4, 5] rfl rfl (by decide) (by decide) rfl rfl (by decide) (fun H locs hP hD hS => ?_)
    refine z_top (y := 1) (by decide) ?_
    refine z_if_eq (tgt := 35) (P := False) hx hb dX5_load_30 (by decide) (by decide) (fun c30 => (show False from c30).elim) (fun c30 => ?_)
    refine lv_iconst (v := 0) hx hb dX5_load_33 (by decide) ?_
    have hP9 : va_P D vwCl [(m0, .inr (4, [.ref m1, .ref m2, .int (nI kn), .ref m3, .ref m4, .ref m5, .int (nI ln), .int (nI 1), .long hs])), (m1, .inl (cI, 228, .inl gs)), (m2, .inl (cI, 684, .inl gp)), (m3, .inl (cI, 228, .inl gl)), (m4, .inl (cZ, 2, .inl gk)), (m5, .inl (cI, 60, .inl fx))] _ := hP
    have hD9 : va_D A [(m0, .inr (4, [.ref m1, .ref m2, .int (nI kn), .ref m3, .ref m4, .ref m5, .int (nI ln), .int (nI 1), .long hs])), (m1, .inl (cI, 228, .inl gs)), (m2, .inl (cI, 684, .inl gp)), (m3, .inl (cI, 228, .inl gl)), (m4, .inl (cZ, 2, .inl gk)), (m5, .inl (cI, 60, .inl fx))] := hD
    subst hAe
    exact z_miret hx hb hr hlocks dX5_load_34 (rfl) hP9 hD9 hS

set_option maxHeartbeats 4000000 in
set_option maxRecDepth 100000 in
/-- load -/
theorem c_X5_load_ok (l : Launch) (D : va_G) (cI cZ cL : ClassId) (sz : Nat) (m0 : Nat) (m1 : Nat) (m2 : Nat) (m3 : Nat) (m4 : Nat) (m5 : Nat) (gs : Nat → Int32) (gp : Nat → Int32) (gl : Nat → Int32) (gk : Nat → Int32) (fx : Nat → Int32) (kn : Nat) (ln : Nat) (th : Int32) (hs : Int64) (hw : pWh fx ln = true) (hln : ln ≤ 60) (hkn : kn < 7) : Met l yX5_load wsX5_load ({ frames := 3, cells := 0, slots := 0, locals := 65 }) (va_Pc [.ref m0] (zM D cI cZ cL [(m0, .inr (4, [.ref m1, .ref m2, .int (nI kn), .ref m3, .ref m4, .ref m5, .int (nI ln), .int th, .long hs])), (m1, .inl (cI, 228, .inl gs)), (m2, .inl (cI, 684, .inl gp)), (m3, .inl (cI, 228, .inl gl)), (m4, .inl (cZ, 2, .inl gk)), (m5, .inl (cI, 60, .inl fx))] sz)) (zQmi D (nI (pTM (pLs gs fx ((ln + 1) / 5)) 0 + pTM (pLs gs fx ((ln + 1) / 5)) 1)) [(m0, .inr (4, [.ref m1, .ref m2, .int (nI kn), .ref m3, .ref m4, .ref m5, .int (nI ln), .int th, .long hs])), (m1, .inl (cI, 228, .inl gs)), (m2, .inl (cI, 684, .inl gp)), (m3, .inl (cI, 228, .inl gl)), (m4, .inl (cZ, 2, .inl gk)), (m5, .inl (cI, 60, .inl fx))] [(m0, .inr (4, [.ref m1, .ref m2, .int (nI (pKn kn + 1)), .ref m3, .ref m4, .ref m5, .int (nI 0), .int (nI 0), .long hs])), (m1, .inl (cI, 228, .inl (pLs gs fx ((ln + 1) / 5)))), (m2, .inl (cI, 684, .inl (pSv gs gp kn))), (m3, .inl (cI, 228, .inl gl)), (m4, .inl (cZ, 2, .inl gk)), (m5, .inl (cI, 60, .inl fx))] sz) 0 0 (va_A [(m0, .inr (4, [.ref m1, .ref m2, .int (nI kn), .ref m3, .ref m4, .ref m5, .int (nI ln), .int th, .long hs])), (m1, .inl (cI, 228, .inl gs)), (m2, .inl (cI, 684, .inl gp)), (m3, .inl (cI, 228, .inl gl)), (m4, .inl (cZ, 2, .inl gk)), (m5, .inl (cI, 60, .inl fx))] sz) := by
  refine Met.ofW (cc := cX5_load) (maxL := 4) (ret := (some .int)) (by decide) rfl ?_
  intro p e s m args below meth c s₁ B hml hv
  obtain ⟨rfl, hsz, ⟨hP, hK⟩, hD0⟩ := hv
  have hx := B.exec
  have hb := B.bytes
  have hr := B.returns
  have hts := atoms_spec (ws := wsX5_load) B.pre
  have hown : s.vm.findClass RX5 = some m.cls := findClass_of_methodNamed B.named
  have hlocks := B.notSynchronized
  subst hsz
  have hD := hD0.self (sz := s.heap.size)
  generalize hAe : va_A [(m0, .inr (4, [.ref m1, .ref m2, .int (nI kn), .ref m3, .ref m4, .ref m5, .int (nI ln), .int th, .long hs])), (m1, .inl (cI, 228, .inl gs)), (m2, .inl (cI, 684, .inl gp)), (m3, .inl (cI, 228, .inl gl)), (m4, .inl (cZ, 2, .inl gk)), (m5, .inl (cI, 60, .inl fx))] s.heap.size = A at hD ⊢
  have hA : ∀ q : Nat, s.heap.size ≤ q → A q := fun q h => by rw [← hAe]; exact Or.inr h
  have hS : va_S A s.heap s.heap [] := va_S.rf
  have in4 : ∀ w ∈ u_ws RX5 TX5 9, w ∈ wsX5_load := by decide +kernel
  have fl7 := hts (.fieldLink RX5 7 "TowerShadesModel" "s" "[I") (by decide +kernel)
  have fl23 := hts (.fieldLink RX5 23 "TowerShadesModel" "text" "[I") (by decide +kernel)
  have fl85 := hts (.fieldLink RX5 85 "TowerShadesModel" "length" "I") (by decide +kernel)
  have hl := lv_entry ([.ref m0]) (n := 4) (Nat.le_of_ble_eq_true rfl)
  rw [lg_entry_eq]
  generalize (lg_sl ([.ref m0]) ++ List.replicate (4 - (lg_sl ([.ref m0])).length) Slot.unset).toArray = ls at hl ⊢
  have hl : lv_has ls 4 [(0, .ref m0)] := hl
  have hw1 := (pWh_1 hw).1
  have hw2 := (pWh_1 hw).2
  have hkn5 := pKn_lt hkn
  refine lv_aload_n hx hb dX5_load_0 rfl (lv_at hl 0 rfl) ?_
  refine lv_aload_n hx hb dX5_load_1 rfl (lv_at hl 0 rfl) ?_
  refine z_ci (va_runV (As := []) (rest := [.ref m0]) ⟨hx, hb, hml, hown, hts⟩ (c_X5_errorAt l D cI cZ cL (m0 := m0) (m1 := m1) (m2 := m2) (m3 := m3) (m4 := m4) (m5 := m5) (gs := gs) (gp := gp) (gl := gl) (gk := gk) (fx := fx) (kn := kn) (ln := ln) (th := th) (hs := hs) (hln := by omega)) (cwV 0 hts gX5_load_X5_errorAt rfl rfl rfl (by decide +kernel) ⟨Nat.le_of_ble_eq_true rfl, Nat.le_of_ble_eq_true rfl⟩) (z_preV hK (hP.sub [0, 1, 2, 3, 4, 5] rfl) 0 4 rfl rfl) rfl rfl hl.1 rfl (lv_room (Nat.le_of_ble_eq_true rfl)) dX5_load_2 ⟨Nat.le_of_ble_eq_true rfl, Nat.le_of_ble_eq_true rfl⟩) ?_
  refine lv_aload_n hx hb dX5_load_5 rfl (lv_at hl 0 rfl) ?_
  refine va_get (D := D) (ci := 4) (v := .int (nI ln)) (C := RX5) (T := TX5) (N := 9) hx hb hts in4 hown hK hP 0 rfl rfl 6 (by decide) fl85 (fun _ h9 => h9) rfl dX5_load_6 ?_
  refine z_icmp_ne (tgt := 26) (P := pEr fx ln = ln) hx hb dX5_load_9 (by decide) (nI_eq (a := pEr fx ln) (b := ln) (by omega) (by omega)) (fun c9 => (show False from c9 hw2).elim) (fun c9 => ?_)
  refine lv_aload_n hx hb dX5_load_12 rfl (lv_at hl 0 rfl) ?_
  refine va_get (D := D) (ci := 4) (v := .int (nI ln)) (C := RX5) (T := TX5) (N := 9) hx hb hts in4 hown hK hP 0 rfl rfl 6 (by decide) fl85 (fun _ h9 => h9) rfl dX5_load_13 ?_
  refine lv_iconst (v := 5) hx hb dX5_load_16 (by decide) ?_
  refine z_irem (v := nI (ln % 5)) hx hb dX5_load_17 (by decide) (pk_rem (a := ln) (d := 5) (by omega) (by omega) (by omega)) ?_
  refine lv_iconst (v := 4) hx hb dX5_load_18 (by decide) ?_
  refine z_icmp_ne (tgt := 26) (P := (ln % 5) = 4) hx hb dX5_load_19 (by decide) (nI_eq (a := (ln % 5)) (b := 4) (by omega) (by omega)) (fun c19 => (show False from c19 hw1).elim) (fun c19 => ?_)
  refine lv_iconst (v := 0) hx hb dX5_load_22 (by decide) ?_
  refine lv_goto (tgt := 27) hx hb dX5_load_23 (by decide) ?_
  refine z_cmi (wr := []) (ws' := [(m0, .inr (4, [.ref m1, .ref m2, .int (nI kn), .ref m3, .ref m4, .ref m5, .int (nI ln), .int (nI 0), .long hs])), (m1, .inl (cI, 228, .inl gs)), (m2, .inl (cI, 684, .inl gp)), (m3, .inl (cI, 228, .inl gl)), (m4, .inl (cZ, 2, .inl gk)), (m5, .inl (cI, 60, .inl fx))]) (va_runV (As := [.int 0]) (rest := []) ⟨hx, hb, hml, hown, hts⟩ (c_X5_throwsAt l D cI cZ cL _ (m0 := m0) (m1 := m1) (m2 := m2) (m3 := m3) (m4 := m4) (m5 := m5) (gs := gs) (gp := gp) (gl := gl) (gk := gk) (fx := fx) (kn := kn) (ln := ln) (th := th) (hs := hs) (pc0 := 0) (hpc := by omega)) (cwV 1 hts gX5_load_X5_throwsAt rfl rfl rfl (by decide +kernel) ⟨Nat.le_of_ble_eq_true rfl, Nat.le_of_ble_eq_true rfl⟩) (z_preMV hK (hP.sub [0, 1, 2, 3, 4, 5] rfl) (hD.sub [0, 1, 2, 3, 4, 5] (by decide) rfl) 0 4 rfl rfl) rfl rfl hl.1 rfl (lv_room (Nat.le_of_ble_eq_true rfl)) dX5_load_27 ⟨Nat.le_of_ble_eq_true rfl, Nat.le_of_ble_eq_true rfl⟩) hP hD hS hA [0, 1, 2, 3, 4, 5] [] [0, 1, 2, 3, 4, 5] rfl rfl (by decide) (by decide) rfl rfl (by decide) (fun H locs hP hD hS => ?_)
  refine z_top (y := 0) (by decide) ?_
  refine z_if_eq (tgt := 35) (P := True) hx hb dX5_load_30 (by decide) (by decide) (fun c30 => ?_) (fun c30 => (show False from c30 trivial).elim)
  refine lv_aload_n hx hb dX5_load_35 rfl (lv_at hl 0 rfl) ?_
  refine z_cmv (wr := []) (ws' := [(m0, .inr (4, [.ref m1, .ref m2, .int (nI (pKn kn + 1)), .ref m3, .ref m4, .ref m5, .int (nI ln), .int (nI 0), .long hs])), (m1, .inl (cI, 228, .inl gs)), (m2, .inl (cI, 684, .inl (pSv gs gp kn))), (m3, .inl (cI, 228, .inl gl)), (m4, .inl (cZ, 2, .inl gk)), (m5, .inl (cI, 60, .inl fx))]) (va_runV (As := []) (rest := []) ⟨hx, hb, hml, hown, hts⟩ (c_X5_saves l D cI cZ cL _ (m0 := m0) (m1 := m1) (m2 := m2) (m3 := m3) (m4 := m4) (m5 := m5) (gs := gs) (gp := gp) (gl := gl) (gk := gk) (fx := fx) (kn := kn) (ln := ln) (th := nI 0) (hs := hs) (hkn := by omega)) (cwV 0 hts gX5_load_X5_saves rfl rfl rfl (by decide +kernel) ⟨Nat.le_of_ble_eq_true rfl, Nat.le_of_ble_eq_true rfl⟩) (z_preMV hK (hP.sub [0, 1, 2, 3, 4, 5] rfl) (hD.sub [0, 1, 2, 3, 4, 5] (by decide) rfl) 0 4 rfl rfl) rfl rfl hl.1 rfl (lv_room (Nat.le_of_ble_eq_true rfl)) dX5_load_36 ⟨Nat.le_of_ble_eq_true rfl, Nat.le_of_ble_eq_true rfl⟩) hP hD hS hA [0, 1, 2, 3, 4, 5] [] [0, 1, 2, 3, 4, 5] rfl rfl (by decide) (by decide) rfl rfl (by decide) (fun H locs hP hD hS => ?_)
  refine lv_iconst (v := 0) hx hb dX5_load_39 (by decide) ?_
  refine lv_istore_n (lv' := [(1, .int 0), (0, .ref m0)]) hx hb dX5_load_40 rfl hl (by decide) rfl (fun ls hl => ?_)
  have hW9 : ([(m0, .inr (4, [.ref m1, .ref m2, .int (nI (pKn kn + 1)), .ref m3, .ref m4, .ref m5, .int (nI ln), .int (nI 0), .long hs])), (m1, .inl (cI, 228, .inl gs)), (m2, .inl (cI, 684, .inl (pSv gs gp kn))), (m3, .inl (cI, 228, .inl gl)), (m4, .inl (cZ, 2, .inl gk)), (m5, .inl (cI, 60, .inl fx))] : va_W) = [(m0, .inr (4, [.ref m1, .ref m2, .int (nI (pKn kn + 1)), .ref m3, .ref m4, .ref m5, .int (nI ln), .int (nI 0), .long hs])), (m1, .inl (cI, 228, .inl (pLs gs fx 0))), (m2, .inl (cI, 684, .inl (pSv gs gp kn))), (m3, .inl (cI, 228, .inl gl)), (m4, .inl (cZ, 2, .inl gk)), (m5, .inl (cI, 60, .inl fx))] := rfl
  rw [hW9] at hP hD
  refine z_upH (N := ((ln + 1) / 5)) (i0 := 0) (fun i H locs ls => va_P D vwCl [(m0, .inr (4, [.ref m1, .ref m2, .int (nI (pKn kn + 1)), .ref m3, .ref m4, .ref m5, .int (nI ln), .int (nI 0), .long hs])), (m1, .inl (cI, 228, .inl (pLs gs fx i))), (m2, .inl (cI, 684, .inl (pSv gs gp kn))), (m3, .inl (cI, 228, .inl gl)), (m4, .inl (cZ, 2, .inl gk)), (m5, .inl (cI, 60, .inl fx))] H ∧ va_D A [(m0, .inr (4, [.ref m1, .ref m2, .int (nI (pKn kn + 1)), .ref m3, .ref m4, .ref m5, .int (nI ln), .int (nI 0), .long hs])), (m1, .inl (cI, 228, .inl (pLs gs fx i))), (m2, .inl (cI, 684, .inl (pSv gs gp kn))), (m3, .inl (cI, 228, .inl gl)), (m4, .inl (cZ, 2, .inl gk)), (m5, .inl (cI, 60, .inl fx))] ∧ va_S A s.heap H locs ∧ lv_has ls 4 [(0, .ref m0), (1, .int (nI (i * 5)))]) (by omega) (⟨hP, hD, hS, lv_sub hl [1, 0] rfl⟩) (fun i H locs ls hi41 hI ih41 => ?_)
  obtain ⟨hP, hD, hS, hl⟩ := hI
  refine lv_iload_n hx hb dX5_load_41 rfl (lv_at hl 1 rfl) ?_
  refine lv_aload_n hx hb dX5_load_42 rfl (lv_at hl 0 rfl) ?_
  refine va_get (D := D) (ci := 4) (v := .int (nI ln)) (C := RX5) (T := TX5) (N := 9) hx hb hts in4 hown hK hP 0 rfl rfl 6 (by decide) fl85 (fun _ h9 => h9) rfl dX5_load_43 ?_
  refine z_icmp_ge (tgt := 154) (P := ln ≤ (i * 5)) hx hb dX5_load_46 (by decide) (nI_leI (a := ln) (b := (i * 5)) (by omega) (by omega)) (fun c46 => ?_) (fun c46 => ?_)
  · skip
    obtain rfl : i = ((ln + 1) / 5) := by omega
    refine lv_aload_n hx hb dX5_load_154 rfl (lv_at hl 0 rfl) ?_
    refine lv_iconst (v := 0) hx hb dX5_load_155 (by decide) ?_
    refine va_put (D := D) (ci := 4) (v := .int 0) (ty := .int) (C := RX5) (T := TX5) (N := 9) hx hb hts in4 tyX5 tyX5_ok nmX5 hown hK hP hD hS 0 rfl rfl 6 (by decide) fl85 (fun _ h9 => h9) rfl (by decide +kernel) rfl rfl (Nat.le_of_ble_eq_true rfl) dX5_load_156 (fun H locs hP hD hS => ?_)
    have hP : va_P D vwCl [(m0, .inr (4, [.ref m1, .ref m2, .int (nI (pKn kn + 1)), .ref m3, .ref m4, .ref m5, .int 0, .int (nI 0), .long hs])), (m1, .inl (cI, 228, .inl (pLs gs fx ((ln + 1) / 5)))), (m2, .inl (cI, 684, .inl (pSv gs gp kn))), (m3, .inl (cI, 228, .inl gl)), (m4, .inl (cZ, 2, .inl gk)), (m5, .inl (cI, 60, .inl fx))] _ := hP
    have hD : va_D A [(m0, .inr (4, [.ref m1, .ref m2, .int (nI (pKn kn + 1)), .ref m3, .ref m4, .ref m5, .int 0, .int (nI 0), .long hs])), (m1, .inl (cI, 228, .inl (pLs gs fx ((ln + 1) / 5)))), (m2, .inl (cI, 684, .inl (pSv gs gp kn))), (m3, .inl (cI, 228, .inl gl)), (m4, .inl (cZ, 2, .inl gk)), (m5, .inl (cI, 60, .inl fx))] := hD
    refine lv_aload_n hx hb dX5_load_159 rfl (lv_at hl 0 rfl) ?_
    refine lv_iconst (v := 0) hx hb dX5_load_160 (by decide) ?_
    refine z_ci (va_runV (As := [.int 0]) (rest := []) ⟨hx, hb, hml, hown, hts⟩ (c_X5_towers l D cI cZ cL (m0 := m0) (m1 := m1) (m2 := m2) (m3 := m3) (m4 := m4) (m5 := m5) (gs := (pLs gs fx ((ln + 1) / 5))) (gp := (pSv gs gp kn)) (gl := gl) (gk := gk) (fx := fx) (kn := (pKn kn + 1)) (ln := 0) (th := nI 0) (hs := hs) (pl := 0) (hpl := by omega)) (cwV 1 hts gX5_load_X5_towers rfl rfl rfl (by decide +kernel) ⟨Nat.le_of_ble_eq_true rfl, Nat.le_of_ble_eq_true rfl⟩) (z_preV hK (hP.sub [0, 1, 2, 3, 4, 5] rfl) 0 4 rfl rfl) rfl rfl hl.1 rfl (lv_room (Nat.le_of_ble_eq_true rfl)) dX5_load_161 ⟨Nat.le_of_ble_eq_true rfl, Nat.le_of_ble_eq_true rfl⟩) ?_
    refine lv_aload_n hx hb dX5_load_164 rfl (lv_at hl 0 rfl) ?_
    refine lv_iconst (v := 1) hx hb dX5_load_165 (by decide) ?_
    refine z_ci (va_runV (As := [.int 1]) (rest := [.int (nI (pTM (pLs gs fx ((ln + 1) / 5)) 0))]) ⟨hx, hb, hml, hown, hts⟩ (c_X5_towers l D cI cZ cL (m0 := m0) (m1 := m1) (m2 := m2) (m3 := m3) (m4 := m4) (m5 := m5) (gs := (pLs gs fx ((ln + 1) / 5))) (gp := (pSv gs gp kn)) (gl := gl) (gk := gk) (fx := fx) (kn := (pKn kn + 1)) (ln := 0) (th := nI 0) (hs := hs) (pl := 1) (hpl := by omega)) (cwV 1 hts gX5_load_X5_towers rfl rfl rfl (by decide +kernel) ⟨Nat.le_of_ble_eq_true rfl, Nat.le_of_ble_eq_true rfl⟩) (z_preV hK (hP.sub [0, 1, 2, 3, 4, 5] rfl) 0 4 rfl rfl) rfl rfl hl.1 rfl (lv_room (Nat.le_of_ble_eq_true rfl)) dX5_load_166 ⟨Nat.le_of_ble_eq_true rfl, Nat.le_of_ble_eq_true rfl⟩) ?_
    refine z_iadd (v := nI (pTM (pLs gs fx ((ln + 1) / 5)) 0 + pTM (pLs gs fx ((ln + 1) / 5)) 1)) hx hb dX5_load_169 (nI_add (pTM (pLs gs fx ((ln + 1) / 5)) 0) (pTM (pLs gs fx ((ln + 1) / 5)) 1)) ?_
    have hW9 : ([(m0, .inr (4, [.ref m1, .ref m2, .int (nI (pKn kn + 1)), .ref m3, .ref m4, .ref m5, .int 0, .int (nI 0), .long hs])), (m1, .inl (cI, 228, .inl (pLs gs fx ((ln + 1) / 5)))), (m2, .inl (cI, 684, .inl (pSv gs gp kn))), (m3, .inl (cI, 228, .inl gl)), (m4, .inl (cZ, 2, .inl gk)), (m5, .inl (cI, 60, .inl fx))] : va_W) = [(m0, .inr (4, [.ref m1, .ref m2, .int (nI (pKn kn + 1)), .ref m3, .ref m4, .ref m5, .int (nI 0), .int (nI 0), .long hs])), (m1, .inl (cI, 228, .inl (pLs gs fx ((ln + 1) / 5)))), (m2, .inl (cI, 684, .inl (pSv gs gp kn))), (m3, .inl (cI, 228, .inl gl)), (m4, .inl (cZ, 2, .inl gk)), (m5, .inl (cI, 60, .inl fx))] := rfl
    rw [hW9] at hP hD
    have hP9 : va_P D vwCl [(m0, .inr (4, [.ref m1, .ref m2, .int (nI (pKn kn + 1)), .ref m3, .ref m4, .ref m5, .int (nI 0), .int (nI 0), .long hs])), (m1, .inl (cI, 228, .inl (pLs gs fx ((ln + 1) / 5)))), (m2, .inl (cI, 684, .inl (pSv gs gp kn))), (m3, .inl (cI, 228, .inl gl)), (m4, .inl (cZ, 2, .inl gk)), (m5, .inl (cI, 60, .inl fx))] _ := hP
    have hD9 : va_D A [(m0, .inr (4, [.ref m1, .ref m2, .int (nI (pKn kn + 1)), .ref m3, .ref m4, .ref m5, .int (nI 0), .int (nI 0), .long hs])), (m1, .inl (cI, 228, .inl (pLs gs fx ((ln + 1) / 5)))), (m2, .inl (cI, 684, .inl (pSv gs gp kn))), (m3, .inl (cI, 228, .inl gl)), (m4, .inl (cZ, 2, .inl gk)), (m5, .inl (cI, 60, .inl fx))] := hD
    subst hAe
    exact z_miret hx hb hr hlocks dX5_load_170 (rfl) hP9 hD9 hS
  · skip
    have hE5 : i * 5 + 4 ≤ ln := by omega
    obtain ⟨hq1, -, hq2⟩ := sq_e (e := i) hw (by omega)
    refine lv_bipush (v := 6) hx hb dX5_load_49 (by decide) ?_
    refine lv_aload_n hx hb dX5_load_51 rfl (lv_at hl 0 rfl) ?_
    refine va_get (D := D) (ci := 4) (v := .ref m5) (C := RX5) (T := TX5) (N := 9) hx hb hts in4 hown hK hP 0 rfl rfl 5 (by decide) fl23 (fun _ h9 => h9) rfl dX5_load_52 ?_
    refine lv_iload_n hx hb dX5_load_55 rfl (lv_at hl 1 rfl) ?_
    refine z_iald hx hb hK hP 5 0 rfl rfl (k := (i * 5)) (rfl) (by omega) (by decide) dX5_load_56 ?_
    refine lv_bipush (v := 97) hx hb dX5_load_57 (by decide) ?_
    refine z_isub (v := ((fx (i * 5)) - 97)) hx hb dX5_load_59 (rfl) ?_
    refine z_imul (v := (6 * ((fx (i * 5)) - 97))) hx hb dX5_load_60 (rfl) ?_
    refine lv_aload_n hx hb dX5_load_61 rfl (lv_at hl 0 rfl) ?_
    refine va_get (D := D) (ci := 4) (v := .ref m5) (C := RX5) (T := TX5) (N := 9) hx hb hts in4 hown hK hP 0 rfl rfl 5 (by decide) fl23 (fun _ h9 => h9) rfl dX5_load_62 ?_
    refine lv_iload_n hx hb dX5_load_65 rfl (lv_at hl 1 rfl) ?_
    refine lv_iconst (v := 1) hx hb dX5_load_66 (by decide) ?_
    refine z_iadd (v := nI ((i * 5) + 1)) hx hb dX5_load_67 (nI_add ((i * 5)) (1)) ?_
    refine z_iald hx hb hK hP 5 0 rfl rfl (k := ((i * 5) + 1)) (rfl) (by omega) (by decide) dX5_load_68 ?_
    refine z_iadd (v := ((6 * ((fx (i * 5)) - 97)) + (fx ((i * 5) + 1)))) hx hb dX5_load_69 (rfl) ?_
    refine lv_bipush (v := 49) hx hb dX5_load_70 (by decide) ?_
    refine z_isub (v := (((6 * ((fx (i * 5)) - 97)) + (fx ((i * 5) + 1))) - 49)) hx hb dX5_load_72 (rfl) ?_
    refine z_top (y := nI (pSqN fx i)) hq1 ?_
    refine lv_istore_n (lv' := [(2, .int (nI (pSqN fx i))), (0, .ref m0), (1, .int (nI (i * 5)))]) hx hb dX5_load_73 rfl hl (by decide) rfl (fun ls hl => ?_)
    refine lv_aload_n hx hb dX5_load_74 rfl (lv_at hl 1 rfl) ?_
    refine va_get (D := D) (ci := 4) (v := .ref m5) (C := RX5) (T := TX5) (N := 9) hx hb hts in4 hown hK hP 0 rfl rfl 5 (by decide) fl23 (fun _ h9 => h9) rfl dX5_load_75 ?_
    refine lv_iload_n hx hb dX5_load_78 rfl (lv_at hl 2 rfl) ?_
    refine lv_iconst (v := 3) hx hb dX5_load_79 (by decide) ?_
    refine z_iadd (v := nI ((i * 5) + 3)) hx hb dX5_load_80 (nI_add ((i * 5)) (3)) ?_
    refine z_iald hx hb hK hP 5 0 rfl rfl (k := ((i * 5) + 3)) (rfl) (by omega) (by decide) dX5_load_81 ?_
    refine lv_bipush (v := 48) hx hb dX5_load_82 (by decide) ?_
    refine z_isub (v := ((fx ((i * 5) + 3)) - 48)) hx hb dX5_load_84 (rfl) ?_
    refine z_top (y := (pNm fx i)) rfl ?_
    refine lv_istore_n (lv' := [(3, .int (pNm fx i)), (2, .int (nI (pSqN fx i))), (0, .ref m0), (1, .int (nI (i * 5)))]) hx hb dX5_load_85 rfl hl (by decide) rfl (fun ls hl => ?_)
    refine lv_aload_n hx hb dX5_load_86 rfl (lv_at hl 2 rfl) ?_
    refine va_get (D := D) (ci := 4) (v := .ref m5) (C := RX5) (T := TX5) (N := 9) hx hb hts in4 hown hK hP 0 rfl rfl 5 (by decide) fl23 (fun _ h9 => h9) rfl dX5_load_87 ?_
    refine lv_iload_n hx hb dX5_load_90 rfl (lv_at hl 3 rfl) ?_
    refine lv_iconst (v := 2) hx hb dX5_load_91 (by decide) ?_
    refine z_iadd (v := nI ((i * 5) + 2)) hx hb dX5_load_92 (nI_add ((i * 5)) (2)) ?_
    refine z_iald hx hb hK hP 5 0 rfl rfl (k := ((i * 5) + 2)) (rfl) (by omega) (by decide) dX5_load_93 ?_
    refine lv_bipush (v := 61) hx hb dX5_load_94 (by decide) ?_
    refine z_icmp_ne (tgt := 112) (P := (fx ((i * 5) + 2)) = 61) hx hb dX5_load_96 (by decide) (Iff.rfl) (fun c96 => ?_) (fun c96 => ?_)
    · skip
      refine lv_aload_n hx hb dX5_load_112 rfl (lv_at hl 2 rfl) ?_
      refine va_get (D := D) (ci := 4) (v := .ref m1) (C := RX5) (T := TX5) (N := 9) hx hb hts in4 hown hK hP 0 rfl rfl 0 (by decide) fl7 (fun _ h9 => h9) rfl dX5_load_113 ?_
      refine lv_bipush (v := 36) hx hb dX5_load_116 (by decide) ?_
      refine lv_iload_n hx hb dX5_load_118 rfl (lv_at hl 1 rfl) ?_
      refine z_iadd (v := nI (36 + (pSqN fx i))) hx hb dX5_load_119 (nI_add (36) ((pSqN fx i))) ?_
      refine lv_aload_n hx hb dX5_load_120 rfl (lv_at hl 2 rfl) ?_
      refine va_get (D := D) (ci := 4) (v := .ref m5) (C := RX5) (T := TX5) (N := 9) hx hb hts in4 hown hK hP 0 rfl rfl 5 (by decide) fl23 (fun _ h9 => h9) rfl dX5_load_121 ?_
      refine lv_iload_n hx hb dX5_load_124 rfl (lv_at hl 3 rfl) ?_
      refine lv_iconst (v := 2) hx hb dX5_load_125 (by decide) ?_
      refine z_iadd (v := nI ((i * 5) + 2)) hx hb dX5_load_126 (nI_add ((i * 5)) (2)) ?_
      refine z_iald hx hb hK hP 5 0 rfl rfl (k := ((i * 5) + 2)) (rfl) (by omega) (by decide) dX5_load_127 ?_
      refine lv_bipush (v := 43) hx hb dX5_load_128 (by decide) ?_
      refine z_icmp_ne (tgt := 137) (P := (fx ((i * 5) + 2)) = 43) hx hb dX5_load_130 (by decide) (Iff.rfl) (fun c130 => ?_) (fun c130 => ?_)
      · skip
        refine lv_iconst (v := 2) hx hb dX5_load_137 (by decide) ?_
        refine z_iast hx hb hK hP hD hS 1 0 rfl rfl (k := (36 + (pSqN fx i))) (rfl) (by omega) (by decide) dX5_load_138 (g := upd (pLs gs fx i) (36 + (pSqN fx i)) 2) (rfl) (fun H locs hP hD hS => ?_)
        have hP : va_P D vwCl [(m0, .inr (4, [.ref m1, .ref m2, .int (nI (pKn kn + 1)), .ref m3, .ref m4, .ref m5, .int (nI ln), .int (nI 0), .long hs])), (m1, .inl (cI, 228, .inl (upd (pLs gs fx i) (36 + (pSqN fx i)) 2))), (m2, .inl (cI, 684, .inl (pSv gs gp kn))), (m3, .inl (cI, 228, .inl gl)), (m4, .inl (cZ, 2, .inl gk)), (m5, .inl (cI, 60, .inl fx))] _ := hP
        have hD : va_D A [(m0, .inr (4, [.ref m1, .ref m2, .int (nI (pKn kn + 1)), .ref m3, .ref m4, .ref m5, .int (nI ln), .int (nI 0), .long hs])), (m1, .inl (cI, 228, .inl (upd (pLs gs fx i) (36 + (pSqN fx i)) 2))), (m2, .inl (cI, 684, .inl (pSv gs gp kn))), (m3, .inl (cI, 228, .inl gl)), (m4, .inl (cZ, 2, .inl gk)), (m5, .inl (cI, 60, .inl fx))] := hD
        refine lv_aload_n hx hb dX5_load_139 rfl (lv_at hl 2 rfl) ?_
        refine va_get (D := D) (ci := 4) (v := .ref m1) (C := RX5) (T := TX5) (N := 9) hx hb hts in4 hown hK hP 0 rfl rfl 0 (by decide) fl7 (fun _ h9 => h9) rfl dX5_load_140 ?_
        refine lv_iconst (v := 0) hx hb dX5_load_143 (by decide) ?_
        refine lv_iload_n hx hb dX5_load_144 rfl (lv_at hl 1 rfl) ?_
        refine z_iadd (v := nI (0 + (pSqN fx i))) hx hb dX5_load_145 (nI_add (0) ((pSqN fx i))) ?_
        refine lv_iload_n hx hb dX5_load_146 rfl (lv_at hl 0 rfl) ?_
        refine z_iast hx hb hK hP hD hS 1 0 rfl rfl (k := (0 + (pSqN fx i))) (rfl) (by omega) (by decide) dX5_load_147 (g := upd (upd (pLs gs fx i) (36 + (pSqN fx i)) 2) (0 + (pSqN fx i)) (pNm fx i)) (rfl) (fun H locs hP hD hS => ?_)
        have hP : va_P D vwCl [(m0, .inr (4, [.ref m1, .ref m2, .int (nI (pKn kn + 1)), .ref m3, .ref m4, .ref m5, .int (nI ln), .int (nI 0), .long hs])), (m1, .inl (cI, 228, .inl (upd (upd (pLs gs fx i) (36 + (pSqN fx i)) 2) (0 + (pSqN fx i)) (pNm fx i)))), (m2, .inl (cI, 684, .inl (pSv gs gp kn))), (m3, .inl (cI, 228, .inl gl)), (m4, .inl (cZ, 2, .inl gk)), (m5, .inl (cI, 60, .inl fx))] _ := hP
        have hD : va_D A [(m0, .inr (4, [.ref m1, .ref m2, .int (nI (pKn kn + 1)), .ref m3, .ref m4, .ref m5, .int (nI ln), .int (nI 0), .long hs])), (m1, .inl (cI, 228, .inl (upd (upd (pLs gs fx i) (36 + (pSqN fx i)) 2) (0 + (pSqN fx i)) (pNm fx i)))), (m2, .inl (cI, 684, .inl (pSv gs gp kn))), (m3, .inl (cI, 228, .inl gl)), (m4, .inl (cZ, 2, .inl gk)), (m5, .inl (cI, 60, .inl fx))] := hD
        have hW9 : ([(m0, .inr (4, [.ref m1, .ref m2, .int (nI (pKn kn + 1)), .ref m3, .ref m4, .ref m5, .int (nI ln), .int (nI 0), .long hs])), (m1, .inl (cI, 228, .inl (upd (upd (pLs gs fx i) (36 + (pSqN fx i)) 2) (0 + (pSqN fx i)) (pNm fx i)))), (m2, .inl (cI, 684, .inl (pSv gs gp kn))), (m3, .inl (cI, 228, .inl gl)), (m4, .inl (cZ, 2, .inl gk)), (m5, .inl (cI, 60, .inl fx))] : va_W) = [(m0, .inr (4, [.ref m1, .ref m2, .int (nI (pKn kn + 1)), .ref m3, .ref m4, .ref m5, .int (nI ln), .int (nI 0), .long hs])), (m1, .inl (cI, 228, .inl (pLs gs fx (i + 1)))), (m2, .inl (cI, 684, .inl (pSv gs gp kn))), (m3, .inl (cI, 228, .inl gl)), (m4, .inl (cZ, 2, .inl gk)), (m5, .inl (cI, 60, .inl fx))] := by simp [-Nat.add_zero, -Nat.zero_add, -Nat.reduceAdd, pLs, pLe, c46, c96, c130]
        rw [hW9] at hP hD
        refine lv_iinc (v := nI ((i + 1) * 5)) (lv' := [(1, .int (nI ((i + 1) * 5))), (3, .int (pNm fx i)), (2, .int (nI (pSqN fx i))), (0, .ref m0)]) hx hb dX5_load_148 hl (k := 3) rfl (by rw [show (i + 1) * 5 = i * 5 + 5 by omega]; exact nI_add (i * 5) 5) (by decide) rfl (fun ls hl => ?_)
        refine lv_goto (tgt := 41) hx hb dX5_load_151 (by decide) ?_
        exact ih41 (by omega) _ _ _ (⟨hP, hD, hS, lv_sub hl [3, 0] rfl⟩)
      · skip
        refine lv_iconst (v := 1) hx hb dX5_load_133 (by decide) ?_
        refine lv_goto (tgt := 138) hx hb dX5_load_134 (by decide) ?_
        refine z_iast hx hb hK hP hD hS 1 0 rfl rfl (k := (36 + (pSqN fx i))) (rfl) (by omega) (by decide) dX5_load_138 (g := upd (pLs gs fx i) (36 + (pSqN fx i)) 1) (rfl) (fun H locs hP hD hS => ?_)
        have hP : va_P D vwCl [(m0, .inr (4, [.ref m1, .ref m2, .int (nI (pKn kn + 1)), .ref m3, .ref m4, .ref m5, .int (nI ln), .int (nI 0), .long hs])), (m1, .inl (cI, 228, .inl (upd (pLs gs fx i) (36 + (pSqN fx i)) 1))), (m2, .inl (cI, 684, .inl (pSv gs gp kn))), (m3, .inl (cI, 228, .inl gl)), (m4, .inl (cZ, 2, .inl gk)), (m5, .inl (cI, 60, .inl fx))] _ := hP
        have hD : va_D A [(m0, .inr (4, [.ref m1, .ref m2, .int (nI (pKn kn + 1)), .ref m3, .ref m4, .ref m5, .int (nI ln), .int (nI 0), .long hs])), (m1, .inl (cI, 228, .inl (upd (pLs gs fx i) (36 + (pSqN fx i)) 1))), (m2, .inl (cI, 684, .inl (pSv gs gp kn))), (m3, .inl (cI, 228, .inl gl)), (m4, .inl (cZ, 2, .inl gk)), (m5, .inl (cI, 60, .inl fx))] := hD
        refine lv_aload_n hx hb dX5_load_139 rfl (lv_at hl 2 rfl) ?_
        refine va_get (D := D) (ci := 4) (v := .ref m1) (C := RX5) (T := TX5) (N := 9) hx hb hts in4 hown hK hP 0 rfl rfl 0 (by decide) fl7 (fun _ h9 => h9) rfl dX5_load_140 ?_
        refine lv_iconst (v := 0) hx hb dX5_load_143 (by decide) ?_
        refine lv_iload_n hx hb dX5_load_144 rfl (lv_at hl 1 rfl) ?_
        refine z_iadd (v := nI (0 + (pSqN fx i))) hx hb dX5_load_145 (nI_add (0) ((pSqN fx i))) ?_
        refine lv_iload_n hx hb dX5_load_146 rfl (lv_at hl 0 rfl) ?_
        refine z_iast hx hb hK hP hD hS 1 0 rfl rfl (k := (0 + (pSqN fx i))) (rfl) (by omega) (by decide) dX5_load_147 (g := upd (upd (pLs gs fx i) (36 + (pSqN fx i)) 1) (0 + (pSqN fx i)) (pNm fx i)) (rfl) (fun H locs hP hD hS => ?_)
        have hP : va_P D vwCl [(m0, .inr (4, [.ref m1, .ref m2, .int (nI (pKn kn + 1)), .ref m3, .ref m4, .ref m5, .int (nI ln), .int (nI 0), .long hs])), (m1, .inl (cI, 228, .inl (upd (upd (pLs gs fx i) (36 + (pSqN fx i)) 1) (0 + (pSqN fx i)) (pNm fx i)))), (m2, .inl (cI, 684, .inl (pSv gs gp kn))), (m3, .inl (cI, 228, .inl gl)), (m4, .inl (cZ, 2, .inl gk)), (m5, .inl (cI, 60, .inl fx))] _ := hP
        have hD : va_D A [(m0, .inr (4, [.ref m1, .ref m2, .int (nI (pKn kn + 1)), .ref m3, .ref m4, .ref m5, .int (nI ln), .int (nI 0), .long hs])), (m1, .inl (cI, 228, .inl (upd (upd (pLs gs fx i) (36 + (pSqN fx i)) 1) (0 + (pSqN fx i)) (pNm fx i)))), (m2, .inl (cI, 684, .inl (pSv gs gp kn))), (m3, .inl (cI, 228, .inl gl)), (m4, .inl (cZ, 2, .inl gk)), (m5, .inl (cI, 60, .inl fx))] := hD
        have hW9 : ([(m0, .inr (4, [.ref m1, .ref m2, .int (nI (pKn kn + 1)), .ref m3, .ref m4, .ref m5, .int (nI ln), .int (nI 0), .long hs])), (m1, .inl (cI, 228, .inl (upd (upd (pLs gs fx i) (36 + (pSqN fx i)) 1) (0 + (pSqN fx i)) (pNm fx i)))), (m2, .inl (cI, 684, .inl (pSv gs gp kn))), (m3, .inl (cI, 228, .inl gl)), (m4, .inl (cZ, 2, .inl gk)), (m5, .inl (cI, 60, .inl fx))] : va_W) = [(m0, .inr (4, [.ref m1, .ref m2, .int (nI (pKn kn + 1)), .ref m3, .ref m4, .ref m5, .int (nI ln), .int (nI 0), .long hs])), (m1, .inl (cI, 228, .inl (pLs gs fx (i + 1)))), (m2, .inl (cI, 684, .inl (pSv gs gp kn))), (m3, .inl (cI, 228, .inl gl)), (m4, .inl (cZ, 2, .inl gk)), (m5, .inl (cI, 60, .inl fx))] := by simp [-Nat.add_zero, -Nat.zero_add, -Nat.reduceAdd, pLs, pLe, c46, c96, c130]
        rw [hW9] at hP hD
        refine lv_iinc (v := nI ((i + 1) * 5)) (lv' := [(1, .int (nI ((i + 1) * 5))), (3, .int (pNm fx i)), (2, .int (nI (pSqN fx i))), (0, .ref m0)]) hx hb dX5_load_148 hl (k := 3) rfl (by rw [show (i + 1) * 5 = i * 5 + 5 by omega]; exact nI_add (i * 5) 5) (by decide) rfl (fun ls hl => ?_)
        refine lv_goto (tgt := 41) hx hb dX5_load_151 (by decide) ?_
        exact ih41 (by omega) _ _ _ (⟨hP, hD, hS, lv_sub hl [3, 0] rfl⟩)
    · skip
      refine lv_aload_n hx hb dX5_load_99 rfl (lv_at hl 2 rfl) ?_
      refine va_get (D := D) (ci := 4) (v := .ref m1) (C := RX5) (T := TX5) (N := 9) hx hb hts in4 hown hK hP 0 rfl rfl 0 (by decide) fl7 (fun _ h9 => h9) rfl dX5_load_100 ?_
      refine lv_bipush (v := 72) hx hb dX5_load_103 (by decide) ?_
      refine lv_iload_n hx hb dX5_load_105 rfl (lv_at hl 1 rfl) ?_
      refine z_iadd (v := nI (72 + (pSqN fx i))) hx hb dX5_load_106 (nI_add (72) ((pSqN fx i))) ?_
      refine lv_iload_n hx hb dX5_load_107 rfl (lv_at hl 0 rfl) ?_
      refine z_iast hx hb hK hP hD hS 1 0 rfl rfl (k := (72 + (pSqN fx i))) (rfl) (by omega) (by decide) dX5_load_108 (g := upd (pLs gs fx i) (72 + (pSqN fx i)) (pNm fx i)) (rfl) (fun H locs hP hD hS => ?_)
      have hP : va_P D vwCl [(m0, .inr (4, [.ref m1, .ref m2, .int (nI (pKn kn + 1)), .ref m3, .ref m4, .ref m5, .int (nI ln), .int (nI 0), .long hs])), (m1, .inl (cI, 228, .inl (upd (pLs gs fx i) (72 + (pSqN fx i)) (pNm fx i)))), (m2, .inl (cI, 684, .inl (pSv gs gp kn))), (m3, .inl (cI, 228, .inl gl)), (m4, .inl (cZ, 2, .inl gk)), (m5, .inl (cI, 60, .inl fx))] _ := hP
      have hD : va_D A [(m0, .inr (4, [.ref m1, .ref m2, .int (nI (pKn kn + 1)), .ref m3, .ref m4, .ref m5, .int (nI ln), .int (nI 0), .long hs])), (m1, .inl (cI, 228, .inl (upd (pLs gs fx i) (72 + (pSqN fx i)) (pNm fx i)))), (m2, .inl (cI, 684, .inl (pSv gs gp kn))), (m3, .inl (cI, 228, .inl gl)), (m4, .inl (cZ, 2, .inl gk)), (m5, .inl (cI, 60, .inl fx))] := hD
      refine lv_goto (tgt := 148) hx hb dX5_load_109 (by decide) ?_
      have hW9 : ([(m0, .inr (4, [.ref m1, .ref m2, .int (nI (pKn kn + 1)), .ref m3, .ref m4, .ref m5, .int (nI ln), .int (nI 0), .long hs])), (m1, .inl (cI, 228, .inl (upd (pLs gs fx i) (72 + (pSqN fx i)) (pNm fx i)))), (m2, .inl (cI, 684, .inl (pSv gs gp kn))), (m3, .inl (cI, 228, .inl gl)), (m4, .inl (cZ, 2, .inl gk)), (m5, .inl (cI, 60, .inl fx))] : va_W) = [(m0, .inr (4, [.ref m1, .ref m2, .int (nI (pKn kn + 1)), .ref m3, .ref m4, .ref m5, .int (nI ln), .int (nI 0), .long hs])), (m1, .inl (cI, 228, .inl (pLs gs fx (i + 1)))), (m2, .inl (cI, 684, .inl (pSv gs gp kn))), (m3, .inl (cI, 228, .inl gl)), (m4, .inl (cZ, 2, .inl gk)), (m5, .inl (cI, 60, .inl fx))] := by simp [-Nat.add_zero, -Nat.zero_add, -Nat.reduceAdd, pLs, pLe, c46, c96]
      rw [hW9] at hP hD
      refine lv_iinc (v := nI ((i + 1) * 5)) (lv' := [(1, .int (nI ((i + 1) * 5))), (3, .int (pNm fx i)), (2, .int (nI (pSqN fx i))), (0, .ref m0)]) hx hb dX5_load_148 hl (k := 3) rfl (by rw [show (i + 1) * 5 = i * 5 + 5 by omega]; exact nI_add (i * 5) 5) (by decide) rfl (fun ls hl => ?_)
      refine lv_goto (tgt := 41) hx hb dX5_load_151 (by decide) ?_
      exact ih41 (by omega) _ _ _ (⟨hP, hD, hS, lv_sub hl [3, 0] rfl⟩)

set_option maxHeartbeats 4000000 in
set_option maxRecDepth 100000 in
/-- keep: out of range -/
theorem c_X5_keep_out (l : Launch) (D : va_G) (cI cZ cL : ClassId) (sz : Nat) (m0 : Nat) (m1 : Nat) (m2 : Nat) (m3 : Nat) (m4 : Nat) (m5 : Nat) (gs : Nat → Int32) (gp : Nat → Int32) (gl : Nat → Int32) (gk : Nat → Int32) (fx : Nat → Int32) (kn : Nat) (ln : Nat) (th : Int32) (hs : Int64) (p0 : Int32) (hout : (decide (0 ≤ p0) && decide (p0 ≤ 1)) = false) : Met l yX5_keep wsX5_keep ({ frames := 1, cells := 0, slots := 0, locals := 22 }) (va_Pc [.ref m0, .int p0] (zM D cI cZ cL [(m0, .inr (4, [.ref m1, .ref m2, .int (nI kn), .ref m3, .ref m4, .ref m5, .int (nI ln), .int th, .long hs])), (m1, .inl (cI, 228, .inl gs)), (m2, .inl (cI, 684, .inl gp)), (m3, .inl (cI, 228, .inl gl)), (m4, .inl (cZ, 2, .inl gk)), (m5, .inl (cI, 60, .inl fx))] sz)) (zQmi D 0 [(m0, .inr (4, [.ref m1, .ref m2, .int (nI kn), .ref m3, .ref m4, .ref m5, .int (nI ln), .int th, .long hs])), (m1, .inl (cI, 228, .inl gs)), (m2, .inl (cI, 684, .inl gp)), (m3, .inl (cI, 228, .inl gl)), (m4, .inl (cZ, 2, .inl gk)), (m5, .inl (cI, 60, .inl fx))] [(m0, .inr (4, [.ref m1, .ref m2, .int (nI kn), .ref m3, .ref m4, .ref m5, .int (nI ln), .int (nI 1), .long hs])), (m1, .inl (cI, 228, .inl gs)), (m2, .inl (cI, 684, .inl gp)), (m3, .inl (cI, 228, .inl gl)), (m4, .inl (cZ, 2, .inl gk)), (m5, .inl (cI, 60, .inl fx))] sz) 0 0 (va_A [(m0, .inr (4, [.ref m1, .ref m2, .int (nI kn), .ref m3, .ref m4, .ref m5, .int (nI ln), .int th, .long hs])), (m1, .inl (cI, 228, .inl gs)), (m2, .inl (cI, 684, .inl gp)), (m3, .inl (cI, 228, .inl gl)), (m4, .inl (cZ, 2, .inl gk)), (m5, .inl (cI, 60, .inl fx))] sz) := by
  refine Met.ofW (cc := cX5_keep) (maxL := 3) (ret := (some .int)) (by decide) rfl ?_
  intro p e s m args below meth c s₁ B hml hv
  obtain ⟨rfl, hsz, ⟨hP, hK⟩, hD0⟩ := hv
  have hx := B.exec
  have hb := B.bytes
  have hr := B.returns
  have hts := atoms_spec (ws := wsX5_keep) B.pre
  have hown : s.vm.findClass RX5 = some m.cls := findClass_of_methodNamed B.named
  have hlocks := B.notSynchronized
  subst hsz
  have hD := hD0.self (sz := s.heap.size)
  generalize hAe : va_A [(m0, .inr (4, [.ref m1, .ref m2, .int (nI kn), .ref m3, .ref m4, .ref m5, .int (nI ln), .int th, .long hs])), (m1, .inl (cI, 228, .inl gs)), (m2, .inl (cI, 684, .inl gp)), (m3, .inl (cI, 228, .inl gl)), (m4, .inl (cZ, 2, .inl gk)), (m5, .inl (cI, 60, .inl fx))] s.heap.size = A at hD ⊢
  have hA : ∀ q : Nat, s.heap.size ≤ q → A q := fun q h => by rw [← hAe]; exact Or.inr h
  have hS : va_S A s.heap s.heap [] := va_S.rf
  have hl := lv_entry ([.ref m0, .int p0]) (n := 3) (Nat.le_of_ble_eq_true rfl)
  rw [lg_entry_eq]
  generalize (lg_sl ([.ref m0, .int p0]) ++ List.replicate (3 - (lg_sl ([.ref m0, .int p0])).length) Slot.unset).toArray = ls at hl ⊢
  have hl : lv_has ls 3 [(0, .ref m0), (1, .int p0)] := hl
  refine lv_aload_n hx hb dX5_keep_0 rfl (lv_at hl 0 rfl) ?_
  refine lv_iload_n hx hb dX5_keep_1 rfl (lv_at hl 1 rfl) ?_
  refine lv_iconst (v := 0) hx hb dX5_keep_2 (by decide) ?_
  refine lv_iconst (v := 1) hx hb dX5_keep_3 (by decide) ?_
  refine z_ci (va_runS (As := [.int p0, .int 0, .int 1]) (rest := [.ref m0]) ⟨hx, hb, hml, hown, hts⟩ (c_X5_in l (v := p0) (lo := 0) (hg := 1)) (va_cwS 3 hts gX5_keep_X5_in rfl rfl rfl (by decide +kernel) ⟨Nat.le_of_ble_eq_true rfl, Nat.le_of_ble_eq_true rfl⟩) z_preS rfl rfl hl.1 rfl (lv_room (Nat.le_of_ble_eq_true rfl)) dX5_keep_4 ⟨Nat.le_of_ble_eq_true rfl, Nat.le_of_ble_eq_true rfl⟩) ?_
  refine z_top (y := 0) (by rw [hout]; rfl) ?_
  refine z_if_eq (tgt := 14) (P := True) hx hb dX5_keep_7 (by decide) (by decide) (fun c7 => ?_) (fun c7 => (show False from c7 trivial).elim)
  refine lv_iconst (v := 1) hx hb dX5_keep_14 (by decide) ?_
  refine z_cmi (wr := []) (ws' := [(m0, .inr (4, [.ref m1, .ref m2, .int (nI kn), .ref m3, .ref m4, .ref m5, .int (nI ln), .int (nI 1), .long hs])), (m1, .inl (cI, 228, .inl gs)), (m2, .inl (cI, 684, .inl gp)), (m3, .inl (cI, 228, .inl gl)), (m4, .inl (cZ, 2, .inl gk)), (m5, .inl (cI, 60, .inl fx))]) (va_runV (As := [.int 1]) (rest := []) ⟨hx, hb, hml, hown, hts⟩ (c_X5_throwsAt l D cI cZ cL _ (m0 := m0) (m1 := m1) (m2 := m2) (m3 := m3) (m4 := m4) (m5 := m5) (gs := gs) (gp := gp) (gl := gl) (gk := gk) (fx := fx) (kn := kn) (ln := ln) (th := th) (hs := hs) (pc0 := 1) (hpc := by omega)) (cwV 1 hts gX5_keep_X5_throwsAt rfl rfl rfl (by decide +kernel) ⟨Nat.le_of_ble_eq_true rfl, Nat.le_of_ble_eq_true rfl⟩) (z_preMV hK (hP.sub [0, 1, 2, 3, 4, 5] rfl) (hD.sub [0, 1, 2, 3, 4, 5] (by decide) rfl) 0 4 rfl rfl) rfl rfl hl.1 rfl (lv_room (Nat.le_of_ble_eq_true rfl)) dX5_keep_15 ⟨Nat.le_of_ble_eq_true rfl, Nat.le_of_ble_eq_true rfl⟩) hP hD hS hA [0, 1, 2, 3, 4, 5] [] [0, 1, 2, 3, 4, 5] rfl rfl (by decide) (by decide) rfl rfl (by decide) (fun H locs hP hD hS => ?_)
  refine z_top (y := 1) (by decide) ?_
  refine z_if_eq (tgt := 23) (P := False) hx hb dX5_keep_18 (by decide) (by decide) (fun c18 => (show False from c18).elim) (fun c18 => ?_)
  refine lv_iconst (v := 0) hx hb dX5_keep_21 (by decide) ?_
  have hP9 : va_P D vwCl [(m0, .inr (4, [.ref m1, .ref m2, .int (nI kn), .ref m3, .ref m4, .ref m5, .int (nI ln), .int (nI 1), .long hs])), (m1, .inl (cI, 228, .inl gs)), (m2, .inl (cI, 684, .inl gp)), (m3, .inl (cI, 228, .inl gl)), (m4, .inl (cZ, 2, .inl gk)), (m5, .inl (cI, 60, .inl fx))] _ := hP
  have hD9 : va_D A [(m0, .inr (4, [.ref m1, .ref m2, .int (nI kn), .ref m3, .ref m4, .ref m5, .int (nI ln), .int (nI 1), .long hs])), (m1, .inl (cI, 228, .inl gs)), (m2, .inl (cI, 684, .inl gp)), (m3, .inl (cI, 228, .inl gl)), (m4, .inl (cZ, 2, .inl gk)), (m5, .inl (cI, 60, .inl fx))] := hD
  subst hAe
  exact z_miret hx hb hr hlocks dX5_keep_22 (rfl) hP9 hD9 hS

set_option maxHeartbeats 4000000 in
set_option maxRecDepth 100000 in
/-- keep -/
theorem c_X5_keep_ok (l : Launch) (D : va_G) (cI cZ cL : ClassId) (sz : Nat) (m0 : Nat) (m1 : Nat) (m2 : Nat) (m3 : Nat) (m4 : Nat) (m5 : Nat) (gs : Nat → Int32) (gp : Nat → Int32) (gl : Nat → Int32) (gk : Nat → Int32) (fx : Nat → Int32) (kn : Nat) (ln : Nat) (th : Int32) (hs : Int64) (sl : Nat) (hsl : sl < 2) : Met l yX5_keep wsX5_keep ({ frames := 1, cells := 0, slots := 0, locals := 23 }) (va_Pc [.ref m0, .int (nI sl)] (zM D cI cZ cL [(m0, .inr (4, [.ref m1, .ref m2, .int (nI kn), .ref m3, .ref m4, .ref m5, .int (nI ln), .int th, .long hs])), (m1, .inl (cI, 228, .inl gs)), (m2, .inl (cI, 684, .inl gp)), (m3, .inl (cI, 228, .inl gl)), (m4, .inl (cZ, 2, .inl gk)), (m5, .inl (cI, 60, .inl fx))] sz)) (zQmi D (nI (pTM gs 0 + pTM gs 1)) [(m0, .inr (4, [.ref m1, .ref m2, .int (nI kn), .ref m3, .ref m4, .ref m5, .int (nI ln), .int th, .long hs])), (m1, .inl (cI, 228, .inl gs)), (m2, .inl (cI, 684, .inl gp)), (m3, .inl (cI, 228, .inl gl)), (m4, .inl (cZ, 2, .inl gk)), (m5, .inl (cI, 60, .inl fx))] [(m0, .inr (4, [.ref m1, .ref m2, .int (nI kn), .ref m3, .ref m4, .ref m5, .int (nI ln), .int (nI 0), .long hs])), (m1, .inl (cI, 228, .inl gs)), (m2, .inl (cI, 684, .inl gp)), (m3, .inl (cI, 228, .inl (va_cpy gs gl 0 (114 * sl) 114))), (m4, .inl (cZ, 2, .inl (upd gk sl 1))), (m5, .inl (cI, 60, .inl fx))] sz) 0 0 (va_A [(m0, .inr (4, [.ref m1, .ref m2, .int (nI kn), .ref m3, .ref m4, .ref m5, .int (nI ln), .int th, .long hs])), (m1, .inl (cI, 228, .inl gs)), (m2, .inl (cI, 684, .inl gp)), (m3, .inl (cI, 228, .inl gl)), (m4, .inl (cZ, 2, .inl gk)), (m5, .inl (cI, 60, .inl fx))] sz) := by
  refine Met.ofW (cc := cX5_keep) (maxL := 3) (ret := (some .int)) (by decide) rfl ?_
  intro p e s m args below meth c s₁ B hml hv
  obtain ⟨rfl, hsz, ⟨hP, hK⟩, hD0⟩ := hv
  have hx := B.exec
  have hb := B.bytes
  have hr := B.returns
  have hts := atoms_spec (ws := wsX5_keep) B.pre
  have hown : s.vm.findClass RX5 = some m.cls := findClass_of_methodNamed B.named
  have hlocks := B.notSynchronized
  subst hsz
  have hD := hD0.self (sz := s.heap.size)
  generalize hAe : va_A [(m0, .inr (4, [.ref m1, .ref m2, .int (nI kn), .ref m3, .ref m4, .ref m5, .int (nI ln), .int th, .long hs])), (m1, .inl (cI, 228, .inl gs)), (m2, .inl (cI, 684, .inl gp)), (m3, .inl (cI, 228, .inl gl)), (m4, .inl (cZ, 2, .inl gk)), (m5, .inl (cI, 60, .inl fx))] s.heap.size = A at hD ⊢
  have hA : ∀ q : Nat, s.heap.size ≤ q → A q := fun q h => by rw [← hAe]; exact Or.inr h
  have hS : va_S A s.heap s.heap [] := va_S.rf
  have in4 : ∀ w ∈ u_ws RX5 TX5 9, w ∈ wsX5_keep := by decide +kernel
  have fl7 := hts (.fieldLink RX5 7 "TowerShadesModel" "s" "[I") (by decide +kernel)
  have fl16 := hts (.fieldLink RX5 16 "TowerShadesModel" "slots" "[I") (by decide +kernel)
  have fl19 := hts (.fieldLink RX5 19 "TowerShadesModel" "isKept" "[Z") (by decide +kernel)
  have hl := lv_entry ([.ref m0, .int (nI sl)]) (n := 3) (Nat.le_of_ble_eq_true rfl)
  rw [lg_entry_eq]
  generalize (lg_sl ([.ref m0, .int (nI sl)]) ++ List.replicate (3 - (lg_sl ([.ref m0, .int (nI sl)])).length) Slot.unset).toArray = ls at hl ⊢
  have hl : lv_has ls 3 [(0, .ref m0), (1, .int (nI sl))] := hl
  refine lv_aload_n hx hb dX5_keep_0 rfl (lv_at hl 0 rfl) ?_
  refine lv_iload_n hx hb dX5_keep_1 rfl (lv_at hl 1 rfl) ?_
  refine lv_iconst (v := 0) hx hb dX5_keep_2 (by decide) ?_
  refine lv_iconst (v := 1) hx hb dX5_keep_3 (by decide) ?_
  refine z_ci (va_runS (As := [.int (nI sl), .int 0, .int 1]) (rest := [.ref m0]) ⟨hx, hb, hml, hown, hts⟩ (c_X5_in l (v := nI sl) (lo := 0) (hg := 1)) (va_cwS 3 hts gX5_keep_X5_in rfl rfl rfl (by decide +kernel) ⟨Nat.le_of_ble_eq_true rfl, Nat.le_of_ble_eq_true rfl⟩) z_preS rfl rfl hl.1 rfl (lv_room (Nat.le_of_ble_eq_true rfl)) dX5_keep_4 ⟨Nat.le_of_ble_eq_true rfl, Nat.le_of_ble_eq_true rfl⟩) ?_
  refine z_top (y := 1) (by rw [show (decide (0 ≤ nI sl) && decide (nI sl ≤ 1)) = true from in_ok 0 1 (by omega) (by omega) (by omega)]; rfl) ?_
  refine z_if_eq (tgt := 14) (P := False) hx hb dX5_keep_7 (by decide) (by decide) (fun c7 => (show False from c7).elim) (fun c7 => ?_)
  refine lv_iconst (v := 0) hx hb dX5_keep_10 (by decide) ?_
  refine lv_goto (tgt := 15) hx hb dX5_keep_11 (by decide) ?_
  refine z_cmi (wr := []) (ws' := [(m0, .inr (4, [.ref m1, .ref m2, .int (nI kn), .ref m3, .ref m4, .ref m5, .int (nI ln), .int (nI 0), .long hs])), (m1, .inl (cI, 228, .inl gs)), (m2, .inl (cI, 684, .inl gp)), (m3, .inl (cI, 228, .inl gl)), (m4, .inl (cZ, 2, .inl gk)), (m5, .inl (cI, 60, .inl fx))]) (va_runV (As := [.int 0]) (rest := []) ⟨hx, hb, hml, hown, hts⟩ (c_X5_throwsAt l D cI cZ cL _ (m0 := m0) (m1 := m1) (m2 := m2) (m3 := m3) (m4 := m4) (m5 := m5) (gs := gs) (gp := gp) (gl := gl) (gk := gk) (fx := fx) (kn := kn) (ln := ln) (th := th) (hs := hs) (pc0 := 0) (hpc := by omega)) (cwV 1 hts gX5_keep_X5_throwsAt rfl rfl rfl (by decide +kernel) ⟨Nat.le_of_ble_eq_true rfl, Nat.le_of_ble_eq_true rfl⟩) (z_preMV hK (hP.sub [0, 1, 2, 3, 4, 5] rfl) (hD.sub [0, 1, 2, 3, 4, 5] (by decide) rfl) 0 4 rfl rfl) rfl rfl hl.1 rfl (lv_room (Nat.le_of_ble_eq_true rfl)) dX5_keep_15 ⟨Nat.le_of_ble_eq_true rfl, Nat.le_of_ble_eq_true rfl⟩) hP hD hS hA [0, 1, 2, 3, 4, 5] [] [0, 1, 2, 3, 4, 5] rfl rfl (by decide) (by decide) rfl rfl (by decide) (fun H locs hP hD hS => ?_)
  refine z_top (y := 0) (by decide) ?_
  refine z_if_eq (tgt := 23) (P := True) hx hb dX5_keep_18 (by decide) (by decide) (fun c18 => ?_) (fun c18 => (show False from c18 trivial).elim)
  refine lv_iconst (v := 0) hx hb dX5_keep_23 (by decide) ?_
  refine lv_istore_n (lv' := [(2, .int 0), (0, .ref m0), (1, .int (nI sl))]) hx hb dX5_keep_24 rfl hl (by decide) rfl (fun ls hl => ?_)
  have hW9 : ([(m0, .inr (4, [.ref m1, .ref m2, .int (nI kn), .ref m3, .ref m4, .ref m5, .int (nI ln), .int (nI 0), .long hs])), (m1, .inl (cI, 228, .inl gs)), (m2, .inl (cI, 684, .inl gp)), (m3, .inl (cI, 228, .inl gl)), (m4, .inl (cZ, 2, .inl gk)), (m5, .inl (cI, 60, .inl fx))] : va_W) = [(m0, .inr (4, [.ref m1, .ref m2, .int (nI kn), .ref m3, .ref m4, .ref m5, .int (nI ln), .int (nI 0), .long hs])), (m1, .inl (cI, 228, .inl gs)), (m2, .inl (cI, 684, .inl gp)), (m3, .inl (cI, 228, .inl (va_cpy gs gl 0 (114 * sl) 0))), (m4, .inl (cZ, 2, .inl gk)), (m5, .inl (cI, 60, .inl fx))] := by rw [cp_0]
  rw [hW9] at hP hD
  refine z_upH (N := 114) (i0 := 0) (fun i H locs ls => va_P D vwCl [(m0, .inr (4, [.ref m1, .ref m2, .int (nI kn), .ref m3, .ref m4, .ref m5, .int (nI ln), .int (nI 0), .long hs])), (m1, .inl (cI, 228, .inl gs)), (m2, .inl (cI, 684, .inl gp)), (m3, .inl (cI, 228, .inl (va_cpy gs gl 0 (114 * sl) i))), (m4, .inl (cZ, 2, .inl gk)), (m5, .inl (cI, 60, .inl fx))] H ∧ va_D A [(m0, .inr (4, [.ref m1, .ref m2, .int (nI kn), .ref m3, .ref m4, .ref m5, .int (nI ln), .int (nI 0), .long hs])), (m1, .inl (cI, 228, .inl gs)), (m2, .inl (cI, 684, .inl gp)), (m3, .inl (cI, 228, .inl (va_cpy gs gl 0 (114 * sl) i))), (m4, .inl (cZ, 2, .inl gk)), (m5, .inl (cI, 60, .inl fx))] ∧ va_S A s.heap H locs ∧ lv_has ls 3 [(0, .ref m0), (1, .int (nI sl)), (2, .int (nI i))]) (by omega) (⟨hP, hD, hS, lv_sub hl [1, 2, 0] rfl⟩) (fun i H locs ls hi25 hI ih25 => ?_)
  obtain ⟨hP, hD, hS, hl⟩ := hI
  refine lv_iload_n hx hb dX5_keep_25 rfl (lv_at hl 2 rfl) ?_
  refine lv_bipush (v := 114) hx hb dX5_keep_26 (by decide) ?_
  refine z_icmp_ge (tgt := 54) (P := 114 ≤ i) hx hb dX5_keep_28 (by decide) (nI_leI (a := 114) (b := i) (by omega) (by omega)) (fun c28 => ?_) (fun c28 => ?_)
  · skip
    obtain rfl : i = 114 := by omega
    refine lv_aload_n hx hb dX5_keep_54 rfl (lv_at hl 0 rfl) ?_
    refine va_get (D := D) (ci := 4) (v := .ref m4) (C := RX5) (T := TX5) (N := 9) hx hb hts in4 hown hK hP 0 rfl rfl 4 (by decide) fl19 (fun _ h9 => h9) rfl dX5_keep_55 ?_
    refine lv_iload_n hx hb dX5_keep_58 rfl (lv_at hl 1 rfl) ?_
    refine lv_iconst (v := 1) hx hb dX5_keep_59 (by decide) ?_
    refine z_zast hx hb hK hP hD hS 4 1 rfl rfl (k := sl) (rfl) (by omega) (by decide) dX5_keep_60 (g := (upd gk sl 1)) (rfl) (fun H locs hP hD hS => ?_)
    have hP : va_P D vwCl [(m0, .inr (4, [.ref m1, .ref m2, .int (nI kn), .ref m3, .ref m4, .ref m5, .int (nI ln), .int (nI 0), .long hs])), (m1, .inl (cI, 228, .inl gs)), (m2, .inl (cI, 684, .inl gp)), (m3, .inl (cI, 228, .inl (va_cpy gs gl 0 (114 * sl) 114))), (m4, .inl (cZ, 2, .inl (upd gk sl 1))), (m5, .inl (cI, 60, .inl fx))] _ := hP
    have hD : va_D A [(m0, .inr (4, [.ref m1, .ref m2, .int (nI kn), .ref m3, .ref m4, .ref m5, .int (nI ln), .int (nI 0), .long hs])), (m1, .inl (cI, 228, .inl gs)), (m2, .inl (cI, 684, .inl gp)), (m3, .inl (cI, 228, .inl (va_cpy gs gl 0 (114 * sl) 114))), (m4, .inl (cZ, 2, .inl (upd gk sl 1))), (m5, .inl (cI, 60, .inl fx))] := hD
    refine lv_aload_n hx hb dX5_keep_61 rfl (lv_at hl 0 rfl) ?_
    refine lv_iconst (v := 0) hx hb dX5_keep_62 (by decide) ?_
    refine z_ci (va_runV (As := [.int 0]) (rest := []) ⟨hx, hb, hml, hown, hts⟩ (c_X5_towers l D cI cZ cL (m0 := m0) (m1 := m1) (m2 := m2) (m3 := m3) (m4 := m4) (m5 := m5) (gs := gs) (gp := gp) (gl := (va_cpy gs gl 0 (114 * sl) 114)) (gk := (upd gk sl 1)) (fx := fx) (kn := kn) (ln := ln) (th := nI 0) (hs := hs) (pl := 0) (hpl := by omega)) (cwV 1 hts gX5_keep_X5_towers rfl rfl rfl (by decide +kernel) ⟨Nat.le_of_ble_eq_true rfl, Nat.le_of_ble_eq_true rfl⟩) (z_preV hK (hP.sub [0, 1, 2, 3, 4, 5] rfl) 0 4 rfl rfl) rfl rfl hl.1 rfl (lv_room (Nat.le_of_ble_eq_true rfl)) dX5_keep_63 ⟨Nat.le_of_ble_eq_true rfl, Nat.le_of_ble_eq_true rfl⟩) ?_
    refine lv_aload_n hx hb dX5_keep_66 rfl (lv_at hl 0 rfl) ?_
    refine lv_iconst (v := 1) hx hb dX5_keep_67 (by decide) ?_
    refine z_ci (va_runV (As := [.int 1]) (rest := [.int (nI (pTM gs 0))]) ⟨hx, hb, hml, hown, hts⟩ (c_X5_towers l D cI cZ cL (m0 := m0) (m1 := m1) (m2 := m2) (m3 := m3) (m4 := m4) (m5 := m5) (gs := gs) (gp := gp) (gl := (va_cpy gs gl 0 (114 * sl) 114)) (gk := (upd gk sl 1)) (fx := fx) (kn := kn) (ln := ln) (th := nI 0) (hs := hs) (pl := 1) (hpl := by omega)) (cwV 1 hts gX5_keep_X5_towers rfl rfl rfl (by decide +kernel) ⟨Nat.le_of_ble_eq_true rfl, Nat.le_of_ble_eq_true rfl⟩) (z_preV hK (hP.sub [0, 1, 2, 3, 4, 5] rfl) 0 4 rfl rfl) rfl rfl hl.1 rfl (lv_room (Nat.le_of_ble_eq_true rfl)) dX5_keep_68 ⟨Nat.le_of_ble_eq_true rfl, Nat.le_of_ble_eq_true rfl⟩) ?_
    refine z_iadd (v := nI (pTM gs 0 + pTM gs 1)) hx hb dX5_keep_71 (nI_add (pTM gs 0) (pTM gs 1)) ?_
    have hP9 : va_P D vwCl [(m0, .inr (4, [.ref m1, .ref m2, .int (nI kn), .ref m3, .ref m4, .ref m5, .int (nI ln), .int (nI 0), .long hs])), (m1, .inl (cI, 228, .inl gs)), (m2, .inl (cI, 684, .inl gp)), (m3, .inl (cI, 228, .inl (va_cpy gs gl 0 (114 * sl) 114))), (m4, .inl (cZ, 2, .inl (upd gk sl 1))), (m5, .inl (cI, 60, .inl fx))] _ := hP
    have hD9 : va_D A [(m0, .inr (4, [.ref m1, .ref m2, .int (nI kn), .ref m3, .ref m4, .ref m5, .int (nI ln), .int (nI 0), .long hs])), (m1, .inl (cI, 228, .inl gs)), (m2, .inl (cI, 684, .inl gp)), (m3, .inl (cI, 228, .inl (va_cpy gs gl 0 (114 * sl) 114))), (m4, .inl (cZ, 2, .inl (upd gk sl 1))), (m5, .inl (cI, 60, .inl fx))] := hD
    subst hAe
    exact z_miret hx hb hr hlocks dX5_keep_72 (rfl) hP9 hD9 hS
  · skip
    refine lv_aload_n hx hb dX5_keep_31 rfl (lv_at hl 0 rfl) ?_
    refine va_get (D := D) (ci := 4) (v := .ref m3) (C := RX5) (T := TX5) (N := 9) hx hb hts in4 hown hK hP 0 rfl rfl 3 (by decide) fl16 (fun _ h9 => h9) rfl dX5_keep_32 ?_
    refine lv_bipush (v := 114) hx hb dX5_keep_35 (by decide) ?_
    refine lv_iload_n hx hb dX5_keep_37 rfl (lv_at hl 1 rfl) ?_
    refine z_imul (v := nI (114 * sl)) hx hb dX5_keep_38 (pk_mul (114) (sl)) ?_
    refine lv_iload_n hx hb dX5_keep_39 rfl (lv_at hl 2 rfl) ?_
    refine z_iadd (v := nI ((114 * sl) + i)) hx hb dX5_keep_40 (nI_add ((114 * sl)) (i)) ?_
    refine lv_aload_n hx hb dX5_keep_41 rfl (lv_at hl 0 rfl) ?_
    refine va_get (D := D) (ci := 4) (v := .ref m1) (C := RX5) (T := TX5) (N := 9) hx hb hts in4 hown hK hP 0 rfl rfl 0 (by decide) fl7 (fun _ h9 => h9) rfl dX5_keep_42 ?_
    refine lv_iload_n hx hb dX5_keep_45 rfl (lv_at hl 2 rfl) ?_
    refine z_iald hx hb hK hP 1 0 rfl rfl (k := i) (rfl) (by omega) (by decide) dX5_keep_46 ?_
    refine z_iast hx hb hK hP hD hS 3 0 rfl rfl (k := ((114 * sl) + i)) (rfl) (by omega) (by decide) dX5_keep_47 (g := (va_cpy gs gl 0 (114 * sl) (i + 1))) (cp_s _ _ _ _) (fun H locs hP hD hS => ?_)
    have hP : va_P D vwCl [(m0, .inr (4, [.ref m1, .ref m2, .int (nI kn), .ref m3, .ref m4, .ref m5, .int (nI ln), .int (nI 0), .long hs])), (m1, .inl (cI, 228, .inl gs)), (m2, .inl (cI, 684, .inl gp)), (m3, .inl (cI, 228, .inl (va_cpy gs gl 0 (114 * sl) (i + 1)))), (m4, .inl (cZ, 2, .inl gk)), (m5, .inl (cI, 60, .inl fx))] _ := hP
    have hD : va_D A [(m0, .inr (4, [.ref m1, .ref m2, .int (nI kn), .ref m3, .ref m4, .ref m5, .int (nI ln), .int (nI 0), .long hs])), (m1, .inl (cI, 228, .inl gs)), (m2, .inl (cI, 684, .inl gp)), (m3, .inl (cI, 228, .inl (va_cpy gs gl 0 (114 * sl) (i + 1)))), (m4, .inl (cZ, 2, .inl gk)), (m5, .inl (cI, 60, .inl fx))] := hD
    refine lv_iinc (v := nI (i + 1)) (lv' := [(2, .int (nI (i + 1))), (0, .ref m0), (1, .int (nI sl))]) hx hb dX5_keep_48 hl (k := 2) rfl (nI_1 (i)) (by decide) rfl (fun ls hl => ?_)
    refine lv_goto (tgt := 25) hx hb dX5_keep_51 (by decide) ?_
    exact ih25 (by omega) _ _ _ (⟨hP, hD, hS, lv_sub hl [1, 2, 0] rfl⟩)

set_option maxHeartbeats 4000000 in
set_option maxRecDepth 100000 in
/-- goBack: out of range -/
theorem c_X5_goBack_out (l : Launch) (D : va_G) (cI cZ cL : ClassId) (sz : Nat) (m0 : Nat) (m1 : Nat) (m2 : Nat) (m3 : Nat) (m4 : Nat) (m5 : Nat) (gs : Nat → Int32) (gp : Nat → Int32) (gl : Nat → Int32) (gk : Nat → Int32) (fx : Nat → Int32) (kn : Nat) (ln : Nat) (th : Int32) (hs : Int64) (p0 : Int32) (hout : (decide (0 ≤ p0) && decide (p0 ≤ 1)) = false) : Met l yX5_goBack wsX5_goBack ({ frames := 1, cells := 0, slots := 0, locals := 22 }) (va_Pc [.ref m0, .int p0] (zM D cI cZ cL [(m0, .inr (4, [.ref m1, .ref m2, .int (nI kn), .ref m3, .ref m4, .ref m5, .int (nI ln), .int th, .long hs])), (m1, .inl (cI, 228, .inl gs)), (m2, .inl (cI, 684, .inl gp)), (m3, .inl (cI, 228, .inl gl)), (m4, .inl (cZ, 2, .inl gk)), (m5, .inl (cI, 60, .inl fx))] sz)) (zQmi D 0 [(m0, .inr (4, [.ref m1, .ref m2, .int (nI kn), .ref m3, .ref m4, .ref m5, .int (nI ln), .int th, .long hs])), (m1, .inl (cI, 228, .inl gs)), (m2, .inl (cI, 684, .inl gp)), (m3, .inl (cI, 228, .inl gl)), (m4, .inl (cZ, 2, .inl gk)), (m5, .inl (cI, 60, .inl fx))] [(m0, .inr (4, [.ref m1, .ref m2, .int (nI kn), .ref m3, .ref m4, .ref m5, .int (nI ln), .int (nI 1), .long hs])), (m1, .inl (cI, 228, .inl gs)), (m2, .inl (cI, 684, .inl gp)), (m3, .inl (cI, 228, .inl gl)), (m4, .inl (cZ, 2, .inl gk)), (m5, .inl (cI, 60, .inl fx))] sz) 0 0 (va_A [(m0, .inr (4, [.ref m1, .ref m2, .int (nI kn), .ref m3, .ref m4, .ref m5, .int (nI ln), .int th, .long hs])), (m1, .inl (cI, 228, .inl gs)), (m2, .inl (cI, 684, .inl gp)), (m3, .inl (cI, 228, .inl gl)), (m4, .inl (cZ, 2, .inl gk)), (m5, .inl (cI, 60, .inl fx))] sz) := by
  refine Met.ofW (cc := cX5_goBack) (maxL := 3) (ret := (some .int)) (by decide) rfl ?_
  intro p e s m args below meth c s₁ B hml hv
  obtain ⟨rfl, hsz, ⟨hP, hK⟩, hD0⟩ := hv
  have hx := B.exec
  have hb := B.bytes
  have hr := B.returns
  have hts := atoms_spec (ws := wsX5_goBack) B.pre
  have hown : s.vm.findClass RX5 = some m.cls := findClass_of_methodNamed B.named
  have hlocks := B.notSynchronized
  subst hsz
  have hD := hD0.self (sz := s.heap.size)
  generalize hAe : va_A [(m0, .inr (4, [.ref m1, .ref m2, .int (nI kn), .ref m3, .ref m4, .ref m5, .int (nI ln), .int th, .long hs])), (m1, .inl (cI, 228, .inl gs)), (m2, .inl (cI, 684, .inl gp)), (m3, .inl (cI, 228, .inl gl)), (m4, .inl (cZ, 2, .inl gk)), (m5, .inl (cI, 60, .inl fx))] s.heap.size = A at hD ⊢
  have hA : ∀ q : Nat, s.heap.size ≤ q → A q := fun q h => by rw [← hAe]; exact Or.inr h
  have hS : va_S A s.heap s.heap [] := va_S.rf
  have hl := lv_entry ([.ref m0, .int p0]) (n := 3) (Nat.le_of_ble_eq_true rfl)
  rw [lg_entry_eq]
  generalize (lg_sl ([.ref m0, .int p0]) ++ List.replicate (3 - (lg_sl ([.ref m0, .int p0])).length) Slot.unset).toArray = ls at hl ⊢
  have hl : lv_has ls 3 [(0, .ref m0), (1, .int p0)] := hl
  refine lv_aload_n hx hb dX5_goBack_0 rfl (lv_at hl 0 rfl) ?_
  refine lv_iload_n hx hb dX5_goBack_1 rfl (lv_at hl 1 rfl) ?_
  refine lv_iconst (v := 0) hx hb dX5_goBack_2 (by decide) ?_
  refine lv_iconst (v := 1) hx hb dX5_goBack_3 (by decide) ?_
  refine z_ci (va_runS (As := [.int p0, .int 0, .int 1]) (rest := [.ref m0]) ⟨hx, hb, hml, hown, hts⟩ (c_X5_in l (v := p0) (lo := 0) (hg := 1)) (va_cwS 3 hts gX5_goBack_X5_in rfl rfl rfl (by decide +kernel) ⟨Nat.le_of_ble_eq_true rfl, Nat.le_of_ble_eq_true rfl⟩) z_preS rfl rfl hl.1 rfl (lv_room (Nat.le_of_ble_eq_true rfl)) dX5_goBack_4 ⟨Nat.le_of_ble_eq_true rfl, Nat.le_of_ble_eq_true rfl⟩) ?_
  refine z_top (y := 0) (by rw [hout]; rfl) ?_
  refine z_if_ne (tgt := 14) (P := True) hx hb dX5_goBack_7 (by decide) (by decide) (fun c7 => (show False from c7 trivial).elim) (fun c7 => ?_)
  refine lv_iconst (v := 1) hx hb dX5_goBack_10 (by decide) ?_
  refine lv_goto (tgt := 28) hx hb dX5_goBack_11 (by decide) ?_
  refine z_cmi (wr := []) (ws' := [(m0, .inr (4, [.ref m1, .ref m2, .int (nI kn), .ref m3, .ref m4, .ref m5, .int (nI ln), .int (nI 1), .long hs])), (m1, .inl (cI, 228, .inl gs)), (m2, .inl (cI, 684, .inl gp)), (m3, .inl (cI, 228, .inl gl)), (m4, .inl (cZ, 2, .inl gk)), (m5, .inl (cI, 60, .inl fx))]) (va_runV (As := [.int 1]) (rest := []) ⟨hx, hb, hml, hown, hts⟩ (c_X5_throwsAt l D cI cZ cL _ (m0 := m0) (m1 := m1) (m2 := m2) (m3 := m3) (m4 := m4) (m5 := m5) (gs := gs) (gp := gp) (gl := gl) (gk := gk) (fx := fx) (kn := kn) (ln := ln) (th := th) (hs := hs) (pc0 := 1) (hpc := by omega)) (cwV 1 hts gX5_goBack_X5_throwsAt rfl rfl rfl (by decide +kernel) ⟨Nat.le_of_ble_eq_true rfl, Nat.le_of_ble_eq_true rfl⟩) (z_preMV hK (hP.sub [0, 1, 2, 3, 4, 5] rfl) (hD.sub [0, 1, 2, 3, 4, 5] (by decide) rfl) 0 4 rfl rfl) rfl rfl hl.1 rfl (lv_room (Nat.le_of_ble_eq_true rfl)) dX5_goBack_28 ⟨Nat.le_of_ble_eq_true rfl, Nat.le_of_ble_eq_true rfl⟩) hP hD hS hA [0, 1, 2, 3, 4, 5] [] [0, 1, 2, 3, 4, 5] rfl rfl (by decide) (by decide) rfl rfl (by decide) (fun H locs hP hD hS => ?_)
  refine z_top (y := 1) (by decide) ?_
  refine z_if_eq (tgt := 36) (P := False) hx hb dX5_goBack_31 (by decide) (by decide) (fun c31 => (show False from c31).elim) (fun c31 => ?_)
  refine lv_iconst (v := 0) hx hb dX5_goBack_34 (by decide) ?_
  have hP9 : va_P D vwCl [(m0, .inr (4, [.ref m1, .ref m2, .int (nI kn), .ref m3, .ref m4, .ref m5, .int (nI ln), .int (nI 1), .long hs])), (m1, .inl (cI, 228, .inl gs)), (m2, .inl (cI, 684, .inl gp)), (m3, .inl (cI, 228, .inl gl)), (m4, .inl (cZ, 2, .inl gk)), (m5, .inl (cI, 60, .inl fx))] _ := hP
  have hD9 : va_D A [(m0, .inr (4, [.ref m1, .ref m2, .int (nI kn), .ref m3, .ref m4, .ref m5, .int (nI ln), .int (nI 1), .long hs])), (m1, .inl (cI, 228, .inl gs)), (m2, .inl (cI, 684, .inl gp)), (m3, .inl (cI, 228, .inl gl)), (m4, .inl (cZ, 2, .inl gk)), (m5, .inl (cI, 60, .inl fx))] := hD
  subst hAe
  exact z_miret hx hb hr hlocks dX5_goBack_35 (rfl) hP9 hD9 hS

set_option maxHeartbeats 4000000 in
set_option maxRecDepth 100000 in
/-- goBack: none kept -/
theorem c_X5_goBack_none (l : Launch) (D : va_G) (cI cZ cL : ClassId) (sz : Nat) (m0 : Nat) (m1 : Nat) (m2 : Nat) (m3 : Nat) (m4 : Nat) (m5 : Nat) (gs : Nat → Int32) (gp : Nat → Int32) (gl : Nat → Int32) (gk : Nat → Int32) (fx : Nat → Int32) (kn : Nat) (ln : Nat) (th : Int32) (hs : Int64) (sl : Nat) (hsl : sl < 2) (hgk : gk sl = 0) : Met l yX5_goBack wsX5_goBack ({ frames := 1, cells := 0, slots := 0, locals := 22 }) (va_Pc [.ref m0, .int (nI sl)] (zM D cI cZ cL [(m0, .inr (4, [.ref m1, .ref m2, .int (nI kn), .ref m3, .ref m4, .ref m5, .int (nI ln), .int th, .long hs])), (m1, .inl (cI, 228, .inl gs)), (m2, .inl (cI, 684, .inl gp)), (m3, .inl (cI, 228, .inl gl)), (m4, .inl (cZ, 2, .inl gk)), (m5, .inl (cI, 60, .inl fx))] sz)) (zQmi D 0 [(m0, .inr (4, [.ref m1, .ref m2, .int (nI kn), .ref m3, .ref m4, .ref m5, .int (nI ln), .int th, .long hs])), (m1, .inl (cI, 228, .inl gs)), (m2, .inl (cI, 684, .inl gp)), (m3, .inl (cI, 228, .inl gl)), (m4, .inl (cZ, 2, .inl gk)), (m5, .inl (cI, 60, .inl fx))] [(m0, .inr (4, [.ref m1, .ref m2, .int (nI kn), .ref m3, .ref m4, .ref m5, .int (nI ln), .int (nI 2), .long hs])), (m1, .inl (cI, 228, .inl gs)), (m2, .inl (cI, 684, .inl gp)), (m3, .inl (cI, 228, .inl gl)), (m4, .inl (cZ, 2, .inl gk)), (m5, .inl (cI, 60, .inl fx))] sz) 0 0 (va_A [(m0, .inr (4, [.ref m1, .ref m2, .int (nI kn), .ref m3, .ref m4, .ref m5, .int (nI ln), .int th, .long hs])), (m1, .inl (cI, 228, .inl gs)), (m2, .inl (cI, 684, .inl gp)), (m3, .inl (cI, 228, .inl gl)), (m4, .inl (cZ, 2, .inl gk)), (m5, .inl (cI, 60, .inl fx))] sz) := by
  refine Met.ofW (cc := cX5_goBack) (maxL := 3) (ret := (some .int)) (by decide) rfl ?_
  intro p e s m args below meth c s₁ B hml hv
  obtain ⟨rfl, hsz, ⟨hP, hK⟩, hD0⟩ := hv
  have hx := B.exec
  have hb := B.bytes
  have hr := B.returns
  have hts := atoms_spec (ws := wsX5_goBack) B.pre
  have hown : s.vm.findClass RX5 = some m.cls := findClass_of_methodNamed B.named
  have hlocks := B.notSynchronized
  subst hsz
  have hD := hD0.self (sz := s.heap.size)
  generalize hAe : va_A [(m0, .inr (4, [.ref m1, .ref m2, .int (nI kn), .ref m3, .ref m4, .ref m5, .int (nI ln), .int th, .long hs])), (m1, .inl (cI, 228, .inl gs)), (m2, .inl (cI, 684, .inl gp)), (m3, .inl (cI, 228, .inl gl)), (m4, .inl (cZ, 2, .inl gk)), (m5, .inl (cI, 60, .inl fx))] s.heap.size = A at hD ⊢
  have hA : ∀ q : Nat, s.heap.size ≤ q → A q := fun q h => by rw [← hAe]; exact Or.inr h
  have hS : va_S A s.heap s.heap [] := va_S.rf
  have in4 : ∀ w ∈ u_ws RX5 TX5 9, w ∈ wsX5_goBack := by decide +kernel
  have fl19 := hts (.fieldLink RX5 19 "TowerShadesModel" "isKept" "[Z") (by decide +kernel)
  have hl := lv_entry ([.ref m0, .int (nI sl)]) (n := 3) (Nat.le_of_ble_eq_true rfl)
  rw [lg_entry_eq]
  generalize (lg_sl ([.ref m0, .int (nI sl)]) ++ List.replicate (3 - (lg_sl ([.ref m0, .int (nI sl)])).length) Slot.unset).toArray = ls at hl ⊢
  have hl : lv_has ls 3 [(0, .ref m0), (1, .int (nI sl))] := hl
  refine lv_aload_n hx hb dX5_goBack_0 rfl (lv_at hl 0 rfl) ?_
  refine lv_iload_n hx hb dX5_goBack_1 rfl (lv_at hl 1 rfl) ?_
  refine lv_iconst (v := 0) hx hb dX5_goBack_2 (by decide) ?_
  refine lv_iconst (v := 1) hx hb dX5_goBack_3 (by decide) ?_
  refine z_ci (va_runS (As := [.int (nI sl), .int 0, .int 1]) (rest := [.ref m0]) ⟨hx, hb, hml, hown, hts⟩ (c_X5_in l (v := nI sl) (lo := 0) (hg := 1)) (va_cwS 3 hts gX5_goBack_X5_in rfl rfl rfl (by decide +kernel) ⟨Nat.le_of_ble_eq_true rfl, Nat.le_of_ble_eq_true rfl⟩) z_preS rfl rfl hl.1 rfl (lv_room (Nat.le_of_ble_eq_true rfl)) dX5_goBack_4 ⟨Nat.le_of_ble_eq_true rfl, Nat.le_of_ble_eq_true rfl⟩) ?_
  refine z_top (y := 1) (by rw [show (decide (0 ≤ nI sl) && decide (nI sl ≤ 1)) = true from in_ok 0 1 (by omega) (by omega) (by omega)]; rfl) ?_
  refine z_if_ne (tgt := 14) (P := False) hx hb dX5_goBack_7 (by decide) (by decide) (fun c7 => ?_) (fun c7 => (show False from c7).elim)
  refine lv_aload_n hx hb dX5_goBack_14 rfl (lv_at hl 0 rfl) ?_
  refine va_get (D := D) (ci := 4) (v := .ref m4) (C := RX5) (T := TX5) (N := 9) hx hb hts in4 hown hK hP 0 rfl rfl 4 (by decide) fl19 (fun _ h9 => h9) rfl dX5_goBack_15 ?_
  refine lv_iload_n hx hb dX5_goBack_18 rfl (lv_at hl 1 rfl) ?_
  refine z_zald hx hb hK hP 4 1 rfl rfl (k := sl) (rfl) (by omega) (by decide) dX5_goBack_19 ?_
  refine z_if_eq (tgt := 27) (P := (gk sl) = 0) hx hb dX5_goBack_20 (by decide) (Iff.rfl) (fun c20 => ?_) (fun c20 => (show False from c20 hgk).elim)
  refine lv_iconst (v := 2) hx hb dX5_goBack_27 (by decide) ?_
  refine z_cmi (wr := []) (ws' := [(m0, .inr (4, [.ref m1, .ref m2, .int (nI kn), .ref m3, .ref m4, .ref m5, .int (nI ln), .int (nI 2), .long hs])), (m1, .inl (cI, 228, .inl gs)), (m2, .inl (cI, 684, .inl gp)), (m3, .inl (cI, 228, .inl gl)), (m4, .inl (cZ, 2, .inl gk)), (m5, .inl (cI, 60, .inl fx))]) (va_runV (As := [.int 2]) (rest := []) ⟨hx, hb, hml, hown, hts⟩ (c_X5_throwsAt l D cI cZ cL _ (m0 := m0) (m1 := m1) (m2 := m2) (m3 := m3) (m4 := m4) (m5 := m5) (gs := gs) (gp := gp) (gl := gl) (gk := gk) (fx := fx) (kn := kn) (ln := ln) (th := th) (hs := hs) (pc0 := 2) (hpc := by omega)) (cwV 1 hts gX5_goBack_X5_throwsAt rfl rfl rfl (by decide +kernel) ⟨Nat.le_of_ble_eq_true rfl, Nat.le_of_ble_eq_true rfl⟩) (z_preMV hK (hP.sub [0, 1, 2, 3, 4, 5] rfl) (hD.sub [0, 1, 2, 3, 4, 5] (by decide) rfl) 0 4 rfl rfl) rfl rfl hl.1 rfl (lv_room (Nat.le_of_ble_eq_true rfl)) dX5_goBack_28 ⟨Nat.le_of_ble_eq_true rfl, Nat.le_of_ble_eq_true rfl⟩) hP hD hS hA [0, 1, 2, 3, 4, 5] [] [0, 1, 2, 3, 4, 5] rfl rfl (by decide) (by decide) rfl rfl (by decide) (fun H locs hP hD hS => ?_)
  refine z_top (y := 1) (by decide) ?_
  refine z_if_eq (tgt := 36) (P := False) hx hb dX5_goBack_31 (by decide) (by decide) (fun c31 => (show False from c31).elim) (fun c31 => ?_)
  refine lv_iconst (v := 0) hx hb dX5_goBack_34 (by decide) ?_
  have hP9 : va_P D vwCl [(m0, .inr (4, [.ref m1, .ref m2, .int (nI kn), .ref m3, .ref m4, .ref m5, .int (nI ln), .int (nI 2), .long hs])), (m1, .inl (cI, 228, .inl gs)), (m2, .inl (cI, 684, .inl gp)), (m3, .inl (cI, 228, .inl gl)), (m4, .inl (cZ, 2, .inl gk)), (m5, .inl (cI, 60, .inl fx))] _ := hP
  have hD9 : va_D A [(m0, .inr (4, [.ref m1, .ref m2, .int (nI kn), .ref m3, .ref m4, .ref m5, .int (nI ln), .int (nI 2), .long hs])), (m1, .inl (cI, 228, .inl gs)), (m2, .inl (cI, 684, .inl gp)), (m3, .inl (cI, 228, .inl gl)), (m4, .inl (cZ, 2, .inl gk)), (m5, .inl (cI, 60, .inl fx))] := hD
  subst hAe
  exact z_miret hx hb hr hlocks dX5_goBack_35 (rfl) hP9 hD9 hS

set_option maxHeartbeats 4000000 in
set_option maxRecDepth 100000 in
/-- goBack -/
theorem c_X5_goBack_ok (l : Launch) (D : va_G) (cI cZ cL : ClassId) (sz : Nat) (m0 : Nat) (m1 : Nat) (m2 : Nat) (m3 : Nat) (m4 : Nat) (m5 : Nat) (gs : Nat → Int32) (gp : Nat → Int32) (gl : Nat → Int32) (gk : Nat → Int32) (fx : Nat → Int32) (kn : Nat) (ln : Nat) (th : Int32) (hs : Int64) (sl : Nat) (hsl : sl < 2) (hgk : ¬ gk sl = 0) (hkn : kn < 7) : Met l yX5_goBack wsX5_goBack ({ frames := 1, cells := 0, slots := 0, locals := 23 }) (va_Pc [.ref m0, .int (nI sl)] (zM D cI cZ cL [(m0, .inr (4, [.ref m1, .ref m2, .int (nI kn), .ref m3, .ref m4, .ref m5, .int (nI ln), .int th, .long hs])), (m1, .inl (cI, 228, .inl gs)), (m2, .inl (cI, 684, .inl gp)), (m3, .inl (cI, 228, .inl gl)), (m4, .inl (cZ, 2, .inl gk)), (m5, .inl (cI, 60, .inl fx))] sz)) (zQmi D (nI (pTM (va_cpy gl gs (114 * sl) 0 114) 0 + pTM (va_cpy gl gs (114 * sl) 0 114) 1)) [(m0, .inr (4, [.ref m1, .ref m2, .int (nI kn), .ref m3, .ref m4, .ref m5, .int (nI ln), .int th, .long hs])), (m1, .inl (cI, 228, .inl gs)), (m2, .inl (cI, 684, .inl gp)), (m3, .inl (cI, 228, .inl gl)), (m4, .inl (cZ, 2, .inl gk)), (m5, .inl (cI, 60, .inl fx))] [(m0, .inr (4, [.ref m1, .ref m2, .int (nI (pKn kn + 1)), .ref m3, .ref m4, .ref m5, .int (nI ln), .int (nI 0), .long hs])), (m1, .inl (cI, 228, .inl (va_cpy gl gs (114 * sl) 0 114))), (m2, .inl (cI, 684, .inl (pSv gs gp kn))), (m3, .inl (cI, 228, .inl gl)), (m4, .inl (cZ, 2, .inl gk)), (m5, .inl (cI, 60, .inl fx))] sz) 0 0 (va_A [(m0, .inr (4, [.ref m1, .ref m2, .int (nI kn), .ref m3, .ref m4, .ref m5, .int (nI ln), .int th, .long hs])), (m1, .inl (cI, 228, .inl gs)), (m2, .inl (cI, 684, .inl gp)), (m3, .inl (cI, 228, .inl gl)), (m4, .inl (cZ, 2, .inl gk)), (m5, .inl (cI, 60, .inl fx))] sz) := by
  refine Met.ofW (cc := cX5_goBack) (maxL := 3) (ret := (some .int)) (by decide) rfl ?_
  intro p e s m args below meth c s₁ B hml hv
  obtain ⟨rfl, hsz, ⟨hP, hK⟩, hD0⟩ := hv
  have hx := B.exec
  have hb := B.bytes
  have hr := B.returns
  have hts := atoms_spec (ws := wsX5_goBack) B.pre
  have hown : s.vm.findClass RX5 = some m.cls := findClass_of_methodNamed B.named
  have hlocks := B.notSynchronized
  subst hsz
  have hD := hD0.self (sz := s.heap.size)
  generalize hAe : va_A [(m0, .inr (4, [.ref m1, .ref m2, .int (nI kn), .ref m3, .ref m4, .ref m5, .int (nI ln), .int th, .long hs])), (m1, .inl (cI, 228, .inl gs)), (m2, .inl (cI, 684, .inl gp)), (m3, .inl (cI, 228, .inl gl)), (m4, .inl (cZ, 2, .inl gk)), (m5, .inl (cI, 60, .inl fx))] s.heap.size = A at hD ⊢
  have hA : ∀ q : Nat, s.heap.size ≤ q → A q := fun q h => by rw [← hAe]; exact Or.inr h
  have hS : va_S A s.heap s.heap [] := va_S.rf
  have in4 : ∀ w ∈ u_ws RX5 TX5 9, w ∈ wsX5_goBack := by decide +kernel
  have fl7 := hts (.fieldLink RX5 7 "TowerShadesModel" "s" "[I") (by decide +kernel)
  have fl16 := hts (.fieldLink RX5 16 "TowerShadesModel" "slots" "[I") (by decide +kernel)
  have fl19 := hts (.fieldLink RX5 19 "TowerShadesModel" "isKept" "[Z") (by decide +kernel)
  have hl := lv_entry ([.ref m0, .int (nI sl)]) (n := 3) (Nat.le_of_ble_eq_true rfl)
  rw [lg_entry_eq]
  generalize (lg_sl ([.ref m0, .int (nI sl)]) ++ List.replicate (3 - (lg_sl ([.ref m0, .int (nI sl)])).length) Slot.unset).toArray = ls at hl ⊢
  have hl : lv_has ls 3 [(0, .ref m0), (1, .int (nI sl))] := hl
  have hkn5 := pKn_lt hkn
  refine lv_aload_n hx hb dX5_goBack_0 rfl (lv_at hl 0 rfl) ?_
  refine lv_iload_n hx hb dX5_goBack_1 rfl (lv_at hl 1 rfl) ?_
  refine lv_iconst (v := 0) hx hb dX5_goBack_2 (by decide) ?_
  refine lv_iconst (v := 1) hx hb dX5_goBack_3 (by decide) ?_
  refine z_ci (va_runS (As := [.int (nI sl), .int 0, .int 1]) (rest := [.ref m0]) ⟨hx, hb, hml, hown, hts⟩ (c_X5_in l (v := nI sl) (lo := 0) (hg := 1)) (va_cwS 3 hts gX5_goBack_X5_in rfl rfl rfl (by decide +kernel) ⟨Nat.le_of_ble_eq_true rfl, Nat.le_of_ble_eq_true rfl⟩) z_preS rfl rfl hl.1 rfl (lv_room (Nat.le_of_ble_eq_true rfl)) dX5_goBack_4 ⟨Nat.le_of_ble_eq_true rfl, Nat.le_of_ble_eq_true rfl⟩) ?_
  refine z_top (y := 1) (by rw [show (decide (0 ≤ nI sl) && decide (nI sl ≤ 1)) = true from in_ok 0 1 (by omega) (by omega) (by omega)]; rfl) ?_
  refine z_if_ne (tgt := 14) (P := False) hx hb dX5_goBack_7 (by decide) (by decide) (fun c7 => ?_) (fun c7 => (show False from c7).elim)
  refine lv_aload_n hx hb dX5_goBack_14 rfl (lv_at hl 0 rfl) ?_
  refine va_get (D := D) (ci := 4) (v := .ref m4) (C := RX5) (T := TX5) (N := 9) hx hb hts in4 hown hK hP 0 rfl rfl 4 (by decide) fl19 (fun _ h9 => h9) rfl dX5_goBack_15 ?_
  refine lv_iload_n hx hb dX5_goBack_18 rfl (lv_at hl 1 rfl) ?_
  refine z_zald hx hb hK hP 4 1 rfl rfl (k := sl) (rfl) (by omega) (by decide) dX5_goBack_19 ?_
  refine z_if_eq (tgt := 27) (P := (gk sl) = 0) hx hb dX5_goBack_20 (by decide) (Iff.rfl) (fun c20 => (show False from hgk c20).elim) (fun c20 => ?_)
  refine lv_iconst (v := 0) hx hb dX5_goBack_23 (by decide) ?_
  refine lv_goto (tgt := 28) hx hb dX5_goBack_24 (by decide) ?_
  refine z_cmi (wr := []) (ws' := [(m0, .inr (4, [.ref m1, .ref m2, .int (nI kn), .ref m3, .ref m4, .ref m5, .int (nI ln), .int (nI 0), .long hs])), (m1, .inl (cI, 228, .inl gs)), (m2, .inl (cI, 684, .inl gp)), (m3, .inl (cI, 228, .inl gl)), (m4, .inl (cZ, 2, .inl gk)), (m5, .inl (cI, 60, .inl fx))]) (va_runV (As := [.int 0]) (rest := []) ⟨hx, hb, hml, hown, hts⟩ (c_X5_throwsAt l D cI cZ cL _ (m0 := m0) (m1 := m1) (m2 := m2) (m3 := m3) (m4 := m4) (m5 := m5) (gs := gs) (gp := gp) (gl := gl) (gk := gk) (fx := fx) (kn := kn) (ln := ln) (th := th) (hs := hs) (pc0 := 0) (hpc := by omega)) (cwV 1 hts gX5_goBack_X5_throwsAt rfl rfl rfl (by decide +kernel) ⟨Nat.le_of_ble_eq_true rfl, Nat.le_of_ble_eq_true rfl⟩) (z_preMV hK (hP.sub [0, 1, 2, 3, 4, 5] rfl) (hD.sub [0, 1, 2, 3, 4, 5] (by decide) rfl) 0 4 rfl rfl) rfl rfl hl.1 rfl (lv_room (Nat.le_of_ble_eq_true rfl)) dX5_goBack_28 ⟨Nat.le_of_ble_eq_true rfl, Nat.le_of_ble_eq_true rfl⟩) hP hD hS hA [0, 1, 2, 3, 4, 5] [] [0, 1, 2, 3, 4, 5] rfl rfl (by decide) (by decide) rfl rfl (by decide) (fun H locs hP hD hS => ?_)
  refine z_top (y := 0) (by decide) ?_
  refine z_if_eq (tgt := 36) (P := True) hx hb dX5_goBack_31 (by decide) (by decide) (fun c31 => ?_) (fun c31 => (show False from c31 trivial).elim)
  refine lv_aload_n hx hb dX5_goBack_36 rfl (lv_at hl 0 rfl) ?_
  refine z_cmv (wr := []) (ws' := [(m0, .inr (4, [.ref m1, .ref m2, .int (nI (pKn kn + 1)), .ref m3, .ref m4, .ref m5, .int (nI ln), .int (nI 0), .long hs])), (m1, .inl (cI, 228, .inl gs)), (m2, .inl (cI, 684, .inl (pSv gs gp kn))), (m3, .inl (cI, 228, .inl gl)), (m4, .inl (cZ, 2, .inl gk)), (m5, .inl (cI, 60, .inl fx))]) (va_runV (As := []) (rest := []) ⟨hx, hb, hml, hown, hts⟩ (c_X5_saves l D cI cZ cL _ (m0 := m0) (m1 := m1) (m2 := m2) (m3 := m3) (m4 := m4) (m5 := m5) (gs := gs) (gp := gp) (gl := gl) (gk := gk) (fx := fx) (kn := kn) (ln := ln) (th := nI 0) (hs := hs) (hkn := by omega)) (cwV 0 hts gX5_goBack_X5_saves rfl rfl rfl (by decide +kernel) ⟨Nat.le_of_ble_eq_true rfl, Nat.le_of_ble_eq_true rfl⟩) (z_preMV hK (hP.sub [0, 1, 2, 3, 4, 5] rfl) (hD.sub [0, 1, 2, 3, 4, 5] (by decide) rfl) 0 4 rfl rfl) rfl rfl hl.1 rfl (lv_room (Nat.le_of_ble_eq_true rfl)) dX5_goBack_37 ⟨Nat.le_of_ble_eq_true rfl, Nat.le_of_ble_eq_true rfl⟩) hP hD hS hA [0, 1, 2, 3, 4, 5] [] [0, 1, 2, 3, 4, 5] rfl rfl (by decide) (by decide) rfl rfl (by decide) (fun H locs hP hD hS => ?_)
  refine lv_iconst (v := 0) hx hb dX5_goBack_40 (by decide) ?_
  refine lv_istore_n (lv' := [(2, .int 0), (0, .ref m0), (1, .int (nI sl))]) hx hb dX5_goBack_41 rfl hl (by decide) rfl (fun ls hl => ?_)
  have hW9 : ([(m0, .inr (4, [.ref m1, .ref m2, .int (nI (pKn kn + 1)), .ref m3, .ref m4, .ref m5, .int (nI ln), .int (nI 0), .long hs])), (m1, .inl (cI, 228, .inl gs)), (m2, .inl (cI, 684, .inl (pSv gs gp kn))), (m3, .inl (cI, 228, .inl gl)), (m4, .inl (cZ, 2, .inl gk)), (m5, .inl (cI, 60, .inl fx))] : va_W) = [(m0, .inr (4, [.ref m1, .ref m2, .int (nI (pKn kn + 1)), .ref m3, .ref m4, .ref m5, .int (nI ln), .int (nI 0), .long hs])), (m1, .inl (cI, 228, .inl (va_cpy gl gs (114 * sl) 0 0))), (m2, .inl (cI, 684, .inl (pSv gs gp kn))), (m3, .inl (cI, 228, .inl gl)), (m4, .inl (cZ, 2, .inl gk)), (m5, .inl (cI, 60, .inl fx))] := by rw [cp_0]
  rw [hW9] at hP hD
  refine z_upH (N := 114) (i0 := 0) (fun i H locs ls => va_P D vwCl [(m0, .inr (4, [.ref m1, .ref m2, .int (nI (pKn kn + 1)), .ref m3, .ref m4, .ref m5, .int (nI ln), .int (nI 0), .long hs])), (m1, .inl (cI, 228, .inl (va_cpy gl gs (114 * sl) 0 i))), (m2, .inl (cI, 684, .inl (pSv gs gp kn))), (m3, .inl (cI, 228, .inl gl)), (m4, .inl (cZ, 2, .inl gk)), (m5, .inl (cI, 60, .inl fx))] H ∧ va_D A [(m0, .inr (4, [.ref m1, .ref m2, .int (nI (pKn kn + 1)), .ref m3, .ref m4, .ref m5, .int (nI ln), .int (nI 0), .long hs])), (m1, .inl (cI, 228, .inl (va_cpy gl gs (114 * sl) 0 i))), (m2, .inl (cI, 684, .inl (pSv gs gp kn))), (m3, .inl (cI, 228, .inl gl)), (m4, .inl (cZ, 2, .inl gk)), (m5, .inl (cI, 60, .inl fx))] ∧ va_S A s.heap H locs ∧ lv_has ls 3 [(0, .ref m0), (1, .int (nI sl)), (2, .int (nI i))]) (by omega) (⟨hP, hD, hS, lv_sub hl [1, 2, 0] rfl⟩) (fun i H locs ls hi42 hI ih42 => ?_)
  obtain ⟨hP, hD, hS, hl⟩ := hI
  refine lv_iload_n hx hb dX5_goBack_42 rfl (lv_at hl 2 rfl) ?_
  refine lv_bipush (v := 114) hx hb dX5_goBack_43 (by decide) ?_
  refine z_icmp_ge (tgt := 71) (P := 114 ≤ i) hx hb dX5_goBack_45 (by decide) (nI_leI (a := 114) (b := i) (by omega) (by omega)) (fun c45 => ?_) (fun c45 => ?_)
  · skip
    obtain rfl : i = 114 := by omega
    refine lv_aload_n hx hb dX5_goBack_71 rfl (lv_at hl 0 rfl) ?_
    refine lv_iconst (v := 0) hx hb dX5_goBack_72 (by decide) ?_
    refine z_ci (va_runV (As := [.int 0]) (rest := []) ⟨hx, hb, hml, hown, hts⟩ (c_X5_towers l D cI cZ cL (m0 := m0) (m1 := m1) (m2 := m2) (m3 := m3) (m4 := m4) (m5 := m5) (gs := (va_cpy gl gs (114 * sl) 0 114)) (gp := (pSv gs gp kn)) (gl := gl) (gk := gk) (fx := fx) (kn := (pKn kn + 1)) (ln := ln) (th := nI 0) (hs := hs) (pl := 0) (hpl := by omega)) (cwV 1 hts gX5_goBack_X5_towers rfl rfl rfl (by decide +kernel) ⟨Nat.le_of_ble_eq_true rfl, Nat.le_of_ble_eq_true rfl⟩) (z_preV hK (hP.sub [0, 1, 2, 3, 4, 5] rfl) 0 4 rfl rfl) rfl rfl hl.1 rfl (lv_room (Nat.le_of_ble_eq_true rfl)) dX5_goBack_73 ⟨Nat.le_of_ble_eq_true rfl, Nat.le_of_ble_eq_true rfl⟩) ?_
    refine lv_aload_n hx hb dX5_goBack_76 rfl (lv_at hl 0 rfl) ?_
    refine lv_iconst (v := 1) hx hb dX5_goBack_77 (by decide) ?_
    refine z_ci (va_runV (As := [.int 1]) (rest := [.int (nI (pTM (va_cpy gl gs (114 * sl) 0 114) 0))]) ⟨hx, hb, hml, hown, hts⟩ (c_X5_towers l D cI cZ cL (m0 := m0) (m1 := m1) (m2 := m2) (m3 := m3) (m4 := m4) (m5 := m5) (gs := (va_cpy gl gs (114 * sl) 0 114)) (gp := (pSv gs gp kn)) (gl := gl) (gk := gk) (fx := fx) (kn := (pKn kn + 1)) (ln := ln) (th := nI 0) (hs := hs) (pl := 1) (hpl := by omega)) (cwV 1 hts gX5_goBack_X5_towers rfl rfl rfl (by decide +kernel) ⟨Nat.le_of_ble_eq_true rfl, Nat.le_of_ble_eq_true rfl⟩) (z_preV hK (hP.sub [0, 1, 2, 3, 4, 5] rfl) 0 4 rfl rfl) rfl rfl hl.1 rfl (lv_room (Nat.le_of_ble_eq_true rfl)) dX5_goBack_78 ⟨Nat.le_of_ble_eq_true rfl, Nat.le_of_ble_eq_true rfl⟩) ?_
    refine z_iadd (v := nI (pTM (va_cpy gl gs (114 * sl) 0 114) 0 + pTM (va_cpy gl gs (114 * sl) 0 114) 1)) hx hb dX5_goBack_81 (nI_add (pTM (va_cpy gl gs (114 * sl) 0 114) 0) (pTM (va_cpy gl gs (114 * sl) 0 114) 1)) ?_
    have hP9 : va_P D vwCl [(m0, .inr (4, [.ref m1, .ref m2, .int (nI (pKn kn + 1)), .ref m3, .ref m4, .ref m5, .int (nI ln), .int (nI 0), .long hs])), (m1, .inl (cI, 228, .inl (va_cpy gl gs (114 * sl) 0 114))), (m2, .inl (cI, 684, .inl (pSv gs gp kn))), (m3, .inl (cI, 228, .inl gl)), (m4, .inl (cZ, 2, .inl gk)), (m5, .inl (cI, 60, .inl fx))] _ := hP
    have hD9 : va_D A [(m0, .inr (4, [.ref m1, .ref m2, .int (nI (pKn kn + 1)), .ref m3, .ref m4, .ref m5, .int (nI ln), .int (nI 0), .long hs])), (m1, .inl (cI, 228, .inl (va_cpy gl gs (114 * sl) 0 114))), (m2, .inl (cI, 684, .inl (pSv gs gp kn))), (m3, .inl (cI, 228, .inl gl)), (m4, .inl (cZ, 2, .inl gk)), (m5, .inl (cI, 60, .inl fx))] := hD
    subst hAe
    exact z_miret hx hb hr hlocks dX5_goBack_82 (rfl) hP9 hD9 hS
  · skip
    refine lv_aload_n hx hb dX5_goBack_48 rfl (lv_at hl 0 rfl) ?_
    refine va_get (D := D) (ci := 4) (v := .ref m1) (C := RX5) (T := TX5) (N := 9) hx hb hts in4 hown hK hP 0 rfl rfl 0 (by decide) fl7 (fun _ h9 => h9) rfl dX5_goBack_49 ?_
    refine lv_iload_n hx hb dX5_goBack_52 rfl (lv_at hl 2 rfl) ?_
    refine lv_aload_n hx hb dX5_goBack_53 rfl (lv_at hl 0 rfl) ?_
    refine va_get (D := D) (ci := 4) (v := .ref m3) (C := RX5) (T := TX5) (N := 9) hx hb hts in4 hown hK hP 0 rfl rfl 3 (by decide) fl16 (fun _ h9 => h9) rfl dX5_goBack_54 ?_
    refine lv_bipush (v := 114) hx hb dX5_goBack_57 (by decide) ?_
    refine lv_iload_n hx hb dX5_goBack_59 rfl (lv_at hl 1 rfl) ?_
    refine z_imul (v := nI (114 * sl)) hx hb dX5_goBack_60 (pk_mul (114) (sl)) ?_
    refine lv_iload_n hx hb dX5_goBack_61 rfl (lv_at hl 2 rfl) ?_
    refine z_iadd (v := nI ((114 * sl) + i)) hx hb dX5_goBack_62 (nI_add ((114 * sl)) (i)) ?_
    refine z_iald hx hb hK hP 3 0 rfl rfl (k := ((114 * sl) + i)) (rfl) (by omega) (by decide) dX5_goBack_63 ?_
    refine z_iast hx hb hK hP hD hS 1 0 rfl rfl (k := i) (rfl) (by omega) (by decide) dX5_goBack_64 (g := (va_cpy gl gs (114 * sl) 0 (i + 1))) (cp_b _ _ _ _) (fun H locs hP hD hS => ?_)
    have hP : va_P D vwCl [(m0, .inr (4, [.ref m1, .ref m2, .int (nI (pKn kn + 1)), .ref m3, .ref m4, .ref m5, .int (nI ln), .int (nI 0), .long hs])), (m1, .inl (cI, 228, .inl (va_cpy gl gs (114 * sl) 0 (i + 1)))), (m2, .inl (cI, 684, .inl (pSv gs gp kn))), (m3, .inl (cI, 228, .inl gl)), (m4, .inl (cZ, 2, .inl gk)), (m5, .inl (cI, 60, .inl fx))] _ := hP
    have hD : va_D A [(m0, .inr (4, [.ref m1, .ref m2, .int (nI (pKn kn + 1)), .ref m3, .ref m4, .ref m5, .int (nI ln), .int (nI 0), .long hs])), (m1, .inl (cI, 228, .inl (va_cpy gl gs (114 * sl) 0 (i + 1)))), (m2, .inl (cI, 684, .inl (pSv gs gp kn))), (m3, .inl (cI, 228, .inl gl)), (m4, .inl (cZ, 2, .inl gk)), (m5, .inl (cI, 60, .inl fx))] := hD
    refine lv_iinc (v := nI (i + 1)) (lv' := [(2, .int (nI (i + 1))), (0, .ref m0), (1, .int (nI sl))]) hx hb dX5_goBack_65 hl (k := 2) rfl (nI_1 (i)) (by decide) rfl (fun ls hl => ?_)
    refine lv_goto (tgt := 42) hx hb dX5_goBack_68 (by decide) ?_
    exact ih42 (by omega) _ _ _ (⟨hP, hD, hS, lv_sub hl [1, 2, 0] rfl⟩)

set_option maxHeartbeats 4000000 in
set_option maxRecDepth 100000 in
/-- undo: none -/
theorem c_X5_undo_none (l : Launch) (D : va_G) (cI cZ cL : ClassId) (sz : Nat) (m0 : Nat) (m1 : Nat) (m2 : Nat) (m3 : Nat) (m4 : Nat) (m5 : Nat) (gs : Nat → Int32) (gp : Nat → Int32) (gl : Nat → Int32) (gk : Nat → Int32) (fx : Nat → Int32) (kn : Nat) (ln : Nat) (th : Int32) (hs : Int64) (hk0 : kn = 0) : Met l yX5_undo wsX5_undo ({ frames := 1, cells := 0, slots := 0, locals := 21 }) (va_Pc [.ref m0] (zM D cI cZ cL [(m0, .inr (4, [.ref m1, .ref m2, .int (nI kn), .ref m3, .ref m4, .ref m5, .int (nI ln), .int th, .long hs])), (m1, .inl (cI, 228, .inl gs)), (m2, .inl (cI, 684, .inl gp)), (m3, .inl (cI, 228, .inl gl)), (m4, .inl (cZ, 2, .inl gk)), (m5, .inl (cI, 60, .inl fx))] sz)) (zQmi D 0 [(m0, .inr (4, [.ref m1, .ref m2, .int (nI kn), .ref m3, .ref m4, .ref m5, .int (nI ln), .int th, .long hs])), (m1, .inl (cI, 228, .inl gs)), (m2, .inl (cI, 684, .inl gp)), (m3, .inl (cI, 228, .inl gl)), (m4, .inl (cZ, 2, .inl gk)), (m5, .inl (cI, 60, .inl fx))] [(m0, .inr (4, [.ref m1, .ref m2, .int (nI kn), .ref m3, .ref m4, .ref m5, .int (nI ln), .int (nI 1), .long hs])), (m1, .inl (cI, 228, .inl gs)), (m2, .inl (cI, 684, .inl gp)), (m3, .inl (cI, 228, .inl gl)), (m4, .inl (cZ, 2, .inl gk)), (m5, .inl (cI, 60, .inl fx))] sz) 0 0 (va_A [(m0, .inr (4, [.ref m1, .ref m2, .int (nI kn), .ref m3, .ref m4, .ref m5, .int (nI ln), .int th, .long hs])), (m1, .inl (cI, 228, .inl gs)), (m2, .inl (cI, 684, .inl gp)), (m3, .inl (cI, 228, .inl gl)), (m4, .inl (cZ, 2, .inl gk)), (m5, .inl (cI, 60, .inl fx))] sz) := by
  refine Met.ofW (cc := cX5_undo) (maxL := 2) (ret := (some .int)) (by decide) rfl ?_
  intro p e s m args below meth c s₁ B hml hv
  obtain ⟨rfl, hsz, ⟨hP, hK⟩, hD0⟩ := hv
  have hx := B.exec
  have hb := B.bytes
  have hr := B.returns
  have hts := atoms_spec (ws := wsX5_undo) B.pre
  have hown : s.vm.findClass RX5 = some m.cls := findClass_of_methodNamed B.named
  have hlocks := B.notSynchronized
  subst hsz
  have hD := hD0.self (sz := s.heap.size)
  generalize hAe : va_A [(m0, .inr (4, [.ref m1, .ref m2, .int (nI kn), .ref m3, .ref m4, .ref m5, .int (nI ln), .int th, .long hs])), (m1, .inl (cI, 228, .inl gs)), (m2, .inl (cI, 684, .inl gp)), (m3, .inl (cI, 228, .inl gl)), (m4, .inl (cZ, 2, .inl gk)), (m5, .inl (cI, 60, .inl fx))] s.heap.size = A at hD ⊢
  have hA : ∀ q : Nat, s.heap.size ≤ q → A q := fun q h => by rw [← hAe]; exact Or.inr h
  have hS : va_S A s.heap s.heap [] := va_S.rf
  have in4 : ∀ w ∈ u_ws RX5 TX5 9, w ∈ wsX5_undo := by decide +kernel
  have fl34 := hts (.fieldLink RX5 34 "TowerShadesModel" "known" "I") (by decide +kernel)
  have hl := lv_entry ([.ref m0]) (n := 2) (Nat.le_of_ble_eq_true rfl)
  rw [lg_entry_eq]
  generalize (lg_sl ([.ref m0]) ++ List.replicate (2 - (lg_sl ([.ref m0])).length) Slot.unset).toArray = ls at hl ⊢
  have hl : lv_has ls 2 [(0, .ref m0)] := hl
  refine lv_aload_n hx hb dX5_undo_0 rfl (lv_at hl 0 rfl) ?_
  refine lv_aload_n hx hb dX5_undo_1 rfl (lv_at hl 0 rfl) ?_
  refine va_get (D := D) (ci := 4) (v := .int (nI kn)) (C := RX5) (T := TX5) (N := 9) hx hb hts in4 hown hK hP 0 rfl rfl 2 (by decide) fl34 (fun _ h9 => h9) rfl dX5_undo_2 ?_
  refine z_if_le (tgt := 12) (P := kn ≤ 0) hx hb dX5_undo_5 (by decide) (nI_leI (a := kn) (b := 0) (by omega) (by omega)) (fun c5 => ?_) (fun c5 => (show False from c5 (by omega)).elim)
  refine lv_iconst (v := 1) hx hb dX5_undo_12 (by decide) ?_
  refine z_cmi (wr := []) (ws' := [(m0, .inr (4, [.ref m1, .ref m2, .int (nI kn), .ref m3, .ref m4, .ref m5, .int (nI ln), .int (nI 1), .long hs])), (m1, .inl (cI, 228, .inl gs)), (m2, .inl (cI, 684, .inl gp)), (m3, .inl (cI, 228, .inl gl)), (m4, .inl (cZ, 2, .inl gk)), (m5, .inl (cI, 60, .inl fx))]) (va_runV (As := [.int 1]) (rest := []) ⟨hx, hb, hml, hown, hts⟩ (c_X5_throwsAt l D cI cZ cL _ (m0 := m0) (m1 := m1) (m2 := m2) (m3 := m3) (m4 := m4) (m5 := m5) (gs := gs) (gp := gp) (gl := gl) (gk := gk) (fx := fx) (kn := kn) (ln := ln) (th := th) (hs := hs) (pc0 := 1) (hpc := by omega)) (cwV 1 hts gX5_undo_X5_throwsAt rfl rfl rfl (by decide +kernel) ⟨Nat.le_of_ble_eq_true rfl, Nat.le_of_ble_eq_true rfl⟩) (z_preMV hK (hP.sub [0, 1, 2, 3, 4, 5] rfl) (hD.sub [0, 1, 2, 3, 4, 5] (by decide) rfl) 0 4 rfl rfl) rfl rfl hl.1 rfl (lv_room (Nat.le_of_ble_eq_true rfl)) dX5_undo_13 ⟨Nat.le_of_ble_eq_true rfl, Nat.le_of_ble_eq_true rfl⟩) hP hD hS hA [0, 1, 2, 3, 4, 5] [] [0, 1, 2, 3, 4, 5] rfl rfl (by decide) (by decide) rfl rfl (by decide) (fun H locs hP hD hS => ?_)
  refine z_top (y := 1) (by decide) ?_
  refine z_if_eq (tgt := 21) (P := False) hx hb dX5_undo_16 (by decide) (by decide) (fun c16 => (show False from c16).elim) (fun c16 => ?_)
  refine lv_iconst (v := 0) hx hb dX5_undo_19 (by decide) ?_
  have hP9 : va_P D vwCl [(m0, .inr (4, [.ref m1, .ref m2, .int (nI kn), .ref m3, .ref m4, .ref m5, .int (nI ln), .int (nI 1), .long hs])), (m1, .inl (cI, 228, .inl gs)), (m2, .inl (cI, 684, .inl gp)), (m3, .inl (cI, 228, .inl gl)), (m4, .inl (cZ, 2, .inl gk)), (m5, .inl (cI, 60, .inl fx))] _ := hP
  have hD9 : va_D A [(m0, .inr (4, [.ref m1, .ref m2, .int (nI kn), .ref m3, .ref m4, .ref m5, .int (nI ln), .int (nI 1), .long hs])), (m1, .inl (cI, 228, .inl gs)), (m2, .inl (cI, 684, .inl gp)), (m3, .inl (cI, 228, .inl gl)), (m4, .inl (cZ, 2, .inl gk)), (m5, .inl (cI, 60, .inl fx))] := hD
  subst hAe
  exact z_miret hx hb hr hlocks dX5_undo_20 (rfl) hP9 hD9 hS

set_option maxHeartbeats 4000000 in
set_option maxRecDepth 100000 in
/-- undo -/
theorem c_X5_undo_ok (l : Launch) (D : va_G) (cI cZ cL : ClassId) (sz : Nat) (m0 : Nat) (m1 : Nat) (m2 : Nat) (m3 : Nat) (m4 : Nat) (m5 : Nat) (gs : Nat → Int32) (gp : Nat → Int32) (gl : Nat → Int32) (gk : Nat → Int32) (fx : Nat → Int32) (kn : Nat) (ln : Nat) (th : Int32) (hs : Int64) (hk0 : 0 < kn) (hkn : kn < 7) : Met l yX5_undo wsX5_undo ({ frames := 1, cells := 0, slots := 0, locals := 21 }) (va_Pc [.ref m0] (zM D cI cZ cL [(m0, .inr (4, [.ref m1, .ref m2, .int (nI kn), .ref m3, .ref m4, .ref m5, .int (nI ln), .int th, .long hs])), (m1, .inl (cI, 228, .inl gs)), (m2, .inl (cI, 684, .inl gp)), (m3, .inl (cI, 228, .inl gl)), (m4, .inl (cZ, 2, .inl gk)), (m5, .inl (cI, 60, .inl fx))] sz)) (zQmi D (nI (kn - 1)) [(m0, .inr (4, [.ref m1, .ref m2, .int (nI kn), .ref m3, .ref m4, .ref m5, .int (nI ln), .int th, .long hs])), (m1, .inl (cI, 228, .inl gs)), (m2, .inl (cI, 684, .inl gp)), (m3, .inl (cI, 228, .inl gl)), (m4, .inl (cZ, 2, .inl gk)), (m5, .inl (cI, 60, .inl fx))] [(m0, .inr (4, [.ref m1, .ref m2, .int (nI (kn - 1)), .ref m3, .ref m4, .ref m5, .int (nI ln), .int (nI 0), .long hs])), (m1, .inl (cI, 228, .inl (va_cpy gp gs (114 * (kn - 1)) 0 114))), (m2, .inl (cI, 684, .inl gp)), (m3, .inl (cI, 228, .inl gl)), (m4, .inl (cZ, 2, .inl gk)), (m5, .inl (cI, 60, .inl fx))] sz) 0 0 (va_A [(m0, .inr (4, [.ref m1, .ref m2, .int (nI kn), .ref m3, .ref m4, .ref m5, .int (nI ln), .int th, .long hs])), (m1, .inl (cI, 228, .inl gs)), (m2, .inl (cI, 684, .inl gp)), (m3, .inl (cI, 228, .inl gl)), (m4, .inl (cZ, 2, .inl gk)), (m5, .inl (cI, 60, .inl fx))] sz) := by
  refine Met.ofW (cc := cX5_undo) (maxL := 2) (ret := (some .int)) (by decide) rfl ?_
  intro p e s m args below meth c s₁ B hml hv
  obtain ⟨rfl, hsz, ⟨hP, hK⟩, hD0⟩ := hv
  have hx := B.exec
  have hb := B.bytes
  have hr := B.returns
  have hts := atoms_spec (ws := wsX5_undo) B.pre
  have hown : s.vm.findClass RX5 = some m.cls := findClass_of_methodNamed B.named
  have hlocks := B.notSynchronized
  subst hsz
  have hD := hD0.self (sz := s.heap.size)
  generalize hAe : va_A [(m0, .inr (4, [.ref m1, .ref m2, .int (nI kn), .ref m3, .ref m4, .ref m5, .int (nI ln), .int th, .long hs])), (m1, .inl (cI, 228, .inl gs)), (m2, .inl (cI, 684, .inl gp)), (m3, .inl (cI, 228, .inl gl)), (m4, .inl (cZ, 2, .inl gk)), (m5, .inl (cI, 60, .inl fx))] s.heap.size = A at hD ⊢
  have hA : ∀ q : Nat, s.heap.size ≤ q → A q := fun q h => by rw [← hAe]; exact Or.inr h
  have hS : va_S A s.heap s.heap [] := va_S.rf
  have in4 : ∀ w ∈ u_ws RX5 TX5 9, w ∈ wsX5_undo := by decide +kernel
  have fl7 := hts (.fieldLink RX5 7 "TowerShadesModel" "s" "[I") (by decide +kernel)
  have fl13 := hts (.fieldLink RX5 13 "TowerShadesModel" "past" "[I") (by decide +kernel)
  have fl34 := hts (.fieldLink RX5 34 "TowerShadesModel" "known" "I") (by decide +kernel)
  have hl := lv_entry ([.ref m0]) (n := 2) (Nat.le_of_ble_eq_true rfl)
  rw [lg_entry_eq]
  generalize (lg_sl ([.ref m0]) ++ List.replicate (2 - (lg_sl ([.ref m0])).length) Slot.unset).toArray = ls at hl ⊢
  have hl : lv_has ls 2 [(0, .ref m0)] := hl
  refine lv_aload_n hx hb dX5_undo_0 rfl (lv_at hl 0 rfl) ?_
  refine lv_aload_n hx hb dX5_undo_1 rfl (lv_at hl 0 rfl) ?_
  refine va_get (D := D) (ci := 4) (v := .int (nI kn)) (C := RX5) (T := TX5) (N := 9) hx hb hts in4 hown hK hP 0 rfl rfl 2 (by decide) fl34 (fun _ h9 => h9) rfl dX5_undo_2 ?_
  refine z_if_le (tgt := 12) (P := kn ≤ 0) hx hb dX5_undo_5 (by decide) (nI_leI (a := kn) (b := 0) (by omega) (by omega)) (fun c5 => (show False from by omega).elim) (fun c5 => ?_)
  refine lv_iconst (v := 0) hx hb dX5_undo_8 (by decide) ?_
  refine lv_goto (tgt := 13) hx hb dX5_undo_9 (by decide) ?_
  refine z_cmi (wr := []) (ws' := [(m0, .inr (4, [.ref m1, .ref m2, .int (nI kn), .ref m3, .ref m4, .ref m5, .int (nI ln), .int (nI 0), .long hs])), (m1, .inl (cI, 228, .inl gs)), (m2, .inl (cI, 684, .inl gp)), (m3, .inl (cI, 228, .inl gl)), (m4, .inl (cZ, 2, .inl gk)), (m5, .inl (cI, 60, .inl fx))]) (va_runV (As := [.int 0]) (rest := []) ⟨hx, hb, hml, hown, hts⟩ (c_X5_throwsAt l D cI cZ cL _ (m0 := m0) (m1 := m1) (m2 := m2) (m3 := m3) (m4 := m4) (m5 := m5) (gs := gs) (gp := gp) (gl := gl) (gk := gk) (fx := fx) (kn := kn) (ln := ln) (th := th) (hs := hs) (pc0 := 0) (hpc := by omega)) (cwV 1 hts gX5_undo_X5_throwsAt rfl rfl rfl (by decide +kernel) ⟨Nat.le_of_ble_eq_true rfl, Nat.le_of_ble_eq_true rfl⟩) (z_preMV hK (hP.sub [0, 1, 2, 3, 4, 5] rfl) (hD.sub [0, 1, 2, 3, 4, 5] (by decide) rfl) 0 4 rfl rfl) rfl rfl hl.1 rfl (lv_room (Nat.le_of_ble_eq_true rfl)) dX5_undo_13 ⟨Nat.le_of_ble_eq_true rfl, Nat.le_of_ble_eq_true rfl⟩) hP hD hS hA [0, 1, 2, 3, 4, 5] [] [0, 1, 2, 3, 4, 5] rfl rfl (by decide) (by decide) rfl rfl (by decide) (fun H locs hP hD hS => ?_)
  refine z_top (y := 0) (by decide) ?_
  refine z_if_eq (tgt := 21) (P := True) hx hb dX5_undo_16 (by decide) (by decide) (fun c16 => ?_) (fun c16 => (show False from c16 trivial).elim)
  refine lv_aload_n hx hb dX5_undo_21 rfl (lv_at hl 0 rfl) ?_
  refine lv_dup hx hb dX5_undo_22 rfl ?_
  refine va_get (D := D) (ci := 4) (v := .int (nI kn)) (C := RX5) (T := TX5) (N := 9) hx hb hts in4 hown hK hP 0 rfl rfl 2 (by decide) fl34 (fun _ h9 => h9) rfl dX5_undo_23 ?_
  refine lv_iconst (v := 1) hx hb dX5_undo_26 (by decide) ?_
  refine z_isub (v := nI (kn - 1)) hx hb dX5_undo_27 (pk_sub (a := kn) (b := 1) (by omega)) ?_
  refine va_put (D := D) (ci := 4) (v := .int (nI (kn - 1))) (ty := .int) (C := RX5) (T := TX5) (N := 9) hx hb hts in4 tyX5 tyX5_ok nmX5 hown hK hP hD hS 0 rfl rfl 2 (by decide) fl34 (fun _ h9 => h9) rfl (by decide +kernel) rfl rfl (Nat.le_of_ble_eq_true rfl) dX5_undo_28 (fun H locs hP hD hS => ?_)
  have hP : va_P D vwCl [(m0, .inr (4, [.ref m1, .ref m2, .int (nI (kn - 1)), .ref m3, .ref m4, .ref m5, .int (nI ln), .int (nI 0), .long hs])), (m1, .inl (cI, 228, .inl gs)), (m2, .inl (cI, 684, .inl gp)), (m3, .inl (cI, 228, .inl gl)), (m4, .inl (cZ, 2, .inl gk)), (m5, .inl (cI, 60, .inl fx))] _ := hP
  have hD : va_D A [(m0, .inr (4, [.ref m1, .ref m2, .int (nI (kn - 1)), .ref m3, .ref m4, .ref m5, .int (nI ln), .int (nI 0), .long hs])), (m1, .inl (cI, 228, .inl gs)), (m2, .inl (cI, 684, .inl gp)), (m3, .inl (cI, 228, .inl gl)), (m4, .inl (cZ, 2, .inl gk)), (m5, .inl (cI, 60, .inl fx))] := hD
  refine lv_iconst (v := 0) hx hb dX5_undo_31 (by decide) ?_
  refine lv_istore_n (lv' := [(1, .int 0), (0, .ref m0)]) hx hb dX5_undo_32 rfl hl (by decide) rfl (fun ls hl => ?_)
  have hW9 : ([(m0, .inr (4, [.ref m1, .ref m2, .int (nI (kn - 1)), .ref m3, .ref m4, .ref m5, .int (nI ln), .int (nI 0), .long hs])), (m1, .inl (cI, 228, .inl gs)), (m2, .inl (cI, 684, .inl gp)), (m3, .inl (cI, 228, .inl gl)), (m4, .inl (cZ, 2, .inl gk)), (m5, .inl (cI, 60, .inl fx))] : va_W) = [(m0, .inr (4, [.ref m1, .ref m2, .int (nI (kn - 1)), .ref m3, .ref m4, .ref m5, .int (nI ln), .int (nI 0), .long hs])), (m1, .inl (cI, 228, .inl (va_cpy gp gs (114 * (kn - 1)) 0 0))), (m2, .inl (cI, 684, .inl gp)), (m3, .inl (cI, 228, .inl gl)), (m4, .inl (cZ, 2, .inl gk)), (m5, .inl (cI, 60, .inl fx))] := by rw [cp_0]
  rw [hW9] at hP hD
  refine z_upH (N := 114) (i0 := 0) (fun i H locs ls => va_P D vwCl [(m0, .inr (4, [.ref m1, .ref m2, .int (nI (kn - 1)), .ref m3, .ref m4, .ref m5, .int (nI ln), .int (nI 0), .long hs])), (m1, .inl (cI, 228, .inl (va_cpy gp gs (114 * (kn - 1)) 0 i))), (m2, .inl (cI, 684, .inl gp)), (m3, .inl (cI, 228, .inl gl)), (m4, .inl (cZ, 2, .inl gk)), (m5, .inl (cI, 60, .inl fx))] H ∧ va_D A [(m0, .inr (4, [.ref m1, .ref m2, .int (nI (kn - 1)), .ref m3, .ref m4, .ref m5, .int (nI ln), .int (nI 0), .long hs])), (m1, .inl (cI, 228, .inl (va_cpy gp gs (114 * (kn - 1)) 0 i))), (m2, .inl (cI, 684, .inl gp)), (m3, .inl (cI, 228, .inl gl)), (m4, .inl (cZ, 2, .inl gk)), (m5, .inl (cI, 60, .inl fx))] ∧ va_S A s.heap H locs ∧ lv_has ls 2 [(0, .ref m0), (1, .int (nI i))]) (by omega) (⟨hP, hD, hS, lv_sub hl [1, 0] rfl⟩) (fun i H locs ls hi33 hI ih33 => ?_)
  obtain ⟨hP, hD, hS, hl⟩ := hI
  refine lv_iload_n hx hb dX5_undo_33 rfl (lv_at hl 1 rfl) ?_
  refine lv_bipush (v := 114) hx hb dX5_undo_34 (by decide) ?_
  refine z_icmp_ge (tgt := 65) (P := 114 ≤ i) hx hb dX5_undo_36 (by decide) (nI_leI (a := 114) (b := i) (by omega) (by omega)) (fun c36 => ?_) (fun c36 => ?_)
  · skip
    obtain rfl : i = 114 := by omega
    refine lv_aload_n hx hb dX5_undo_65 rfl (lv_at hl 0 rfl) ?_
    refine va_get (D := D) (ci := 4) (v := .int (nI (kn - 1))) (C := RX5) (T := TX5) (N := 9) hx hb hts in4 hown hK hP 0 rfl rfl 2 (by decide) fl34 (fun _ h9 => h9) rfl dX5_undo_66 ?_
    have hP9 : va_P D vwCl [(m0, .inr (4, [.ref m1, .ref m2, .int (nI (kn - 1)), .ref m3, .ref m4, .ref m5, .int (nI ln), .int (nI 0), .long hs])), (m1, .inl (cI, 228, .inl (va_cpy gp gs (114 * (kn - 1)) 0 114))), (m2, .inl (cI, 684, .inl gp)), (m3, .inl (cI, 228, .inl gl)), (m4, .inl (cZ, 2, .inl gk)), (m5, .inl (cI, 60, .inl fx))] _ := hP
    have hD9 : va_D A [(m0, .inr (4, [.ref m1, .ref m2, .int (nI (kn - 1)), .ref m3, .ref m4, .ref m5, .int (nI ln), .int (nI 0), .long hs])), (m1, .inl (cI, 228, .inl (va_cpy gp gs (114 * (kn - 1)) 0 114))), (m2, .inl (cI, 684, .inl gp)), (m3, .inl (cI, 228, .inl gl)), (m4, .inl (cZ, 2, .inl gk)), (m5, .inl (cI, 60, .inl fx))] := hD
    subst hAe
    exact z_miret hx hb hr hlocks dX5_undo_69 (rfl) hP9 hD9 hS
  · skip
    refine lv_aload_n hx hb dX5_undo_39 rfl (lv_at hl 0 rfl) ?_
    refine va_get (D := D) (ci := 4) (v := .ref m1) (C := RX5) (T := TX5) (N := 9) hx hb hts in4 hown hK hP 0 rfl rfl 0 (by decide) fl7 (fun _ h9 => h9) rfl dX5_undo_40 ?_
    refine lv_iload_n hx hb dX5_undo_43 rfl (lv_at hl 1 rfl) ?_
    refine lv_aload_n hx hb dX5_undo_44 rfl (lv_at hl 0 rfl) ?_
    refine va_get (D := D) (ci := 4) (v := .ref m2) (C := RX5) (T := TX5) (N := 9) hx hb hts in4 hown hK hP 0 rfl rfl 1 (by decide) fl13 (fun _ h9 => h9) rfl dX5_undo_45 ?_
    refine lv_bipush (v := 114) hx hb dX5_undo_48 (by decide) ?_
    refine lv_aload_n hx hb dX5_undo_50 rfl (lv_at hl 0 rfl) ?_
    refine va_get (D := D) (ci := 4) (v := .int (nI (kn - 1))) (C := RX5) (T := TX5) (N := 9) hx hb hts in4 hown hK hP 0 rfl rfl 2 (by decide) fl34 (fun _ h9 => h9) rfl dX5_undo_51 ?_
    refine z_imul (v := nI (114 * (kn - 1))) hx hb dX5_undo_54 (pk_mul (114) ((kn - 1))) ?_
    refine lv_iload_n hx hb dX5_undo_55 rfl (lv_at hl 1 rfl) ?_
    refine z_iadd (v := nI ((114 * (kn - 1)) + i)) hx hb dX5_undo_56 (nI_add ((114 * (kn - 1))) (i)) ?_
    refine z_iald hx hb hK hP 2 0 rfl rfl (k := ((114 * (kn - 1)) + i)) (rfl) (by omega) (by decide) dX5_undo_57 ?_
    refine z_iast hx hb hK hP hD hS 1 0 rfl rfl (k := i) (rfl) (by omega) (by decide) dX5_undo_58 (g := (va_cpy gp gs (114 * (kn - 1)) 0 (i + 1))) (cp_b _ _ _ _) (fun H locs hP hD hS => ?_)
    have hP : va_P D vwCl [(m0, .inr (4, [.ref m1, .ref m2, .int (nI (kn - 1)), .ref m3, .ref m4, .ref m5, .int (nI ln), .int (nI 0), .long hs])), (m1, .inl (cI, 228, .inl (va_cpy gp gs (114 * (kn - 1)) 0 (i + 1)))), (m2, .inl (cI, 684, .inl gp)), (m3, .inl (cI, 228, .inl gl)), (m4, .inl (cZ, 2, .inl gk)), (m5, .inl (cI, 60, .inl fx))] _ := hP
    have hD : va_D A [(m0, .inr (4, [.ref m1, .ref m2, .int (nI (kn - 1)), .ref m3, .ref m4, .ref m5, .int (nI ln), .int (nI 0), .long hs])), (m1, .inl (cI, 228, .inl (va_cpy gp gs (114 * (kn - 1)) 0 (i + 1)))), (m2, .inl (cI, 684, .inl gp)), (m3, .inl (cI, 228, .inl gl)), (m4, .inl (cZ, 2, .inl gk)), (m5, .inl (cI, 60, .inl fx))] := hD
    refine lv_iinc (v := nI (i + 1)) (lv' := [(1, .int (nI (i + 1))), (0, .ref m0)]) hx hb dX5_undo_59 hl (k := 1) rfl (nI_1 (i)) (by decide) rfl (fun ls hl => ?_)
    refine lv_goto (tgt := 33) hx hb dX5_undo_62 (by decide) ?_
    exact ih33 (by omega) _ _ _ (⟨hP, hD, hS, lv_sub hl [1, 0] rfl⟩)

set_option maxHeartbeats 4000000 in
set_option maxRecDepth 100000 in
theorem c_X5_squareOf_bad (l : Launch) (D : va_G) (cI cZ cL : ClassId) (sz : Nat) (m0 : Nat) (m1 : Nat) (m2 : Nat) (m3 : Nat) (m4 : Nat) (m5 : Nat) (gs : Nat → Int32) (gp : Nat → Int32) (gl : Nat → Int32) (gk : Nat → Int32) (fx : Nat → Int32) (kn : Nat) (ln : Nat) (th : Int32) (hs : Int64) (p0 : Int32) (p1 : Int32) (hbad : (decide (0 ≤ p0) && decide (p0 ≤ 35)) = false) : Met l yX5_squareOf wsX5_squareOf ({ frames := 2, cells := 0, slots := 0, locals := 42 }) (va_Pc [.ref m0, .int p0, .int p1] (zM D cI cZ cL [(m0, .inr (4, [.ref m1, .ref m2, .int (nI kn), .ref m3, .ref m4, .ref m5, .int (nI ln), .int th, .long hs])), (m1, .inl (cI, 228, .inl gs)), (m2, .inl (cI, 684, .inl gp)), (m3, .inl (cI, 228, .inl gl)), (m4, .inl (cZ, 2, .inl gk)), (m5, .inl (cI, 60, .inl fx))] sz)) (zQmi D 0 [(m0, .inr (4, [.ref m1, .ref m2, .int (nI kn), .ref m3, .ref m4, .ref m5, .int (nI ln), .int th, .long hs])), (m1, .inl (cI, 228, .inl gs)), (m2, .inl (cI, 684, .inl gp)), (m3, .inl (cI, 228, .inl gl)), (m4, .inl (cZ, 2, .inl gk)), (m5, .inl (cI, 60, .inl fx))] [(m0, .inr (4, [.ref m1, .ref m2, .int (nI kn), .ref m3, .ref m4, .ref m5, .int (nI ln), .int (nI 1), .long hs])), (m1, .inl (cI, 228, .inl gs)), (m2, .inl (cI, 684, .inl gp)), (m3, .inl (cI, 228, .inl gl)), (m4, .inl (cZ, 2, .inl gk)), (m5, .inl (cI, 60, .inl fx))] sz) 0 0 (va_A [(m0, .inr (4, [.ref m1, .ref m2, .int (nI kn), .ref m3, .ref m4, .ref m5, .int (nI ln), .int th, .long hs])), (m1, .inl (cI, 228, .inl gs)), (m2, .inl (cI, 684, .inl gp)), (m3, .inl (cI, 228, .inl gl)), (m4, .inl (cZ, 2, .inl gk)), (m5, .inl (cI, 60, .inl fx))] sz) := by
  refine Met.ofW (cc := cX5_squareOf) (maxL := 3) (ret := (some .int)) (by decide) rfl ?_
  intro p e s m args below meth c s₁ B hml hv
  obtain ⟨rfl, hsz, ⟨hP, hK⟩, hD0⟩ := hv
  have hx := B.exec
  have hb := B.bytes
  have hr := B.returns
  have hts := atoms_spec (ws := wsX5_squareOf) B.pre
  have hown : s.vm.findClass RX5 = some m.cls := findClass_of_methodNamed B.named
  have hlocks := B.notSynchronized
  subst hsz
  have hD := hD0.self (sz := s.heap.size)
  generalize hAe : va_A [(m0, .inr (4, [.ref m1, .ref m2, .int (nI kn), .ref m3, .ref m4, .ref m5, .int (nI ln), .int th, .long hs])), (m1, .inl (cI, 228, .inl gs)), (m2, .inl (cI, 684, .inl gp)), (m3, .inl (cI, 228, .inl gl)), (m4, .inl (cZ, 2, .inl gk)), (m5, .inl (cI, 60, .inl fx))] s.heap.size = A at hD ⊢
  have hA : ∀ q : Nat, s.heap.size ≤ q → A q := fun q h => by rw [← hAe]; exact Or.inr h
  have hS : va_S A s.heap s.heap [] := va_S.rf
  have hl := lv_entry ([.ref m0, .int p0, .int p1]) (n := 3) (Nat.le_of_ble_eq_true rfl)
  rw [lg_entry_eq]
  generalize (lg_sl ([.ref m0, .int p0, .int p1]) ++ List.replicate (3 - (lg_sl ([.ref m0, .int p0, .int p1])).length) Slot.unset).toArray = ls at hl ⊢
  have hl : lv_has ls 3 [(0, .ref m0), (1, .int p0), (2, .int p1)] := hl
  refine lv_aload_n hx hb dX5_squareOf_0 rfl (lv_at hl 0 rfl) ?_
  refine lv_iload_n hx hb dX5_squareOf_1 rfl (lv_at hl 1 rfl) ?_
  refine z_ci (va_runS (As := [.int p0]) (rest := [.ref m0]) ⟨hx, hb, hml, hown, hts⟩ (c_X5_isSquare l (v := p0)) (va_cwS 1 hts gX5_squareOf_X5_isSquare rfl rfl rfl (by decide +kernel) ⟨Nat.le_of_ble_eq_true rfl, Nat.le_of_ble_eq_true rfl⟩) z_preS rfl rfl hl.1 rfl (lv_room (Nat.le_of_ble_eq_true rfl)) dX5_squareOf_2 ⟨Nat.le_of_ble_eq_true rfl, Nat.le_of_ble_eq_true rfl⟩) ?_
  refine z_top (y := 0) (by rw [hbad]; rfl) ?_
  refine z_if_ne (tgt := 12) (P := True) hx hb dX5_squareOf_5 (by decide) (by decide) (fun c5 => (show False from c5 trivial).elim) (fun c5 => ?_)
  refine lv_iconst (v := 1) hx hb dX5_squareOf_8 (by decide) ?_
  refine lv_goto (tgt := 27) hx hb dX5_squareOf_9 (by decide) ?_
  refine z_cmi (wr := []) (ws' := [(m0, .inr (4, [.ref m1, .ref m2, .int (nI kn), .ref m3, .ref m4, .ref m5, .int (nI ln), .int (nI 1), .long hs])), (m1, .inl (cI, 228, .inl gs)), (m2, .inl (cI, 684, .inl gp)), (m3, .inl (cI, 228, .inl gl)), (m4, .inl (cZ, 2, .inl gk)), (m5, .inl (cI, 60, .inl fx))]) (va_runV (As := [.int 1]) (rest := []) ⟨hx, hb, hml, hown, hts⟩ (c_X5_throwsAt l D cI cZ cL _ (m0 := m0) (m1 := m1) (m2 := m2) (m3 := m3) (m4 := m4) (m5 := m5) (gs := gs) (gp := gp) (gl := gl) (gk := gk) (fx := fx) (kn := kn) (ln := ln) (th := th) (hs := hs) (pc0 := 1) (hpc := by omega)) (cwV 1 hts gX5_squareOf_X5_throwsAt rfl rfl rfl (by decide +kernel) ⟨Nat.le_of_ble_eq_true rfl, Nat.le_of_ble_eq_true rfl⟩) (z_preMV hK (hP.sub [0, 1, 2, 3, 4, 5] rfl) (hD.sub [0, 1, 2, 3, 4, 5] (by decide) rfl) 0 4 rfl rfl) rfl rfl hl.1 rfl (lv_room (Nat.le_of_ble_eq_true rfl)) dX5_squareOf_27 ⟨Nat.le_of_ble_eq_true rfl, Nat.le_of_ble_eq_true rfl⟩) hP hD hS hA [0, 1, 2, 3, 4, 5] [] [0, 1, 2, 3, 4, 5] rfl rfl (by decide) (by decide) rfl rfl (by decide) (fun H locs hP hD hS => ?_)
  refine z_top (y := 1) (by decide) ?_
  refine z_if_eq (tgt := 37) (P := False) hx hb dX5_squareOf_30 (by decide) (by decide) (fun c30 => (show False from c30).elim) (fun c30 => ?_)
  refine lv_iconst (v := 0) hx hb dX5_squareOf_33 (by decide) ?_
  refine lv_goto (tgt := 43) hx hb dX5_squareOf_34 (by decide) ?_
  have hP9 : va_P D vwCl [(m0, .inr (4, [.ref m1, .ref m2, .int (nI kn), .ref m3, .ref m4, .ref m5, .int (nI ln), .int (nI 1), .long hs])), (m1, .inl (cI, 228, .inl gs)), (m2, .inl (cI, 684, .inl gp)), (m3, .inl (cI, 228, .inl gl)), (m4, .inl (cZ, 2, .inl gk)), (m5, .inl (cI, 60, .inl fx))] _ := hP
  have hD9 : va_D A [(m0, .inr (4, [.ref m1, .ref m2, .int (nI kn), .ref m3, .ref m4, .ref m5, .int (nI ln), .int (nI 1), .long hs])), (m1, .inl (cI, 228, .inl gs)), (m2, .inl (cI, 684, .inl gp)), (m3, .inl (cI, 228, .inl gl)), (m4, .inl (cZ, 2, .inl gk)), (m5, .inl (cI, 60, .inl fx))] := hD
  subst hAe
  exact z_miret hx hb hr hlocks dX5_squareOf_43 (rfl) hP9 hD9 hS

set_option maxHeartbeats 4000000 in
set_option maxRecDepth 100000 in
theorem c_X5_squareOf_out (l : Launch) (D : va_G) (cI cZ cL : ClassId) (sz : Nat) (m0 : Nat) (m1 : Nat) (m2 : Nat) (m3 : Nat) (m4 : Nat) (m5 : Nat) (gs : Nat → Int32) (gp : Nat → Int32) (gl : Nat → Int32) (gk : Nat → Int32) (fx : Nat → Int32) (kn : Nat) (ln : Nat) (th : Int32) (hs : Int64) (q : Nat) (p1 : Int32) (hq : q < 36) (hout : (decide (0 ≤ p1) && decide (p1 ≤ 7)) = false) : Met l yX5_squareOf wsX5_squareOf ({ frames := 2, cells := 0, slots := 0, locals := 42 }) (va_Pc [.ref m0, .int (nI q), .int p1] (zM D cI cZ cL [(m0, .inr (4, [.ref m1, .ref m2, .int (nI kn), .ref m3, .ref m4, .ref m5, .int (nI ln), .int th, .long hs])), (m1, .inl (cI, 228, .inl gs)), (m2, .inl (cI, 684, .inl gp)), (m3, .inl (cI, 228, .inl gl)), (m4, .inl (cZ, 2, .inl gk)), (m5, .inl (cI, 60, .inl fx))] sz)) (zQmi D 0 [(m0, .inr (4, [.ref m1, .ref m2, .int (nI kn), .ref m3, .ref m4, .ref m5, .int (nI ln), .int th, .long hs])), (m1, .inl (cI, 228, .inl gs)), (m2, .inl (cI, 684, .inl gp)), (m3, .inl (cI, 228, .inl gl)), (m4, .inl (cZ, 2, .inl gk)), (m5, .inl (cI, 60, .inl fx))] [(m0, .inr (4, [.ref m1, .ref m2, .int (nI kn), .ref m3, .ref m4, .ref m5, .int (nI ln), .int (nI 2), .long hs])), (m1, .inl (cI, 228, .inl gs)), (m2, .inl (cI, 684, .inl gp)), (m3, .inl (cI, 228, .inl gl)), (m4, .inl (cZ, 2, .inl gk)), (m5, .inl (cI, 60, .inl fx))] sz) 0 0 (va_A [(m0, .inr (4, [.ref m1, .ref m2, .int (nI kn), .ref m3, .ref m4, .ref m5, .int (nI ln), .int th, .long hs])), (m1, .inl (cI, 228, .inl gs)), (m2, .inl (cI, 684, .inl gp)), (m3, .inl (cI, 228, .inl gl)), (m4, .inl (cZ, 2, .inl gk)), (m5, .inl (cI, 60, .inl fx))] sz) := by
  refine Met.ofW (cc := cX5_squareOf) (maxL := 3) (ret := (some .int)) (by decide) rfl ?_
  intro p e s m args below meth c s₁ B hml hv
  obtain ⟨rfl, hsz, ⟨hP, hK⟩, hD0⟩ := hv
  have hx := B.exec
  have hb := B.bytes
  have hr := B.returns
  have hts := atoms_spec (ws := wsX5_squareOf) B.pre
  have hown : s.vm.findClass RX5 = some m.cls := findClass_of_methodNamed B.named
  have hlocks := B.notSynchronized
  subst hsz
  have hD := hD0.self (sz := s.heap.size)
  generalize hAe : va_A [(m0, .inr (4, [.ref m1, .ref m2, .int (nI kn), .ref m3, .ref m4, .ref m5, .int (nI ln), .int th, .long hs])), (m1, .inl (cI, 228, .inl gs)), (m2, .inl (cI, 684, .inl gp)), (m3, .inl (cI, 228, .inl gl)), (m4, .inl (cZ, 2, .inl gk)), (m5, .inl (cI, 60, .inl fx))] s.heap.size = A at hD ⊢
  have hA : ∀ q : Nat, s.heap.size ≤ q → A q := fun q h => by rw [← hAe]; exact Or.inr h
  have hS : va_S A s.heap s.heap [] := va_S.rf
  have hl := lv_entry ([.ref m0, .int (nI q), .int p1]) (n := 3) (Nat.le_of_ble_eq_true rfl)
  rw [lg_entry_eq]
  generalize (lg_sl ([.ref m0, .int (nI q), .int p1]) ++ List.replicate (3 - (lg_sl ([.ref m0, .int (nI q), .int p1])).length) Slot.unset).toArray = ls at hl ⊢
  have hl : lv_has ls 3 [(0, .ref m0), (1, .int (nI q)), (2, .int p1)] := hl
  refine lv_aload_n hx hb dX5_squareOf_0 rfl (lv_at hl 0 rfl) ?_
  refine lv_iload_n hx hb dX5_squareOf_1 rfl (lv_at hl 1 rfl) ?_
  refine z_ci (va_runS (As := [.int (nI q)]) (rest := [.ref m0]) ⟨hx, hb, hml, hown, hts⟩ (c_X5_isSquare l (v := nI q)) (va_cwS 1 hts gX5_squareOf_X5_isSquare rfl rfl rfl (by decide +kernel) ⟨Nat.le_of_ble_eq_true rfl, Nat.le_of_ble_eq_true rfl⟩) z_preS rfl rfl hl.1 rfl (lv_room (Nat.le_of_ble_eq_true rfl)) dX5_squareOf_2 ⟨Nat.le_of_ble_eq_true rfl, Nat.le_of_ble_eq_true rfl⟩) ?_
  refine z_top (y := 1) (by rw [sq_ok q hq]; rfl) ?_
  refine z_if_ne (tgt := 12) (P := False) hx hb dX5_squareOf_5 (by decide) (by decide) (fun c5 => ?_) (fun c5 => (show False from c5).elim)
  refine lv_iload_n hx hb dX5_squareOf_12 rfl (lv_at hl 2 rfl) ?_
  refine lv_iconst (v := 0) hx hb dX5_squareOf_13 (by decide) ?_
  refine lv_bipush (v := 7) hx hb dX5_squareOf_14 (by decide) ?_
  refine z_ci (va_runS (As := [.int p1, .int 0, .int 7]) (rest := [.ref m0]) ⟨hx, hb, hml, hown, hts⟩ (c_X5_in l (v := p1) (lo := 0) (hg := 7)) (va_cwS 3 hts gX5_squareOf_X5_in rfl rfl rfl (by decide +kernel) ⟨Nat.le_of_ble_eq_true rfl, Nat.le_of_ble_eq_true rfl⟩) z_preS rfl rfl hl.1 rfl (lv_room (Nat.le_of_ble_eq_true rfl)) dX5_squareOf_16 ⟨Nat.le_of_ble_eq_true rfl, Nat.le_of_ble_eq_true rfl⟩) ?_
  refine z_top (y := 0) (by rw [hout]; rfl) ?_
  refine z_if_eq (tgt := 26) (P := True) hx hb dX5_squareOf_19 (by decide) (by decide) (fun c19 => ?_) (fun c19 => (show False from c19 trivial).elim)
  refine lv_iconst (v := 2) hx hb dX5_squareOf_26 (by decide) ?_
  refine z_cmi (wr := []) (ws' := [(m0, .inr (4, [.ref m1, .ref m2, .int (nI kn), .ref m3, .ref m4, .ref m5, .int (nI ln), .int (nI 2), .long hs])), (m1, .inl (cI, 228, .inl gs)), (m2, .inl (cI, 684, .inl gp)), (m3, .inl (cI, 228, .inl gl)), (m4, .inl (cZ, 2, .inl gk)), (m5, .inl (cI, 60, .inl fx))]) (va_runV (As := [.int 2]) (rest := []) ⟨hx, hb, hml, hown, hts⟩ (c_X5_throwsAt l D cI cZ cL _ (m0 := m0) (m1 := m1) (m2 := m2) (m3 := m3) (m4 := m4) (m5 := m5) (gs := gs) (gp := gp) (gl := gl) (gk := gk) (fx := fx) (kn := kn) (ln := ln) (th := th) (hs := hs) (pc0 := 2) (hpc := by omega)) (cwV 1 hts gX5_squareOf_X5_throwsAt rfl rfl rfl (by decide +kernel) ⟨Nat.le_of_ble_eq_true rfl, Nat.le_of_ble_eq_true rfl⟩) (z_preMV hK (hP.sub [0, 1, 2, 3, 4, 5] rfl) (hD.sub [0, 1, 2, 3, 4, 5] (by decide) rfl) 0 4 rfl rfl) rfl rfl hl.1 rfl (lv_room (Nat.le_of_ble_eq_true rfl)) dX5_squareOf_27 ⟨Nat.le_of_ble_eq_true rfl, Nat.le_of_ble_eq_true rfl⟩) hP hD hS hA [0, 1, 2, 3, 4, 5] [] [0, 1, 2, 3, 4, 5] rfl rfl (by decide) (by decide) rfl rfl (by decide) (fun H locs hP hD hS => ?_)
  refine z_top (y := 1) (by decide) ?_
  refine z_if_eq (tgt := 37) (P := False) hx hb dX5_squareOf_30 (by decide) (by decide) (fun c30 => (show False from c30).elim) (fun c30 => ?_)
  refine lv_iconst (v := 0) hx hb dX5_squareOf_33 (by decide) ?_
  refine lv_goto (tgt := 43) hx hb dX5_squareOf_34 (by decide) ?_
  have hP9 : va_P D vwCl [(m0, .inr (4, [.ref m1, .ref m2, .int (nI kn), .ref m3, .ref m4, .ref m5, .int (nI ln), .int (nI 2), .long hs])), (m1, .inl (cI, 228, .inl gs)), (m2, .inl (cI, 684, .inl gp)), (m3, .inl (cI, 228, .inl gl)), (m4, .inl (cZ, 2, .inl gk)), (m5, .inl (cI, 60, .inl fx))] _ := hP
  have hD9 : va_D A [(m0, .inr (4, [.ref m1, .ref m2, .int (nI kn), .ref m3, .ref m4, .ref m5, .int (nI ln), .int (nI 2), .long hs])), (m1, .inl (cI, 228, .inl gs)), (m2, .inl (cI, 684, .inl gp)), (m3, .inl (cI, 228, .inl gl)), (m4, .inl (cZ, 2, .inl gk)), (m5, .inl (cI, 60, .inl fx))] := hD
  subst hAe
  exact z_miret hx hb hr hlocks dX5_squareOf_43 (rfl) hP9 hD9 hS

set_option maxHeartbeats 4000000 in
set_option maxRecDepth 100000 in
theorem c_X5_squareOf_ok (l : Launch) (D : va_G) (cI cZ cL : ClassId) (sz : Nat) (m0 : Nat) (m1 : Nat) (m2 : Nat) (m3 : Nat) (m4 : Nat) (m5 : Nat) (gs : Nat → Int32) (gp : Nat → Int32) (gl : Nat → Int32) (gk : Nat → Int32) (fx : Nat → Int32) (kn : Nat) (ln : Nat) (th : Int32) (hs : Int64) (q : Nat) (wh : Nat) (hz : Nat) (hq : q < 36) (hwh : wh < 8) (hhz : hz < 12) (hH : gs 108 = nI hz) : Met l yX5_squareOf wsX5_squareOf ({ frames := 7, cells := 0, slots := 0, locals := 165 }) (va_Pc [.ref m0, .int (nI q), .int (nI wh)] (zM D cI cZ cL [(m0, .inr (4, [.ref m1, .ref m2, .int (nI kn), .ref m3, .ref m4, .ref m5, .int (nI ln), .int th, .long hs])), (m1, .inl (cI, 228, .inl gs)), (m2, .inl (cI, 684, .inl gp)), (m3, .inl (cI, 228, .inl gl)), (m4, .inl (cZ, 2, .inl gk)), (m5, .inl (cI, 60, .inl fx))] sz)) (zQmi D (pSqM gs hz q wh) [(m0, .inr (4, [.ref m1, .ref m2, .int (nI kn), .ref m3, .ref m4, .ref m5, .int (nI ln), .int th, .long hs])), (m1, .inl (cI, 228, .inl gs)), (m2, .inl (cI, 684, .inl gp)), (m3, .inl (cI, 228, .inl gl)), (m4, .inl (cZ, 2, .inl gk)), (m5, .inl (cI, 60, .inl fx))] [(m0, .inr (4, [.ref m1, .ref m2, .int (nI kn), .ref m3, .ref m4, .ref m5, .int (nI ln), .int (nI 0), .long hs])), (m1, .inl (cI, 228, .inl gs)), (m2, .inl (cI, 684, .inl gp)), (m3, .inl (cI, 228, .inl gl)), (m4, .inl (cZ, 2, .inl gk)), (m5, .inl (cI, 60, .inl fx))] sz) 0 0 (va_A [(m0, .inr (4, [.ref m1, .ref m2, .int (nI kn), .ref m3, .ref m4, .ref m5, .int (nI ln), .int th, .long hs])), (m1, .inl (cI, 228, .inl gs)), (m2, .inl (cI, 684, .inl gp)), (m3, .inl (cI, 228, .inl gl)), (m4, .inl (cZ, 2, .inl gk)), (m5, .inl (cI, 60, .inl fx))] sz) := by
  refine Met.ofW (cc := cX5_squareOf) (maxL := 3) (ret := (some .int)) (by decide) rfl ?_
  intro p e s m args below meth c s₁ B hml hv
  obtain ⟨rfl, hsz, ⟨hP, hK⟩, hD0⟩ := hv
  have hx := B.exec
  have hb := B.bytes
  have hr := B.returns
  have hts := atoms_spec (ws := wsX5_squareOf) B.pre
  have hown : s.vm.findClass RX5 = some m.cls := findClass_of_methodNamed B.named
  have hlocks := B.notSynchronized
  subst hsz
  have hD := hD0.self (sz := s.heap.size)
  generalize hAe : va_A [(m0, .inr (4, [.ref m1, .ref m2, .int (nI kn), .ref m3, .ref m4, .ref m5, .int (nI ln), .int th, .long hs])), (m1, .inl (cI, 228, .inl gs)), (m2, .inl (cI, 684, .inl gp)), (m3, .inl (cI, 228, .inl gl)), (m4, .inl (cZ, 2, .inl gk)), (m5, .inl (cI, 60, .inl fx))] s.heap.size = A at hD ⊢
  have hA : ∀ q : Nat, s.heap.size ≤ q → A q := fun q h => by rw [← hAe]; exact Or.inr h
  have hS : va_S A s.heap s.heap [] := va_S.rf
  have hl := lv_entry ([.ref m0, .int (nI q), .int (nI wh)]) (n := 3) (Nat.le_of_ble_eq_true rfl)
  rw [lg_entry_eq]
  generalize (lg_sl ([.ref m0, .int (nI q), .int (nI wh)]) ++ List.replicate (3 - (lg_sl ([.ref m0, .int (nI q), .int (nI wh)])).length) Slot.unset).toArray = ls at hl ⊢
  have hl : lv_has ls 3 [(0, .ref m0), (1, .int (nI q)), (2, .int (nI wh))] := hl
  refine lv_aload_n hx hb dX5_squareOf_0 rfl (lv_at hl 0 rfl) ?_
  refine lv_iload_n hx hb dX5_squareOf_1 rfl (lv_at hl 1 rfl) ?_
  refine z_ci (va_runS (As := [.int (nI q)]) (rest := [.ref m0]) ⟨hx, hb, hml, hown, hts⟩ (c_X5_isSquare l (v := nI q)) (va_cwS 1 hts gX5_squareOf_X5_isSquare rfl rfl rfl (by decide +kernel) ⟨Nat.le_of_ble_eq_true rfl, Nat.le_of_ble_eq_true rfl⟩) z_preS rfl rfl hl.1 rfl (lv_room (Nat.le_of_ble_eq_true rfl)) dX5_squareOf_2 ⟨Nat.le_of_ble_eq_true rfl, Nat.le_of_ble_eq_true rfl⟩) ?_
  refine z_top (y := 1) (by rw [sq_ok q hq]; rfl) ?_
  refine z_if_ne (tgt := 12) (P := False) hx hb dX5_squareOf_5 (by decide) (by decide) (fun c5 => ?_) (fun c5 => (show False from c5).elim)
  refine lv_iload_n hx hb dX5_squareOf_12 rfl (lv_at hl 2 rfl) ?_
  refine lv_iconst (v := 0) hx hb dX5_squareOf_13 (by decide) ?_
  refine lv_bipush (v := 7) hx hb dX5_squareOf_14 (by decide) ?_
  refine z_ci (va_runS (As := [.int (nI wh), .int 0, .int 7]) (rest := [.ref m0]) ⟨hx, hb, hml, hown, hts⟩ (c_X5_in l (v := nI wh) (lo := 0) (hg := 7)) (va_cwS 3 hts gX5_squareOf_X5_in rfl rfl rfl (by decide +kernel) ⟨Nat.le_of_ble_eq_true rfl, Nat.le_of_ble_eq_true rfl⟩) z_preS rfl rfl hl.1 rfl (lv_room (Nat.le_of_ble_eq_true rfl)) dX5_squareOf_16 ⟨Nat.le_of_ble_eq_true rfl, Nat.le_of_ble_eq_true rfl⟩) ?_
  refine z_top (y := 1) (by rw [show (decide (0 ≤ nI wh) && decide (nI wh ≤ 7)) = true from in_ok 0 7 (by omega) (by omega) (by omega)]; rfl) ?_
  refine z_if_eq (tgt := 26) (P := False) hx hb dX5_squareOf_19 (by decide) (by decide) (fun c19 => (show False from c19).elim) (fun c19 => ?_)
  refine lv_iconst (v := 0) hx hb dX5_squareOf_22 (by decide) ?_
  refine lv_goto (tgt := 27) hx hb dX5_squareOf_23 (by decide) ?_
  refine z_cmi (wr := []) (ws' := [(m0, .inr (4, [.ref m1, .ref m2, .int (nI kn), .ref m3, .ref m4, .ref m5, .int (nI ln), .int (nI 0), .long hs])), (m1, .inl (cI, 228, .inl gs)), (m2, .inl (cI, 684, .inl gp)), (m3, .inl (cI, 228, .inl gl)), (m4, .inl (cZ, 2, .inl gk)), (m5, .inl (cI, 60, .inl fx))]) (va_runV (As := [.int 0]) (rest := []) ⟨hx, hb, hml, hown, hts⟩ (c_X5_throwsAt l D cI cZ cL _ (m0 := m0) (m1 := m1) (m2 := m2) (m3 := m3) (m4 := m4) (m5 := m5) (gs := gs) (gp := gp) (gl := gl) (gk := gk) (fx := fx) (kn := kn) (ln := ln) (th := th) (hs := hs) (pc0 := 0) (hpc := by omega)) (cwV 1 hts gX5_squareOf_X5_throwsAt rfl rfl rfl (by decide +kernel) ⟨Nat.le_of_ble_eq_true rfl, Nat.le_of_ble_eq_true rfl⟩) (z_preMV hK (hP.sub [0, 1, 2, 3, 4, 5] rfl) (hD.sub [0, 1, 2, 3, 4, 5] (by decide) rfl) 0 4 rfl rfl) rfl rfl hl.1 rfl (lv_room (Nat.le_of_ble_eq_true rfl)) dX5_squareOf_27 ⟨Nat.le_of_ble_eq_true rfl, Nat.le_of_ble_eq_true rfl⟩) hP hD hS hA [0, 1, 2, 3, 4, 5] [] [0, 1, 2, 3, 4, 5] rfl rfl (by decide) (by decide) rfl rfl (by decide) (fun H locs hP hD hS => ?_)
  refine z_top (y := 0) (by decide) ?_
  refine z_if_eq (tgt := 37) (P := True) hx hb dX5_squareOf_30 (by decide) (by decide) (fun c30 => ?_) (fun c30 => (show False from c30 trivial).elim)
  refine lv_aload_n hx hb dX5_squareOf_37 rfl (lv_at hl 0 rfl) ?_
  refine lv_iload_n hx hb dX5_squareOf_38 rfl (lv_at hl 1 rfl) ?_
  refine lv_iload_n hx hb dX5_squareOf_39 rfl (lv_at hl 2 rfl) ?_
  refine z_ci (va_runV (As := [.int (nI q), .int (nI wh)]) (rest := []) ⟨hx, hb, hml, hown, hts⟩ (c_X5_ofSquare l D cI cZ cL (m0 := m0) (m1 := m1) (m2 := m2) (m3 := m3) (m4 := m4) (m5 := m5) (gs := gs) (gp := gp) (gl := gl) (gk := gk) (fx := fx) (kn := kn) (ln := ln) (th := nI 0) (hs := hs) (q := q) (wh := wh) (hz := hz) (hq := by omega) (hwh := by omega) (hhz := by omega) (hH := hH)) (cwV 2 hts gX5_squareOf_X5_ofSquare rfl rfl rfl (by decide +kernel) ⟨Nat.le_of_ble_eq_true rfl, Nat.le_of_ble_eq_true rfl⟩) (z_preV hK (hP.sub [0, 1, 2, 3, 4, 5] rfl) 0 4 rfl rfl) rfl rfl hl.1 rfl (lv_room (Nat.le_of_ble_eq_true rfl)) dX5_squareOf_40 ⟨Nat.le_of_ble_eq_true rfl, Nat.le_of_ble_eq_true rfl⟩) ?_
  have hP9 : va_P D vwCl [(m0, .inr (4, [.ref m1, .ref m2, .int (nI kn), .ref m3, .ref m4, .ref m5, .int (nI ln), .int (nI 0), .long hs])), (m1, .inl (cI, 228, .inl gs)), (m2, .inl (cI, 684, .inl gp)), (m3, .inl (cI, 228, .inl gl)), (m4, .inl (cZ, 2, .inl gk)), (m5, .inl (cI, 60, .inl fx))] _ := hP
  have hD9 : va_D A [(m0, .inr (4, [.ref m1, .ref m2, .int (nI kn), .ref m3, .ref m4, .ref m5, .int (nI ln), .int (nI 0), .long hs])), (m1, .inl (cI, 228, .inl gs)), (m2, .inl (cI, 684, .inl gp)), (m3, .inl (cI, 228, .inl gl)), (m4, .inl (cZ, 2, .inl gk)), (m5, .inl (cI, 60, .inl fx))] := hD
  subst hAe
  exact z_miret hx hb hr hlocks dX5_squareOf_43 (rfl) hP9 hD9 hS

set_option maxHeartbeats 4000000 in
set_option maxRecDepth 100000 in
theorem c_X5_playerOf_bad (l : Launch) (D : va_G) (cI cZ cL : ClassId) (sz : Nat) (m0 : Nat) (m1 : Nat) (m2 : Nat) (m3 : Nat) (m4 : Nat) (m5 : Nat) (gs : Nat → Int32) (gp : Nat → Int32) (gl : Nat → Int32) (gk : Nat → Int32) (fx : Nat → Int32) (kn : Nat) (ln : Nat) (th : Int32) (hs : Int64) (p0 : Int32) (p1 : Int32) (hbad : (decide (0 ≤ p0) && decide (p0 ≤ 1)) = false) : Met l yX5_playerOf wsX5_playerOf ({ frames := 1, cells := 0, slots := 0, locals := 22 }) (va_Pc [.ref m0, .int p0, .int p1] (zM D cI cZ cL [(m0, .inr (4, [.ref m1, .ref m2, .int (nI kn), .ref m3, .ref m4, .ref m5, .int (nI ln), .int th, .long hs])), (m1, .inl (cI, 228, .inl gs)), (m2, .inl (cI, 684, .inl gp)), (m3, .inl (cI, 228, .inl gl)), (m4, .inl (cZ, 2, .inl gk)), (m5, .inl (cI, 60, .inl fx))] sz)) (zQmi D 0 [(m0, .inr (4, [.ref m1, .ref m2, .int (nI kn), .ref m3, .ref m4, .ref m5, .int (nI ln), .int th, .long hs])), (m1, .inl (cI, 228, .inl gs)), (m2, .inl (cI, 684, .inl gp)), (m3, .inl (cI, 228, .inl gl)), (m4, .inl (cZ, 2, .inl gk)), (m5, .inl (cI, 60, .inl fx))] [(m0, .inr (4, [.ref m1, .ref m2, .int (nI kn), .ref m3, .ref m4, .ref m5, .int (nI ln), .int (nI 1), .long hs])), (m1, .inl (cI, 228, .inl gs)), (m2, .inl (cI, 684, .inl gp)), (m3, .inl (cI, 228, .inl gl)), (m4, .inl (cZ, 2, .inl gk)), (m5, .inl (cI, 60, .inl fx))] sz) 0 0 (va_A [(m0, .inr (4, [.ref m1, .ref m2, .int (nI kn), .ref m3, .ref m4, .ref m5, .int (nI ln), .int th, .long hs])), (m1, .inl (cI, 228, .inl gs)), (m2, .inl (cI, 684, .inl gp)), (m3, .inl (cI, 228, .inl gl)), (m4, .inl (cZ, 2, .inl gk)), (m5, .inl (cI, 60, .inl fx))] sz) := by
  refine Met.ofW (cc := cX5_playerOf) (maxL := 3) (ret := (some .int)) (by decide) rfl ?_
  intro p e s m args below meth c s₁ B hml hv
  obtain ⟨rfl, hsz, ⟨hP, hK⟩, hD0⟩ := hv
  have hx := B.exec
  have hb := B.bytes
  have hr := B.returns
  have hts := atoms_spec (ws := wsX5_playerOf) B.pre
  have hown : s.vm.findClass RX5 = some m.cls := findClass_of_methodNamed B.named
  have hlocks := B.notSynchronized
  subst hsz
  have hD := hD0.self (sz := s.heap.size)
  generalize hAe : va_A [(m0, .inr (4, [.ref m1, .ref m2, .int (nI kn), .ref m3, .ref m4, .ref m5, .int (nI ln), .int th, .long hs])), (m1, .inl (cI, 228, .inl gs)), (m2, .inl (cI, 684, .inl gp)), (m3, .inl (cI, 228, .inl gl)), (m4, .inl (cZ, 2, .inl gk)), (m5, .inl (cI, 60, .inl fx))] s.heap.size = A at hD ⊢
  have hA : ∀ q : Nat, s.heap.size ≤ q → A q := fun q h => by rw [← hAe]; exact Or.inr h
  have hS : va_S A s.heap s.heap [] := va_S.rf
  have hl := lv_entry ([.ref m0, .int p0, .int p1]) (n := 3) (Nat.le_of_ble_eq_true rfl)
  rw [lg_entry_eq]
  generalize (lg_sl ([.ref m0, .int p0, .int p1]) ++ List.replicate (3 - (lg_sl ([.ref m0, .int p0, .int p1])).length) Slot.unset).toArray = ls at hl ⊢
  have hl : lv_has ls 3 [(0, .ref m0), (1, .int p0), (2, .int p1)] := hl
  refine lv_aload_n hx hb dX5_playerOf_0 rfl (lv_at hl 0 rfl) ?_
  refine lv_iload_n hx hb dX5_playerOf_1 rfl (lv_at hl 1 rfl) ?_
  refine lv_iconst (v := 0) hx hb dX5_playerOf_2 (by decide) ?_
  refine lv_iconst (v := 1) hx hb dX5_playerOf_3 (by decide) ?_
  refine z_ci (va_runS (As := [.int p0, .int 0, .int 1]) (rest := [.ref m0]) ⟨hx, hb, hml, hown, hts⟩ (c_X5_in l (v := p0) (lo := 0) (hg := 1)) (va_cwS 3 hts gX5_playerOf_X5_in rfl rfl rfl (by decide +kernel) ⟨Nat.le_of_ble_eq_true rfl, Nat.le_of_ble_eq_true rfl⟩) z_preS rfl rfl hl.1 rfl (lv_room (Nat.le_of_ble_eq_true rfl)) dX5_playerOf_4 ⟨Nat.le_of_ble_eq_true rfl, Nat.le_of_ble_eq_true rfl⟩) ?_
  refine z_top (y := 0) (by rw [hbad]; rfl) ?_
  refine z_if_ne (tgt := 14) (P := True) hx hb dX5_playerOf_7 (by decide) (by decide) (fun c7 => (show False from c7 trivial).elim) (fun c7 => ?_)
  refine lv_iconst (v := 1) hx hb dX5_playerOf_10 (by decide) ?_
  refine lv_goto (tgt := 28) hx hb dX5_playerOf_11 (by decide) ?_
  refine z_cmi (wr := []) (ws' := [(m0, .inr (4, [.ref m1, .ref m2, .int (nI kn), .ref m3, .ref m4, .ref m5, .int (nI ln), .int (nI 1), .long hs])), (m1, .inl (cI, 228, .inl gs)), (m2, .inl (cI, 684, .inl gp)), (m3, .inl (cI, 228, .inl gl)), (m4, .inl (cZ, 2, .inl gk)), (m5, .inl (cI, 60, .inl fx))]) (va_runV (As := [.int 1]) (rest := []) ⟨hx, hb, hml, hown, hts⟩ (c_X5_throwsAt l D cI cZ cL _ (m0 := m0) (m1 := m1) (m2 := m2) (m3 := m3) (m4 := m4) (m5 := m5) (gs := gs) (gp := gp) (gl := gl) (gk := gk) (fx := fx) (kn := kn) (ln := ln) (th := th) (hs := hs) (pc0 := 1) (hpc := by omega)) (cwV 1 hts gX5_playerOf_X5_throwsAt rfl rfl rfl (by decide +kernel) ⟨Nat.le_of_ble_eq_true rfl, Nat.le_of_ble_eq_true rfl⟩) (z_preMV hK (hP.sub [0, 1, 2, 3, 4, 5] rfl) (hD.sub [0, 1, 2, 3, 4, 5] (by decide) rfl) 0 4 rfl rfl) rfl rfl hl.1 rfl (lv_room (Nat.le_of_ble_eq_true rfl)) dX5_playerOf_28 ⟨Nat.le_of_ble_eq_true rfl, Nat.le_of_ble_eq_true rfl⟩) hP hD hS hA [0, 1, 2, 3, 4, 5] [] [0, 1, 2, 3, 4, 5] rfl rfl (by decide) (by decide) rfl rfl (by decide) (fun H locs hP hD hS => ?_)
  refine z_top (y := 1) (by decide) ?_
  refine z_if_eq (tgt := 38) (P := False) hx hb dX5_playerOf_31 (by decide) (by decide) (fun c31 => (show False from c31).elim) (fun c31 => ?_)
  refine lv_iconst (v := 0) hx hb dX5_playerOf_34 (by decide) ?_
  refine lv_goto (tgt := 44) hx hb dX5_playerOf_35 (by decide) ?_
  have hP9 : va_P D vwCl [(m0, .inr (4, [.ref m1, .ref m2, .int (nI kn), .ref m3, .ref m4, .ref m5, .int (nI ln), .int (nI 1), .long hs])), (m1, .inl (cI, 228, .inl gs)), (m2, .inl (cI, 684, .inl gp)), (m3, .inl (cI, 228, .inl gl)), (m4, .inl (cZ, 2, .inl gk)), (m5, .inl (cI, 60, .inl fx))] _ := hP
  have hD9 : va_D A [(m0, .inr (4, [.ref m1, .ref m2, .int (nI kn), .ref m3, .ref m4, .ref m5, .int (nI ln), .int (nI 1), .long hs])), (m1, .inl (cI, 228, .inl gs)), (m2, .inl (cI, 684, .inl gp)), (m3, .inl (cI, 228, .inl gl)), (m4, .inl (cZ, 2, .inl gk)), (m5, .inl (cI, 60, .inl fx))] := hD
  subst hAe
  exact z_miret hx hb hr hlocks dX5_playerOf_44 (rfl) hP9 hD9 hS

set_option maxHeartbeats 4000000 in
set_option maxRecDepth 100000 in
theorem c_X5_playerOf_out (l : Launch) (D : va_G) (cI cZ cL : ClassId) (sz : Nat) (m0 : Nat) (m1 : Nat) (m2 : Nat) (m3 : Nat) (m4 : Nat) (m5 : Nat) (gs : Nat → Int32) (gp : Nat → Int32) (gl : Nat → Int32) (gk : Nat → Int32) (fx : Nat → Int32) (kn : Nat) (ln : Nat) (th : Int32) (hs : Int64) (pl : Nat) (p1 : Int32) (hpl : pl < 2) (hout : (decide (0 ≤ p1) && decide (p1 ≤ 5)) = false) : Met l yX5_playerOf wsX5_playerOf ({ frames := 1, cells := 0, slots := 0, locals := 22 }) (va_Pc [.ref m0, .int (nI pl), .int p1] (zM D cI cZ cL [(m0, .inr (4, [.ref m1, .ref m2, .int (nI kn), .ref m3, .ref m4, .ref m5, .int (nI ln), .int th, .long hs])), (m1, .inl (cI, 228, .inl gs)), (m2, .inl (cI, 684, .inl gp)), (m3, .inl (cI, 228, .inl gl)), (m4, .inl (cZ, 2, .inl gk)), (m5, .inl (cI, 60, .inl fx))] sz)) (zQmi D 0 [(m0, .inr (4, [.ref m1, .ref m2, .int (nI kn), .ref m3, .ref m4, .ref m5, .int (nI ln), .int th, .long hs])), (m1, .inl (cI, 228, .inl gs)), (m2, .inl (cI, 684, .inl gp)), (m3, .inl (cI, 228, .inl gl)), (m4, .inl (cZ, 2, .inl gk)), (m5, .inl (cI, 60, .inl fx))] [(m0, .inr (4, [.ref m1, .ref m2, .int (nI kn), .ref m3, .ref m4, .ref m5, .int (nI ln), .int (nI 2), .long hs])), (m1, .inl (cI, 228, .inl gs)), (m2, .inl (cI, 684, .inl gp)), (m3, .inl (cI, 228, .inl gl)), (m4, .inl (cZ, 2, .inl gk)), (m5, .inl (cI, 60, .inl fx))] sz) 0 0 (va_A [(m0, .inr (4, [.ref m1, .ref m2, .int (nI kn), .ref m3, .ref m4, .ref m5, .int (nI ln), .int th, .long hs])), (m1, .inl (cI, 228, .inl gs)), (m2, .inl (cI, 684, .inl gp)), (m3, .inl (cI, 228, .inl gl)), (m4, .inl (cZ, 2, .inl gk)), (m5, .inl (cI, 60, .inl fx))] sz) := by
  refine Met.ofW (cc := cX5_playerOf) (maxL := 3) (ret := (some .int)) (by decide) rfl ?_
  intro p e s m args below meth c s₁ B hml hv
  obtain ⟨rfl, hsz, ⟨hP, hK⟩, hD0⟩ := hv
  have hx := B.exec
  have hb := B.bytes
  have hr := B.returns
  have hts := atoms_spec (ws := wsX5_playerOf) B.pre
  have hown : s.vm.findClass RX5 = some m.cls := findClass_of_methodNamed B.named
  have hlocks := B.notSynchronized
  subst hsz
  have hD := hD0.self (sz := s.heap.size)
  generalize hAe : va_A [(m0, .inr (4, [.ref m1, .ref m2, .int (nI kn), .ref m3, .ref m4, .ref m5, .int (nI ln), .int th, .long hs])), (m1, .inl (cI, 228, .inl gs)), (m2, .inl (cI, 684, .inl gp)), (m3, .inl (cI, 228, .inl gl)), (m4, .inl (cZ, 2, .inl gk)), (m5, .inl (cI, 60, .inl fx))] s.heap.size = A at hD ⊢
  have hA : ∀ q : Nat, s.heap.size ≤ q → A q := fun q h => by rw [← hAe]; exact Or.inr h
  have hS : va_S A s.heap s.heap [] := va_S.rf
  have hl := lv_entry ([.ref m0, .int (nI pl), .int p1]) (n := 3) (Nat.le_of_ble_eq_true rfl)
  rw [lg_entry_eq]
  generalize (lg_sl ([.ref m0, .int (nI pl), .int p1]) ++ List.replicate (3 - (lg_sl ([.ref m0, .int (nI pl), .int p1])).length) Slot.unset).toArray = ls at hl ⊢
  have hl : lv_has ls 3 [(0, .ref m0), (1, .int (nI pl)), (2, .int p1)] := hl
  refine lv_aload_n hx hb dX5_playerOf_0 rfl (lv_at hl 0 rfl) ?_
  refine lv_iload_n hx hb dX5_playerOf_1 rfl (lv_at hl 1 rfl) ?_
  refine lv_iconst (v := 0) hx hb dX5_playerOf_2 (by decide) ?_
  refine lv_iconst (v := 1) hx hb dX5_playerOf_3 (by decide) ?_
  refine z_ci (va_runS (As := [.int (nI pl), .int 0, .int 1]) (rest := [.ref m0]) ⟨hx, hb, hml, hown, hts⟩ (c_X5_in l (v := nI pl) (lo := 0) (hg := 1)) (va_cwS 3 hts gX5_playerOf_X5_in rfl rfl rfl (by decide +kernel) ⟨Nat.le_of_ble_eq_true rfl, Nat.le_of_ble_eq_true rfl⟩) z_preS rfl rfl hl.1 rfl (lv_room (Nat.le_of_ble_eq_true rfl)) dX5_playerOf_4 ⟨Nat.le_of_ble_eq_true rfl, Nat.le_of_ble_eq_true rfl⟩) ?_
  refine z_top (y := 1) (by rw [show (decide (0 ≤ nI pl) && decide (nI pl ≤ 1)) = true from in_ok 0 1 (by omega) (by omega) (by omega)]; rfl) ?_
  refine z_if_ne (tgt := 14) (P := False) hx hb dX5_playerOf_7 (by decide) (by decide) (fun c7 => ?_) (fun c7 => (show False from c7).elim)
  refine lv_iload_n hx hb dX5_playerOf_14 rfl (lv_at hl 2 rfl) ?_
  refine lv_iconst (v := 0) hx hb dX5_playerOf_15 (by decide) ?_
  refine lv_iconst (v := 5) hx hb dX5_playerOf_16 (by decide) ?_
  refine z_ci (va_runS (As := [.int p1, .int 0, .int 5]) (rest := [.ref m0]) ⟨hx, hb, hml, hown, hts⟩ (c_X5_in l (v := p1) (lo := 0) (hg := 5)) (va_cwS 3 hts gX5_playerOf_X5_in rfl rfl rfl (by decide +kernel) ⟨Nat.le_of_ble_eq_true rfl, Nat.le_of_ble_eq_true rfl⟩) z_preS rfl rfl hl.1 rfl (lv_room (Nat.le_of_ble_eq_true rfl)) dX5_playerOf_17 ⟨Nat.le_of_ble_eq_true rfl, Nat.le_of_ble_eq_true rfl⟩) ?_
  refine z_top (y := 0) (by rw [hout]; rfl) ?_
  refine z_if_eq (tgt := 27) (P := True) hx hb dX5_playerOf_20 (by decide) (by decide) (fun c20 => ?_) (fun c20 => (show False from c20 trivial).elim)
  refine lv_iconst (v := 2) hx hb dX5_playerOf_27 (by decide) ?_
  refine z_cmi (wr := []) (ws' := [(m0, .inr (4, [.ref m1, .ref m2, .int (nI kn), .ref m3, .ref m4, .ref m5, .int (nI ln), .int (nI 2), .long hs])), (m1, .inl (cI, 228, .inl gs)), (m2, .inl (cI, 684, .inl gp)), (m3, .inl (cI, 228, .inl gl)), (m4, .inl (cZ, 2, .inl gk)), (m5, .inl (cI, 60, .inl fx))]) (va_runV (As := [.int 2]) (rest := []) ⟨hx, hb, hml, hown, hts⟩ (c_X5_throwsAt l D cI cZ cL _ (m0 := m0) (m1 := m1) (m2 := m2) (m3 := m3) (m4 := m4) (m5 := m5) (gs := gs) (gp := gp) (gl := gl) (gk := gk) (fx := fx) (kn := kn) (ln := ln) (th := th) (hs := hs) (pc0 := 2) (hpc := by omega)) (cwV 1 hts gX5_playerOf_X5_throwsAt rfl rfl rfl (by decide +kernel) ⟨Nat.le_of_ble_eq_true rfl, Nat.le_of_ble_eq_true rfl⟩) (z_preMV hK (hP.sub [0, 1, 2, 3, 4, 5] rfl) (hD.sub [0, 1, 2, 3, 4, 5] (by decide) rfl) 0 4 rfl rfl) rfl rfl hl.1 rfl (lv_room (Nat.le_of_ble_eq_true rfl)) dX5_playerOf_28 ⟨Nat.le_of_ble_eq_true rfl, Nat.le_of_ble_eq_true rfl⟩) hP hD hS hA [0, 1, 2, 3, 4, 5] [] [0, 1, 2, 3, 4, 5] rfl rfl (by decide) (by decide) rfl rfl (by decide) (fun H locs hP hD hS => ?_)
  refine z_top (y := 1) (by decide) ?_
  refine z_if_eq (tgt := 38) (P := False) hx hb dX5_playerOf_31 (by decide) (by decide) (fun c31 => (show False from c31).elim) (fun c31 => ?_)
  refine lv_iconst (v := 0) hx hb dX5_playerOf_34 (by decide) ?_
  refine lv_goto (tgt := 44) hx hb dX5_playerOf_35 (by decide) ?_
  have hP9 : va_P D vwCl [(m0, .inr (4, [.ref m1, .ref m2, .int (nI kn), .ref m3, .ref m4, .ref m5, .int (nI ln), .int (nI 2), .long hs])), (m1, .inl (cI, 228, .inl gs)), (m2, .inl (cI, 684, .inl gp)), (m3, .inl (cI, 228, .inl gl)), (m4, .inl (cZ, 2, .inl gk)), (m5, .inl (cI, 60, .inl fx))] _ := hP
  have hD9 : va_D A [(m0, .inr (4, [.ref m1, .ref m2, .int (nI kn), .ref m3, .ref m4, .ref m5, .int (nI ln), .int (nI 2), .long hs])), (m1, .inl (cI, 228, .inl gs)), (m2, .inl (cI, 684, .inl gp)), (m3, .inl (cI, 228, .inl gl)), (m4, .inl (cZ, 2, .inl gk)), (m5, .inl (cI, 60, .inl fx))] := hD
  subst hAe
  exact z_miret hx hb hr hlocks dX5_playerOf_44 (rfl) hP9 hD9 hS

set_option maxHeartbeats 4000000 in
set_option maxRecDepth 100000 in
theorem c_X5_playerOf_ok (l : Launch) (D : va_G) (cI cZ cL : ClassId) (sz : Nat) (m0 : Nat) (m1 : Nat) (m2 : Nat) (m3 : Nat) (m4 : Nat) (m5 : Nat) (gs : Nat → Int32) (gp : Nat → Int32) (gl : Nat → Int32) (gk : Nat → Int32) (fx : Nat → Int32) (kn : Nat) (ln : Nat) (th : Int32) (hs : Int64) (pl : Nat) (wh : Nat) (hz : Nat) (hpl : pl < 2) (hwh : wh < 6) (hhz : hz < 12) (hH : gs 108 = nI hz) : Met l yX5_playerOf wsX5_playerOf ({ frames := 7, cells := 0, slots := 0, locals := 168 }) (va_Pc [.ref m0, .int (nI pl), .int (nI wh)] (zM D cI cZ cL [(m0, .inr (4, [.ref m1, .ref m2, .int (nI kn), .ref m3, .ref m4, .ref m5, .int (nI ln), .int th, .long hs])), (m1, .inl (cI, 228, .inl gs)), (m2, .inl (cI, 684, .inl gp)), (m3, .inl (cI, 228, .inl gl)), (m4, .inl (cZ, 2, .inl gk)), (m5, .inl (cI, 60, .inl fx))] sz)) (zQmi D (pPlM gs hz pl wh) [(m0, .inr (4, [.ref m1, .ref m2, .int (nI kn), .ref m3, .ref m4, .ref m5, .int (nI ln), .int th, .long hs])), (m1, .inl (cI, 228, .inl gs)), (m2, .inl (cI, 684, .inl gp)), (m3, .inl (cI, 228, .inl gl)), (m4, .inl (cZ, 2, .inl gk)), (m5, .inl (cI, 60, .inl fx))] [(m0, .inr (4, [.ref m1, .ref m2, .int (nI kn), .ref m3, .ref m4, .ref m5, .int (nI ln), .int (nI 0), .long hs])), (m1, .inl (cI, 228, .inl gs)), (m2, .inl (cI, 684, .inl gp)), (m3, .inl (cI, 228, .inl gl)), (m4, .inl (cZ, 2, .inl gk)), (m5, .inl (cI, 60, .inl fx))] sz) 0 0 (va_A [(m0, .inr (4, [.ref m1, .ref m2, .int (nI kn), .ref m3, .ref m4, .ref m5, .int (nI ln), .int th, .long hs])), (m1, .inl (cI, 228, .inl gs)), (m2, .inl (cI, 684, .inl gp)), (m3, .inl (cI, 228, .inl gl)), (m4, .inl (cZ, 2, .inl gk)), (m5, .inl (cI, 60, .inl fx))] sz) := by
  refine Met.ofW (cc := cX5_playerOf) (maxL := 3) (ret := (some .int)) (by decide) rfl ?_
  intro p e s m args below meth c s₁ B hml hv
  obtain ⟨rfl, hsz, ⟨hP, hK⟩, hD0⟩ := hv
  have hx := B.exec
  have hb := B.bytes
  have hr := B.returns
  have hts := atoms_spec (ws := wsX5_playerOf) B.pre
  have hown : s.vm.findClass RX5 = some m.cls := findClass_of_methodNamed B.named
  have hlocks := B.notSynchronized
  subst hsz
  have hD := hD0.self (sz := s.heap.size)
  generalize hAe : va_A [(m0, .inr (4, [.ref m1, .ref m2, .int (nI kn), .ref m3, .ref m4, .ref m5, .int (nI ln), .int th, .long hs])), (m1, .inl (cI, 228, .inl gs)), (m2, .inl (cI, 684, .inl gp)), (m3, .inl (cI, 228, .inl gl)), (m4, .inl (cZ, 2, .inl gk)), (m5, .inl (cI, 60, .inl fx))] s.heap.size = A at hD ⊢
  have hA : ∀ q : Nat, s.heap.size ≤ q → A q := fun q h => by rw [← hAe]; exact Or.inr h
  have hS : va_S A s.heap s.heap [] := va_S.rf
  have hl := lv_entry ([.ref m0, .int (nI pl), .int (nI wh)]) (n := 3) (Nat.le_of_ble_eq_true rfl)
  rw [lg_entry_eq]
  generalize (lg_sl ([.ref m0, .int (nI pl), .int (nI wh)]) ++ List.replicate (3 - (lg_sl ([.ref m0, .int (nI pl), .int (nI wh)])).length) Slot.unset).toArray = ls at hl ⊢
  have hl : lv_has ls 3 [(0, .ref m0), (1, .int (nI pl)), (2, .int (nI wh))] := hl
  refine lv_aload_n hx hb dX5_playerOf_0 rfl (lv_at hl 0 rfl) ?_
  refine lv_iload_n hx hb dX5_playerOf_1 rfl (lv_at hl 1 rfl) ?_
  refine lv_iconst (v := 0) hx hb dX5_playerOf_2 (by decide) ?_
  refine lv_iconst (v := 1) hx hb dX5_playerOf_3 (by decide) ?_
  refine z_ci (va_runS (As := [.int (nI pl), .int 0, .int 1]) (rest := [.ref m0]) ⟨hx, hb, hml, hown, hts⟩ (c_X5_in l (v := nI pl) (lo := 0) (hg := 1)) (va_cwS 3 hts gX5_playerOf_X5_in rfl rfl rfl (by decide +kernel) ⟨Nat.le_of_ble_eq_true rfl, Nat.le_of_ble_eq_true rfl⟩) z_preS rfl rfl hl.1 rfl (lv_room (Nat.le_of_ble_eq_true rfl)) dX5_playerOf_4 ⟨Nat.le_of_ble_eq_true rfl, Nat.le_of_ble_eq_true rfl⟩) ?_
  refine z_top (y := 1) (by rw [show (decide (0 ≤ nI pl) && decide (nI pl ≤ 1)) = true from in_ok 0 1 (by omega) (by omega) (by omega)]; rfl) ?_
  refine z_if_ne (tgt := 14) (P := False) hx hb dX5_playerOf_7 (by decide) (by decide) (fun c7 => ?_) (fun c7 => (show False from c7).elim)
  refine lv_iload_n hx hb dX5_playerOf_14 rfl (lv_at hl 2 rfl) ?_
  refine lv_iconst (v := 0) hx hb dX5_playerOf_15 (by decide) ?_
  refine lv_iconst (v := 5) hx hb dX5_playerOf_16 (by decide) ?_
  refine z_ci (va_runS (As := [.int (nI wh), .int 0, .int 5]) (rest := [.ref m0]) ⟨hx, hb, hml, hown, hts⟩ (c_X5_in l (v := nI wh) (lo := 0) (hg := 5)) (va_cwS 3 hts gX5_playerOf_X5_in rfl rfl rfl (by decide +kernel) ⟨Nat.le_of_ble_eq_true rfl, Nat.le_of_ble_eq_true rfl⟩) z_preS rfl rfl hl.1 rfl (lv_room (Nat.le_of_ble_eq_true rfl)) dX5_playerOf_17 ⟨Nat.le_of_ble_eq_true rfl, Nat.le_of_ble_eq_true rfl⟩) ?_
  refine z_top (y := 1) (by rw [show (decide (0 ≤ nI wh) && decide (nI wh ≤ 5)) = true from in_ok 0 5 (by omega) (by omega) (by omega)]; rfl) ?_
  refine z_if_eq (tgt := 27) (P := False) hx hb dX5_playerOf_20 (by decide) (by decide) (fun c20 => (show False from c20).elim) (fun c20 => ?_)
  refine lv_iconst (v := 0) hx hb dX5_playerOf_23 (by decide) ?_
  refine lv_goto (tgt := 28) hx hb dX5_playerOf_24 (by decide) ?_
  refine z_cmi (wr := []) (ws' := [(m0, .inr (4, [.ref m1, .ref m2, .int (nI kn), .ref m3, .ref m4, .ref m5, .int (nI ln), .int (nI 0), .long hs])), (m1, .inl (cI, 228, .inl gs)), (m2, .inl (cI, 684, .inl gp)), (m3, .inl (cI, 228, .inl gl)), (m4, .inl (cZ, 2, .inl gk)), (m5, .inl (cI, 60, .inl fx))]) (va_runV (As := [.int 0]) (rest := []) ⟨hx, hb, hml, hown, hts⟩ (c_X5_throwsAt l D cI cZ cL _ (m0 := m0) (m1 := m1) (m2 := m2) (m3 := m3) (m4 := m4) (m5 := m5) (gs := gs) (gp := gp) (gl := gl) (gk := gk) (fx := fx) (kn := kn) (ln := ln) (th := th) (hs := hs) (pc0 := 0) (hpc := by omega)) (cwV 1 hts gX5_playerOf_X5_throwsAt rfl rfl rfl (by decide +kernel) ⟨Nat.le_of_ble_eq_true rfl, Nat.le_of_ble_eq_true rfl⟩) (z_preMV hK (hP.sub [0, 1, 2, 3, 4, 5] rfl) (hD.sub [0, 1, 2, 3, 4, 5] (by decide) rfl) 0 4 rfl rfl) rfl rfl hl.1 rfl (lv_room (Nat.le_of_ble_eq_true rfl)) dX5_playerOf_28 ⟨Nat.le_of_ble_eq_true rfl, Nat.le_of_ble_eq_true rfl⟩) hP hD hS hA [0, 1, 2, 3, 4, 5] [] [0, 1, 2, 3, 4, 5] rfl rfl (by decide) (by decide) rfl rfl (by decide) (fun H locs hP hD hS => ?_)
  refine z_top (y := 0) (by decide) ?_
  refine z_if_eq (tgt := 38) (P := True) hx hb dX5_playerOf_31 (by decide) (by decide) (fun c31 => ?_) (fun c31 => (show False from c31 trivial).elim)
  refine lv_aload_n hx hb dX5_playerOf_38 rfl (lv_at hl 0 rfl) ?_
  refine lv_iload_n hx hb dX5_playerOf_39 rfl (lv_at hl 1 rfl) ?_
  refine lv_iload_n hx hb dX5_playerOf_40 rfl (lv_at hl 2 rfl) ?_
  refine z_ci (va_runV (As := [.int (nI pl), .int (nI wh)]) (rest := []) ⟨hx, hb, hml, hown, hts⟩ (c_X5_ofPlayer l D cI cZ cL (m0 := m0) (m1 := m1) (m2 := m2) (m3 := m3) (m4 := m4) (m5 := m5) (gs := gs) (gp := gp) (gl := gl) (gk := gk) (fx := fx) (kn := kn) (ln := ln) (th := nI 0) (hs := hs) (pl := pl) (wh := wh) (hz := hz) (hpl := by omega) (hwh := by omega) (hhz := by omega) (hH := hH)) (cwV 2 hts gX5_playerOf_X5_ofPlayer rfl rfl rfl (by decide +kernel) ⟨Nat.le_of_ble_eq_true rfl, Nat.le_of_ble_eq_true rfl⟩) (z_preV hK (hP.sub [0, 1, 2, 3, 4, 5] rfl) 0 4 rfl rfl) rfl rfl hl.1 rfl (lv_room (Nat.le_of_ble_eq_true rfl)) dX5_playerOf_41 ⟨Nat.le_of_ble_eq_true rfl, Nat.le_of_ble_eq_true rfl⟩) ?_
  have hP9 : va_P D vwCl [(m0, .inr (4, [.ref m1, .ref m2, .int (nI kn), .ref m3, .ref m4, .ref m5, .int (nI ln), .int (nI 0), .long hs])), (m1, .inl (cI, 228, .inl gs)), (m2, .inl (cI, 684, .inl gp)), (m3, .inl (cI, 228, .inl gl)), (m4, .inl (cZ, 2, .inl gk)), (m5, .inl (cI, 60, .inl fx))] _ := hP
  have hD9 : va_D A [(m0, .inr (4, [.ref m1, .ref m2, .int (nI kn), .ref m3, .ref m4, .ref m5, .int (nI ln), .int (nI 0), .long hs])), (m1, .inl (cI, 228, .inl gs)), (m2, .inl (cI, 684, .inl gp)), (m3, .inl (cI, 228, .inl gl)), (m4, .inl (cZ, 2, .inl gk)), (m5, .inl (cI, 60, .inl fx))] := hD
  subst hAe
  exact z_miret hx hb hr hlocks dX5_playerOf_44 (rfl) hP9 hD9 hS

set_option maxHeartbeats 4000000 in
set_option maxRecDepth 100000 in
theorem c_X5_count_out (l : Launch) (D : va_G) (cI cZ cL : ClassId) (sz : Nat) (m0 : Nat) (m1 : Nat) (m2 : Nat) (m3 : Nat) (m4 : Nat) (m5 : Nat) (gs : Nat → Int32) (gp : Nat → Int32) (gl : Nat → Int32) (gk : Nat → Int32) (fx : Nat → Int32) (kn : Nat) (ln : Nat) (th : Int32) (hs : Int64) (p0 : Int32) (hout : (decide (0 ≤ p0) && decide (p0 ≤ 9)) = false) : Met l yX5_count wsX5_count ({ frames := 1, cells := 0, slots := 0, locals := 22 }) (va_Pc [.ref m0, .int p0] (zM D cI cZ cL [(m0, .inr (4, [.ref m1, .ref m2, .int (nI kn), .ref m3, .ref m4, .ref m5, .int (nI ln), .int th, .long hs])), (m1, .inl (cI, 228, .inl gs)), (m2, .inl (cI, 684, .inl gp)), (m3, .inl (cI, 228, .inl gl)), (m4, .inl (cZ, 2, .inl gk)), (m5, .inl (cI, 60, .inl fx))] sz)) (zQmi D 0 [(m0, .inr (4, [.ref m1, .ref m2, .int (nI kn), .ref m3, .ref m4, .ref m5, .int (nI ln), .int th, .long hs])), (m1, .inl (cI, 228, .inl gs)), (m2, .inl (cI, 684, .inl gp)), (m3, .inl (cI, 228, .inl gl)), (m4, .inl (cZ, 2, .inl gk)), (m5, .inl (cI, 60, .inl fx))] [(m0, .inr (4, [.ref m1, .ref m2, .int (nI kn), .ref m3, .ref m4, .ref m5, .int (nI ln), .int (nI 1), .long hs])), (m1, .inl (cI, 228, .inl gs)), (m2, .inl (cI, 684, .inl gp)), (m3, .inl (cI, 228, .inl gl)), (m4, .inl (cZ, 2, .inl gk)), (m5, .inl (cI, 60, .inl fx))] sz) 0 0 (va_A [(m0, .inr (4, [.ref m1, .ref m2, .int (nI kn), .ref m3, .ref m4, .ref m5, .int (nI ln), .int th, .long hs])), (m1, .inl (cI, 228, .inl gs)), (m2, .inl (cI, 684, .inl gp)), (m3, .inl (cI, 228, .inl gl)), (m4, .inl (cZ, 2, .inl gk)), (m5, .inl (cI, 60, .inl fx))] sz) := by
  refine Met.ofW (cc := cX5_count) (maxL := 2) (ret := (some .int)) (by decide) rfl ?_
  intro p e s m args below meth c s₁ B hml hv
  obtain ⟨rfl, hsz, ⟨hP, hK⟩, hD0⟩ := hv
  have hx := B.exec
  have hb := B.bytes
  have hr := B.returns
  have hts := atoms_spec (ws := wsX5_count) B.pre
  have hown : s.vm.findClass RX5 = some m.cls := findClass_of_methodNamed B.named
  have hlocks := B.notSynchronized
  subst hsz
  have hD := hD0.self (sz := s.heap.size)
  generalize hAe : va_A [(m0, .inr (4, [.ref m1, .ref m2, .int (nI kn), .ref m3, .ref m4, .ref m5, .int (nI ln), .int th, .long hs])), (m1, .inl (cI, 228, .inl gs)), (m2, .inl (cI, 684, .inl gp)), (m3, .inl (cI, 228, .inl gl)), (m4, .inl (cZ, 2, .inl gk)), (m5, .inl (cI, 60, .inl fx))] s.heap.size = A at hD ⊢
  have hA : ∀ q : Nat, s.heap.size ≤ q → A q := fun q h => by rw [← hAe]; exact Or.inr h
  have hS : va_S A s.heap s.heap [] := va_S.rf
  have hl := lv_entry ([.ref m0, .int p0]) (n := 2) (Nat.le_of_ble_eq_true rfl)
  rw [lg_entry_eq]
  generalize (lg_sl ([.ref m0, .int p0]) ++ List.replicate (2 - (lg_sl ([.ref m0, .int p0])).length) Slot.unset).toArray = ls at hl ⊢
  have hl : lv_has ls 2 [(0, .ref m0), (1, .int p0)] := hl
  refine lv_aload_n hx hb dX5_count_0 rfl (lv_at hl 0 rfl) ?_
  refine lv_iload_n hx hb dX5_count_1 rfl (lv_at hl 1 rfl) ?_
  refine lv_iconst (v := 0) hx hb dX5_count_2 (by decide) ?_
  refine lv_bipush (v := 9) hx hb dX5_count_3 (by decide) ?_
  refine z_ci (va_runS (As := [.int p0, .int 0, .int 9]) (rest := [.ref m0]) ⟨hx, hb, hml, hown, hts⟩ (c_X5_in l (v := p0) (lo := 0) (hg := 9)) (va_cwS 3 hts gX5_count_X5_in rfl rfl rfl (by decide +kernel) ⟨Nat.le_of_ble_eq_true rfl, Nat.le_of_ble_eq_true rfl⟩) z_preS rfl rfl hl.1 rfl (lv_room (Nat.le_of_ble_eq_true rfl)) dX5_count_5 ⟨Nat.le_of_ble_eq_true rfl, Nat.le_of_ble_eq_true rfl⟩) ?_
  refine z_top (y := 0) (by rw [hout]; rfl) ?_
  refine z_if_eq (tgt := 15) (P := True) hx hb dX5_count_8 (by decide) (by decide) (fun c8 => ?_) (fun c8 => (show False from c8 trivial).elim)
  refine lv_iconst (v := 1) hx hb dX5_count_15 (by decide) ?_
  refine z_cmi (wr := []) (ws' := [(m0, .inr (4, [.ref m1, .ref m2, .int (nI kn), .ref m3, .ref m4, .ref m5, .int (nI ln), .int (nI 1), .long hs])), (m1, .inl (cI, 228, .inl gs)), (m2, .inl (cI, 684, .inl gp)), (m3, .inl (cI, 228, .inl gl)), (m4, .inl (cZ, 2, .inl gk)), (m5, .inl (cI, 60, .inl fx))]) (va_runV (As := [.int 1]) (rest := []) ⟨hx, hb, hml, hown, hts⟩ (c_X5_throwsAt l D cI cZ cL _ (m0 := m0) (m1 := m1) (m2 := m2) (m3 := m3) (m4 := m4) (m5 := m5) (gs := gs) (gp := gp) (gl := gl) (gk := gk) (fx := fx) (kn := kn) (ln := ln) (th := th) (hs := hs) (pc0 := 1) (hpc := by omega)) (cwV 1 hts gX5_count_X5_throwsAt rfl rfl rfl (by decide +kernel) ⟨Nat.le_of_ble_eq_true rfl, Nat.le_of_ble_eq_true rfl⟩) (z_preMV hK (hP.sub [0, 1, 2, 3, 4, 5] rfl) (hD.sub [0, 1, 2, 3, 4, 5] (by decide) rfl) 0 4 rfl rfl) rfl rfl hl.1 rfl (lv_room (Nat.le_of_ble_eq_true rfl)) dX5_count_16 ⟨Nat.le_of_ble_eq_true rfl, Nat.le_of_ble_eq_true rfl⟩) hP hD hS hA [0, 1, 2, 3, 4, 5] [] [0, 1, 2, 3, 4, 5] rfl rfl (by decide) (by decide) rfl rfl (by decide) (fun H locs hP hD hS => ?_)
  refine z_top (y := 1) (by decide) ?_
  refine z_if_eq (tgt := 26) (P := False) hx hb dX5_count_19 (by decide) (by decide) (fun c19 => (show False from c19).elim) (fun c19 => ?_)
  refine lv_iconst (v := 0) hx hb dX5_count_22 (by decide) ?_
  refine lv_goto (tgt := 31) hx hb dX5_count_23 (by decide) ?_
  have hP9 : va_P D vwCl [(m0, .inr (4, [.ref m1, .ref m2, .int (nI kn), .ref m3, .ref m4, .ref m5, .int (nI ln), .int (nI 1), .long hs])), (m1, .inl (cI, 228, .inl gs)), (m2, .inl (cI, 684, .inl gp)), (m3, .inl (cI, 228, .inl gl)), (m4, .inl (cZ, 2, .inl gk)), (m5, .inl (cI, 60, .inl fx))] _ := hP
  have hD9 : va_D A [(m0, .inr (4, [.ref m1, .ref m2, .int (nI kn), .ref m3, .ref m4, .ref m5, .int (nI ln), .int (nI 1), .long hs])), (m1, .inl (cI, 228, .inl gs)), (m2, .inl (cI, 684, .inl gp)), (m3, .inl (cI, 228, .inl gl)), (m4, .inl (cZ, 2, .inl gk)), (m5, .inl (cI, 60, .inl fx))] := hD
  subst hAe
  exact z_miret hx hb hr hlocks dX5_count_31 (rfl) hP9 hD9 hS

set_option maxHeartbeats 4000000 in
set_option maxRecDepth 100000 in
theorem c_X5_count_ok (l : Launch) (D : va_G) (cI cZ cL : ClassId) (sz : Nat) (m0 : Nat) (m1 : Nat) (m2 : Nat) (m3 : Nat) (m4 : Nat) (m5 : Nat) (gs : Nat → Int32) (gp : Nat → Int32) (gl : Nat → Int32) (gk : Nat → Int32) (fx : Nat → Int32) (kn : Nat) (ln : Nat) (th : Int32) (hs : Int64) (wh : Nat) (hz : Nat) (hwh : wh < 10) (hhz : hz < 12) (hH : gs 108 = nI hz) : Met l yX5_count wsX5_count ({ frames := 7, cells := 0, slots := 0, locals := 164 }) (va_Pc [.ref m0, .int (nI wh)] (zM D cI cZ cL [(m0, .inr (4, [.ref m1, .ref m2, .int (nI kn), .ref m3, .ref m4, .ref m5, .int (nI ln), .int th, .long hs])), (m1, .inl (cI, 228, .inl gs)), (m2, .inl (cI, 684, .inl gp)), (m3, .inl (cI, 228, .inl gl)), (m4, .inl (cZ, 2, .inl gk)), (m5, .inl (cI, 60, .inl fx))] sz)) (zQmi D (pCoM gs kn hz wh) [(m0, .inr (4, [.ref m1, .ref m2, .int (nI kn), .ref m3, .ref m4, .ref m5, .int (nI ln), .int th, .long hs])), (m1, .inl (cI, 228, .inl gs)), (m2, .inl (cI, 684, .inl gp)), (m3, .inl (cI, 228, .inl gl)), (m4, .inl (cZ, 2, .inl gk)), (m5, .inl (cI, 60, .inl fx))] [(m0, .inr (4, [.ref m1, .ref m2, .int (nI kn), .ref m3, .ref m4, .ref m5, .int (nI ln), .int (nI 0), .long hs])), (m1, .inl (cI, 228, .inl gs)), (m2, .inl (cI, 684, .inl gp)), (m3, .inl (cI, 228, .inl gl)), (m4, .inl (cZ, 2, .inl gk)), (m5, .inl (cI, 60, .inl fx))] sz) 0 0 (va_A [(m0, .inr (4, [.ref m1, .ref m2, .int (nI kn), .ref m3, .ref m4, .ref m5, .int (nI ln), .int th, .long hs])), (m1, .inl (cI, 228, .inl gs)), (m2, .inl (cI, 684, .inl gp)), (m3, .inl (cI, 228, .inl gl)), (m4, .inl (cZ, 2, .inl gk)), (m5, .inl (cI, 60, .inl fx))] sz) := by
  refine Met.ofW (cc := cX5_count) (maxL := 2) (ret := (some .int)) (by decide) rfl ?_
  intro p e s m args below meth c s₁ B hml hv
  obtain ⟨rfl, hsz, ⟨hP, hK⟩, hD0⟩ := hv
  have hx := B.exec
  have hb := B.bytes
  have hr := B.returns
  have hts := atoms_spec (ws := wsX5_count) B.pre
  have hown : s.vm.findClass RX5 = some m.cls := findClass_of_methodNamed B.named
  have hlocks := B.notSynchronized
  subst hsz
  have hD := hD0.self (sz := s.heap.size)
  generalize hAe : va_A [(m0, .inr (4, [.ref m1, .ref m2, .int (nI kn), .ref m3, .ref m4, .ref m5, .int (nI ln), .int th, .long hs])), (m1, .inl (cI, 228, .inl gs)), (m2, .inl (cI, 684, .inl gp)), (m3, .inl (cI, 228, .inl gl)), (m4, .inl (cZ, 2, .inl gk)), (m5, .inl (cI, 60, .inl fx))] s.heap.size = A at hD ⊢
  have hA : ∀ q : Nat, s.heap.size ≤ q → A q := fun q h => by rw [← hAe]; exact Or.inr h
  have hS : va_S A s.heap s.heap [] := va_S.rf
  have hl := lv_entry ([.ref m0, .int (nI wh)]) (n := 2) (Nat.le_of_ble_eq_true rfl)
  rw [lg_entry_eq]
  generalize (lg_sl ([.ref m0, .int (nI wh)]) ++ List.replicate (2 - (lg_sl ([.ref m0, .int (nI wh)])).length) Slot.unset).toArray = ls at hl ⊢
  have hl : lv_has ls 2 [(0, .ref m0), (1, .int (nI wh))] := hl
  refine lv_aload_n hx hb dX5_count_0 rfl (lv_at hl 0 rfl) ?_
  refine lv_iload_n hx hb dX5_count_1 rfl (lv_at hl 1 rfl) ?_
  refine lv_iconst (v := 0) hx hb dX5_count_2 (by decide) ?_
  refine lv_bipush (v := 9) hx hb dX5_count_3 (by decide) ?_
  refine z_ci (va_runS (As := [.int (nI wh), .int 0, .int 9]) (rest := [.ref m0]) ⟨hx, hb, hml, hown, hts⟩ (c_X5_in l (v := nI wh) (lo := 0) (hg := 9)) (va_cwS 3 hts gX5_count_X5_in rfl rfl rfl (by decide +kernel) ⟨Nat.le_of_ble_eq_true rfl, Nat.le_of_ble_eq_true rfl⟩) z_preS rfl rfl hl.1 rfl (lv_room (Nat.le_of_ble_eq_true rfl)) dX5_count_5 ⟨Nat.le_of_ble_eq_true rfl, Nat.le_of_ble_eq_true rfl⟩) ?_
  refine z_top (y := 1) (by rw [show (decide (0 ≤ nI wh) && decide (nI wh ≤ 9)) = true from in_ok 0 9 (by omega) (by omega) (by omega)]; rfl) ?_
  refine z_if_eq (tgt := 15) (P := False) hx hb dX5_count_8 (by decide) (by decide) (fun c8 => (show False from c8).elim) (fun c8 => ?_)
  refine lv_iconst (v := 0) hx hb dX5_count_11 (by decide) ?_
  refine lv_goto (tgt := 16) hx hb dX5_count_12 (by decide) ?_
  refine z_cmi (wr := []) (ws' := [(m0, .inr (4, [.ref m1, .ref m2, .int (nI kn), .ref m3, .ref m4, .ref m5, .int (nI ln), .int (nI 0), .long hs])), (m1, .inl (cI, 228, .inl gs)), (m2, .inl (cI, 684, .inl gp)), (m3, .inl (cI, 228, .inl gl)), (m4, .inl (cZ, 2, .inl gk)), (m5, .inl (cI, 60, .inl fx))]) (va_runV (As := [.int 0]) (rest := []) ⟨hx, hb, hml, hown, hts⟩ (c_X5_throwsAt l D cI cZ cL _ (m0 := m0) (m1 := m1) (m2 := m2) (m3 := m3) (m4 := m4) (m5 := m5) (gs := gs) (gp := gp) (gl := gl) (gk := gk) (fx := fx) (kn := kn) (ln := ln) (th := th) (hs := hs) (pc0 := 0) (hpc := by omega)) (cwV 1 hts gX5_count_X5_throwsAt rfl rfl rfl (by decide +kernel) ⟨Nat.le_of_ble_eq_true rfl, Nat.le_of_ble_eq_true rfl⟩) (z_preMV hK (hP.sub [0, 1, 2, 3, 4, 5] rfl) (hD.sub [0, 1, 2, 3, 4, 5] (by decide) rfl) 0 4 rfl rfl) rfl rfl hl.1 rfl (lv_room (Nat.le_of_ble_eq_true rfl)) dX5_count_16 ⟨Nat.le_of_ble_eq_true rfl, Nat.le_of_ble_eq_true rfl⟩) hP hD hS hA [0, 1, 2, 3, 4, 5] [] [0, 1, 2, 3, 4, 5] rfl rfl (by decide) (by decide) rfl rfl (by decide) (fun H locs hP hD hS => ?_)
  refine z_top (y := 0) (by decide) ?_
  refine z_if_eq (tgt := 26) (P := True) hx hb dX5_count_19 (by decide) (by decide) (fun c19 => ?_) (fun c19 => (show False from c19 trivial).elim)
  refine lv_aload_n hx hb dX5_count_26 rfl (lv_at hl 0 rfl) ?_
  refine lv_iload_n hx hb dX5_count_27 rfl (lv_at hl 1 rfl) ?_
  refine z_ci (va_runV (As := [.int (nI wh)]) (rest := []) ⟨hx, hb, hml, hown, hts⟩ (c_X5_counted l D cI cZ cL (m0 := m0) (m1 := m1) (m2 := m2) (m3 := m3) (m4 := m4) (m5 := m5) (gs := gs) (gp := gp) (gl := gl) (gk := gk) (fx := fx) (kn := kn) (ln := ln) (th := nI 0) (hs := hs) (wh := wh) (hz := hz) (hwh := by omega) (hhz := by omega) (hH := hH)) (cwV 1 hts gX5_count_X5_counted rfl rfl rfl (by decide +kernel) ⟨Nat.le_of_ble_eq_true rfl, Nat.le_of_ble_eq_true rfl⟩) (z_preV hK (hP.sub [0, 1, 2, 3, 4, 5] rfl) 0 4 rfl rfl) rfl rfl hl.1 rfl (lv_room (Nat.le_of_ble_eq_true rfl)) dX5_count_28 ⟨Nat.le_of_ble_eq_true rfl, Nat.le_of_ble_eq_true rfl⟩) ?_
  have hP9 : va_P D vwCl [(m0, .inr (4, [.ref m1, .ref m2, .int (nI kn), .ref m3, .ref m4, .ref m5, .int (nI ln), .int (nI 0), .long hs])), (m1, .inl (cI, 228, .inl gs)), (m2, .inl (cI, 684, .inl gp)), (m3, .inl (cI, 228, .inl gl)), (m4, .inl (cZ, 2, .inl gk)), (m5, .inl (cI, 60, .inl fx))] _ := hP
  have hD9 : va_D A [(m0, .inr (4, [.ref m1, .ref m2, .int (nI kn), .ref m3, .ref m4, .ref m5, .int (nI ln), .int (nI 0), .long hs])), (m1, .inl (cI, 228, .inl gs)), (m2, .inl (cI, 684, .inl gp)), (m3, .inl (cI, 228, .inl gl)), (m4, .inl (cZ, 2, .inl gk)), (m5, .inl (cI, 60, .inl fx))] := hD
  subst hAe
  exact z_miret hx hb hr hlocks dX5_count_31 (rfl) hP9 hD9 hS

set_option maxHeartbeats 4000000 in
set_option maxRecDepth 100000 in
theorem c_X5_whyNot_bad (l : Launch) (D : va_G) (cI cZ cL : ClassId) (sz : Nat) (m0 : Nat) (m1 : Nat) (m2 : Nat) (m3 : Nat) (m4 : Nat) (m5 : Nat) (gs : Nat → Int32) (gp : Nat → Int32) (gl : Nat → Int32) (gk : Nat → Int32) (fx : Nat → Int32) (kn : Nat) (ln : Nat) (th : Int32) (hs : Int64) (p0 : Int32) (hbad : (decide (0 ≤ p0) && decide (p0 ≤ 35)) = false) : Met l yX5_whyNot wsX5_whyNot ({ frames := 2, cells := 0, slots := 0, locals := 42 }) (va_Pc [.ref m0, .int p0] (zM D cI cZ cL [(m0, .inr (4, [.ref m1, .ref m2, .int (nI kn), .ref m3, .ref m4, .ref m5, .int (nI ln), .int th, .long hs])), (m1, .inl (cI, 228, .inl gs)), (m2, .inl (cI, 684, .inl gp)), (m3, .inl (cI, 228, .inl gl)), (m4, .inl (cZ, 2, .inl gk)), (m5, .inl (cI, 60, .inl fx))] sz)) (zQmi D 0 [(m0, .inr (4, [.ref m1, .ref m2, .int (nI kn), .ref m3, .ref m4, .ref m5, .int (nI ln), .int th, .long hs])), (m1, .inl (cI, 228, .inl gs)), (m2, .inl (cI, 684, .inl gp)), (m3, .inl (cI, 228, .inl gl)), (m4, .inl (cZ, 2, .inl gk)), (m5, .inl (cI, 60, .inl fx))] [(m0, .inr (4, [.ref m1, .ref m2, .int (nI kn), .ref m3, .ref m4, .ref m5, .int (nI ln), .int (nI 1), .long hs])), (m1, .inl (cI, 228, .inl gs)), (m2, .inl (cI, 684, .inl gp)), (m3, .inl (cI, 228, .inl gl)), (m4, .inl (cZ, 2, .inl gk)), (m5, .inl (cI, 60, .inl fx))] sz) 0 0 (va_A [(m0, .inr (4, [.ref m1, .ref m2, .int (nI kn), .ref m3, .ref m4, .ref m5, .int (nI ln), .int th, .long hs])), (m1, .inl (cI, 228, .inl gs)), (m2, .inl (cI, 684, .inl gp)), (m3, .inl (cI, 228, .inl gl)), (m4, .inl (cZ, 2, .inl gk)), (m5, .inl (cI, 60, .inl fx))] sz) := by
  refine Met.ofW (cc := cX5_whyNot) (maxL := 2) (ret := (some .int)) (by decide) rfl ?_
  intro p e s m args below meth c s₁ B hml hv
  obtain ⟨rfl, hsz, ⟨hP, hK⟩, hD0⟩ := hv
  have hx := B.exec
  have hb := B.bytes
  have hr := B.returns
  have hts := atoms_spec (ws := wsX5_whyNot) B.pre
  have hown : s.vm.findClass RX5 = some m.cls := findClass_of_methodNamed B.named
  have hlocks := B.notSynchronized
  subst hsz
  have hD := hD0.self (sz := s.heap.size)
  generalize hAe : va_A [(m0, .inr (4, [.ref m1, .ref m2, .int (nI kn), .ref m3, .ref m4, .ref m5, .int (nI ln), .int th, .long hs])), (m1, .inl (cI, 228, .inl gs)), (m2, .inl (cI, 684, .inl gp)), (m3, .inl (cI, 228, .inl gl)), (m4, .inl (cZ, 2, .inl gk)), (m5, .inl (cI, 60, .inl fx))] s.heap.size = A at hD ⊢
  have hA : ∀ q : Nat, s.heap.size ≤ q → A q := fun q h => by rw [← hAe]; exact Or.inr h
  have hS : va_S A s.heap s.heap [] := va_S.rf
  have hl := lv_entry ([.ref m0, .int p0]) (n := 2) (Nat.le_of_ble_eq_true rfl)
  rw [lg_entry_eq]
  generalize (lg_sl ([.ref m0, .int p0]) ++ List.replicate (2 - (lg_sl ([.ref m0, .int p0])).length) Slot.unset).toArray = ls at hl ⊢
  have hl : lv_has ls 2 [(0, .ref m0), (1, .int p0)] := hl
  refine lv_aload_n hx hb dX5_whyNot_0 rfl (lv_at hl 0 rfl) ?_
  refine lv_iload_n hx hb dX5_whyNot_1 rfl (lv_at hl 1 rfl) ?_
  refine z_ci (va_runS (As := [.int p0]) (rest := [.ref m0]) ⟨hx, hb, hml, hown, hts⟩ (c_X5_isSquare l (v := p0)) (va_cwS 1 hts gX5_whyNot_X5_isSquare rfl rfl rfl (by decide +kernel) ⟨Nat.le_of_ble_eq_true rfl, Nat.le_of_ble_eq_true rfl⟩) z_preS rfl rfl hl.1 rfl (lv_room (Nat.le_of_ble_eq_true rfl)) dX5_whyNot_2 ⟨Nat.le_of_ble_eq_true rfl, Nat.le_of_ble_eq_true rfl⟩) ?_
  refine z_top (y := 0) (by rw [hbad]; rfl) ?_
  refine z_if_eq (tgt := 12) (P := True) hx hb dX5_whyNot_5 (by decide) (by decide) (fun c5 => ?_) (fun c5 => (show False from c5 trivial).elim)
  refine lv_iconst (v := 1) hx hb dX5_whyNot_12 (by decide) ?_
  refine z_cmi (wr := []) (ws' := [(m0, .inr (4, [.ref m1, .ref m2, .int (nI kn), .ref m3, .ref m4, .ref m5, .int (nI ln), .int (nI 1), .long hs])), (m1, .inl (cI, 228, .inl gs)), (m2, .inl (cI, 684, .inl gp)), (m3, .inl (cI, 228, .inl gl)), (m4, .inl (cZ, 2, .inl gk)), (m5, .inl (cI, 60, .inl fx))]) (va_runV (As := [.int 1]) (rest := []) ⟨hx, hb, hml, hown, hts⟩ (c_X5_throwsAt l D cI cZ cL _ (m0 := m0) (m1 := m1) (m2 := m2) (m3 := m3) (m4 := m4) (m5 := m5) (gs := gs) (gp := gp) (gl := gl) (gk := gk) (fx := fx) (kn := kn) (ln := ln) (th := th) (hs := hs) (pc0 := 1) (hpc := by omega)) (cwV 1 hts gX5_whyNot_X5_throwsAt rfl rfl rfl (by decide +kernel) ⟨Nat.le_of_ble_eq_true rfl, Nat.le_of_ble_eq_true rfl⟩) (z_preMV hK (hP.sub [0, 1, 2, 3, 4, 5] rfl) (hD.sub [0, 1, 2, 3, 4, 5] (by decide) rfl) 0 4 rfl rfl) rfl rfl hl.1 rfl (lv_room (Nat.le_of_ble_eq_true rfl)) dX5_whyNot_13 ⟨Nat.le_of_ble_eq_true rfl, Nat.le_of_ble_eq_true rfl⟩) hP hD hS hA [0, 1, 2, 3, 4, 5] [] [0, 1, 2, 3, 4, 5] rfl rfl (by decide) (by decide) rfl rfl (by decide) (fun H locs hP hD hS => ?_)
  refine z_top (y := 1) (by decide) ?_
  refine z_if_eq (tgt := 23) (P := False) hx hb dX5_whyNot_16 (by decide) (by decide) (fun c16 => (show False from c16).elim) (fun c16 => ?_)
  refine lv_iconst (v := 0) hx hb dX5_whyNot_19 (by decide) ?_
  refine lv_goto (tgt := 28) hx hb dX5_whyNot_20 (by decide) ?_
  have hP9 : va_P D vwCl [(m0, .inr (4, [.ref m1, .ref m2, .int (nI kn), .ref m3, .ref m4, .ref m5, .int (nI ln), .int (nI 1), .long hs])), (m1, .inl (cI, 228, .inl gs)), (m2, .inl (cI, 684, .inl gp)), (m3, .inl (cI, 228, .inl gl)), (m4, .inl (cZ, 2, .inl gk)), (m5, .inl (cI, 60, .inl fx))] _ := hP
  have hD9 : va_D A [(m0, .inr (4, [.ref m1, .ref m2, .int (nI kn), .ref m3, .ref m4, .ref m5, .int (nI ln), .int (nI 1), .long hs])), (m1, .inl (cI, 228, .inl gs)), (m2, .inl (cI, 684, .inl gp)), (m3, .inl (cI, 228, .inl gl)), (m4, .inl (cZ, 2, .inl gk)), (m5, .inl (cI, 60, .inl fx))] := hD
  subst hAe
  exact z_miret hx hb hr hlocks dX5_whyNot_28 (rfl) hP9 hD9 hS

set_option maxHeartbeats 4000000 in
set_option maxRecDepth 100000 in
theorem c_X5_whyNot_ok (l : Launch) (D : va_G) (cI cZ cL : ClassId) (sz : Nat) (m0 : Nat) (m1 : Nat) (m2 : Nat) (m3 : Nat) (m4 : Nat) (m5 : Nat) (gs : Nat → Int32) (gp : Nat → Int32) (gl : Nat → Int32) (gk : Nat → Int32) (fx : Nat → Int32) (kn : Nat) (ln : Nat) (th : Int32) (hs : Int64) (q : Nat) (hz : Nat) (mv : Nat) (hq : q < 36) (hhz : hz < 12) (hmv : mv < 2) (hH : gs 108 = nI hz) (hM : gs 109 = nI mv) : Met l yX5_whyNot wsX5_whyNot ({ frames := 6, cells := 0, slots := 0, locals := 142 }) (va_Pc [.ref m0, .int (nI q)] (zM D cI cZ cL [(m0, .inr (4, [.ref m1, .ref m2, .int (nI kn), .ref m3, .ref m4, .ref m5, .int (nI ln), .int th, .long hs])), (m1, .inl (cI, 228, .inl gs)), (m2, .inl (cI, 684, .inl gp)), (m3, .inl (cI, 228, .inl gl)), (m4, .inl (cZ, 2, .inl gk)), (m5, .inl (cI, 60, .inl fx))] sz)) (zQmi D (nI (pRM gs hz mv q)) [(m0, .inr (4, [.ref m1, .ref m2, .int (nI kn), .ref m3, .ref m4, .ref m5, .int (nI ln), .int th, .long hs])), (m1, .inl (cI, 228, .inl gs)), (m2, .inl (cI, 684, .inl gp)), (m3, .inl (cI, 228, .inl gl)), (m4, .inl (cZ, 2, .inl gk)), (m5, .inl (cI, 60, .inl fx))] [(m0, .inr (4, [.ref m1, .ref m2, .int (nI kn), .ref m3, .ref m4, .ref m5, .int (nI ln), .int (nI 0), .long hs])), (m1, .inl (cI, 228, .inl gs)), (m2, .inl (cI, 684, .inl gp)), (m3, .inl (cI, 228, .inl gl)), (m4, .inl (cZ, 2, .inl gk)), (m5, .inl (cI, 60, .inl fx))] sz) 0 0 (va_A [(m0, .inr (4, [.ref m1, .ref m2, .int (nI kn), .ref m3, .ref m4, .ref m5, .int (nI ln), .int th, .long hs])), (m1, .inl (cI, 228, .inl gs)), (m2, .inl (cI, 684, .inl gp)), (m3, .inl (cI, 228, .inl gl)), (m4, .inl (cZ, 2, .inl gk)), (m5, .inl (cI, 60, .inl fx))] sz) := by
  refine Met.ofW (cc := cX5_whyNot) (maxL := 2) (ret := (some .int)) (by decide) rfl ?_
  intro p e s m args below meth c s₁ B hml hv
  obtain ⟨rfl, hsz, ⟨hP, hK⟩, hD0⟩ := hv
  have hx := B.exec
  have hb := B.bytes
  have hr := B.returns
  have hts := atoms_spec (ws := wsX5_whyNot) B.pre
  have hown : s.vm.findClass RX5 = some m.cls := findClass_of_methodNamed B.named
  have hlocks := B.notSynchronized
  subst hsz
  have hD := hD0.self (sz := s.heap.size)
  generalize hAe : va_A [(m0, .inr (4, [.ref m1, .ref m2, .int (nI kn), .ref m3, .ref m4, .ref m5, .int (nI ln), .int th, .long hs])), (m1, .inl (cI, 228, .inl gs)), (m2, .inl (cI, 684, .inl gp)), (m3, .inl (cI, 228, .inl gl)), (m4, .inl (cZ, 2, .inl gk)), (m5, .inl (cI, 60, .inl fx))] s.heap.size = A at hD ⊢
  have hA : ∀ q : Nat, s.heap.size ≤ q → A q := fun q h => by rw [← hAe]; exact Or.inr h
  have hS : va_S A s.heap s.heap [] := va_S.rf
  have hl := lv_entry ([.ref m0, .int (nI q)]) (n := 2) (Nat.le_of_ble_eq_true rfl)
  rw [lg_entry_eq]
  generalize (lg_sl ([.ref m0, .int (nI q)]) ++ List.replicate (2 - (lg_sl ([.ref m0, .int (nI q)])).length) Slot.unset).toArray = ls at hl ⊢
  have hl : lv_has ls 2 [(0, .ref m0), (1, .int (nI q))] := hl
  refine lv_aload_n hx hb dX5_whyNot_0 rfl (lv_at hl 0 rfl) ?_
  refine lv_iload_n hx hb dX5_whyNot_1 rfl (lv_at hl 1 rfl) ?_
  refine z_ci (va_runS (As := [.int (nI q)]) (rest := [.ref m0]) ⟨hx, hb, hml, hown, hts⟩ (c_X5_isSquare l (v := nI q)) (va_cwS 1 hts gX5_whyNot_X5_isSquare rfl rfl rfl (by decide +kernel) ⟨Nat.le_of_ble_eq_true rfl, Nat.le_of_ble_eq_true rfl⟩) z_preS rfl rfl hl.1 rfl (lv_room (Nat.le_of_ble_eq_true rfl)) dX5_whyNot_2 ⟨Nat.le_of_ble_eq_true rfl, Nat.le_of_ble_eq_true rfl⟩) ?_
  refine z_top (y := 1) (by rw [sq_ok q hq]; rfl) ?_
  refine z_if_eq (tgt := 12) (P := False) hx hb dX5_whyNot_5 (by decide) (by decide) (fun c5 => (show False from c5).elim) (fun c5 => ?_)
  refine lv_iconst (v := 0) hx hb dX5_whyNot_8 (by decide) ?_
  refine lv_goto (tgt := 13) hx hb dX5_whyNot_9 (by decide) ?_
  refine z_cmi (wr := []) (ws' := [(m0, .inr (4, [.ref m1, .ref m2, .int (nI kn), .ref m3, .ref m4, .ref m5, .int (nI ln), .int (nI 0), .long hs])), (m1, .inl (cI, 228, .inl gs)), (m2, .inl (cI, 684, .inl gp)), (m3, .inl (cI, 228, .inl gl)), (m4, .inl (cZ, 2, .inl gk)), (m5, .inl (cI, 60, .inl fx))]) (va_runV (As := [.int 0]) (rest := []) ⟨hx, hb, hml, hown, hts⟩ (c_X5_throwsAt l D cI cZ cL _ (m0 := m0) (m1 := m1) (m2 := m2) (m3 := m3) (m4 := m4) (m5 := m5) (gs := gs) (gp := gp) (gl := gl) (gk := gk) (fx := fx) (kn := kn) (ln := ln) (th := th) (hs := hs) (pc0 := 0) (hpc := by omega)) (cwV 1 hts gX5_whyNot_X5_throwsAt rfl rfl rfl (by decide +kernel) ⟨Nat.le_of_ble_eq_true rfl, Nat.le_of_ble_eq_true rfl⟩) (z_preMV hK (hP.sub [0, 1, 2, 3, 4, 5] rfl) (hD.sub [0, 1, 2, 3, 4, 5] (by decide) rfl) 0 4 rfl rfl) rfl rfl hl.1 rfl (lv_room (Nat.le_of_ble_eq_true rfl)) dX5_whyNot_13 ⟨Nat.le_of_ble_eq_true rfl, Nat.le_of_ble_eq_true rfl⟩) hP hD hS hA [0, 1, 2, 3, 4, 5] [] [0, 1, 2, 3, 4, 5] rfl rfl (by decide) (by decide) rfl rfl (by decide) (fun H locs hP hD hS => ?_)
  refine z_top (y := 0) (by decide) ?_
  refine z_if_eq (tgt := 23) (P := True) hx hb dX5_whyNot_16 (by decide) (by decide) (fun c16 => ?_) (fun c16 => (show False from c16 trivial).elim)
  refine lv_aload_n hx hb dX5_whyNot_23 rfl (lv_at hl 0 rfl) ?_
  refine lv_iload_n hx hb dX5_whyNot_24 rfl (lv_at hl 1 rfl) ?_
  refine z_ci (va_runV (As := [.int (nI q)]) (rest := []) ⟨hx, hb, hml, hown, hts⟩ (c_X5_reason l D cI cZ cL (m0 := m0) (m1 := m1) (m2 := m2) (m3 := m3) (m4 := m4) (m5 := m5) (gs := gs) (gp := gp) (gl := gl) (gk := gk) (fx := fx) (kn := kn) (ln := ln) (th := nI 0) (hs := hs) (q := q) (hz := hz) (mv := mv) (hq := by omega) (hhz := by omega) (hmv := by omega) (hH := hH) (hM := hM)) (cwV 1 hts gX5_whyNot_X5_reason rfl rfl rfl (by decide +kernel) ⟨Nat.le_of_ble_eq_true rfl, Nat.le_of_ble_eq_true rfl⟩) (z_preV hK (hP.sub [0, 1, 2, 3, 4, 5] rfl) 0 4 rfl rfl) rfl rfl hl.1 rfl (lv_room (Nat.le_of_ble_eq_true rfl)) dX5_whyNot_25 ⟨Nat.le_of_ble_eq_true rfl, Nat.le_of_ble_eq_true rfl⟩) ?_
  have hP9 : va_P D vwCl [(m0, .inr (4, [.ref m1, .ref m2, .int (nI kn), .ref m3, .ref m4, .ref m5, .int (nI ln), .int (nI 0), .long hs])), (m1, .inl (cI, 228, .inl gs)), (m2, .inl (cI, 684, .inl gp)), (m3, .inl (cI, 228, .inl gl)), (m4, .inl (cZ, 2, .inl gk)), (m5, .inl (cI, 60, .inl fx))] _ := hP
  have hD9 : va_D A [(m0, .inr (4, [.ref m1, .ref m2, .int (nI kn), .ref m3, .ref m4, .ref m5, .int (nI ln), .int (nI 0), .long hs])), (m1, .inl (cI, 228, .inl gs)), (m2, .inl (cI, 684, .inl gp)), (m3, .inl (cI, 228, .inl gl)), (m4, .inl (cZ, 2, .inl gk)), (m5, .inl (cI, 60, .inl fx))] := hD
  subst hAe
  exact z_miret hx hb hr hlocks dX5_whyNot_28 (rfl) hP9 hD9 hS

set_option maxHeartbeats 4000000 in
set_option maxRecDepth 100000 in
theorem c_X5_needed_bad (l : Launch) (D : va_G) (cI cZ cL : ClassId) (sz : Nat) (m0 : Nat) (m1 : Nat) (m2 : Nat) (m3 : Nat) (m4 : Nat) (m5 : Nat) (gs : Nat → Int32) (gp : Nat → Int32) (gl : Nat → Int32) (gk : Nat → Int32) (fx : Nat → Int32) (kn : Nat) (ln : Nat) (th : Int32) (hs : Int64) (p0 : Int32) (p1 : Int32) (hbad2 : ((decide (0 ≤ p0) && decide (p0 ≤ 35)) && (decide (0 ≤ p1) && decide (p1 ≤ 35))) = false) : Met l yX5_needed wsX5_needed ({ frames := 2, cells := 0, slots := 0, locals := 42 }) (va_Pc [.ref m0, .int p0, .int p1] (zM D cI cZ cL [(m0, .inr (4, [.ref m1, .ref m2, .int (nI kn), .ref m3, .ref m4, .ref m5, .int (nI ln), .int th, .long hs])), (m1, .inl (cI, 228, .inl gs)), (m2, .inl (cI, 684, .inl gp)), (m3, .inl (cI, 228, .inl gl)), (m4, .inl (cZ, 2, .inl gk)), (m5, .inl (cI, 60, .inl fx))] sz)) (zQmi D 0 [(m0, .inr (4, [.ref m1, .ref m2, .int (nI kn), .ref m3, .ref m4, .ref m5, .int (nI ln), .int th, .long hs])), (m1, .inl (cI, 228, .inl gs)), (m2, .inl (cI, 684, .inl gp)), (m3, .inl (cI, 228, .inl gl)), (m4, .inl (cZ, 2, .inl gk)), (m5, .inl (cI, 60, .inl fx))] [(m0, .inr (4, [.ref m1, .ref m2, .int (nI kn), .ref m3, .ref m4, .ref m5, .int (nI ln), .int (nI 1), .long hs])), (m1, .inl (cI, 228, .inl gs)), (m2, .inl (cI, 684, .inl gp)), (m3, .inl (cI, 228, .inl gl)), (m4, .inl (cZ, 2, .inl gk)), (m5, .inl (cI, 60, .inl fx))] sz) 0 0 (va_A [(m0, .inr (4, [.ref m1, .ref m2, .int (nI kn), .ref m3, .ref m4, .ref m5, .int (nI ln), .int th, .long hs])), (m1, .inl (cI, 228, .inl gs)), (m2, .inl (cI, 684, .inl gp)), (m3, .inl (cI, 228, .inl gl)), (m4, .inl (cZ, 2, .inl gk)), (m5, .inl (cI, 60, .inl fx))] sz) := by
  refine Met.ofW (cc := cX5_needed) (maxL := 3) (ret := (some .int)) (by decide) rfl ?_
  intro p e s m args below meth c s₁ B hml hv
  obtain ⟨rfl, hsz, ⟨hP, hK⟩, hD0⟩ := hv
  have hx := B.exec
  have hb := B.bytes
  have hr := B.returns
  have hts := atoms_spec (ws := wsX5_needed) B.pre
  have hown : s.vm.findClass RX5 = some m.cls := findClass_of_methodNamed B.named
  have hlocks := B.notSynchronized
  subst hsz
  have hD := hD0.self (sz := s.heap.size)
  generalize hAe : va_A [(m0, .inr (4, [.ref m1, .ref m2, .int (nI kn), .ref m3, .ref m4, .ref m5, .int (nI ln), .int th, .long hs])), (m1, .inl (cI, 228, .inl gs)), (m2, .inl (cI, 684, .inl gp)), (m3, .inl (cI, 228, .inl gl)), (m4, .inl (cZ, 2, .inl gk)), (m5, .inl (cI, 60, .inl fx))] s.heap.size = A at hD ⊢
  have hA : ∀ q : Nat, s.heap.size ≤ q → A q := fun q h => by rw [← hAe]; exact Or.inr h
  have hS : va_S A s.heap s.heap [] := va_S.rf
  have hl := lv_entry ([.ref m0, .int p0, .int p1]) (n := 3) (Nat.le_of_ble_eq_true rfl)
  rw [lg_entry_eq]
  generalize (lg_sl ([.ref m0, .int p0, .int p1]) ++ List.replicate (3 - (lg_sl ([.ref m0, .int p0, .int p1])).length) Slot.unset).toArray = ls at hl ⊢
  have hl : lv_has ls 3 [(0, .ref m0), (1, .int p0), (2, .int p1)] := hl
  refine lv_aload_n hx hb dX5_needed_0 rfl (lv_at hl 0 rfl) ?_
  refine lv_iload_n hx hb dX5_needed_1 rfl (lv_at hl 1 rfl) ?_
  refine z_ci (va_runS (As := [.int p0]) (rest := [.ref m0]) ⟨hx, hb, hml, hown, hts⟩ (c_X5_isSquare l (v := p0)) (va_cwS 1 hts gX5_needed_X5_isSquare rfl rfl rfl (by decide +kernel) ⟨Nat.le_of_ble_eq_true rfl, Nat.le_of_ble_eq_true rfl⟩) z_preS rfl rfl hl.1 rfl (lv_room (Nat.le_of_ble_eq_true rfl)) dX5_needed_2 ⟨Nat.le_of_ble_eq_true rfl, Nat.le_of_ble_eq_true rfl⟩) ?_
  refine z_if_eq (tgt := 19) (P := (decide (0 ≤ p0) && decide (p0 ≤ 35)) = false) hx hb dX5_needed_5 (by decide) (zb_eq0) (fun c5 => ?_) (fun c5 => ?_)
  · skip
    refine lv_iconst (v := 1) hx hb dX5_needed_19 (by decide) ?_
    refine z_cmi (wr := []) (ws' := [(m0, .inr (4, [.ref m1, .ref m2, .int (nI kn), .ref m3, .ref m4, .ref m5, .int (nI ln), .int (nI 1), .long hs])), (m1, .inl (cI, 228, .inl gs)), (m2, .inl (cI, 684, .inl gp)), (m3, .inl (cI, 228, .inl gl)), (m4, .inl (cZ, 2, .inl gk)), (m5, .inl (cI, 60, .inl fx))]) (va_runV (As := [.int 1]) (rest := []) ⟨hx, hb, hml, hown, hts⟩ (c_X5_throwsAt l D cI cZ cL _ (m0 := m0) (m1 := m1) (m2 := m2) (m3 := m3) (m4 := m4) (m5 := m5) (gs := gs) (gp := gp) (gl := gl) (gk := gk) (fx := fx) (kn := kn) (ln := ln) (th := th) (hs := hs) (pc0 := 1) (hpc := by omega)) (cwV 1 hts gX5_needed_X5_throwsAt rfl rfl rfl (by decide +kernel) ⟨Nat.le_of_ble_eq_true rfl, Nat.le_of_ble_eq_true rfl⟩) (z_preMV hK (hP.sub [0, 1, 2, 3, 4, 5] rfl) (hD.sub [0, 1, 2, 3, 4, 5] (by decide) rfl) 0 4 rfl rfl) rfl rfl hl.1 rfl (lv_room (Nat.le_of_ble_eq_true rfl)) dX5_needed_20 ⟨Nat.le_of_ble_eq_true rfl, Nat.le_of_ble_eq_true rfl⟩) hP hD hS hA [0, 1, 2, 3, 4, 5] [] [0, 1, 2, 3, 4, 5] rfl rfl (by decide) (by decide) rfl rfl (by decide) (fun H locs hP hD hS => ?_)
    refine z_top (y := 1) (by decide) ?_
    refine z_if_eq (tgt := 30) (P := False) hx hb dX5_needed_23 (by decide) (by decide) (fun c23 => (show False from c23).elim) (fun c23 => ?_)
    refine lv_iconst (v := 0) hx hb dX5_needed_26 (by decide) ?_
    refine lv_goto (tgt := 36) hx hb dX5_needed_27 (by decide) ?_
    have hP9 : va_P D vwCl [(m0, .inr (4, [.ref m1, .ref m2, .int (nI kn), .ref m3, .ref m4, .ref m5, .int (nI ln), .int (nI 1), .long hs])), (m1, .inl (cI, 228, .inl gs)), (m2, .inl (cI, 684, .inl gp)), (m3, .inl (cI, 228, .inl gl)), (m4, .inl (cZ, 2, .inl gk)), (m5, .inl (cI, 60, .inl fx))] _ := hP
    have hD9 : va_D A [(m0, .inr (4, [.ref m1, .ref m2, .int (nI kn), .ref m3, .ref m4, .ref m5, .int (nI ln), .int (nI 1), .long hs])), (m1, .inl (cI, 228, .inl gs)), (m2, .inl (cI, 684, .inl gp)), (m3, .inl (cI, 228, .inl gl)), (m4, .inl (cZ, 2, .inl gk)), (m5, .inl (cI, 60, .inl fx))] := hD
    subst hAe
    exact z_miret hx hb hr hlocks dX5_needed_36 (rfl) hP9 hD9 hS
  · skip
    refine lv_iload_n hx hb dX5_needed_8 rfl (lv_at hl 2 rfl) ?_
    refine z_ci (va_runS (As := [.int p1]) (rest := [.ref m0]) ⟨hx, hb, hml, hown, hts⟩ (c_X5_isSquare l (v := p1)) (va_cwS 1 hts gX5_needed_X5_isSquare rfl rfl rfl (by decide +kernel) ⟨Nat.le_of_ble_eq_true rfl, Nat.le_of_ble_eq_true rfl⟩) z_preS rfl rfl hl.1 rfl (lv_room (Nat.le_of_ble_eq_true rfl)) dX5_needed_9 ⟨Nat.le_of_ble_eq_true rfl, Nat.le_of_ble_eq_true rfl⟩) ?_
    refine z_if_eq (tgt := 19) (P := (decide (0 ≤ p1) && decide (p1 ≤ 35)) = false) hx hb dX5_needed_12 (by decide) (zb_eq0) (fun c12 => ?_) (fun c12 => (show False from and_ff hbad2 c5 c12).elim)
    refine lv_iconst (v := 1) hx hb dX5_needed_19 (by decide) ?_
    refine z_cmi (wr := []) (ws' := [(m0, .inr (4, [.ref m1, .ref m2, .int (nI kn), .ref m3, .ref m4, .ref m5, .int (nI ln), .int (nI 1), .long hs])), (m1, .inl (cI, 228, .inl gs)), (m2, .inl (cI, 684, .inl gp)), (m3, .inl (cI, 228, .inl gl)), (m4, .inl (cZ, 2, .inl gk)), (m5, .inl (cI, 60, .inl fx))]) (va_runV (As := [.int 1]) (rest := []) ⟨hx, hb, hml, hown, hts⟩ (c_X5_throwsAt l D cI cZ cL _ (m0 := m0) (m1 := m1) (m2 := m2) (m3 := m3) (m4 := m4) (m5 := m5) (gs := gs) (gp := gp) (gl := gl) (gk := gk) (fx := fx) (kn := kn) (ln := ln) (th := th) (hs := hs) (pc0 := 1) (hpc := by omega)) (cwV 1 hts gX5_needed_X5_throwsAt rfl rfl rfl (by decide +kernel) ⟨Nat.le_of_ble_eq_true rfl, Nat.le_of_ble_eq_true rfl⟩) (z_preMV hK (hP.sub [0, 1, 2, 3, 4, 5] rfl) (hD.sub [0, 1, 2, 3, 4, 5] (by decide) rfl) 0 4 rfl rfl) rfl rfl hl.1 rfl (lv_room (Nat.le_of_ble_eq_true rfl)) dX5_needed_20 ⟨Nat.le_of_ble_eq_true rfl, Nat.le_of_ble_eq_true rfl⟩) hP hD hS hA [0, 1, 2, 3, 4, 5] [] [0, 1, 2, 3, 4, 5] rfl rfl (by decide) (by decide) rfl rfl (by decide) (fun H locs hP hD hS => ?_)
    refine z_top (y := 1) (by decide) ?_
    refine z_if_eq (tgt := 30) (P := False) hx hb dX5_needed_23 (by decide) (by decide) (fun c23 => (show False from c23).elim) (fun c23 => ?_)
    refine lv_iconst (v := 0) hx hb dX5_needed_26 (by decide) ?_
    refine lv_goto (tgt := 36) hx hb dX5_needed_27 (by decide) ?_
    have hP9 : va_P D vwCl [(m0, .inr (4, [.ref m1, .ref m2, .int (nI kn), .ref m3, .ref m4, .ref m5, .int (nI ln), .int (nI 1), .long hs])), (m1, .inl (cI, 228, .inl gs)), (m2, .inl (cI, 684, .inl gp)), (m3, .inl (cI, 228, .inl gl)), (m4, .inl (cZ, 2, .inl gk)), (m5, .inl (cI, 60, .inl fx))] _ := hP
    have hD9 : va_D A [(m0, .inr (4, [.ref m1, .ref m2, .int (nI kn), .ref m3, .ref m4, .ref m5, .int (nI ln), .int (nI 1), .long hs])), (m1, .inl (cI, 228, .inl gs)), (m2, .inl (cI, 684, .inl gp)), (m3, .inl (cI, 228, .inl gl)), (m4, .inl (cZ, 2, .inl gk)), (m5, .inl (cI, 60, .inl fx))] := hD
    subst hAe
    exact z_miret hx hb hr hlocks dX5_needed_36 (rfl) hP9 hD9 hS

set_option maxHeartbeats 4000000 in
set_option maxRecDepth 100000 in
theorem c_X5_needed_ok (l : Launch) (D : va_G) (cI cZ cL : ClassId) (sz : Nat) (m0 : Nat) (m1 : Nat) (m2 : Nat) (m3 : Nat) (m4 : Nat) (m5 : Nat) (gs : Nat → Int32) (gp : Nat → Int32) (gl : Nat → Int32) (gk : Nat → Int32) (fx : Nat → Int32) (kn : Nat) (ln : Nat) (th : Int32) (hs : Int64) (f : Nat) (q : Nat) (hz : Nat) (hf : f < 36) (hq : q < 36) (hhz : hz < 12) (hH : gs 108 = nI hz) : Met l yX5_needed wsX5_needed ({ frames := 3, cells := 0, slots := 0, locals := 71 }) (va_Pc [.ref m0, .int (nI f), .int (nI q)] (zM D cI cZ cL [(m0, .inr (4, [.ref m1, .ref m2, .int (nI kn), .ref m3, .ref m4, .ref m5, .int (nI ln), .int th, .long hs])), (m1, .inl (cI, 228, .inl gs)), (m2, .inl (cI, 684, .inl gp)), (m3, .inl (cI, 228, .inl gl)), (m4, .inl (cZ, 2, .inl gk)), (m5, .inl (cI, 60, .inl fx))] sz)) (zQmi D (pLeM gs hz f q) [(m0, .inr (4, [.ref m1, .ref m2, .int (nI kn), .ref m3, .ref m4, .ref m5, .int (nI ln), .int th, .long hs])), (m1, .inl (cI, 228, .inl gs)), (m2, .inl (cI, 684, .inl gp)), (m3, .inl (cI, 228, .inl gl)), (m4, .inl (cZ, 2, .inl gk)), (m5, .inl (cI, 60, .inl fx))] [(m0, .inr (4, [.ref m1, .ref m2, .int (nI kn), .ref m3, .ref m4, .ref m5, .int (nI ln), .int (nI 0), .long hs])), (m1, .inl (cI, 228, .inl gs)), (m2, .inl (cI, 684, .inl gp)), (m3, .inl (cI, 228, .inl gl)), (m4, .inl (cZ, 2, .inl gk)), (m5, .inl (cI, 60, .inl fx))] sz) 0 0 (va_A [(m0, .inr (4, [.ref m1, .ref m2, .int (nI kn), .ref m3, .ref m4, .ref m5, .int (nI ln), .int th, .long hs])), (m1, .inl (cI, 228, .inl gs)), (m2, .inl (cI, 684, .inl gp)), (m3, .inl (cI, 228, .inl gl)), (m4, .inl (cZ, 2, .inl gk)), (m5, .inl (cI, 60, .inl fx))] sz) := by
  refine Met.ofW (cc := cX5_needed) (maxL := 3) (ret := (some .int)) (by decide) rfl ?_
  intro p e s m args below meth c s₁ B hml hv
  obtain ⟨rfl, hsz, ⟨hP, hK⟩, hD0⟩ := hv
  have hx := B.exec
  have hb := B.bytes
  have hr := B.returns
  have hts := atoms_spec (ws := wsX5_needed) B.pre
  have hown : s.vm.findClass RX5 = some m.cls := findClass_of_methodNamed B.named
  have hlocks := B.notSynchronized
  subst hsz
  have hD := hD0.self (sz := s.heap.size)
  generalize hAe : va_A [(m0, .inr (4, [.ref m1, .ref m2, .int (nI kn), .ref m3, .ref m4, .ref m5, .int (nI ln), .int th, .long hs])), (m1, .inl (cI, 228, .inl gs)), (m2, .inl (cI, 684, .inl gp)), (m3, .inl (cI, 228, .inl gl)), (m4, .inl (cZ, 2, .inl gk)), (m5, .inl (cI, 60, .inl fx))] s.heap.size = A at hD ⊢
  have hA : ∀ q : Nat, s.heap.size ≤ q → A q := fun q h => by rw [← hAe]; exact Or.inr h
  have hS : va_S A s.heap s.heap [] := va_S.rf
  have hl := lv_entry ([.ref m0, .int (nI f), .int (nI q)]) (n := 3) (Nat.le_of_ble_eq_true rfl)
  rw [lg_entry_eq]
  generalize (lg_sl ([.ref m0, .int (nI f), .int (nI q)]) ++ List.replicate (3 - (lg_sl ([.ref m0, .int (nI f), .int (nI q)])).length) Slot.unset).toArray = ls at hl ⊢
  have hl : lv_has ls 3 [(0, .ref m0), (1, .int (nI f)), (2, .int (nI q))] := hl
  refine lv_aload_n hx hb dX5_needed_0 rfl (lv_at hl 0 rfl) ?_
  refine lv_iload_n hx hb dX5_needed_1 rfl (lv_at hl 1 rfl) ?_
  refine z_ci (va_runS (As := [.int (nI f)]) (rest := [.ref m0]) ⟨hx, hb, hml, hown, hts⟩ (c_X5_isSquare l (v := nI f)) (va_cwS 1 hts gX5_needed_X5_isSquare rfl rfl rfl (by decide +kernel) ⟨Nat.le_of_ble_eq_true rfl, Nat.le_of_ble_eq_true rfl⟩) z_preS rfl rfl hl.1 rfl (lv_room (Nat.le_of_ble_eq_true rfl)) dX5_needed_2 ⟨Nat.le_of_ble_eq_true rfl, Nat.le_of_ble_eq_true rfl⟩) ?_
  refine z_top (y := 1) (by rw [sq_ok f hf]; rfl) ?_
  refine z_if_eq (tgt := 19) (P := False) hx hb dX5_needed_5 (by decide) (by decide) (fun c5 => (show False from c5).elim) (fun c5 => ?_)
  refine lv_iload_n hx hb dX5_needed_8 rfl (lv_at hl 2 rfl) ?_
  refine z_ci (va_runS (As := [.int (nI q)]) (rest := [.ref m0]) ⟨hx, hb, hml, hown, hts⟩ (c_X5_isSquare l (v := nI q)) (va_cwS 1 hts gX5_needed_X5_isSquare rfl rfl rfl (by decide +kernel) ⟨Nat.le_of_ble_eq_true rfl, Nat.le_of_ble_eq_true rfl⟩) z_preS rfl rfl hl.1 rfl (lv_room (Nat.le_of_ble_eq_true rfl)) dX5_needed_9 ⟨Nat.le_of_ble_eq_true rfl, Nat.le_of_ble_eq_true rfl⟩) ?_
  refine z_top (y := 1) (by rw [sq_ok q hq]; rfl) ?_
  refine z_if_eq (tgt := 19) (P := False) hx hb dX5_needed_12 (by decide) (by decide) (fun c12 => (show False from c12).elim) (fun c12 => ?_)
  refine lv_iconst (v := 0) hx hb dX5_needed_15 (by decide) ?_
  refine lv_goto (tgt := 20) hx hb dX5_needed_16 (by decide) ?_
  refine z_cmi (wr := []) (ws' := [(m0, .inr (4, [.ref m1, .ref m2, .int (nI kn), .ref m3, .ref m4, .ref m5, .int (nI ln), .int (nI 0), .long hs])), (m1, .inl (cI, 228, .inl gs)), (m2, .inl (cI, 684, .inl gp)), (m3, .inl (cI, 228, .inl gl)), (m4, .inl (cZ, 2, .inl gk)), (m5, .inl (cI, 60, .inl fx))]) (va_runV (As := [.int 0]) (rest := []) ⟨hx, hb, hml, hown, hts⟩ (c_X5_throwsAt l D cI cZ cL _ (m0 := m0) (m1 := m1) (m2 := m2) (m3 := m3) (m4 := m4) (m5 := m5) (gs := gs) (gp := gp) (gl := gl) (gk := gk) (fx := fx) (kn := kn) (ln := ln) (th := th) (hs := hs) (pc0 := 0) (hpc := by omega)) (cwV 1 hts gX5_needed_X5_throwsAt rfl rfl rfl (by decide +kernel) ⟨Nat.le_of_ble_eq_true rfl, Nat.le_of_ble_eq_true rfl⟩) (z_preMV hK (hP.sub [0, 1, 2, 3, 4, 5] rfl) (hD.sub [0, 1, 2, 3, 4, 5] (by decide) rfl) 0 4 rfl rfl) rfl rfl hl.1 rfl (lv_room (Nat.le_of_ble_eq_true rfl)) dX5_needed_20 ⟨Nat.le_of_ble_eq_true rfl, Nat.le_of_ble_eq_true rfl⟩) hP hD hS hA [0, 1, 2, 3, 4, 5] [] [0, 1, 2, 3, 4, 5] rfl rfl (by decide) (by decide) rfl rfl (by decide) (fun H locs hP hD hS => ?_)
  refine z_top (y := 0) (by decide) ?_
  refine z_if_eq (tgt := 30) (P := True) hx hb dX5_needed_23 (by decide) (by decide) (fun c23 => ?_) (fun c23 => (show False from c23 trivial).elim)
  refine lv_aload_n hx hb dX5_needed_30 rfl (lv_at hl 0 rfl) ?_
  refine lv_iload_n hx hb dX5_needed_31 rfl (lv_at hl 1 rfl) ?_
  refine lv_iload_n hx hb dX5_needed_32 rfl (lv_at hl 2 rfl) ?_
  refine z_ci (va_runV (As := [.int (nI f), .int (nI q)]) (rest := []) ⟨hx, hb, hml, hown, hts⟩ (c_X5_least l D cI cZ cL (m0 := m0) (m1 := m1) (m2 := m2) (m3 := m3) (m4 := m4) (m5 := m5) (gs := gs) (gp := gp) (gl := gl) (gk := gk) (fx := fx) (kn := kn) (ln := ln) (th := nI 0) (hs := hs) (f := f) (q := q) (hz := hz) (hf := by omega) (hq := by omega) (hhz := by omega) (hH := hH)) (cwV 2 hts gX5_needed_X5_least rfl rfl rfl (by decide +kernel) ⟨Nat.le_of_ble_eq_true rfl, Nat.le_of_ble_eq_true rfl⟩) (z_preV hK (hP.sub [0, 1, 2, 3, 4, 5] rfl) 0 4 rfl rfl) rfl rfl hl.1 rfl (lv_room (Nat.le_of_ble_eq_true rfl)) dX5_needed_33 ⟨Nat.le_of_ble_eq_true rfl, Nat.le_of_ble_eq_true rfl⟩) ?_
  have hP9 : va_P D vwCl [(m0, .inr (4, [.ref m1, .ref m2, .int (nI kn), .ref m3, .ref m4, .ref m5, .int (nI ln), .int (nI 0), .long hs])), (m1, .inl (cI, 228, .inl gs)), (m2, .inl (cI, 684, .inl gp)), (m3, .inl (cI, 228, .inl gl)), (m4, .inl (cZ, 2, .inl gk)), (m5, .inl (cI, 60, .inl fx))] _ := hP
  have hD9 : va_D A [(m0, .inr (4, [.ref m1, .ref m2, .int (nI kn), .ref m3, .ref m4, .ref m5, .int (nI ln), .int (nI 0), .long hs])), (m1, .inl (cI, 228, .inl gs)), (m2, .inl (cI, 684, .inl gp)), (m3, .inl (cI, 228, .inl gl)), (m4, .inl (cZ, 2, .inl gk)), (m5, .inl (cI, 60, .inl fx))] := hD
  subst hAe
  exact z_miret hx hb hr hlocks dX5_needed_36 (rfl) hP9 hD9 hS

set_option maxHeartbeats 4000000 in
set_option maxRecDepth 100000 in
theorem c_X5_darkestHour_ok (l : Launch) (D : va_G) (cI cZ cL : ClassId) (sz : Nat) (m0 : Nat) (m1 : Nat) (m2 : Nat) (m3 : Nat) (m4 : Nat) (m5 : Nat) (gs : Nat → Int32) (gp : Nat → Int32) (gl : Nat → Int32) (gk : Nat → Int32) (fx : Nat → Int32) (kn : Nat) (ln : Nat) (th : Int32) (hs : Int64) : Met l yX5_darkestHour wsX5_darkestHour ({ frames := 7, cells := 0, slots := 0, locals := 165 }) (va_Pc [.ref m0] (zM D cI cZ cL [(m0, .inr (4, [.ref m1, .ref m2, .int (nI kn), .ref m3, .ref m4, .ref m5, .int (nI ln), .int th, .long hs])), (m1, .inl (cI, 228, .inl gs)), (m2, .inl (cI, 684, .inl gp)), (m3, .inl (cI, 228, .inl gl)), (m4, .inl (cZ, 2, .inl gk)), (m5, .inl (cI, 60, .inl fx))] sz)) (zQmi D (nI (bd (pDn (fun k => gs (0 + 0 + k))) 12)) [(m0, .inr (4, [.ref m1, .ref m2, .int (nI kn), .ref m3, .ref m4, .ref m5, .int (nI ln), .int th, .long hs])), (m1, .inl (cI, 228, .inl gs)), (m2, .inl (cI, 684, .inl gp)), (m3, .inl (cI, 228, .inl gl)), (m4, .inl (cZ, 2, .inl gk)), (m5, .inl (cI, 60, .inl fx))] [(m0, .inr (4, [.ref m1, .ref m2, .int (nI kn), .ref m3, .ref m4, .ref m5, .int (nI ln), .int (nI 0), .long hs])), (m1, .inl (cI, 228, .inl gs)), (m2, .inl (cI, 684, .inl gp)), (m3, .inl (cI, 228, .inl gl)), (m4, .inl (cZ, 2, .inl gk)), (m5, .inl (cI, 60, .inl fx))] sz) 0 0 (va_A [(m0, .inr (4, [.ref m1, .ref m2, .int (nI kn), .ref m3, .ref m4, .ref m5, .int (nI ln), .int th, .long hs])), (m1, .inl (cI, 228, .inl gs)), (m2, .inl (cI, 684, .inl gp)), (m3, .inl (cI, 228, .inl gl)), (m4, .inl (cZ, 2, .inl gk)), (m5, .inl (cI, 60, .inl fx))] sz) := by
  refine Met.ofW (cc := cX5_darkestHour) (maxL := 1) (ret := (some .int)) (by decide) rfl ?_
  intro p e s m args below meth c s₁ B hml hv
  obtain ⟨rfl, hsz, ⟨hP, hK⟩, hD0⟩ := hv
  have hx := B.exec
  have hb := B.bytes
  have hr := B.returns
  have hts := atoms_spec (ws := wsX5_darkestHour) B.pre
  have hown : s.vm.findClass RX5 = some m.cls := findClass_of_methodNamed B.named
  have hlocks := B.notSynchronized
  subst hsz
  have hD := hD0.self (sz := s.heap.size)
  generalize hAe : va_A [(m0, .inr (4, [.ref m1, .ref m2, .int (nI kn), .ref m3, .ref m4, .ref m5, .int (nI ln), .int th, .long hs])), (m1, .inl (cI, 228, .inl gs)), (m2, .inl (cI, 684, .inl gp)), (m3, .inl (cI, 228, .inl gl)), (m4, .inl (cZ, 2, .inl gk)), (m5, .inl (cI, 60, .inl fx))] s.heap.size = A at hD ⊢
  have hA : ∀ q : Nat, s.heap.size ≤ q → A q := fun q h => by rw [← hAe]; exact Or.inr h
  have hS : va_S A s.heap s.heap [] := va_S.rf
  have in4 : ∀ w ∈ u_ws RX5 TX5 9, w ∈ wsX5_darkestHour := by decide +kernel
  have fl26 := hts (.fieldLink RX5 26 "TowerShadesModel" "thrown" "I") (by decide +kernel)
  have hl := lv_entry ([.ref m0]) (n := 1) (Nat.le_of_ble_eq_true rfl)
  rw [lg_entry_eq]
  generalize (lg_sl ([.ref m0]) ++ List.replicate (1 - (lg_sl ([.ref m0])).length) Slot.unset).toArray = ls at hl ⊢
  have hl : lv_has ls 1 [(0, .ref m0)] := hl
  refine lv_aload_n hx hb dX5_darkestHour_0 rfl (lv_at hl 0 rfl) ?_
  refine lv_iconst (v := 0) hx hb dX5_darkestHour_1 (by decide) ?_
  refine va_put (D := D) (ci := 4) (v := .int 0) (ty := .int) (C := RX5) (T := TX5) (N := 9) hx hb hts in4 tyX5 tyX5_ok nmX5 hown hK hP hD hS 0 rfl rfl 7 (by decide) fl26 (fun _ h9 => h9) rfl (by decide +kernel) rfl rfl (Nat.le_of_ble_eq_true rfl) dX5_darkestHour_2 (fun H locs hP hD hS => ?_)
  have hP : va_P D vwCl [(m0, .inr (4, [.ref m1, .ref m2, .int (nI kn), .ref m3, .ref m4, .ref m5, .int (nI ln), .int 0, .long hs])), (m1, .inl (cI, 228, .inl gs)), (m2, .inl (cI, 684, .inl gp)), (m3, .inl (cI, 228, .inl gl)), (m4, .inl (cZ, 2, .inl gk)), (m5, .inl (cI, 60, .inl fx))] _ := hP
  have hD : va_D A [(m0, .inr (4, [.ref m1, .ref m2, .int (nI kn), .ref m3, .ref m4, .ref m5, .int (nI ln), .int 0, .long hs])), (m1, .inl (cI, 228, .inl gs)), (m2, .inl (cI, 684, .inl gp)), (m3, .inl (cI, 228, .inl gl)), (m4, .inl (cZ, 2, .inl gk)), (m5, .inl (cI, 60, .inl fx))] := hD
  refine lv_aload_n hx hb dX5_darkestHour_5 rfl (lv_at hl 0 rfl) ?_
  refine z_ci (va_runV (As := []) (rest := []) ⟨hx, hb, hml, hown, hts⟩ (c_X5_darkest l D cI cZ cL (m0 := m0) (m1 := m1) (m2 := m2) (m3 := m3) (m4 := m4) (m5 := m5) (gs := gs) (gp := gp) (gl := gl) (gk := gk) (fx := fx) (kn := kn) (ln := ln) (th := 0) (hs := hs)) (cwV 0 hts gX5_darkestHour_X5_darkest rfl rfl rfl (by decide +kernel) ⟨Nat.le_of_ble_eq_true rfl, Nat.le_of_ble_eq_true rfl⟩) (z_preV hK (hP.sub [0, 1, 2, 3, 4, 5] rfl) 0 4 rfl rfl) rfl rfl hl.1 rfl (lv_room (Nat.le_of_ble_eq_true rfl)) dX5_darkestHour_6 ⟨Nat.le_of_ble_eq_true rfl, Nat.le_of_ble_eq_true rfl⟩) ?_
  have hW9 : ([(m0, .inr (4, [.ref m1, .ref m2, .int (nI kn), .ref m3, .ref m4, .ref m5, .int (nI ln), .int 0, .long hs])), (m1, .inl (cI, 228, .inl gs)), (m2, .inl (cI, 684, .inl gp)), (m3, .inl (cI, 228, .inl gl)), (m4, .inl (cZ, 2, .inl gk)), (m5, .inl (cI, 60, .inl fx))] : va_W) = [(m0, .inr (4, [.ref m1, .ref m2, .int (nI kn), .ref m3, .ref m4, .ref m5, .int (nI ln), .int (nI 0), .long hs])), (m1, .inl (cI, 228, .inl gs)), (m2, .inl (cI, 684, .inl gp)), (m3, .inl (cI, 228, .inl gl)), (m4, .inl (cZ, 2, .inl gk)), (m5, .inl (cI, 60, .inl fx))] := rfl
  rw [hW9] at hP hD
  have hP9 : va_P D vwCl [(m0, .inr (4, [.ref m1, .ref m2, .int (nI kn), .ref m3, .ref m4, .ref m5, .int (nI ln), .int (nI 0), .long hs])), (m1, .inl (cI, 228, .inl gs)), (m2, .inl (cI, 684, .inl gp)), (m3, .inl (cI, 228, .inl gl)), (m4, .inl (cZ, 2, .inl gk)), (m5, .inl (cI, 60, .inl fx))] _ := hP
  have hD9 : va_D A [(m0, .inr (4, [.ref m1, .ref m2, .int (nI kn), .ref m3, .ref m4, .ref m5, .int (nI ln), .int (nI 0), .long hs])), (m1, .inl (cI, 228, .inl gs)), (m2, .inl (cI, 684, .inl gp)), (m3, .inl (cI, 228, .inl gl)), (m4, .inl (cZ, 2, .inl gk)), (m5, .inl (cI, 60, .inl fx))] := hD
  subst hAe
  exact z_miret hx hb hr hlocks dX5_darkestHour_9 (rfl) hP9 hD9 hS

set_option maxHeartbeats 4000000 in
set_option maxRecDepth 100000 in
theorem c_X5_darkShare_ok (l : Launch) (D : va_G) (cI cZ cL : ClassId) (sz : Nat) (m0 : Nat) (m1 : Nat) (m2 : Nat) (m3 : Nat) (m4 : Nat) (m5 : Nat) (gs : Nat → Int32) (gp : Nat → Int32) (gl : Nat → Int32) (gk : Nat → Int32) (fx : Nat → Int32) (kn : Nat) (ln : Nat) (th : Int32) (hs : Int64) (hz : Nat) (hhz : hz < 12) (hH : gs 108 = nI hz) : Met l yX5_darkShare wsX5_darkShare ({ frames := 6, cells := 0, slots := 0, locals := 143 }) (va_Pc [.ref m0] (zM D cI cZ cL [(m0, .inr (4, [.ref m1, .ref m2, .int (nI kn), .ref m3, .ref m4, .ref m5, .int (nI ln), .int th, .long hs])), (m1, .inl (cI, 228, .inl gs)), (m2, .inl (cI, 684, .inl gp)), (m3, .inl (cI, 228, .inl gl)), (m4, .inl (cZ, 2, .inl gk)), (m5, .inl (cI, 60, .inl fx))] sz)) (zQmd D (pFq (pDn (fun k => gs (0 + 0 + k)) hz)) [(m0, .inr (4, [.ref m1, .ref m2, .int (nI kn), .ref m3, .ref m4, .ref m5, .int (nI ln), .int th, .long hs])), (m1, .inl (cI, 228, .inl gs)), (m2, .inl (cI, 684, .inl gp)), (m3, .inl (cI, 228, .inl gl)), (m4, .inl (cZ, 2, .inl gk)), (m5, .inl (cI, 60, .inl fx))] [(m0, .inr (4, [.ref m1, .ref m2, .int (nI kn), .ref m3, .ref m4, .ref m5, .int (nI ln), .int (nI 0), .long hs])), (m1, .inl (cI, 228, .inl gs)), (m2, .inl (cI, 684, .inl gp)), (m3, .inl (cI, 228, .inl gl)), (m4, .inl (cZ, 2, .inl gk)), (m5, .inl (cI, 60, .inl fx))] sz) 0 0 (va_A [(m0, .inr (4, [.ref m1, .ref m2, .int (nI kn), .ref m3, .ref m4, .ref m5, .int (nI ln), .int th, .long hs])), (m1, .inl (cI, 228, .inl gs)), (m2, .inl (cI, 684, .inl gp)), (m3, .inl (cI, 228, .inl gl)), (m4, .inl (cZ, 2, .inl gk)), (m5, .inl (cI, 60, .inl fx))] sz) := by
  refine Met.ofW (cc := cX5_darkShare) (maxL := 1) (ret := (some .double)) (by decide) rfl ?_
  intro p e s m args below meth c s₁ B hml hv
  obtain ⟨rfl, hsz, ⟨hP, hK⟩, hD0⟩ := hv
  have hx := B.exec
  have hb := B.bytes
  have hr := B.returns
  have hts := atoms_spec (ws := wsX5_darkShare) B.pre
  have hown : s.vm.findClass RX5 = some m.cls := findClass_of_methodNamed B.named
  have hlocks := B.notSynchronized
  subst hsz
  have hD := hD0.self (sz := s.heap.size)
  generalize hAe : va_A [(m0, .inr (4, [.ref m1, .ref m2, .int (nI kn), .ref m3, .ref m4, .ref m5, .int (nI ln), .int th, .long hs])), (m1, .inl (cI, 228, .inl gs)), (m2, .inl (cI, 684, .inl gp)), (m3, .inl (cI, 228, .inl gl)), (m4, .inl (cZ, 2, .inl gk)), (m5, .inl (cI, 60, .inl fx))] s.heap.size = A at hD ⊢
  have hA : ∀ q : Nat, s.heap.size ≤ q → A q := fun q h => by rw [← hAe]; exact Or.inr h
  have hS : va_S A s.heap s.heap [] := va_S.rf
  have in4 : ∀ w ∈ u_ws RX5 TX5 9, w ∈ wsX5_darkShare := by decide +kernel
  have fl7 := hts (.fieldLink RX5 7 "TowerShadesModel" "s" "[I") (by decide +kernel)
  have fl26 := hts (.fieldLink RX5 26 "TowerShadesModel" "thrown" "I") (by decide +kernel)
  have hl := lv_entry ([.ref m0]) (n := 1) (Nat.le_of_ble_eq_true rfl)
  rw [lg_entry_eq]
  generalize (lg_sl ([.ref m0]) ++ List.replicate (1 - (lg_sl ([.ref m0])).length) Slot.unset).toArray = ls at hl ⊢
  have hl : lv_has ls 1 [(0, .ref m0)] := hl
  have hDn := pDn_le (fun k => gs (0 + 0 + k)) hz
  refine lv_aload_n hx hb dX5_darkShare_0 rfl (lv_at hl 0 rfl) ?_
  refine lv_iconst (v := 0) hx hb dX5_darkShare_1 (by decide) ?_
  refine va_put (D := D) (ci := 4) (v := .int 0) (ty := .int) (C := RX5) (T := TX5) (N := 9) hx hb hts in4 tyX5 tyX5_ok nmX5 hown hK hP hD hS 0 rfl rfl 7 (by decide) fl26 (fun _ h9 => h9) rfl (by decide +kernel) rfl rfl (Nat.le_of_ble_eq_true rfl) dX5_darkShare_2 (fun H locs hP hD hS => ?_)
  have hP : va_P D vwCl [(m0, .inr (4, [.ref m1, .ref m2, .int (nI kn), .ref m3, .ref m4, .ref m5, .int (nI ln), .int 0, .long hs])), (m1, .inl (cI, 228, .inl gs)), (m2, .inl (cI, 684, .inl gp)), (m3, .inl (cI, 228, .inl gl)), (m4, .inl (cZ, 2, .inl gk)), (m5, .inl (cI, 60, .inl fx))] _ := hP
  have hD : va_D A [(m0, .inr (4, [.ref m1, .ref m2, .int (nI kn), .ref m3, .ref m4, .ref m5, .int (nI ln), .int 0, .long hs])), (m1, .inl (cI, 228, .inl gs)), (m2, .inl (cI, 684, .inl gp)), (m3, .inl (cI, 228, .inl gl)), (m4, .inl (cZ, 2, .inl gk)), (m5, .inl (cI, 60, .inl fx))] := hD
  refine lv_aload_n hx hb dX5_darkShare_5 rfl (lv_at hl 0 rfl) ?_
  refine lv_aload_n hx hb dX5_darkShare_6 rfl (lv_at hl 0 rfl) ?_
  refine va_get (D := D) (ci := 4) (v := .ref m1) (C := RX5) (T := TX5) (N := 9) hx hb hts in4 hown hK hP 0 rfl rfl 0 (by decide) fl7 (fun _ h9 => h9) rfl dX5_darkShare_7 ?_
  refine lv_bipush (v := 108) hx hb dX5_darkShare_10 (by decide) ?_
  refine z_iald hx hb hK hP 1 0 rfl rfl (k := 108) (rfl) (by omega) (by decide) dX5_darkShare_12 ?_
  refine z_top (y := nI hz) hH ?_
  refine z_ci (va_runV (As := [.int (nI hz)]) (rest := []) ⟨hx, hb, hml, hown, hts⟩ (c_X5_darkAt l D cI cZ cL (m0 := m0) (m1 := m1) (m2 := m2) (m3 := m3) (m4 := m4) (m5 := m5) (gs := gs) (gp := gp) (gl := gl) (gk := gk) (fx := fx) (kn := kn) (ln := ln) (th := 0) (hs := hs) (hu := hz) (hhu := by omega)) (cwV 1 hts gX5_darkShare_X5_darkAt rfl rfl rfl (by decide +kernel) ⟨Nat.le_of_ble_eq_true rfl, Nat.le_of_ble_eq_true rfl⟩) (z_preV hK (hP.sub [0, 1, 2, 3, 4, 5] rfl) 0 4 rfl rfl) rfl rfl hl.1 rfl (lv_room (Nat.le_of_ble_eq_true rfl)) dX5_darkShare_13 ⟨Nat.le_of_ble_eq_true rfl, Nat.le_of_ble_eq_true rfl⟩) ?_
  refine lv_i2d hx hb dX5_darkShare_16 ?_
  refine lv_dconst1 hx hb dX5_darkShare_17 ?_
  refine lv_dmul hx hb dX5_darkShare_18 (pFq_2 _ (by omega)) ?_
  refine lv_ldc2d (v := 4630263366890291200) hx hb hown (hts (.constantDouble RX5 144 4630263366890291200) (by decide +kernel)) dX5_darkShare_19 ?_
  refine lv_ddiv hx hb dX5_darkShare_22 (pFq_3 _ (by omega)) ?_
  have hW9 : ([(m0, .inr (4, [.ref m1, .ref m2, .int (nI kn), .ref m3, .ref m4, .ref m5, .int (nI ln), .int 0, .long hs])), (m1, .inl (cI, 228, .inl gs)), (m2, .inl (cI, 684, .inl gp)), (m3, .inl (cI, 228, .inl gl)), (m4, .inl (cZ, 2, .inl gk)), (m5, .inl (cI, 60, .inl fx))] : va_W) = [(m0, .inr (4, [.ref m1, .ref m2, .int (nI kn), .ref m3, .ref m4, .ref m5, .int (nI ln), .int (nI 0), .long hs])), (m1, .inl (cI, 228, .inl gs)), (m2, .inl (cI, 684, .inl gp)), (m3, .inl (cI, 228, .inl gl)), (m4, .inl (cZ, 2, .inl gk)), (m5, .inl (cI, 60, .inl fx))] := rfl
  rw [hW9] at hP hD
  have hP9 : va_P D vwCl [(m0, .inr (4, [.ref m1, .ref m2, .int (nI kn), .ref m3, .ref m4, .ref m5, .int (nI ln), .int (nI 0), .long hs])), (m1, .inl (cI, 228, .inl gs)), (m2, .inl (cI, 684, .inl gp)), (m3, .inl (cI, 228, .inl gl)), (m4, .inl (cZ, 2, .inl gk)), (m5, .inl (cI, 60, .inl fx))] _ := hP
  have hD9 : va_D A [(m0, .inr (4, [.ref m1, .ref m2, .int (nI kn), .ref m3, .ref m4, .ref m5, .int (nI ln), .int (nI 0), .long hs])), (m1, .inl (cI, 228, .inl gs)), (m2, .inl (cI, 684, .inl gp)), (m3, .inl (cI, 228, .inl gl)), (m4, .inl (cZ, 2, .inl gk)), (m5, .inl (cI, 60, .inl fx))] := hD
  subst hAe
  exact z_mdret hx hb hr hlocks dX5_darkShare_23 (pFq_1 _ (by omega)) hP9 hD9 hS

set_option maxHeartbeats 4000000 in
set_option maxRecDepth 100000 in
/-- what a raise would bring -/
theorem c_X5_gain (l : Launch) (D : va_G) (cI cZ cL : ClassId) (sz : Nat) (m0 : Nat) (m1 : Nat) (m2 : Nat) (m3 : Nat) (m4 : Nat) (m5 : Nat) (gs : Nat → Int32) (gp : Nat → Int32) (gl : Nat → Int32) (gk : Nat → Int32) (fx : Nat → Int32) (kn : Nat) (ln : Nat) (th : Int32) (hs : Int64) (q : Nat) (hz : Nat) (mv : Nat) (hq : q < 36) (hhz : hz < 12) (hmv : mv < 2) (hH : gs 108 = nI hz) (hM : gs 109 = nI mv) : Met l yX5_gain wsX5_gain ({ frames := 6, cells := 0, slots := 0, locals := 145 }) (va_Pc [.ref m0, .int (nI q)] (zM D cI cZ cL [(m0, .inr (4, [.ref m1, .ref m2, .int (nI kn), .ref m3, .ref m4, .ref m5, .int (nI ln), .int th, .long hs])), (m1, .inl (cI, 228, .inl gs)), (m2, .inl (cI, 684, .inl gp)), (m3, .inl (cI, 228, .inl gl)), (m4, .inl (cZ, 2, .inl gk)), (m5, .inl (cI, 60, .inl fx))] sz)) (zQmi D (pGa gs hz mv q) [(m0, .inr (4, [.ref m1, .ref m2, .int (nI kn), .ref m3, .ref m4, .ref m5, .int (nI ln), .int th, .long hs])), (m1, .inl (cI, 228, .inl gs)), (m2, .inl (cI, 684, .inl gp)), (m3, .inl (cI, 228, .inl gl)), (m4, .inl (cZ, 2, .inl gk)), (m5, .inl (cI, 60, .inl fx))] [(m0, .inr (4, [.ref m1, .ref m2, .int (nI kn), .ref m3, .ref m4, .ref m5, .int (nI ln), .int th, .long hs])), (m1, .inl (cI, 228, .inl (pGw gs hz mv q))), (m2, .inl (cI, 684, .inl gp)), (m3, .inl (cI, 228, .inl gl)), (m4, .inl (cZ, 2, .inl gk)), (m5, .inl (cI, 60, .inl fx))] sz) 0 0 (va_A [(m0, .inr (4, [.ref m1, .ref m2, .int (nI kn), .ref m3, .ref m4, .ref m5, .int (nI ln), .int th, .long hs])), (m1, .inl (cI, 228, .inl gs)), (m2, .inl (cI, 684, .inl gp)), (m3, .inl (cI, 228, .inl gl)), (m4, .inl (cZ, 2, .inl gk)), (m5, .inl (cI, 60, .inl fx))] sz) := by
  refine Met.ofW (cc := cX5_gain) (maxL := 2) (ret := (some .int)) (by decide) rfl ?_
  intro p e s m args below meth c s₁ B hml hv
  obtain ⟨rfl, hsz, ⟨hP, hK⟩, hD0⟩ := hv
  have hx := B.exec
  have hb := B.bytes
  have hr := B.returns
  have hts := atoms_spec (ws := wsX5_gain) B.pre
  have hown : s.vm.findClass RX5 = some m.cls := findClass_of_methodNamed B.named
  have hlocks := B.notSynchronized
  subst hsz
  have hD := hD0.self (sz := s.heap.size)
  generalize hAe : va_A [(m0, .inr (4, [.ref m1, .ref m2, .int (nI kn), .ref m3, .ref m4, .ref m5, .int (nI ln), .int th, .long hs])), (m1, .inl (cI, 228, .inl gs)), (m2, .inl (cI, 684, .inl gp)), (m3, .inl (cI, 228, .inl gl)), (m4, .inl (cZ, 2, .inl gk)), (m5, .inl (cI, 60, .inl fx))] s.heap.size = A at hD ⊢
  have hA : ∀ q : Nat, s.heap.size ≤ q → A q := fun q h => by rw [← hAe]; exact Or.inr h
  have hS : va_S A s.heap s.heap [] := va_S.rf
  have in4 : ∀ w ∈ u_ws RX5 TX5 9, w ∈ wsX5_gain := by decide +kernel
  have fl7 := hts (.fieldLink RX5 7 "TowerShadesModel" "s" "[I") (by decide +kernel)
  have hl := lv_entry ([.ref m0, .int (nI q)]) (n := 2) (Nat.le_of_ble_eq_true rfl)
  rw [lg_entry_eq]
  generalize (lg_sl ([.ref m0, .int (nI q)]) ++ List.replicate (2 - (lg_sl ([.ref m0, .int (nI q)])).length) Slot.unset).toArray = ls at hl ⊢
  have hl : lv_has ls 2 [(0, .ref m0), (1, .int (nI q))] := hl
  have hR1 : pRs (pCo gs) 114 q (114 + 108) = nI hz := by rw [pRs_hi 114 hq (by omega), pCo_hi (by omega)]; exact hH
  have hR2 : pRs (pCo gs) 114 q 109 = nI mv := by rw [pRs_lo 114 (by omega), pCo_lo (by omega)]; exact hM
  have hr3 : pRM gs hz mv q ≤ 3 := by unfold pRM; repeat (first | split | omega)
  refine lv_aload_n hx hb dX5_gain_0 rfl (lv_at hl 0 rfl) ?_
  refine lv_iload_n hx hb dX5_gain_1 rfl (lv_at hl 1 rfl) ?_
  refine z_ci (va_runV (As := [.int (nI q)]) (rest := []) ⟨hx, hb, hml, hown, hts⟩ (c_X5_reason l D cI cZ cL (m0 := m0) (m1 := m1) (m2 := m2) (m3 := m3) (m4 := m4) (m5 := m5) (gs := gs) (gp := gp) (gl := gl) (gk := gk) (fx := fx) (kn := kn) (ln := ln) (th := th) (hs := hs) (q := q) (hz := hz) (mv := mv) (hq := by omega) (hhz := by omega) (hmv := by omega) (hH := hH) (hM := hM)) (cwV 1 hts gX5_gain_X5_reason rfl rfl rfl (by decide +kernel) ⟨Nat.le_of_ble_eq_true rfl, Nat.le_of_ble_eq_true rfl⟩) (z_preV hK (hP.sub [0, 1, 2, 3, 4, 5] rfl) 0 4 rfl rfl) rfl rfl hl.1 rfl (lv_room (Nat.le_of_ble_eq_true rfl)) dX5_gain_2 ⟨Nat.le_of_ble_eq_true rfl, Nat.le_of_ble_eq_true rfl⟩) ?_
  refine z_if_le (tgt := 12) (P := pRM gs hz mv q = 0) hx hb dX5_gain_5 (by decide) ((nI_le0 (by omega)).trans (by omega)) (fun c5 => ?_) (fun c5 => ?_)
  · skip
    refine lv_aload_n hx hb dX5_gain_12 rfl (lv_at hl 0 rfl) ?_
    refine z_cmv (wr := []) (ws' := [(m0, .inr (4, [.ref m1, .ref m2, .int (nI kn), .ref m3, .ref m4, .ref m5, .int (nI ln), .int th, .long hs])), (m1, .inl (cI, 228, .inl (pCo gs))), (m2, .inl (cI, 684, .inl gp)), (m3, .inl (cI, 228, .inl gl)), (m4, .inl (cZ, 2, .inl gk)), (m5, .inl (cI, 60, .inl fx))]) (va_runV (As := []) (rest := []) ⟨hx, hb, hml, hown, hts⟩ (c_X5_copies l D cI cZ cL _ (m0 := m0) (m1 := m1) (m2 := m2) (m3 := m3) (m4 := m4) (m5 := m5) (gs := gs) (gp := gp) (gl := gl) (gk := gk) (fx := fx) (kn := kn) (ln := ln) (th := th) (hs := hs)) (cwV 0 hts gX5_gain_X5_copies rfl rfl rfl (by decide +kernel) ⟨Nat.le_of_ble_eq_true rfl, Nat.le_of_ble_eq_true rfl⟩) (z_preMV hK (hP.sub [0, 1, 2, 3, 4, 5] rfl) (hD.sub [0, 1, 2, 3, 4, 5] (by decide) rfl) 0 4 rfl rfl) rfl rfl hl.1 rfl (lv_room (Nat.le_of_ble_eq_true rfl)) dX5_gain_13 ⟨Nat.le_of_ble_eq_true rfl, Nat.le_of_ble_eq_true rfl⟩) hP hD hS hA [0, 1, 2, 3, 4, 5] [] [0, 1, 2, 3, 4, 5] rfl rfl (by decide) (by decide) rfl rfl (by decide) (fun H locs hP hD hS => ?_)
    refine lv_aload_n hx hb dX5_gain_16 rfl (lv_at hl 0 rfl) ?_
    refine lv_bipush (v := 114) hx hb dX5_gain_17 (by decide) ?_
    refine lv_iload_n hx hb dX5_gain_19 rfl (lv_at hl 1 rfl) ?_
    refine z_cmv (wr := []) (ws' := [(m0, .inr (4, [.ref m1, .ref m2, .int (nI kn), .ref m3, .ref m4, .ref m5, .int (nI ln), .int th, .long hs])), (m1, .inl (cI, 228, .inl (pRs (pCo gs) 114 q))), (m2, .inl (cI, 684, .inl gp)), (m3, .inl (cI, 228, .inl gl)), (m4, .inl (cZ, 2, .inl gk)), (m5, .inl (cI, 60, .inl fx))]) (va_runV (As := [.int 114, .int (nI q)]) (rest := []) ⟨hx, hb, hml, hown, hts⟩ (c_X5_raises l D cI cZ cL _ (m0 := m0) (m1 := m1) (m2 := m2) (m3 := m3) (m4 := m4) (m5 := m5) (gs := (pCo gs)) (gp := gp) (gl := gl) (gk := gk) (fx := fx) (kn := kn) (ln := ln) (th := th) (hs := hs) (P := 114) (q := q) (hpp := by omega) (hq := by omega)) (cwV 2 hts gX5_gain_X5_raises rfl rfl rfl (by decide +kernel) ⟨Nat.le_of_ble_eq_true rfl, Nat.le_of_ble_eq_true rfl⟩) (z_preMV hK (hP.sub [0, 1, 2, 3, 4, 5] rfl) (hD.sub [0, 1, 2, 3, 4, 5] (by decide) rfl) 0 4 rfl rfl) rfl rfl hl.1 rfl (lv_room (Nat.le_of_ble_eq_true rfl)) dX5_gain_20 ⟨Nat.le_of_ble_eq_true rfl, Nat.le_of_ble_eq_true rfl⟩) hP hD hS hA [0, 1, 2, 3, 4, 5] [] [0, 1, 2, 3, 4, 5] rfl rfl (by decide) (by decide) rfl rfl (by decide) (fun H locs hP hD hS => ?_)
    refine lv_aload_n hx hb dX5_gain_23 rfl (lv_at hl 0 rfl) ?_
    refine lv_bipush (v := 114) hx hb dX5_gain_24 (by decide) ?_
    refine lv_aload_n hx hb dX5_gain_26 rfl (lv_at hl 0 rfl) ?_
    refine va_get (D := D) (ci := 4) (v := .ref m1) (C := RX5) (T := TX5) (N := 9) hx hb hts in4 hown hK hP 0 rfl rfl 0 (by decide) fl7 (fun _ h9 => h9) rfl dX5_gain_27 ?_
    refine lv_bipush (v := 109) hx hb dX5_gain_30 (by decide) ?_
    refine z_iald hx hb hK hP 1 0 rfl rfl (k := 109) (rfl) (by omega) (by decide) dX5_gain_32 ?_
    refine z_top (y := nI mv) hR2 ?_
    refine z_ci (va_runV (As := [.int 114, .int (nI mv)]) (rest := []) ⟨hx, hb, hml, hown, hts⟩ (c_X5_payment l D cI cZ cL (m0 := m0) (m1 := m1) (m2 := m2) (m3 := m3) (m4 := m4) (m5 := m5) (gs := (pRs (pCo gs) 114 q)) (gp := gp) (gl := gl) (gk := gk) (fx := fx) (kn := kn) (ln := ln) (th := th) (hs := hs) (P := 114) (pl := mv) (hz := hz) (hpp := by omega) (hpl := by omega) (hhz := by omega) (hHP := hR1)) (cwV 2 hts gX5_gain_X5_payment rfl rfl rfl (by decide +kernel) ⟨Nat.le_of_ble_eq_true rfl, Nat.le_of_ble_eq_true rfl⟩) (z_preV hK (hP.sub [0, 1, 2, 3, 4, 5] rfl) 0 4 rfl rfl) rfl rfl hl.1 rfl (lv_room (Nat.le_of_ble_eq_true rfl)) dX5_gain_33 ⟨Nat.le_of_ble_eq_true rfl, Nat.le_of_ble_eq_true rfl⟩) ?_
    refine lv_aload_n hx hb dX5_gain_36 rfl (lv_at hl 0 rfl) ?_
    refine lv_bipush (v := 114) hx hb dX5_gain_37 (by decide) ?_
    refine lv_iconst (v := 1) hx hb dX5_gain_39 (by decide) ?_
    refine lv_aload_n hx hb dX5_gain_40 rfl (lv_at hl 0 rfl) ?_
    refine va_get (D := D) (ci := 4) (v := .ref m1) (C := RX5) (T := TX5) (N := 9) hx hb hts in4 hown hK hP 0 rfl rfl 0 (by decide) fl7 (fun _ h9 => h9) rfl dX5_gain_41 ?_
    refine lv_bipush (v := 109) hx hb dX5_gain_44 (by decide) ?_
    refine z_iald hx hb hK hP 1 0 rfl rfl (k := 109) (rfl) (by omega) (by decide) dX5_gain_46 ?_
    refine z_top (y := nI mv) hR2 ?_
    refine z_isub (v := nI (1 - mv)) hx hb dX5_gain_47 (pk_sub (a := 1) (b := mv) (by omega)) ?_
    refine z_ci (va_runV (As := [.int 114, .int (nI (1 - mv))]) (rest := [.int (pPM (pRs (pCo gs) 114 q) 114 hz mv)]) ⟨hx, hb, hml, hown, hts⟩ (c_X5_payment l D cI cZ cL (m0 := m0) (m1 := m1) (m2 := m2) (m3 := m3) (m4 := m4) (m5 := m5) (gs := (pRs (pCo gs) 114 q)) (gp := gp) (gl := gl) (gk := gk) (fx := fx) (kn := kn) (ln := ln) (th := th) (hs := hs) (P := 114) (pl := (1 - mv)) (hz := hz) (hpp := by omega) (hpl := by omega) (hhz := by omega) (hHP := hR1)) (cwV 2 hts gX5_gain_X5_payment rfl rfl rfl (by decide +kernel) ⟨Nat.le_of_ble_eq_true rfl, Nat.le_of_ble_eq_true rfl⟩) (z_preV hK (hP.sub [0, 1, 2, 3, 4, 5] rfl) 0 4 rfl rfl) rfl rfl hl.1 rfl (lv_room (Nat.le_of_ble_eq_true rfl)) dX5_gain_48 ⟨Nat.le_of_ble_eq_true rfl, Nat.le_of_ble_eq_true rfl⟩) ?_
    refine z_isub (v := ((pPM (pRs (pCo gs) 114 q) 114 hz mv) - (pPM (pRs (pCo gs) 114 q) 114 hz (1 - mv)))) hx hb dX5_gain_51 (rfl) ?_
    have hW9 : ([(m0, .inr (4, [.ref m1, .ref m2, .int (nI kn), .ref m3, .ref m4, .ref m5, .int (nI ln), .int th, .long hs])), (m1, .inl (cI, 228, .inl (pRs (pCo gs) 114 q))), (m2, .inl (cI, 684, .inl gp)), (m3, .inl (cI, 228, .inl gl)), (m4, .inl (cZ, 2, .inl gk)), (m5, .inl (cI, 60, .inl fx))] : va_W) = [(m0, .inr (4, [.ref m1, .ref m2, .int (nI kn), .ref m3, .ref m4, .ref m5, .int (nI ln), .int th, .long hs])), (m1, .inl (cI, 228, .inl (pGw gs hz mv q))), (m2, .inl (cI, 684, .inl gp)), (m3, .inl (cI, 228, .inl gl)), (m4, .inl (cZ, 2, .inl gk)), (m5, .inl (cI, 60, .inl fx))] := by simp [pGw, c5]
    rw [hW9] at hP hD
    have hP9 : va_P D vwCl [(m0, .inr (4, [.ref m1, .ref m2, .int (nI kn), .ref m3, .ref m4, .ref m5, .int (nI ln), .int th, .long hs])), (m1, .inl (cI, 228, .inl (pGw gs hz mv q))), (m2, .inl (cI, 684, .inl gp)), (m3, .inl (cI, 228, .inl gl)), (m4, .inl (cZ, 2, .inl gk)), (m5, .inl (cI, 60, .inl fx))] _ := hP
    have hD9 : va_D A [(m0, .inr (4, [.ref m1, .ref m2, .int (nI kn), .ref m3, .ref m4, .ref m5, .int (nI ln), .int th, .long hs])), (m1, .inl (cI, 228, .inl (pGw gs hz mv q))), (m2, .inl (cI, 684, .inl gp)), (m3, .inl (cI, 228, .inl gl)), (m4, .inl (cZ, 2, .inl gk)), (m5, .inl (cI, 60, .inl fx))] := hD
    subst hAe
    exact z_miret hx hb hr hlocks dX5_gain_52 (by simp [pGa, c5]) hP9 hD9 hS
  · skip
    refine lv_sipush (v := (-999)) hx hb dX5_gain_8 (by decide) ?_
    have hW9 : ([(m0, .inr (4, [.ref m1, .ref m2, .int (nI kn), .ref m3, .ref m4, .ref m5, .int (nI ln), .int th, .long hs])), (m1, .inl (cI, 228, .inl gs)), (m2, .inl (cI, 684, .inl gp)), (m3, .inl (cI, 228, .inl gl)), (m4, .inl (cZ, 2, .inl gk)), (m5, .inl (cI, 60, .inl fx))] : va_W) = [(m0, .inr (4, [.ref m1, .ref m2, .int (nI kn), .ref m3, .ref m4, .ref m5, .int (nI ln), .int th, .long hs])), (m1, .inl (cI, 228, .inl (pGw gs hz mv q))), (m2, .inl (cI, 684, .inl gp)), (m3, .inl (cI, 228, .inl gl)), (m4, .inl (cZ, 2, .inl gk)), (m5, .inl (cI, 60, .inl fx))] := by simp [pGw, c5]
    rw [hW9] at hP hD
    have hP9 : va_P D vwCl [(m0, .inr (4, [.ref m1, .ref m2, .int (nI kn), .ref m3, .ref m4, .ref m5, .int (nI ln), .int th, .long hs])), (m1, .inl (cI, 228, .inl (pGw gs hz mv q))), (m2, .inl (cI, 684, .inl gp)), (m3, .inl (cI, 228, .inl gl)), (m4, .inl (cZ, 2, .inl gk)), (m5, .inl (cI, 60, .inl fx))] _ := hP
    have hD9 : va_D A [(m0, .inr (4, [.ref m1, .ref m2, .int (nI kn), .ref m3, .ref m4, .ref m5, .int (nI ln), .int th, .long hs])), (m1, .inl (cI, 228, .inl (pGw gs hz mv q))), (m2, .inl (cI, 684, .inl gp)), (m3, .inl (cI, 228, .inl gl)), (m4, .inl (cZ, 2, .inl gk)), (m5, .inl (cI, 60, .inl fx))] := hD
    subst hAe
    exact z_miret hx hb hr hlocks dX5_gain_11 (by simp [pGa, c5]) hP9 hD9 hS

set_option maxHeartbeats 4000000 in
set_option maxRecDepth 100000 in
theorem c_X5_ifRaised_bad (l : Launch) (D : va_G) (cI cZ cL : ClassId) (sz : Nat) (m0 : Nat) (m1 : Nat) (m2 : Nat) (m3 : Nat) (m4 : Nat) (m5 : Nat) (gs : Nat → Int32) (gp : Nat → Int32) (gl : Nat → Int32) (gk : Nat → Int32) (fx : Nat → Int32) (kn : Nat) (ln : Nat) (th : Int32) (hs : Int64) (p0 : Int32) (hbad : (decide (0 ≤ p0) && decide (p0 ≤ 35)) = false) : Met l yX5_ifRaised wsX5_ifRaised ({ frames := 2, cells := 0, slots := 0, locals := 42 }) (va_Pc [.ref m0, .int p0] (zM D cI cZ cL [(m0, .inr (4, [.ref m1, .ref m2, .int (nI kn), .ref m3, .ref m4, .ref m5, .int (nI ln), .int th, .long hs])), (m1, .inl (cI, 228, .inl gs)), (m2, .inl (cI, 684, .inl gp)), (m3, .inl (cI, 228, .inl gl)), (m4, .inl (cZ, 2, .inl gk)), (m5, .inl (cI, 60, .inl fx))] sz)) (zQmi D 0 [(m0, .inr (4, [.ref m1, .ref m2, .int (nI kn), .ref m3, .ref m4, .ref m5, .int (nI ln), .int th, .long hs])), (m1, .inl (cI, 228, .inl gs)), (m2, .inl (cI, 684, .inl gp)), (m3, .inl (cI, 228, .inl gl)), (m4, .inl (cZ, 2, .inl gk)), (m5, .inl (cI, 60, .inl fx))] [(m0, .inr (4, [.ref m1, .ref m2, .int (nI kn), .ref m3, .ref m4, .ref m5, .int (nI ln), .int (nI 1), .long hs])), (m1, .inl (cI, 228, .inl gs)), (m2, .inl (cI, 684, .inl gp)), (m3, .inl (cI, 228, .inl gl)), (m4, .inl (cZ, 2, .inl gk)), (m5, .inl (cI, 60, .inl fx))] sz) 0 0 (va_A [(m0, .inr (4, [.ref m1, .ref m2, .int (nI kn), .ref m3, .ref m4, .ref m5, .int (nI ln), .int th, .long hs])), (m1, .inl (cI, 228, .inl gs)), (m2, .inl (cI, 684, .inl gp)), (m3, .inl (cI, 228, .inl gl)), (m4, .inl (cZ, 2, .inl gk)), (m5, .inl (cI, 60, .inl fx))] sz) := by
  refine Met.ofW (cc := cX5_ifRaised) (maxL := 2) (ret := (some .int)) (by decide) rfl ?_
  intro p e s m args below meth c s₁ B hml hv
  obtain ⟨rfl, hsz, ⟨hP, hK⟩, hD0⟩ := hv
  have hx := B.exec
  have hb := B.bytes
  have hr := B.returns
  have hts := atoms_spec (ws := wsX5_ifRaised) B.pre
  have hown : s.vm.findClass RX5 = some m.cls := findClass_of_methodNamed B.named
  have hlocks := B.notSynchronized
  subst hsz
  have hD := hD0.self (sz := s.heap.size)
  generalize hAe : va_A [(m0, .inr (4, [.ref m1, .ref m2, .int (nI kn), .ref m3, .ref m4, .ref m5, .int (nI ln), .int th, .long hs])), (m1, .inl (cI, 228, .inl gs)), (m2, .inl (cI, 684, .inl gp)), (m3, .inl (cI, 228, .inl gl)), (m4, .inl (cZ, 2, .inl gk)), (m5, .inl (cI, 60, .inl fx))] s.heap.size = A at hD ⊢
  have hA : ∀ q : Nat, s.heap.size ≤ q → A q := fun q h => by rw [← hAe]; exact Or.inr h
  have hS : va_S A s.heap s.heap [] := va_S.rf
  have hl := lv_entry ([.ref m0, .int p0]) (n := 2) (Nat.le_of_ble_eq_true rfl)
  rw [lg_entry_eq]
  generalize (lg_sl ([.ref m0, .int p0]) ++ List.replicate (2 - (lg_sl ([.ref m0, .int p0])).length) Slot.unset).toArray = ls at hl ⊢
  have hl : lv_has ls 2 [(0, .ref m0), (1, .int p0)] := hl
  refine lv_aload_n hx hb dX5_ifRaised_0 rfl (lv_at hl 0 rfl) ?_
  refine lv_iload_n hx hb dX5_ifRaised_1 rfl (lv_at hl 1 rfl) ?_
  refine z_ci (va_runS (As := [.int p0]) (rest := [.ref m0]) ⟨hx, hb, hml, hown, hts⟩ (c_X5_isSquare l (v := p0)) (va_cwS 1 hts gX5_ifRaised_X5_isSquare rfl rfl rfl (by decide +kernel) ⟨Nat.le_of_ble_eq_true rfl, Nat.le_of_ble_eq_true rfl⟩) z_preS rfl rfl hl.1 rfl (lv_room (Nat.le_of_ble_eq_true rfl)) dX5_ifRaised_2 ⟨Nat.le_of_ble_eq_true rfl, Nat.le_of_ble_eq_true rfl⟩) ?_
  refine z_top (y := 0) (by rw [hbad]; rfl) ?_
  refine z_if_eq (tgt := 12) (P := True) hx hb dX5_ifRaised_5 (by decide) (by decide) (fun c5 => ?_) (fun c5 => (show False from c5 trivial).elim)
  refine lv_iconst (v := 1) hx hb dX5_ifRaised_12 (by decide) ?_
  refine z_cmi (wr := []) (ws' := [(m0, .inr (4, [.ref m1, .ref m2, .int (nI kn), .ref m3, .ref m4, .ref m5, .int (nI ln), .int (nI 1), .long hs])), (m1, .inl (cI, 228, .inl gs)), (m2, .inl (cI, 684, .inl gp)), (m3, .inl (cI, 228, .inl gl)), (m4, .inl (cZ, 2, .inl gk)), (m5, .inl (cI, 60, .inl fx))]) (va_runV (As := [.int 1]) (rest := []) ⟨hx, hb, hml, hown, hts⟩ (c_X5_throwsAt l D cI cZ cL _ (m0 := m0) (m1 := m1) (m2 := m2) (m3 := m3) (m4 := m4) (m5 := m5) (gs := gs) (gp := gp) (gl := gl) (gk := gk) (fx := fx) (kn := kn) (ln := ln) (th := th) (hs := hs) (pc0 := 1) (hpc := by omega)) (cwV 1 hts gX5_ifRaised_X5_throwsAt rfl rfl rfl (by decide +kernel) ⟨Nat.le_of_ble_eq_true rfl, Nat.le_of_ble_eq_true rfl⟩) (z_preMV hK (hP.sub [0, 1, 2, 3, 4, 5] rfl) (hD.sub [0, 1, 2, 3, 4, 5] (by decide) rfl) 0 4 rfl rfl) rfl rfl hl.1 rfl (lv_room (Nat.le_of_ble_eq_true rfl)) dX5_ifRaised_13 ⟨Nat.le_of_ble_eq_true rfl, Nat.le_of_ble_eq_true rfl⟩) hP hD hS hA [0, 1, 2, 3, 4, 5] [] [0, 1, 2, 3, 4, 5] rfl rfl (by decide) (by decide) rfl rfl (by decide) (fun H locs hP hD hS => ?_)
  refine z_top (y := 1) (by decide) ?_
  refine z_if_eq (tgt := 23) (P := False) hx hb dX5_ifRaised_16 (by decide) (by decide) (fun c16 => (show False from c16).elim) (fun c16 => ?_)
  refine lv_iconst (v := 0) hx hb dX5_ifRaised_19 (by decide) ?_
  refine lv_goto (tgt := 28) hx hb dX5_ifRaised_20 (by decide) ?_
  have hP9 : va_P D vwCl [(m0, .inr (4, [.ref m1, .ref m2, .int (nI kn), .ref m3, .ref m4, .ref m5, .int (nI ln), .int (nI 1), .long hs])), (m1, .inl (cI, 228, .inl gs)), (m2, .inl (cI, 684, .inl gp)), (m3, .inl (cI, 228, .inl gl)), (m4, .inl (cZ, 2, .inl gk)), (m5, .inl (cI, 60, .inl fx))] _ := hP
  have hD9 : va_D A [(m0, .inr (4, [.ref m1, .ref m2, .int (nI kn), .ref m3, .ref m4, .ref m5, .int (nI ln), .int (nI 1), .long hs])), (m1, .inl (cI, 228, .inl gs)), (m2, .inl (cI, 684, .inl gp)), (m3, .inl (cI, 228, .inl gl)), (m4, .inl (cZ, 2, .inl gk)), (m5, .inl (cI, 60, .inl fx))] := hD
  subst hAe
  exact z_miret hx hb hr hlocks dX5_ifRaised_28 (rfl) hP9 hD9 hS

set_option maxHeartbeats 4000000 in
set_option maxRecDepth 100000 in
theorem c_X5_ifRaised_ok (l : Launch) (D : va_G) (cI cZ cL : ClassId) (sz : Nat) (m0 : Nat) (m1 : Nat) (m2 : Nat) (m3 : Nat) (m4 : Nat) (m5 : Nat) (gs : Nat → Int32) (gp : Nat → Int32) (gl : Nat → Int32) (gk : Nat → Int32) (fx : Nat → Int32) (kn : Nat) (ln : Nat) (th : Int32) (hs : Int64) (q : Nat) (hz : Nat) (mv : Nat) (hq : q < 36) (hhz : hz < 12) (hmv : mv < 2) (hH : gs 108 = nI hz) (hM : gs 109 = nI mv) : Met l yX5_ifRaised wsX5_ifRaised ({ frames := 7, cells := 0, slots := 0, locals := 166 }) (va_Pc [.ref m0, .int (nI q)] (zM D cI cZ cL [(m0, .inr (4, [.ref m1, .ref m2, .int (nI kn), .ref m3, .ref m4, .ref m5, .int (nI ln), .int th, .long hs])), (m1, .inl (cI, 228, .inl gs)), (m2, .inl (cI, 684, .inl gp)), (m3, .inl (cI, 228, .inl gl)), (m4, .inl (cZ, 2, .inl gk)), (m5, .inl (cI, 60, .inl fx))] sz)) (zQmi D (pGa gs hz mv q) [(m0, .inr (4, [.ref m1, .ref m2, .int (nI kn), .ref m3, .ref m4, .ref m5, .int (nI ln), .int th, .long hs])), (m1, .inl (cI, 228, .inl gs)), (m2, .inl (cI, 684, .inl gp)), (m3, .inl (cI, 228, .inl gl)), (m4, .inl (cZ, 2, .inl gk)), (m5, .inl (cI, 60, .inl fx))] [(m0, .inr (4, [.ref m1, .ref m2, .int (nI kn), .ref m3, .ref m4, .ref m5, .int (nI ln), .int (nI 0), .long hs])), (m1, .inl (cI, 228, .inl (pGw gs hz mv q))), (m2, .inl (cI, 684, .inl gp)), (m3, .inl (cI, 228, .inl gl)), (m4, .inl (cZ, 2, .inl gk)), (m5, .inl (cI, 60, .inl fx))] sz) 0 0 (va_A [(m0, .inr (4, [.ref m1, .ref m2, .int (nI kn), .ref m3, .ref m4, .ref m5, .int (nI ln), .int th, .long hs])), (m1, .inl (cI, 228, .inl gs)), (m2, .inl (cI, 684, .inl gp)), (m3, .inl (cI, 228, .inl gl)), (m4, .inl (cZ, 2, .inl gk)), (m5, .inl (cI, 60, .inl fx))] sz) := by
  refine Met.ofW (cc := cX5_ifRaised) (maxL := 2) (ret := (some .int)) (by decide) rfl ?_
  intro p e s m args below meth c s₁ B hml hv
  obtain ⟨rfl, hsz, ⟨hP, hK⟩, hD0⟩ := hv
  have hx := B.exec
  have hb := B.bytes
  have hr := B.returns
  have hts := atoms_spec (ws := wsX5_ifRaised) B.pre
  have hown : s.vm.findClass RX5 = some m.cls := findClass_of_methodNamed B.named
  have hlocks := B.notSynchronized
  subst hsz
  have hD := hD0.self (sz := s.heap.size)
  generalize hAe : va_A [(m0, .inr (4, [.ref m1, .ref m2, .int (nI kn), .ref m3, .ref m4, .ref m5, .int (nI ln), .int th, .long hs])), (m1, .inl (cI, 228, .inl gs)), (m2, .inl (cI, 684, .inl gp)), (m3, .inl (cI, 228, .inl gl)), (m4, .inl (cZ, 2, .inl gk)), (m5, .inl (cI, 60, .inl fx))] s.heap.size = A at hD ⊢
  have hA : ∀ q : Nat, s.heap.size ≤ q → A q := fun q h => by rw [← hAe]; exact Or.inr h
  have hS : va_S A s.heap s.heap [] := va_S.rf
  have hl := lv_entry ([.ref m0, .int (nI q)]) (n := 2) (Nat.le_of_ble_eq_true rfl)
  rw [lg_entry_eq]
  generalize (lg_sl ([.ref m0, .int (nI q)]) ++ List.replicate (2 - (lg_sl ([.ref m0, .int (nI q)])).length) Slot.unset).toArray = ls at hl ⊢
  have hl : lv_has ls 2 [(0, .ref m0), (1, .int (nI q))] := hl
  refine lv_aload_n hx hb dX5_ifRaised_0 rfl (lv_at hl 0 rfl) ?_
  refine lv_iload_n hx hb dX5_ifRaised_1 rfl (lv_at hl 1 rfl) ?_
  refine z_ci (va_runS (As := [.int (nI q)]) (rest := [.ref m0]) ⟨hx, hb, hml, hown, hts⟩ (c_X5_isSquare l (v := nI q)) (va_cwS 1 hts gX5_ifRaised_X5_isSquare rfl rfl rfl (by decide +kernel) ⟨Nat.le_of_ble_eq_true rfl, Nat.le_of_ble_eq_true rfl⟩) z_preS rfl rfl hl.1 rfl (lv_room (Nat.le_of_ble_eq_true rfl)) dX5_ifRaised_2 ⟨Nat.le_of_ble_eq_true rfl, Nat.le_of_ble_eq_true rfl⟩) ?_
  refine z_top (y := 1) (by rw [sq_ok q hq]; rfl) ?_
  refine z_if_eq (tgt := 12) (P := False) hx hb dX5_ifRaised_5 (by decide) (by decide) (fun c5 => (show False from c5).elim) (fun c5 => ?_)
  refine lv_iconst (v := 0) hx hb dX5_ifRaised_8 (by decide) ?_
  refine lv_goto (tgt := 13) hx hb dX5_ifRaised_9 (by decide) ?_
  refine z_cmi (wr := []) (ws' := [(m0, .inr (4, [.ref m1, .ref m2, .int (nI kn), .ref m3, .ref m4, .ref m5, .int (nI ln), .int (nI 0), .long hs])), (m1, .inl (cI, 228, .inl gs)), (m2, .inl (cI, 684, .inl gp)), (m3, .inl (cI, 228, .inl gl)), (m4, .inl (cZ, 2, .inl gk)), (m5, .inl (cI, 60, .inl fx))]) (va_runV (As := [.int 0]) (rest := []) ⟨hx, hb, hml, hown, hts⟩ (c_X5_throwsAt l D cI cZ cL _ (m0 := m0) (m1 := m1) (m2 := m2) (m3 := m3) (m4 := m4) (m5 := m5) (gs := gs) (gp := gp) (gl := gl) (gk := gk) (fx := fx) (kn := kn) (ln := ln) (th := th) (hs := hs) (pc0 := 0) (hpc := by omega)) (cwV 1 hts gX5_ifRaised_X5_throwsAt rfl rfl rfl (by decide +kernel) ⟨Nat.le_of_ble_eq_true rfl, Nat.le_of_ble_eq_true rfl⟩) (z_preMV hK (hP.sub [0, 1, 2, 3, 4, 5] rfl) (hD.sub [0, 1, 2, 3, 4, 5] (by decide) rfl) 0 4 rfl rfl) rfl rfl hl.1 rfl (lv_room (Nat.le_of_ble_eq_true rfl)) dX5_ifRaised_13 ⟨Nat.le_of_ble_eq_true rfl, Nat.le_of_ble_eq_true rfl⟩) hP hD hS hA [0, 1, 2, 3, 4, 5] [] [0, 1, 2, 3, 4, 5] rfl rfl (by decide) (by decide) rfl rfl (by decide) (fun H locs hP hD hS => ?_)
  refine z_top (y := 0) (by decide) ?_
  refine z_if_eq (tgt := 23) (P := True) hx hb dX5_ifRaised_16 (by decide) (by decide) (fun c16 => ?_) (fun c16 => (show False from c16 trivial).elim)
  refine lv_aload_n hx hb dX5_ifRaised_23 rfl (lv_at hl 0 rfl) ?_
  refine lv_iload_n hx hb dX5_ifRaised_24 rfl (lv_at hl 1 rfl) ?_
  refine z_cmi (wr := []) (ws' := [(m0, .inr (4, [.ref m1, .ref m2, .int (nI kn), .ref m3, .ref m4, .ref m5, .int (nI ln), .int (nI 0), .long hs])), (m1, .inl (cI, 228, .inl (pGw gs hz mv q))), (m2, .inl (cI, 684, .inl gp)), (m3, .inl (cI, 228, .inl gl)), (m4, .inl (cZ, 2, .inl gk)), (m5, .inl (cI, 60, .inl fx))]) (va_runV (As := [.int (nI q)]) (rest := []) ⟨hx, hb, hml, hown, hts⟩ (c_X5_gain l D cI cZ cL _ (m0 := m0) (m1 := m1) (m2 := m2) (m3 := m3) (m4 := m4) (m5 := m5) (gs := gs) (gp := gp) (gl := gl) (gk := gk) (fx := fx) (kn := kn) (ln := ln) (th := nI 0) (hs := hs) (q := q) (hz := hz) (mv := mv) (hq := by omega) (hhz := by omega) (hmv := by omega) (hH := hH) (hM := hM)) (cwV 1 hts gX5_ifRaised_X5_gain rfl rfl rfl (by decide +kernel) ⟨Nat.le_of_ble_eq_true rfl, Nat.le_of_ble_eq_true rfl⟩) (z_preMV hK (hP.sub [0, 1, 2, 3, 4, 5] rfl) (hD.sub [0, 1, 2, 3, 4, 5] (by decide) rfl) 0 4 rfl rfl) rfl rfl hl.1 rfl (lv_room (Nat.le_of_ble_eq_true rfl)) dX5_ifRaised_25 ⟨Nat.le_of_ble_eq_true rfl, Nat.le_of_ble_eq_true rfl⟩) hP hD hS hA [0, 1, 2, 3, 4, 5] [] [0, 1, 2, 3, 4, 5] rfl rfl (by decide) (by decide) rfl rfl (by decide) (fun H locs hP hD hS => ?_)
  have hP9 : va_P D vwCl [(m0, .inr (4, [.ref m1, .ref m2, .int (nI kn), .ref m3, .ref m4, .ref m5, .int (nI ln), .int (nI 0), .long hs])), (m1, .inl (cI, 228, .inl (pGw gs hz mv q))), (m2, .inl (cI, 684, .inl gp)), (m3, .inl (cI, 228, .inl gl)), (m4, .inl (cZ, 2, .inl gk)), (m5, .inl (cI, 60, .inl fx))] _ := hP
  have hD9 : va_D A [(m0, .inr (4, [.ref m1, .ref m2, .int (nI kn), .ref m3, .ref m4, .ref m5, .int (nI ln), .int (nI 0), .long hs])), (m1, .inl (cI, 228, .inl (pGw gs hz mv q))), (m2, .inl (cI, 684, .inl gp)), (m3, .inl (cI, 228, .inl gl)), (m4, .inl (cZ, 2, .inl gk)), (m5, .inl (cI, 60, .inl fx))] := hD
  subst hAe
  exact z_miret hx hb hr hlocks dX5_ifRaised_28 (rfl) hP9 hD9 hS

set_option maxHeartbeats 4000000 in
set_option maxRecDepth 100000 in
/-- the best square -/
theorem c_X5_best (l : Launch) (D : va_G) (cI cZ cL : ClassId) (sz : Nat) (m0 : Nat) (m1 : Nat) (m2 : Nat) (m3 : Nat) (m4 : Nat) (m5 : Nat) (gs : Nat → Int32) (gp : Nat → Int32) (gl : Nat → Int32) (gk : Nat → Int32) (fx : Nat → Int32) (kn : Nat) (ln : Nat) (th : Int32) (hs : Int64) (hz : Nat) (mv : Nat) (hhz : hz < 12) (hmv : mv < 2) (hH : gs 108 = nI hz) (hM : gs 109 = nI mv) : Met l yX5_best wsX5_best ({ frames := 7, cells := 0, slots := 0, locals := 166 }) (va_Pc [.ref m0] (zM D cI cZ cL [(m0, .inr (4, [.ref m1, .ref m2, .int (nI kn), .ref m3, .ref m4, .ref m5, .int (nI ln), .int th, .long hs])), (m1, .inl (cI, 228, .inl gs)), (m2, .inl (cI, 684, .inl gp)), (m3, .inl (cI, 228, .inl gl)), (m4, .inl (cZ, 2, .inl gk)), (m5, .inl (cI, 60, .inl fx))] sz)) (zQmi D (be (fun k => pGa (pBw gs hz mv k) hz mv k) 36) [(m0, .inr (4, [.ref m1, .ref m2, .int (nI kn), .ref m3, .ref m4, .ref m5, .int (nI ln), .int th, .long hs])), (m1, .inl (cI, 228, .inl gs)), (m2, .inl (cI, 684, .inl gp)), (m3, .inl (cI, 228, .inl gl)), (m4, .inl (cZ, 2, .inl gk)), (m5, .inl (cI, 60, .inl fx))] [(m0, .inr (4, [.ref m1, .ref m2, .int (nI kn), .ref m3, .ref m4, .ref m5, .int (nI ln), .int th, .long hs])), (m1, .inl (cI, 228, .inl (pBw gs hz mv 36))), (m2, .inl (cI, 684, .inl gp)), (m3, .inl (cI, 228, .inl gl)), (m4, .inl (cZ, 2, .inl gk)), (m5, .inl (cI, 60, .inl fx))] sz) 0 0 (va_A [(m0, .inr (4, [.ref m1, .ref m2, .int (nI kn), .ref m3, .ref m4, .ref m5, .int (nI ln), .int th, .long hs])), (m1, .inl (cI, 228, .inl gs)), (m2, .inl (cI, 684, .inl gp)), (m3, .inl (cI, 228, .inl gl)), (m4, .inl (cZ, 2, .inl gk)), (m5, .inl (cI, 60, .inl fx))] sz) := by
  refine Met.ofW (cc := cX5_best) (maxL := 5) (ret := (some .int)) (by decide) rfl ?_
  intro p e s m args below meth c s₁ B hml hv
  obtain ⟨rfl, hsz, ⟨hP, hK⟩, hD0⟩ := hv
  have hx := B.exec
  have hb := B.bytes
  have hr := B.returns
  have hts := atoms_spec (ws := wsX5_best) B.pre
  have hown : s.vm.findClass RX5 = some m.cls := findClass_of_methodNamed B.named
  have hlocks := B.notSynchronized
  subst hsz
  have hD := hD0.self (sz := s.heap.size)
  generalize hAe : va_A [(m0, .inr (4, [.ref m1, .ref m2, .int (nI kn), .ref m3, .ref m4, .ref m5, .int (nI ln), .int th, .long hs])), (m1, .inl (cI, 228, .inl gs)), (m2, .inl (cI, 684, .inl gp)), (m3, .inl (cI, 228, .inl gl)), (m4, .inl (cZ, 2, .inl gk)), (m5, .inl (cI, 60, .inl fx))] s.heap.size = A at hD ⊢
  have hA : ∀ q : Nat, s.heap.size ≤ q → A q := fun q h => by rw [← hAe]; exact Or.inr h
  have hS : va_S A s.heap s.heap [] := va_S.rf
  have hl := lv_entry ([.ref m0]) (n := 5) (Nat.le_of_ble_eq_true rfl)
  rw [lg_entry_eq]
  generalize (lg_sl ([.ref m0]) ++ List.replicate (5 - (lg_sl ([.ref m0])).length) Slot.unset).toArray = ls at hl ⊢
  have hl : lv_has ls 5 [(0, .ref m0)] := hl
  refine lv_iconst (v := (-1)) hx hb dX5_best_0 (by decide) ?_
  refine lv_istore_n (lv' := [(1, .int (-1)), (0, .ref m0)]) hx hb dX5_best_1 rfl hl (by decide) rfl (fun ls hl => ?_)
  refine lv_sipush (v := (-999)) hx hb dX5_best_2 (by decide) ?_
  refine lv_istore_n (lv' := [(2, .int (-999)), (1, .int (-1)), (0, .ref m0)]) hx hb dX5_best_5 rfl hl (by decide) rfl (fun ls hl => ?_)
  refine lv_iconst (v := 0) hx hb dX5_best_6 (by decide) ?_
  refine lv_istore_n (lv' := [(3, .int 0), (2, .int (-999)), (1, .int (-1)), (0, .ref m0)]) hx hb dX5_best_7 rfl hl (by decide) rfl (fun ls hl => ?_)
  have hW9 : ([(m0, .inr (4, [.ref m1, .ref m2, .int (nI kn), .ref m3, .ref m4, .ref m5, .int (nI ln), .int th, .long hs])), (m1, .inl (cI, 228, .inl gs)), (m2, .inl (cI, 684, .inl gp)), (m3, .inl (cI, 228, .inl gl)), (m4, .inl (cZ, 2, .inl gk)), (m5, .inl (cI, 60, .inl fx))] : va_W) = [(m0, .inr (4, [.ref m1, .ref m2, .int (nI kn), .ref m3, .ref m4, .ref m5, .int (nI ln), .int th, .long hs])), (m1, .inl (cI, 228, .inl (pBw gs hz mv 0))), (m2, .inl (cI, 684, .inl gp)), (m3, .inl (cI, 228, .inl gl)), (m4, .inl (cZ, 2, .inl gk)), (m5, .inl (cI, 60, .inl fx))] := rfl
  rw [hW9] at hP hD
  refine z_upH (N := 36) (i0 := 0) (fun i H locs ls => va_P D vwCl [(m0, .inr (4, [.ref m1, .ref m2, .int (nI kn), .ref m3, .ref m4, .ref m5, .int (nI ln), .int th, .long hs])), (m1, .inl (cI, 228, .inl (pBw gs hz mv i))), (m2, .inl (cI, 684, .inl gp)), (m3, .inl (cI, 228, .inl gl)), (m4, .inl (cZ, 2, .inl gk)), (m5, .inl (cI, 60, .inl fx))] H ∧ va_D A [(m0, .inr (4, [.ref m1, .ref m2, .int (nI kn), .ref m3, .ref m4, .ref m5, .int (nI ln), .int th, .long hs])), (m1, .inl (cI, 228, .inl (pBw gs hz mv i))), (m2, .inl (cI, 684, .inl gp)), (m3, .inl (cI, 228, .inl gl)), (m4, .inl (cZ, 2, .inl gk)), (m5, .inl (cI, 60, .inl fx))] ∧ va_S A s.heap H locs ∧ lv_has ls 5 [(0, .ref m0), (1, .int (be (fun k => pGa (pBw gs hz mv k) hz mv k) i)), (2, .int (mo (fun k => pGa (pBw gs hz mv k) hz mv k) i)), (3, .int (nI i))]) (by omega) (⟨hP, hD, hS, lv_sub hl [3, 2, 1, 0] rfl⟩) (fun i H locs ls hi8 hI ih8 => ?_)
  obtain ⟨hP, hD, hS, hl⟩ := hI
  refine lv_iload_n hx hb dX5_best_8 rfl (lv_at hl 3 rfl) ?_
  refine lv_bipush (v := 36) hx hb dX5_best_9 (by decide) ?_
  refine z_icmp_ge (tgt := 52) (P := 36 ≤ i) hx hb dX5_best_11 (by decide) (nI_leI (a := 36) (b := i) (by omega) (by omega)) (fun c11 => ?_) (fun c11 => ?_)
  · skip
    obtain rfl : i = 36 := by omega
    refine lv_iload_n hx hb dX5_best_52 rfl (lv_at hl 1 rfl) ?_
    have hP9 : va_P D vwCl [(m0, .inr (4, [.ref m1, .ref m2, .int (nI kn), .ref m3, .ref m4, .ref m5, .int (nI ln), .int th, .long hs])), (m1, .inl (cI, 228, .inl (pBw gs hz mv 36))), (m2, .inl (cI, 684, .inl gp)), (m3, .inl (cI, 228, .inl gl)), (m4, .inl (cZ, 2, .inl gk)), (m5, .inl (cI, 60, .inl fx))] _ := hP
    have hD9 : va_D A [(m0, .inr (4, [.ref m1, .ref m2, .int (nI kn), .ref m3, .ref m4, .ref m5, .int (nI ln), .int th, .long hs])), (m1, .inl (cI, 228, .inl (pBw gs hz mv 36))), (m2, .inl (cI, 684, .inl gp)), (m3, .inl (cI, 228, .inl gl)), (m4, .inl (cZ, 2, .inl gk)), (m5, .inl (cI, 60, .inl fx))] := hD
    subst hAe
    exact z_miret hx hb hr hlocks dX5_best_53 (rfl) hP9 hD9 hS
  · skip
    refine lv_aload_n hx hb dX5_best_14 rfl (lv_at hl 0 rfl) ?_
    refine lv_iload_n hx hb dX5_best_15 rfl (lv_at hl 3 rfl) ?_
    refine z_cmi (wr := []) (ws' := [(m0, .inr (4, [.ref m1, .ref m2, .int (nI kn), .ref m3, .ref m4, .ref m5, .int (nI ln), .int th, .long hs])), (m1, .inl (cI, 228, .inl (pGw (pBw gs hz mv i) hz mv i))), (m2, .inl (cI, 684, .inl gp)), (m3, .inl (cI, 228, .inl gl)), (m4, .inl (cZ, 2, .inl gk)), (m5, .inl (cI, 60, .inl fx))]) (va_runV (As := [.int (nI i)]) (rest := []) ⟨hx, hb, hml, hown, hts⟩ (c_X5_gain l D cI cZ cL _ (m0 := m0) (m1 := m1) (m2 := m2) (m3 := m3) (m4 := m4) (m5 := m5) (gs := (pBw gs hz mv i)) (gp := gp) (gl := gl) (gk := gk) (fx := fx) (kn := kn) (ln := ln) (th := th) (hs := hs) (q := i) (hz := hz) (mv := mv) (hq := by omega) (hhz := by omega) (hmv := by omega) (hH := by rw [pBw_lo gs hz mv i (by omega)]; exact hH) (hM := by rw [pBw_lo gs hz mv i (by omega)]; exact hM)) (cwV 1 hts gX5_best_X5_gain rfl rfl rfl (by decide +kernel) ⟨Nat.le_of_ble_eq_true rfl, Nat.le_of_ble_eq_true rfl⟩) (z_preMV hK (hP.sub [0, 1, 2, 3, 4, 5] rfl) (hD.sub [0, 1, 2, 3, 4, 5] (by decide) rfl) 0 4 rfl rfl) rfl rfl hl.1 rfl (lv_room (Nat.le_of_ble_eq_true rfl)) dX5_best_16 ⟨Nat.le_of_ble_eq_true rfl, Nat.le_of_ble_eq_true rfl⟩) hP hD hS hA [0, 1, 2, 3, 4, 5] [] [0, 1, 2, 3, 4, 5] rfl rfl (by decide) (by decide) rfl rfl (by decide) (fun H locs hP hD hS => ?_)
    refine lv_istore (lv' := [(4, .int (pGa (pBw gs hz mv i) hz mv i)), (0, .ref m0), (1, .int (be (fun k => pGa (pBw gs hz mv k) hz mv k) i)), (2, .int (mo (fun k => pGa (pBw gs hz mv k) hz mv k) i)), (3, .int (nI i))]) hx hb dX5_best_19 hl (by decide) rfl (fun ls hl => ?_)
    refine lv_iload hx hb dX5_best_21 (lv_at hl 0 rfl) ?_
    refine lv_iload_n hx hb dX5_best_23 rfl (lv_at hl 3 rfl) ?_
    refine z_icmp_le (tgt := 31) (P := (pGa (pBw gs hz mv i) hz mv i) ≤ (mo (fun k => pGa (pBw gs hz mv k) hz mv k) i)) hx hb dX5_best_24 (by decide) (Iff.rfl) (fun c24 => ?_) (fun c24 => ?_)
    · skip
      refine lv_iload_n hx hb dX5_best_31 rfl (lv_at hl 2 rfl) ?_
      refine z_top (y := (be (fun k => pGa (pBw gs hz mv k) hz mv k) (i + 1))) (by simp [be, c24]) ?_
      refine lv_istore_n (lv' := [(1, .int (be (fun k => pGa (pBw gs hz mv k) hz mv k) (i + 1))), (4, .int (pGa (pBw gs hz mv i) hz mv i)), (0, .ref m0), (2, .int (mo (fun k => pGa (pBw gs hz mv k) hz mv k) i)), (3, .int (nI i))]) hx hb dX5_best_32 rfl hl (by decide) rfl (fun ls hl => ?_)
      refine lv_iload hx hb dX5_best_33 (lv_at hl 1 rfl) ?_
      refine lv_iload_n hx hb dX5_best_35 rfl (lv_at hl 3 rfl) ?_
      refine z_icmp_le (tgt := 44) (P := (pGa (pBw gs hz mv i) hz mv i) ≤ (mo (fun k => pGa (pBw gs hz mv k) hz mv k) i)) hx hb dX5_best_36 (by decide) (Iff.rfl) (fun c36 => ?_) (fun c36 => ?_)
      · skip
        refine lv_iload_n hx hb dX5_best_44 rfl (lv_at hl 3 rfl) ?_
        refine z_top (y := (mo (fun k => pGa (pBw gs hz mv k) hz mv k) (i + 1))) (by simp [mo, c36]) ?_
        refine lv_istore_n (lv' := [(2, .int (mo (fun k => pGa (pBw gs hz mv k) hz mv k) (i + 1))), (1, .int (be (fun k => pGa (pBw gs hz mv k) hz mv k) (i + 1))), (4, .int (pGa (pBw gs hz mv i) hz mv i)), (0, .ref m0), (3, .int (nI i))]) hx hb dX5_best_45 rfl hl (by decide) rfl (fun ls hl => ?_)
        refine lv_iinc (v := nI (i + 1)) (lv' := [(3, .int (nI (i + 1))), (2, .int (mo (fun k => pGa (pBw gs hz mv k) hz mv k) (i + 1))), (1, .int (be (fun k => pGa (pBw gs hz mv k) hz mv k) (i + 1))), (4, .int (pGa (pBw gs hz mv i) hz mv i)), (0, .ref m0)]) hx hb dX5_best_46 hl (k := 4) rfl (nI_1 (i)) (by decide) rfl (fun ls hl => ?_)
        refine lv_goto (tgt := 8) hx hb dX5_best_49 (by decide) ?_
        exact ih8 (by omega) _ _ _ (⟨hP, hD, hS, lv_sub hl [4, 2, 1, 0] rfl⟩)
      · skip
        refine lv_iload hx hb dX5_best_39 (lv_at hl 1 rfl) ?_
        refine lv_goto (tgt := 45) hx hb dX5_best_41 (by decide) ?_
        refine z_top (y := (mo (fun k => pGa (pBw gs hz mv k) hz mv k) (i + 1))) (by simp [mo, c36]) ?_
        refine lv_istore_n (lv' := [(2, .int (mo (fun k => pGa (pBw gs hz mv k) hz mv k) (i + 1))), (1, .int (be (fun k => pGa (pBw gs hz mv k) hz mv k) (i + 1))), (4, .int (pGa (pBw gs hz mv i) hz mv i)), (0, .ref m0), (3, .int (nI i))]) hx hb dX5_best_45 rfl hl (by decide) rfl (fun ls hl => ?_)
        refine lv_iinc (v := nI (i + 1)) (lv' := [(3, .int (nI (i + 1))), (2, .int (mo (fun k => pGa (pBw gs hz mv k) hz mv k) (i + 1))), (1, .int (be (fun k => pGa (pBw gs hz mv k) hz mv k) (i + 1))), (4, .int (pGa (pBw gs hz mv i) hz mv i)), (0, .ref m0)]) hx hb dX5_best_46 hl (k := 4) rfl (nI_1 (i)) (by decide) rfl (fun ls hl => ?_)
        refine lv_goto (tgt := 8) hx hb dX5_best_49 (by decide) ?_
        exact ih8 (by omega) _ _ _ (⟨hP, hD, hS, lv_sub hl [4, 2, 1, 0] rfl⟩)
    · skip
      refine lv_iload_n hx hb dX5_best_27 rfl (lv_at hl 4 rfl) ?_
      refine lv_goto (tgt := 32) hx hb dX5_best_28 (by decide) ?_
      refine z_top (y := (be (fun k => pGa (pBw gs hz mv k) hz mv k) (i + 1))) (by simp [be, c24]) ?_
      refine lv_istore_n (lv' := [(1, .int (be (fun k => pGa (pBw gs hz mv k) hz mv k) (i + 1))), (4, .int (pGa (pBw gs hz mv i) hz mv i)), (0, .ref m0), (2, .int (mo (fun k => pGa (pBw gs hz mv k) hz mv k) i)), (3, .int (nI i))]) hx hb dX5_best_32 rfl hl (by decide) rfl (fun ls hl => ?_)
      refine lv_iload hx hb dX5_best_33 (lv_at hl 1 rfl) ?_
      refine lv_iload_n hx hb dX5_best_35 rfl (lv_at hl 3 rfl) ?_
      refine z_icmp_le (tgt := 44) (P := (pGa (pBw gs hz mv i) hz mv i) ≤ (mo (fun k => pGa (pBw gs hz mv k) hz mv k) i)) hx hb dX5_best_36 (by decide) (Iff.rfl) (fun c36 => ?_) (fun c36 => ?_)
      · skip
        refine lv_iload_n hx hb dX5_best_44 rfl (lv_at hl 3 rfl) ?_
        refine z_top (y := (mo (fun k => pGa (pBw gs hz mv k) hz mv k) (i + 1))) (by simp [mo, c36]) ?_
        refine lv_istore_n (lv' := [(2, .int (mo (fun k => pGa (pBw gs hz mv k) hz mv k) (i + 1))), (1, .int (be (fun k => pGa (pBw gs hz mv k) hz mv k) (i + 1))), (4, .int (pGa (pBw gs hz mv i) hz mv i)), (0, .ref m0), (3, .int (nI i))]) hx hb dX5_best_45 rfl hl (by decide) rfl (fun ls hl => ?_)
        refine lv_iinc (v := nI (i + 1)) (lv' := [(3, .int (nI (i + 1))), (2, .int (mo (fun k => pGa (pBw gs hz mv k) hz mv k) (i + 1))), (1, .int (be (fun k => pGa (pBw gs hz mv k) hz mv k) (i + 1))), (4, .int (pGa (pBw gs hz mv i) hz mv i)), (0, .ref m0)]) hx hb dX5_best_46 hl (k := 4) rfl (nI_1 (i)) (by decide) rfl (fun ls hl => ?_)
        refine lv_goto (tgt := 8) hx hb dX5_best_49 (by decide) ?_
        exact ih8 (by omega) _ _ _ (⟨hP, hD, hS, lv_sub hl [4, 2, 1, 0] rfl⟩)
      · skip
        refine lv_iload hx hb dX5_best_39 (lv_at hl 1 rfl) ?_
        refine lv_goto (tgt := 45) hx hb dX5_best_41 (by decide) ?_
        refine z_top (y := (mo (fun k => pGa (pBw gs hz mv k) hz mv k) (i + 1))) (by simp [mo, c36]) ?_
        refine lv_istore_n (lv' := [(2, .int (mo (fun k => pGa (pBw gs hz mv k) hz mv k) (i + 1))), (1, .int (be (fun k => pGa (pBw gs hz mv k) hz mv k) (i + 1))), (4, .int (pGa (pBw gs hz mv i) hz mv i)), (0, .ref m0), (3, .int (nI i))]) hx hb dX5_best_45 rfl hl (by decide) rfl (fun ls hl => ?_)
        refine lv_iinc (v := nI (i + 1)) (lv' := [(3, .int (nI (i + 1))), (2, .int (mo (fun k => pGa (pBw gs hz mv k) hz mv k) (i + 1))), (1, .int (be (fun k => pGa (pBw gs hz mv k) hz mv k) (i + 1))), (4, .int (pGa (pBw gs hz mv i) hz mv i)), (0, .ref m0)]) hx hb dX5_best_46 hl (k := 4) rfl (nI_1 (i)) (by decide) rfl (fun ls hl => ?_)
        refine lv_goto (tgt := 8) hx hb dX5_best_49 (by decide) ?_
        exact ih8 (by omega) _ _ _ (⟨hP, hD, hS, lv_sub hl [4, 2, 1, 0] rfl⟩)

set_option maxHeartbeats 4000000 in
set_option maxRecDepth 100000 in
theorem c_X5_bestSquare_ok (l : Launch) (D : va_G) (cI cZ cL : ClassId) (sz : Nat) (m0 : Nat) (m1 : Nat) (m2 : Nat) (m3 : Nat) (m4 : Nat) (m5 : Nat) (gs : Nat → Int32) (gp : Nat → Int32) (gl : Nat → Int32) (gk : Nat → Int32) (fx : Nat → Int32) (kn : Nat) (ln : Nat) (th : Int32) (hs : Int64) (hz : Nat) (mv : Nat) (hhz : hz < 12) (hmv : mv < 2) (hH : gs 108 = nI hz) (hM : gs 109 = nI mv) : Met l yX5_bestSquare wsX5_bestSquare ({ frames := 8, cells := 0, slots := 0, locals := 190 }) (va_Pc [.ref m0] (zM D cI cZ cL [(m0, .inr (4, [.ref m1, .ref m2, .int (nI kn), .ref m3, .ref m4, .ref m5, .int (nI ln), .int th, .long hs])), (m1, .inl (cI, 228, .inl gs)), (m2, .inl (cI, 684, .inl gp)), (m3, .inl (cI, 228, .inl gl)), (m4, .inl (cZ, 2, .inl gk)), (m5, .inl (cI, 60, .inl fx))] sz)) (zQmi D (be (fun k => pGa (pBw gs hz mv k) hz mv k) 36) [(m0, .inr (4, [.ref m1, .ref m2, .int (nI kn), .ref m3, .ref m4, .ref m5, .int (nI ln), .int th, .long hs])), (m1, .inl (cI, 228, .inl gs)), (m2, .inl (cI, 684, .inl gp)), (m3, .inl (cI, 228, .inl gl)), (m4, .inl (cZ, 2, .inl gk)), (m5, .inl (cI, 60, .inl fx))] [(m0, .inr (4, [.ref m1, .ref m2, .int (nI kn), .ref m3, .ref m4, .ref m5, .int (nI ln), .int (nI 0), .long hs])), (m1, .inl (cI, 228, .inl (pBw gs hz mv 36))), (m2, .inl (cI, 684, .inl gp)), (m3, .inl (cI, 228, .inl gl)), (m4, .inl (cZ, 2, .inl gk)), (m5, .inl (cI, 60, .inl fx))] sz) 0 0 (va_A [(m0, .inr (4, [.ref m1, .ref m2, .int (nI kn), .ref m3, .ref m4, .ref m5, .int (nI ln), .int th, .long hs])), (m1, .inl (cI, 228, .inl gs)), (m2, .inl (cI, 684, .inl gp)), (m3, .inl (cI, 228, .inl gl)), (m4, .inl (cZ, 2, .inl gk)), (m5, .inl (cI, 60, .inl fx))] sz) := by
  refine Met.ofW (cc := cX5_bestSquare) (maxL := 1) (ret := (some .int)) (by decide) rfl ?_
  intro p e s m args below meth c s₁ B hml hv
  obtain ⟨rfl, hsz, ⟨hP, hK⟩, hD0⟩ := hv
  have hx := B.exec
  have hb := B.bytes
  have hr := B.returns
  have hts := atoms_spec (ws := wsX5_bestSquare) B.pre
  have hown : s.vm.findClass RX5 = some m.cls := findClass_of_methodNamed B.named
  have hlocks := B.notSynchronized
  subst hsz
  have hD := hD0.self (sz := s.heap.size)
  generalize hAe : va_A [(m0, .inr (4, [.ref m1, .ref m2, .int (nI kn), .ref m3, .ref m4, .ref m5, .int (nI ln), .int th, .long hs])), (m1, .inl (cI, 228, .inl gs)), (m2, .inl (cI, 684, .inl gp)), (m3, .inl (cI, 228, .inl gl)), (m4, .inl (cZ, 2, .inl gk)), (m5, .inl (cI, 60, .inl fx))] s.heap.size = A at hD ⊢
  have hA : ∀ q : Nat, s.heap.size ≤ q → A q := fun q h => by rw [← hAe]; exact Or.inr h
  have hS : va_S A s.heap s.heap [] := va_S.rf
  have in4 : ∀ w ∈ u_ws RX5 TX5 9, w ∈ wsX5_bestSquare := by decide +kernel
  have fl26 := hts (.fieldLink RX5 26 "TowerShadesModel" "thrown" "I") (by decide +kernel)
  have hl := lv_entry ([.ref m0]) (n := 1) (Nat.le_of_ble_eq_true rfl)
  rw [lg_entry_eq]
  generalize (lg_sl ([.ref m0]) ++ List.replicate (1 - (lg_sl ([.ref m0])).length) Slot.unset).toArray = ls at hl ⊢
  have hl : lv_has ls 1 [(0, .ref m0)] := hl
  refine lv_aload_n hx hb dX5_bestSquare_0 rfl (lv_at hl 0 rfl) ?_
  refine lv_iconst (v := 0) hx hb dX5_bestSquare_1 (by decide) ?_
  refine va_put (D := D) (ci := 4) (v := .int 0) (ty := .int) (C := RX5) (T := TX5) (N := 9) hx hb hts in4 tyX5 tyX5_ok nmX5 hown hK hP hD hS 0 rfl rfl 7 (by decide) fl26 (fun _ h9 => h9) rfl (by decide +kernel) rfl rfl (Nat.le_of_ble_eq_true rfl) dX5_bestSquare_2 (fun H locs hP hD hS => ?_)
  have hP : va_P D vwCl [(m0, .inr (4, [.ref m1, .ref m2, .int (nI kn), .ref m3, .ref m4, .ref m5, .int (nI ln), .int 0, .long hs])), (m1, .inl (cI, 228, .inl gs)), (m2, .inl (cI, 684, .inl gp)), (m3, .inl (cI, 228, .inl gl)), (m4, .inl (cZ, 2, .inl gk)), (m5, .inl (cI, 60, .inl fx))] _ := hP
  have hD : va_D A [(m0, .inr (4, [.ref m1, .ref m2, .int (nI kn), .ref m3, .ref m4, .ref m5, .int (nI ln), .int 0, .long hs])), (m1, .inl (cI, 228, .inl gs)), (m2, .inl (cI, 684, .inl gp)), (m3, .inl (cI, 228, .inl gl)), (m4, .inl (cZ, 2, .inl gk)), (m5, .inl (cI, 60, .inl fx))] := hD
  refine lv_aload_n hx hb dX5_bestSquare_5 rfl (lv_at hl 0 rfl) ?_
  refine z_cmi (wr := []) (ws' := [(m0, .inr (4, [.ref m1, .ref m2, .int (nI kn), .ref m3, .ref m4, .ref m5, .int (nI ln), .int 0, .long hs])), (m1, .inl (cI, 228, .inl (pBw gs hz mv 36))), (m2, .inl (cI, 684, .inl gp)), (m3, .inl (cI, 228, .inl gl)), (m4, .inl (cZ, 2, .inl gk)), (m5, .inl (cI, 60, .inl fx))]) (va_runV (As := []) (rest := []) ⟨hx, hb, hml, hown, hts⟩ (c_X5_best l D cI cZ cL _ (m0 := m0) (m1 := m1) (m2 := m2) (m3 := m3) (m4 := m4) (m5 := m5) (gs := gs) (gp := gp) (gl := gl) (gk := gk) (fx := fx) (kn := kn) (ln := ln) (th := 0) (hs := hs) (hz := hz) (mv := mv) (hhz := by omega) (hmv := by omega) (hH := hH) (hM := hM)) (cwV 0 hts gX5_bestSquare_X5_best rfl rfl rfl (by decide +kernel) ⟨Nat.le_of_ble_eq_true rfl, Nat.le_of_ble_eq_true rfl⟩) (z_preMV hK (hP.sub [0, 1, 2, 3, 4, 5] rfl) (hD.sub [0, 1, 2, 3, 4, 5] (by decide) rfl) 0 4 rfl rfl) rfl rfl hl.1 rfl (lv_room (Nat.le_of_ble_eq_true rfl)) dX5_bestSquare_6 ⟨Nat.le_of_ble_eq_true rfl, Nat.le_of_ble_eq_true rfl⟩) hP hD hS hA [0, 1, 2, 3, 4, 5] [] [0, 1, 2, 3, 4, 5] rfl rfl (by decide) (by decide) rfl rfl (by decide) (fun H locs hP hD hS => ?_)
  have hW9 : ([(m0, .inr (4, [.ref m1, .ref m2, .int (nI kn), .ref m3, .ref m4, .ref m5, .int (nI ln), .int 0, .long hs])), (m1, .inl (cI, 228, .inl (pBw gs hz mv 36))), (m2, .inl (cI, 684, .inl gp)), (m3, .inl (cI, 228, .inl gl)), (m4, .inl (cZ, 2, .inl gk)), (m5, .inl (cI, 60, .inl fx))] : va_W) = [(m0, .inr (4, [.ref m1, .ref m2, .int (nI kn), .ref m3, .ref m4, .ref m5, .int (nI ln), .int (nI 0), .long hs])), (m1, .inl (cI, 228, .inl (pBw gs hz mv 36))), (m2, .inl (cI, 684, .inl gp)), (m3, .inl (cI, 228, .inl gl)), (m4, .inl (cZ, 2, .inl gk)), (m5, .inl (cI, 60, .inl fx))] := rfl
  rw [hW9] at hP hD
  have hP9 : va_P D vwCl [(m0, .inr (4, [.ref m1, .ref m2, .int (nI kn), .ref m3, .ref m4, .ref m5, .int (nI ln), .int (nI 0), .long hs])), (m1, .inl (cI, 228, .inl (pBw gs hz mv 36))), (m2, .inl (cI, 684, .inl gp)), (m3, .inl (cI, 228, .inl gl)), (m4, .inl (cZ, 2, .inl gk)), (m5, .inl (cI, 60, .inl fx))] _ := hP
  have hD9 : va_D A [(m0, .inr (4, [.ref m1, .ref m2, .int (nI kn), .ref m3, .ref m4, .ref m5, .int (nI ln), .int (nI 0), .long hs])), (m1, .inl (cI, 228, .inl (pBw gs hz mv 36))), (m2, .inl (cI, 684, .inl gp)), (m3, .inl (cI, 228, .inl gl)), (m4, .inl (cZ, 2, .inl gk)), (m5, .inl (cI, 60, .inl fx))] := hD
  subst hAe
  exact z_miret hx hb hr hlocks dX5_bestSquare_9 (rfl) hP9 hD9 hS

set_option maxHeartbeats 4000000 in
set_option maxRecDepth 100000 in
/-- the hash goes on -/
theorem c_X5_adds (l : Launch) (D : va_G) (cI cZ cL : ClassId) (sz : Nat) (m0 : Nat) (m1 : Nat) (m2 : Nat) (m3 : Nat) (m4 : Nat) (m5 : Nat) (gs : Nat → Int32) (gp : Nat → Int32) (gl : Nat → Int32) (gk : Nat → Int32) (fx : Nat → Int32) (kn : Nat) (ln : Nat) (th : Int32) (hs : Int64) (lv0 : Int64) : Met l yX5_adds wsX5_adds ({ frames := 0, cells := 0, slots := 0, locals := 0 }) (va_Pc [.ref m0, .long lv0] (zM D cI cZ cL [(m0, .inr (4, [.ref m1, .ref m2, .int (nI kn), .ref m3, .ref m4, .ref m5, .int (nI ln), .int th, .long hs])), (m1, .inl (cI, 228, .inl gs)), (m2, .inl (cI, 684, .inl gp)), (m3, .inl (cI, 228, .inl gl)), (m4, .inl (cZ, 2, .inl gk)), (m5, .inl (cI, 60, .inl fx))] sz)) (zQmv D [(m0, .inr (4, [.ref m1, .ref m2, .int (nI kn), .ref m3, .ref m4, .ref m5, .int (nI ln), .int th, .long hs])), (m1, .inl (cI, 228, .inl gs)), (m2, .inl (cI, 684, .inl gp)), (m3, .inl (cI, 228, .inl gl)), (m4, .inl (cZ, 2, .inl gk)), (m5, .inl (cI, 60, .inl fx))] [(m0, .inr (4, [.ref m1, .ref m2, .int (nI kn), .ref m3, .ref m4, .ref m5, .int (nI ln), .int th, .long ((31 * hs) + lv0)])), (m1, .inl (cI, 228, .inl gs)), (m2, .inl (cI, 684, .inl gp)), (m3, .inl (cI, 228, .inl gl)), (m4, .inl (cZ, 2, .inl gk)), (m5, .inl (cI, 60, .inl fx))] sz) 0 0 (va_A [(m0, .inr (4, [.ref m1, .ref m2, .int (nI kn), .ref m3, .ref m4, .ref m5, .int (nI ln), .int th, .long hs])), (m1, .inl (cI, 228, .inl gs)), (m2, .inl (cI, 684, .inl gp)), (m3, .inl (cI, 228, .inl gl)), (m4, .inl (cZ, 2, .inl gk)), (m5, .inl (cI, 60, .inl fx))] sz) := by
  refine Met.ofW (cc := cX5_adds) (maxL := 3) (ret := none) (by decide) rfl ?_
  intro p e s m args below meth c s₁ B hml hv
  obtain ⟨rfl, hsz, ⟨hP, hK⟩, hD0⟩ := hv
  have hx := B.exec
  have hb := B.bytes
  have hr := B.returns
  have hts := atoms_spec (ws := wsX5_adds) B.pre
  have hown : s.vm.findClass RX5 = some m.cls := findClass_of_methodNamed B.named
  have hlocks := B.notSynchronized
  subst hsz
  have hD := hD0.self (sz := s.heap.size)
  generalize hAe : va_A [(m0, .inr (4, [.ref m1, .ref m2, .int (nI kn), .ref m3, .ref m4, .ref m5, .int (nI ln), .int th, .long hs])), (m1, .inl (cI, 228, .inl gs)), (m2, .inl (cI, 684, .inl gp)), (m3, .inl (cI, 228, .inl gl)), (m4, .inl (cZ, 2, .inl gk)), (m5, .inl (cI, 60, .inl fx))] s.heap.size = A at hD ⊢
  have hA : ∀ q : Nat, s.heap.size ≤ q → A q := fun q h => by rw [← hAe]; exact Or.inr h
  have hS : va_S A s.heap s.heap [] := va_S.rf
  have in4 : ∀ w ∈ u_ws RX5 TX5 9, w ∈ wsX5_adds := by decide +kernel
  have fl148 := hts (.fieldLink RX5 148 "TowerShadesModel" "hash" "J") (by decide +kernel)
  have hl := lv_entry ([.ref m0, .long lv0]) (n := 3) (Nat.le_of_ble_eq_true rfl)
  rw [lg_entry_eq]
  generalize (lg_sl ([.ref m0, .long lv0]) ++ List.replicate (3 - (lg_sl ([.ref m0, .long lv0])).length) Slot.unset).toArray = ls at hl ⊢
  have hl : lv_has ls 3 [(0, .ref m0), (1, .long lv0)] := hl
  refine lv_aload_n hx hb dX5_adds_0 rfl (lv_at hl 0 rfl) ?_
  refine lv_ldc2 (v := 31) hx hb hown (hts (.constantLong RX5 146 31) (by decide +kernel)) dX5_adds_1 ?_
  refine lv_aload_n hx hb dX5_adds_4 rfl (lv_at hl 0 rfl) ?_
  refine va_get (D := D) (ci := 4) (v := .long hs) (C := RX5) (T := TX5) (N := 9) hx hb hts in4 hown hK hP 0 rfl rfl 8 (by decide) fl148 (fun _ h9 => h9) rfl dX5_adds_5 ?_
  refine lv_lmul hx hb dX5_adds_8 ?_
  refine lv_lload_n hx hb dX5_adds_9 rfl (lv_at hl 1 rfl) ?_
  refine lv_ladd hx hb dX5_adds_10 ?_
  refine va_put (D := D) (ci := 4) (v := .long ((31 * hs) + lv0)) (ty := .long) (C := RX5) (T := TX5) (N := 9) hx hb hts in4 tyX5 tyX5_ok nmX5 hown hK hP hD hS 0 rfl rfl 8 (by decide) fl148 (fun _ h9 => h9) rfl (by decide +kernel) rfl rfl (Nat.le_of_ble_eq_true rfl) dX5_adds_11 (fun H locs hP hD hS => ?_)
  have hP : va_P D vwCl [(m0, .inr (4, [.ref m1, .ref m2, .int (nI kn), .ref m3, .ref m4, .ref m5, .int (nI ln), .int th, .long ((31 * hs) + lv0)])), (m1, .inl (cI, 228, .inl gs)), (m2, .inl (cI, 684, .inl gp)), (m3, .inl (cI, 228, .inl gl)), (m4, .inl (cZ, 2, .inl gk)), (m5, .inl (cI, 60, .inl fx))] _ := hP
  have hD : va_D A [(m0, .inr (4, [.ref m1, .ref m2, .int (nI kn), .ref m3, .ref m4, .ref m5, .int (nI ln), .int th, .long ((31 * hs) + lv0)])), (m1, .inl (cI, 228, .inl gs)), (m2, .inl (cI, 684, .inl gp)), (m3, .inl (cI, 228, .inl gl)), (m4, .inl (cZ, 2, .inl gk)), (m5, .inl (cI, 60, .inl fx))] := hD
  have hP9 : va_P D vwCl [(m0, .inr (4, [.ref m1, .ref m2, .int (nI kn), .ref m3, .ref m4, .ref m5, .int (nI ln), .int th, .long ((31 * hs) + lv0)])), (m1, .inl (cI, 228, .inl gs)), (m2, .inl (cI, 684, .inl gp)), (m3, .inl (cI, 228, .inl gl)), (m4, .inl (cZ, 2, .inl gk)), (m5, .inl (cI, 60, .inl fx))] _ := hP
  have hD9 : va_D A [(m0, .inr (4, [.ref m1, .ref m2, .int (nI kn), .ref m3, .ref m4, .ref m5, .int (nI ln), .int th, .long ((31 * hs) + lv0)])), (m1, .inl (cI, 228, .inl gs)), (m2, .inl (cI, 684, .inl gp)), (m3, .inl (cI, 228, .inl gl)), (m4, .inl (cZ, 2, .inl gk)), (m5, .inl (cI, 60, .inl fx))] := hD
  subst hAe
  exact z_mvret hx hb hr hlocks dX5_adds_14 hP9 hD9 hS
