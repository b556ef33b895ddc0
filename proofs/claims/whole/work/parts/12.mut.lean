set_option maxHeartbeats 4000000 in
set_option maxRecDepth 100000 in
/-- the place of what is thrown -/
theorem c_X5_throwsAt (l : Launch) (D : va_G) (cI cZ cL : ClassId) (sz : Nat) (m0 : Nat) (m1 : Nat) (m2 : Nat) (m3 : Nat) (m4 : Nat) (m5 : Nat) (gs : Nat → Int32) (gp : Nat → Int32) (gl : Nat → Int32) (gk : Nat → Int32) (fx : Nat → Int32) (kn : Nat) (ln : Nat) (th : Int32) (hs : Int64) (pc0 : Nat) (hpc : pc0 < 3) : Met l yX5_throwsAt wsX5_throwsAt ({ frames := 0, cells := 0, slots := 0, locals := 0 }) (va_Pc [.ref m0, .int (nI pc0)] (zM D cI cZ cL [(m0, .inr (4, [.ref m1, .ref m2, .int (nI kn), .ref m3, .ref m4, .ref m5, .int (nI ln), .int th, .long hs])), (m1, .inl (cI, 228, .inl gs)), (m2, .inl (cI, 684, .inl gp)), (m3, .inl (cI, 228, .inl gl)), (m4, .inl (cZ, 2, .inl gk)), (m5, .inl (cI, 60, .inl fx))] sz)) (zQmi D (zb (decide (0 < pc0))) [(m0, .inr (4, [.ref m1, .ref m2, .int (nI kn), .ref m3, .ref m4, .ref m5, .int (nI ln), .int th, .long hs])), (m1, .inl (cI, 228, .inl gs)), (m2, .inl (cI, 684, .inl gp)), (m3, .inl (cI, 228, .inl gl)), (m4, .inl (cZ, 2, .inl gk)), (m5, .inl (cI, 60, .inl fx))] [(m0, .inr (4, [.ref m1, .ref m2, .int (nI kn), .ref m3, .ref m4, .ref m5, .int (nI ln), .int (nI pc0), .long hs])), (m1, .inl (cI, 228, .inl gs)), (m2, .inl (cI, 684, .inl gp)), (m3, .inl (cI, 228, .inl gl)), (m4, .inl (cZ, 2, .inl gk)), (m5, .inl (cI, 60, .inl fx))] sz) 0 0 (va_A [(m0, .inr (4, [.ref m1, .ref m2, .int (nI kn), .ref m3, .ref m4, .ref m5, .int (nI ln), .int th, .long hs])), (m1, .inl (cI, 228, .inl gs)), (m2, .inl (cI, 684, .inl gp)), (m3, .inl (cI, 228, .inl gl)), (m4, .inl (cZ, 2, .inl gk)), (m5, .inl (cI, 60, .inl fx))] sz) := by
  refine Met.ofW (cc := cX5_throwsAt) (maxL := 2) (ret := (some .boolean)) (by decide) rfl ?_
  intro p e s m args below meth c s₁ B hml hv
  obtain ⟨rfl, hsz, ⟨hP, hK⟩, hD0⟩ := hv
  have hx := B.exec
  have hb := B.bytes
  have hr := B.returns
  have hts := atoms_spec (ws := wsX5_throwsAt) B.pre
  have hown : s.vm.findClass RX5 = some m.cls := findClass_of_methodNamed B.named
  have hlocks := B.notSynchronized
  subst hsz
  have hD := hD0.self (sz := s.heap.size)
  generalize hAe : va_A [(m0, .inr (4, [.ref m1, .ref m2, .int (nI kn), .ref m3, .ref m4, .ref m5, .int (nI ln), .int th, .long hs])), (m1, .inl (cI, 228, .inl gs)), (m2, .inl (cI, 684, .inl gp)), (m3, .inl (cI, 228, .inl gl)), (m4, .inl (cZ, 2, .inl gk)), (m5, .inl (cI, 60, .inl fx))] s.heap.size = A at hD ⊢
  have hA : ∀ q : Nat, s.heap.size ≤ q → A q := fun q h => by rw [← hAe]; exact Or.inr h
  have hS : va_S A s.heap s.heap [] := va_S.rf
  have in4 : ∀ w ∈ u_ws RX5 TX5 9, w ∈ wsX5_throwsAt := by decide +kernel
  have fl26 := hts (.fieldLink RX5 26 "TowerShadesModel" "thrown" "I") (by decide +kernel)
  have hl := lv_entry ([.ref m0, .int (nI pc0)]) (n := 2) (Nat.le_of_ble_eq_true rfl)
  rw [lg_entry_eq]
  generalize (lg_sl ([.ref m0, .int (nI pc0)]) ++ List.replicate (2 - (lg_sl ([.ref m0, .int (nI pc0)])).length) Slot.unset).toArray = ls at hl ⊢
  have hl : lv_has ls 2 [(0, .ref m0), (1, .int (nI pc0))] := hl
  refine lv_aload_n hx hb dX5_throwsAt_0 rfl (lv_at hl 0 rfl) ?_
  refine lv_iload_n hx hb dX5_throwsAt_1 rfl (lv_at hl 1 rfl) ?_
  refine va_put (D := D) (ci := 4) (v := .int (nI pc0)) (ty := .int) (C := RX5) (T := TX5) (N := 9) hx hb hts in4 tyX5 tyX5_ok nmX5 hown hK hP hD hS 0 rfl rfl 7 (by decide) fl26 (fun _ h9 => h9) rfl (by decide +kernel) rfl rfl (Nat.le_of_ble_eq_true rfl) dX5_throwsAt_2 (fun H locs hP hD hS => ?_)
  have hP : va_P D vwCl [(m0, .inr (4, [.ref m1, .ref m2, .int (nI kn), .ref m3, .ref m4, .ref m5, .int (nI ln), .int (nI pc0), .long hs])), (m1, .inl (cI, 228, .inl gs)), (m2, .inl (cI, 684, .inl gp)), (m3, .inl (cI, 228, .inl gl)), (m4, .inl (cZ, 2, .inl gk)), (m5, .inl (cI, 60, .inl fx))] _ := hP
  have hD : va_D A [(m0, .inr (4, [.ref m1, .ref m2, .int (nI kn), .ref m3, .ref m4, .ref m5, .int (nI ln), .int (nI pc0), .long hs])), (m1, .inl (cI, 228, .inl gs)), (m2, .inl (cI, 684, .inl gp)), (m3, .inl (cI, 228, .inl gl)), (m4, .inl (cZ, 2, .inl gk)), (m5, .inl (cI, 60, .inl fx))] := hD
  refine lv_iload_n hx hb dX5_throwsAt_5 rfl (lv_at hl 1 rfl) ?_
  refine z_if_le (tgt := 13) (P := ¬ 0 < pc0) hx hb dX5_throwsAt_6 (by decide) (nI_le0 (by omega)) (fun c6 => ?_) (fun c6 => ?_)
  · skip
    refine lv_iconst (v := 0) hx hb dX5_throwsAt_13 (by decide) ?_
    have hP9 : va_P D vwCl [(m0, .inr (4, [.ref m1, .ref m2, .int (nI kn), .ref m3, .ref m4, .ref m5, .int (nI ln), .int (nI pc0), .long hs])), (m1, .inl (cI, 228, .inl gs)), (m2, .inl (cI, 684, .inl gp)), (m3, .inl (cI, 228, .inl gl)), (m4, .inl (cZ, 2, .inl gk)), (m5, .inl (cI, 60, .inl fx))] _ := hP
    have hD9 : va_D A [(m0, .inr (4, [.ref m1, .ref m2, .int (nI kn), .ref m3, .ref m4, .ref m5, .int (nI ln), .int (nI pc0), .long hs])), (m1, .inl (cI, 228, .inl gs)), (m2, .inl (cI, 684, .inl gp)), (m3, .inl (cI, 228, .inl gl)), (m4, .inl (cZ, 2, .inl gk)), (m5, .inl (cI, 60, .inl fx))] := hD
    subst hAe
    exact z_mzret hx hb hr hlocks dX5_throwsAt_14 (by simp [zb, c6]) hP9 hD9 hS
  · skip
    replace c6 := Classical.not_not.mp c6
    refine lv_iconst (v := 1) hx hb dX5_throwsAt_9 (by decide) ?_
    refine lv_goto (tgt := 14) hx hb dX5_throwsAt_10 (by decide) ?_
    have hP9 : va_P D vwCl [(m0, .inr (4, [.ref m1, .ref m2, .int (nI kn), .ref m3, .ref m4, .ref m5, .int (nI ln), .int (nI pc0), .long hs])), (m1, .inl (cI, 228, .inl gs)), (m2, .inl (cI, 684, .inl gp)), (m3, .inl (cI, 228, .inl gl)), (m4, .inl (cZ, 2, .inl gk)), (m5, .inl (cI, 60, .inl fx))] _ := hP
    have hD9 : va_D A [(m0, .inr (4, [.ref m1, .ref m2, .int (nI kn), .ref m3, .ref m4, .ref m5, .int (nI ln), .int (nI pc0), .long hs])), (m1, .inl (cI, 228, .inl gs)), (m2, .inl (cI, 684, .inl gp)), (m3, .inl (cI, 228, .inl gl)), (m4, .inl (cZ, 2, .inl gk)), (m5, .inl (cI, 60, .inl fx))] := hD
    subst hAe
    exact z_mzret hx hb hr hlocks dX5_throwsAt_14 (by simp [zb, c6]) hP9 hD9 hS

set_option maxHeartbeats 4000000 in
set_option maxRecDepth 100000 in
/-- a state is saved -/
theorem c_X5_saves (l : Launch) (D : va_G) (cI cZ cL : ClassId) (sz : Nat) (m0 : Nat) (m1 : Nat) (m2 : Nat) (m3 : Nat) (m4 : Nat) (m5 : Nat) (gs : Nat → Int32) (gp : Nat → Int32) (gl : Nat → Int32) (gk : Nat → Int32) (fx : Nat → Int32) (kn : Nat) (ln : Nat) (th : Int32) (hs : Int64) (hkn : kn < 7) : Met l yX5_saves wsX5_saves ({ frames := 0, cells := 0, slots := 0, locals := 0 }) (va_Pc [.ref m0] (zM D cI cZ cL [(m0, .inr (4, [.ref m1, .ref m2, .int (nI kn), .ref m3, .ref m4, .ref m5, .int (nI ln), .int th, .long hs])), (m1, .inl (cI, 228, .inl gs)), (m2, .inl (cI, 684, .inl gp)), (m3, .inl (cI, 228, .inl gl)), (m4, .inl (cZ, 2, .inl gk)), (m5, .inl (cI, 60, .inl fx))] sz)) (zQmv D [(m0, .inr (4, [.ref m1, .ref m2, .int (nI kn), .ref m3, .ref m4, .ref m5, .int (nI ln), .int th, .long hs])), (m1, .inl (cI, 228, .inl gs)), (m2, .inl (cI, 684, .inl gp)), (m3, .inl (cI, 228, .inl gl)), (m4, .inl (cZ, 2, .inl gk)), (m5, .inl (cI, 60, .inl fx))] [(m0, .inr (4, [.ref m1, .ref m2, .int (nI (pKn kn + 1)), .ref m3, .ref m4, .ref m5, .int (nI ln), .int th, .long hs])), (m1, .inl (cI, 228, .inl gs)), (m2, .inl (cI, 684, .inl (pSv gs gp kn))), (m3, .inl (cI, 228, .inl gl)), (m4, .inl (cZ, 2, .inl gk)), (m5, .inl (cI, 60, .inl fx))] sz) 0 0 (va_A [(m0, .inr (4, [.ref m1, .ref m2, .int (nI kn), .ref m3, .ref m4, .ref m5, .int (nI ln), .int th, .long hs])), (m1, .inl (cI, 228, .inl gs)), (m2, .inl (cI, 684, .inl gp)), (m3, .inl (cI, 228, .inl gl)), (m4, .inl (cZ, 2, .inl gk)), (m5, .inl (cI, 60, .inl fx))] sz) := by
  refine Met.ofW (cc := cX5_saves) (maxL := 2) (ret := none) (by decide) rfl ?_
  intro p e s m args below meth c s₁ B hml hv
  obtain ⟨rfl, hsz, ⟨hP, hK⟩, hD0⟩ := hv
  have hx := B.exec
  have hb := B.bytes
  have hr := B.returns
  have hts := atoms_spec (ws := wsX5_saves) B.pre
  have hown : s.vm.findClass RX5 = some m.cls := findClass_of_methodNamed B.named
  have hlocks := B.notSynchronized
  subst hsz
  have hD := hD0.self (sz := s.heap.size)
  generalize hAe : va_A [(m0, .inr (4, [.ref m1, .ref m2, .int (nI kn), .ref m3, .ref m4, .ref m5, .int (nI ln), .int th, .long hs])), (m1, .inl (cI, 228, .inl gs)), (m2, .inl (cI, 684, .inl gp)), (m3, .inl (cI, 228, .inl gl)), (m4, .inl (cZ, 2, .inl gk)), (m5, .inl (cI, 60, .inl fx))] s.heap.size = A at hD ⊢
  have hA : ∀ q : Nat, s.heap.size ≤ q → A q := fun q h => by rw [← hAe]; exact Or.inr h
  have hS : va_S A s.heap s.heap [] := va_S.rf
  have in4 : ∀ w ∈ u_ws RX5 TX5 9, w ∈ wsX5_saves := by decide +kernel
  have fl7 := hts (.fieldLink RX5 7 "TowerShadesModel" "s" "[I") (by decide +kernel)
  have fl13 := hts (.fieldLink RX5 13 "TowerShadesModel" "past" "[I") (by decide +kernel)
  have fl34 := hts (.fieldLink RX5 34 "TowerShadesModel" "known" "I") (by decide +kernel)
  have hl := lv_entry ([.ref m0]) (n := 2) (Nat.le_of_ble_eq_true rfl)
  rw [lg_entry_eq]
  generalize (lg_sl ([.ref m0]) ++ List.replicate (2 - (lg_sl ([.ref m0])).length) Slot.unset).toArray = ls at hl ⊢
  have hl : lv_has ls 2 [(0, .ref m0)] := hl
  refine lv_aload_n hx hb dX5_saves_0 rfl (lv_at hl 0 rfl) ?_
  refine va_get (D := D) (ci := 4) (v := .int (nI kn)) (C := RX5) (T := TX5) (N := 9) hx hb hts in4 hown hK hP 0 rfl rfl 2 (by decide) fl34 (fun _ h9 => h9) rfl dX5_saves_1 ?_
  refine lv_bipush (v := 6) hx hb dX5_saves_4 (by decide) ?_
  refine z_icmp_ne (tgt := 49) (P := kn = 6) hx hb dX5_saves_6 (by decide) (nI_eq (a := kn) (b := 6) (by omega) (by omega)) (fun c6 => ?_) (fun c6 => ?_)
  · skip
    refine lv_iconst (v := 0) hx hb dX5_saves_49 (by decide) ?_
    refine lv_istore_n (lv' := [(1, .int 0), (0, .ref m0)]) hx hb dX5_saves_50 rfl hl (by decide) rfl (fun ls hl => ?_)
    have hW9 : ([(m0, .inr (4, [.ref m1, .ref m2, .int (nI kn), .ref m3, .ref m4, .ref m5, .int (nI ln), .int th, .long hs])), (m1, .inl (cI, 228, .inl gs)), (m2, .inl (cI, 684, .inl gp)), (m3, .inl (cI, 228, .inl gl)), (m4, .inl (cZ, 2, .inl gk)), (m5, .inl (cI, 60, .inl fx))] : va_W) = [(m0, .inr (4, [.ref m1, .ref m2, .int (nI kn), .ref m3, .ref m4, .ref m5, .int (nI ln), .int th, .long hs])), (m1, .inl (cI, 228, .inl gs)), (m2, .inl (cI, 684, .inl (va_cpy gs gp 0 (114 * kn) 0))), (m3, .inl (cI, 228, .inl gl)), (m4, .inl (cZ, 2, .inl gk)), (m5, .inl (cI, 60, .inl fx))] := by rw [cp_0]
    rw [hW9] at hP hD
    refine z_upH (N := 114) (i0 := 0) (fun i H locs ls => va_P D vwCl [(m0, .inr (4, [.ref m1, .ref m2, .int (nI kn), .ref m3, .ref m4, .ref m5, .int (nI ln), .int th, .long hs])), (m1, .inl (cI, 228, .inl gs)), (m2, .inl (cI, 684, .inl (va_cpy gs gp 0 (114 * kn) i))), (m3, .inl (cI, 228, .inl gl)), (m4, .inl (cZ, 2, .inl gk)), (m5, .inl (cI, 60, .inl fx))] H ∧ va_D A [(m0, .inr (4, [.ref m1, .ref m2, .int (nI kn), .ref m3, .ref m4, .ref m5, .int (nI ln), .int th, .long hs])), (m1, .inl (cI, 228, .inl gs)), (m2, .inl (cI, 684, .inl (va_cpy gs gp 0 (114 * kn) i))), (m3, .inl (cI, 228, .inl gl)), (m4, .inl (cZ, 2, .inl gk)), (m5, .inl (cI, 60, .inl fx))] ∧ va_S A s.heap H locs ∧ lv_has ls 2 [(0, .ref m0), (1, .int (nI i))]) (by omega) (⟨hP, hD, hS, lv_sub hl [1, 0] rfl⟩) (fun i H locs ls hi51 hI ih51 => ?_)
    obtain ⟨hP, hD, hS, hl⟩ := hI
    refine lv_iload_n hx hb dX5_saves_51 rfl (lv_at hl 1 rfl) ?_
    refine lv_bipush (v := 114) hx hb dX5_saves_52 (by decide) ?_
    refine z_icmp_ge (tgt := 83) (P := 114 ≤ i) hx hb dX5_saves_54 (by decide) (nI_leI (a := 114) (b := i) (by omega) (by omega)) (fun c54 => ?_) (fun c54 => ?_)
    · skip
      obtain rfl : i = 114 := by omega
      refine lv_aload_n hx hb dX5_saves_83 rfl (lv_at hl 0 rfl) ?_
      refine lv_dup hx hb dX5_saves_84 rfl ?_
      refine va_get (D := D) (ci := 4) (v := .int (nI kn)) (C := RX5) (T := TX5) (N := 9) hx hb hts in4 hown hK hP 0 rfl rfl 2 (by decide) fl34 (fun _ h9 => h9) rfl dX5_saves_85 ?_
      refine lv_iconst (v := 1) hx hb dX5_saves_88 (by decide) ?_
      refine z_iadd (v := nI (kn + 1)) hx hb dX5_saves_89 (nI_add (kn) (1)) ?_
      refine va_put (D := D) (ci := 4) (v := .int (nI (kn + 1))) (ty := .int) (C := RX5) (T := TX5) (N := 9) hx hb hts in4 tyX5 tyX5_ok nmX5 hown hK hP hD hS 0 rfl rfl 2 (by decide) fl34 (fun _ h9 => h9) rfl (by decide +kernel) rfl rfl (Nat.le_of_ble_eq_true rfl) dX5_saves_90 (fun H locs hP hD hS => ?_)
      have hP : va_P D vwCl [(m0, .inr (4, [.ref m1, .ref m2, .int (nI (kn + 1)), .ref m3, .ref m4, .ref m5, .int (nI ln), .int th, .long hs])), (m1, .inl (cI, 228, .inl gs)), (m2, .inl (cI, 684, .inl (va_cpy gs gp 0 (114 * kn) 114))), (m3, .inl (cI, 228, .inl gl)), (m4, .inl (cZ, 2, .inl gk)), (m5, .inl (cI, 60, .inl fx))] _ := hP
      have hD : va_D A [(m0, .inr (4, [.ref m1, .ref m2, .int (nI (kn + 1)), .ref m3, .ref m4, .ref m5, .int (nI ln), .int th, .long hs])), (m1, .inl (cI, 228, .inl gs)), (m2, .inl (cI, 684, .inl (va_cpy gs gp 0 (114 * kn) 114))), (m3, .inl (cI, 228, .inl gl)), (m4, .inl (cZ, 2, .inl gk)), (m5, .inl (cI, 60, .inl fx))] := hD
      have hW9 : ([(m0, .inr (4, [.ref m1, .ref m2, .int (nI (kn + 1)), .ref m3, .ref m4, .ref m5, .int (nI ln), .int th, .long hs])), (m1, .inl (cI, 228, .inl gs)), (m2, .inl (cI, 684, .inl (va_cpy gs gp 0 (114 * kn) 114))), (m3, .inl (cI, 228, .inl gl)), (m4, .inl (cZ, 2, .inl gk)), (m5, .inl (cI, 60, .inl fx))] : va_W) = [(m0, .inr (4, [.ref m1, .ref m2, .int (nI (pKn kn + 1)), .ref m3, .ref m4, .ref m5, .int (nI ln), .int th, .long hs])), (m1, .inl (cI, 228, .inl gs)), (m2, .inl (cI, 684, .inl (pSv gs gp kn))), (m3, .inl (cI, 228, .inl gl)), (m4, .inl (cZ, 2, .inl gk)), (m5, .inl (cI, 60, .inl fx))] := by simp [pSv, pKn, c6, c54]
      rw [hW9] at hP hD
      have hP9 : va_P D vwCl [(m0, .inr (4, [.ref m1, .ref m2, .int (nI (pKn kn + 1)), .ref m3, .ref m4, .ref m5, .int (nI ln), .int th, .long hs])), (m1, .inl (cI, 228, .inl gs)), (m2, .inl (cI, 684, .inl (pSv gs gp kn))), (m3, .inl (cI, 228, .inl gl)), (m4, .inl (cZ, 2, .inl gk)), (m5, .inl (cI, 60, .inl fx))] _ := hP
      have hD9 : va_D A [(m0, .inr (4, [.ref m1, .ref m2, .int (nI (pKn kn + 1)), .ref m3, .ref m4, .ref m5, .int (nI ln), .int th, .long hs])), (m1, .inl (cI, 228, .inl gs)), (m2, .inl (cI, 684, .inl (pSv gs gp kn))), (m3, .inl (cI, 228, .inl gl)), (m4, .inl (cZ, 2, .inl gk)), (m5, .inl (cI, 60, .inl fx))] := hD
      subst hAe
      exact z_mvret hx hb hr hlocks dX5_saves_93 hP9 hD9 hS
    · skip
      refine lv_aload_n hx hb dX5_saves_57 rfl (lv_at hl 0 rfl) ?_
      refine va_get (D := D) (ci := 4) (v := .ref m2) (C := RX5) (T := TX5) (N := 9) hx hb hts in4 hown hK hP 0 rfl rfl 1 (by decide) fl13 (fun _ h9 => h9) rfl dX5_saves_58 ?_
      refine lv_bipush (v := 114) hx hb dX5_saves_61 (by decide) ?_
      refine lv_aload_n hx hb dX5_saves_63 rfl (lv_at hl 0 rfl) ?_
      refine va_get (D := D) (ci := 4) (v := .int (nI kn)) (C := RX5) (T := TX5) (N := 9) hx hb hts in4 hown hK hP 0 rfl rfl 2 (by decide) fl34 (fun _ h9 => h9) rfl dX5_saves_64 ?_
      refine z_imul (v := nI (114 * kn)) hx hb dX5_saves_67 (pk_mul (114) (kn)) ?_
      refine lv_iload_n hx hb dX5_saves_68 rfl (lv_at hl 1 rfl) ?_
      refine z_iadd (v := nI ((114 * kn) + i)) hx hb dX5_saves_69 (nI_add ((114 * kn)) (i)) ?_
      refine lv_aload_n hx hb dX5_saves_70 rfl (lv_at hl 0 rfl) ?_
      refine va_get (D := D) (ci := 4) (v := .ref m1) (C := RX5) (T := TX5) (N := 9) hx hb hts in4 hown hK hP 0 rfl rfl 0 (by decide) fl7 (fun _ h9 => h9) rfl dX5_saves_71 ?_
      refine lv_iload_n hx hb dX5_saves_74 rfl (lv_at hl 1 rfl) ?_
      refine z_iald hx hb hK hP 1 0 rfl rfl (k := i) (rfl) (by omega) (by decide) dX5_saves_75 ?_
      refine z_iast hx hb hK hP hD hS 2 0 rfl rfl (k := ((114 * kn) + i)) (rfl) (by omega) (by decide) dX5_saves_76 (g := (va_cpy gs gp 0 (114 * kn) (i + 1))) (cp_s _ _ _ _) (fun H locs hP hD hS => ?_)
      have hP : va_P D vwCl [(m0, .inr (4, [.ref m1, .ref m2, .int (nI kn), .ref m3, .ref m4, .ref m5, .int (nI ln), .int th, .long hs])), (m1, .inl (cI, 228, .inl gs)), (m2, .inl (cI, 684, .inl (va_cpy gs gp 0 (114 * kn) (i + 1)))), (m3, .inl (cI, 228, .inl gl)), (m4, .inl (cZ, 2, .inl gk)), (m5, .inl (cI, 60, .inl fx))] _ := hP
      have hD : va_D A [(m0, .inr (4, [.ref m1, .ref m2, .int (nI kn), .ref m3, .ref m4, .ref m5, .int (nI ln), .int th, .long hs])), (m1, .inl (cI, 228, .inl gs)), (m2, .inl (cI, 684, .inl (va_cpy gs gp 0 (114 * kn) (i + 1)))), (m3, .inl (cI, 228, .inl gl)), (m4, .inl (cZ, 2, .inl gk)), (m5, .inl (cI, 60, .inl fx))] := hD
      refine lv_iinc (v := nI (i + 1)) (lv' := [(1, .int (nI (i + 1))), (0, .ref m0)]) hx hb dX5_saves_77 hl (k := 1) rfl (nI_1 (i)) (by decide) rfl (fun ls hl => ?_)
      refine lv_goto (tgt := 51) hx hb dX5_saves_80 (by decide) ?_
      exact ih51 (by omega) _ _ _ (⟨hP, hD, hS, lv_sub hl [1, 0] rfl⟩)
  · skip
    refine lv_iconst (v := 0) hx hb dX5_saves_9 (by decide) ?_
    refine lv_istore_n (lv' := [(1, .int 0), (0, .ref m0)]) hx hb dX5_saves_10 rfl hl (by decide) rfl (fun ls hl => ?_)
    have hW9 : ([(m0, .inr (4, [.ref m1, .ref m2, .int (nI kn), .ref m3, .ref m4, .ref m5, .int (nI ln), .int th, .long hs])), (m1, .inl (cI, 228, .inl gs)), (m2, .inl (cI, 684, .inl gp)), (m3, .inl (cI, 228, .inl gl)), (m4, .inl (cZ, 2, .inl gk)), (m5, .inl (cI, 60, .inl fx))] : va_W) = [(m0, .inr (4, [.ref m1, .ref m2, .int (nI kn), .ref m3, .ref m4, .ref m5, .int (nI ln), .int th, .long hs])), (m1, .inl (cI, 228, .inl gs)), (m2, .inl (cI, 684, .inl (va_cpy gp gp 114 0 0))), (m3, .inl (cI, 228, .inl gl)), (m4, .inl (cZ, 2, .inl gk)), (m5, .inl (cI, 60, .inl fx))] := by rw [cp_0]
    rw [hW9] at hP hD
    refine z_upH (N := 570) (i0 := 0) (fun i H locs ls => va_P D vwCl [(m0, .inr (4, [.ref m1, .ref m2, .int (nI kn), .ref m3, .ref m4, .ref m5, .int (nI ln), .int th, .long hs])), (m1, .inl (cI, 228, .inl gs)), (m2, .inl (cI, 684, .inl (va_cpy gp gp 114 0 i))), (m3, .inl (cI, 228, .inl gl)), (m4, .inl (cZ, 2, .inl gk)), (m5, .inl (cI, 60, .inl fx))] H ∧ va_D A [(m0, .inr (4, [.ref m1, .ref m2, .int (nI kn), .ref m3, .ref m4, .ref m5, .int (nI ln), .int th, .long hs])), (m1, .inl (cI, 228, .inl gs)), (m2, .inl (cI, 684, .inl (va_cpy gp gp 114 0 i))), (m3, .inl (cI, 228, .inl gl)), (m4, .inl (cZ, 2, .inl gk)), (m5, .inl (cI, 60, .inl fx))] ∧ va_S A s.heap H locs ∧ lv_has ls 2 [(0, .ref m0), (1, .int (nI i))]) (by omega) (⟨hP, hD, hS, lv_sub hl [1, 0] rfl⟩) (fun i H locs ls hi11 hI ih11 => ?_)
    obtain ⟨hP, hD, hS, hl⟩ := hI
    refine lv_iload_n hx hb dX5_saves_11 rfl (lv_at hl 1 rfl) ?_
    refine lv_sipush (v := 570) hx hb dX5_saves_12 (by decide) ?_
    refine z_icmp_ge (tgt := 39) (P := 570 ≤ i) hx hb dX5_saves_15 (by decide) (nI_leI (a := 570) (b := i) (by omega) (by omega)) (fun c15 => ?_) (fun c15 => ?_)
    · skip
      obtain rfl : i = 570 := by omega
      refine lv_aload_n hx hb dX5_saves_39 rfl (lv_at hl 0 rfl) ?_
      refine lv_dup hx hb dX5_saves_40 rfl ?_
      refine va_get (D := D) (ci := 4) (v := .int (nI kn)) (C := RX5) (T := TX5) (N := 9) hx hb hts in4 hown hK hP 0 rfl rfl 2 (by decide) fl34 (fun _ h9 => h9) rfl dX5_saves_41 ?_
      refine lv_iconst (v := 1) hx hb dX5_saves_44 (by decide) ?_
      refine z_isub (v := nI (kn - 1)) hx hb dX5_saves_45 (pk_sub (a := kn) (b := 1) (by omega)) ?_
      refine va_put (D := D) (ci := 4) (v := .int (nI (kn - 1))) (ty := .int) (C := RX5) (T := TX5) (N := 9) hx hb hts in4 tyX5 tyX5_ok nmX5 hown hK hP hD hS 0 rfl rfl 2 (by decide) fl34 (fun _ h9 => h9) rfl (by decide +kernel) rfl rfl (Nat.le_of_ble_eq_true rfl) dX5_saves_46 (fun H locs hP hD hS => ?_)
      have hP : va_P D vwCl [(m0, .inr (4, [.ref m1, .ref m2, .int (nI (kn - 1)), .ref m3, .ref m4, .ref m5, .int (nI ln), .int th, .long hs])), (m1, .inl (cI, 228, .inl gs)), (m2, .inl (cI, 684, .inl (va_cpy gp gp 114 0 570))), (m3, .inl (cI, 228, .inl gl)), (m4, .inl (cZ, 2, .inl gk)), (m5, .inl (cI, 60, .inl fx))] _ := hP
      have hD : va_D A [(m0, .inr (4, [.ref m1, .ref m2, .int (nI (kn - 1)), .ref m3, .ref m4, .ref m5, .int (nI ln), .int th, .long hs])), (m1, .inl (cI, 228, .inl gs)), (m2, .inl (cI, 684, .inl (va_cpy gp gp 114 0 570))), (m3, .inl (cI, 228, .inl gl)), (m4, .inl (cZ, 2, .inl gk)), (m5, .inl (cI, 60, .inl fx))] := hD
      refine lv_iconst (v := 0) hx hb dX5_saves_49 (by decide) ?_
      refine lv_istore_n (lv' := [(1, .int 0), (0, .ref m0)]) hx hb dX5_saves_50 rfl hl (by decide) rfl (fun ls hl => ?_)
      have hW9 : ([(m0, .inr (4, [.ref m1, .ref m2, .int (nI (kn - 1)), .ref m3, .ref m4, .ref m5, .int (nI ln), .int th, .long hs])), (m1, .inl (cI, 228, .inl gs)), (m2, .inl (cI, 684, .inl (va_cpy gp gp 114 0 570))), (m3, .inl (cI, 228, .inl gl)), (m4, .inl (cZ, 2, .inl gk)), (m5, .inl (cI, 60, .inl fx))] : va_W) = [(m0, .inr (4, [.ref m1, .ref m2, .int (nI (kn - 1)), .ref m3, .ref m4, .ref m5, .int (nI ln), .int th, .long hs])), (m1, .inl (cI, 228, .inl gs)), (m2, .inl (cI, 684, .inl (va_cpy gs (va_cpy gp gp 114 0 570) 0 (114 * (kn - 1)) 0))), (m3, .inl (cI, 228, .inl gl)), (m4, .inl (cZ, 2, .inl gk)), (m5, .inl (cI, 60, .inl fx))] := by rw [cp_0]
      rw [hW9] at hP hD
      refine z_upH (N := 114) (i0 := 0) (fun i H locs ls => va_P D vwCl [(m0, .inr (4, [.ref m1, .ref m2, .int (nI (kn - 1)), .ref m3, .ref m4, .ref m5, .int (nI ln), .int th, .long hs])), (m1, .inl (cI, 228, .inl gs)), (m2, .inl (cI, 684, .inl (va_cpy gs (va_cpy gp gp 114 0 570) 0 (114 * (kn - 1)) i))), (m3, .inl (cI, 228, .inl gl)), (m4, .inl (cZ, 2, .inl gk)), (m5, .inl (cI, 60, .inl fx))] H ∧ va_D A [(m0, .inr (4, [.ref m1, .ref m2, .int (nI (kn - 1)), .ref m3, .ref m4, .ref m5, .int (nI ln), .int th, .long hs])), (m1, .inl (cI, 228, .inl gs)), (m2, .inl (cI, 684, .inl (va_cpy gs (va_cpy gp gp 114 0 570) 0 (114 * (kn - 1)) i))), (m3, .inl (cI, 228, .inl gl)), (m4, .inl (cZ, 2, .inl gk)), (m5, .inl (cI, 60, .inl fx))] ∧ va_S A s.heap H locs ∧ lv_has ls 2 [(0, .ref m0), (1, .int (nI i))]) (by omega) (⟨hP, hD, hS, lv_sub hl [1, 0] rfl⟩) (fun i H locs ls hi51 hI ih51 => ?_)
      obtain ⟨hP, hD, hS, hl⟩ := hI
      refine lv_iload_n hx hb dX5_saves_51 rfl (lv_at hl 1 rfl) ?_
      refine lv_bipush (v := 114) hx hb dX5_saves_52 (by decide) ?_
      refine z_icmp_ge (tgt := 83) (P := 114 ≤ i) hx hb dX5_saves_54 (by decide) (nI_leI (a := 114) (b := i) (by omega) (by omega)) (fun c54 => ?_) (fun c54 => ?_)
      · skip
        obtain rfl : i = 114 := by omega
        refine lv_aload_n hx hb dX5_saves_83 rfl (lv_at hl 0 rfl) ?_
        refine lv_dup hx hb dX5_saves_84 rfl ?_
        refine va_get (D := D) (ci := 4) (v := .int (nI (kn - 1))) (C := RX5) (T := TX5) (N := 9) hx hb hts in4 hown hK hP 0 rfl rfl 2 (by decide) fl34 (fun _ h9 => h9) rfl dX5_saves_85 ?_
        refine lv_iconst (v := 1) hx hb dX5_saves_88 (by decide) ?_
        refine z_iadd (v := nI ((kn - 1) + 1)) hx hb dX5_saves_89 (nI_add ((kn - 1)) (1)) ?_
        refine va_put (D := D) (ci := 4) (v := .int (nI ((kn - 1) + 1))) (ty := .int) (C := RX5) (T := TX5) (N := 9) hx hb hts in4 tyX5 tyX5_ok nmX5 hown hK hP hD hS 0 rfl rfl 2 (by decide) fl34 (fun _ h9 => h9) rfl (by decide +kernel) rfl rfl (Nat.le_of_ble_eq_true rfl) dX5_saves_90 (fun H locs hP hD hS => ?_)
        have hP : va_P D vwCl [(m0, .inr (4, [.ref m1, .ref m2, .int (nI ((kn - 1) + 1)), .ref m3, .ref m4, .ref m5, .int (nI ln), .int th, .long hs])), (m1, .inl (cI, 228, .inl gs)), (m2, .inl (cI, 684, .inl (va_cpy gs (va_cpy gp gp 114 0 570) 0 (114 * (kn - 1)) 114))), (m3, .inl (cI, 228, .inl gl)), (m4, .inl (cZ, 2, .inl gk)), (m5, .inl (cI, 60, .inl fx))] _ := hP
        have hD : va_D A [(m0, .inr (4, [.ref m1, .ref m2, .int (nI ((kn - 1) + 1)), .ref m3, .ref m4, .ref m5, .int (nI ln), .int th, .long hs])), (m1, .inl (cI, 228, .inl gs)), (m2, .inl (cI, 684, .inl (va_cpy gs (va_cpy gp gp 114 0 570) 0 (114 * (kn - 1)) 114))), (m3, .inl (cI, 228, .inl gl)), (m4, .inl (cZ, 2, .inl gk)), (m5, .inl (cI, 60, .inl fx))] := hD
        have hW9 : ([(m0, .inr (4, [.ref m1, .ref m2, .int (nI ((kn - 1) + 1)), .ref m3, .ref m4, .ref m5, .int (nI ln), .int th, .long hs])), (m1, .inl (cI, 228, .inl gs)), (m2, .inl (cI, 684, .inl (va_cpy gs (va_cpy gp gp 114 0 570) 0 (114 * (kn - 1)) 114))), (m3, .inl (cI, 228, .inl gl)), (m4, .inl (cZ, 2, .inl gk)), (m5, .inl (cI, 60, .inl fx))] : va_W) = [(m0, .inr (4, [.ref m1, .ref m2, .int (nI (pKn kn + 1)), .ref m3, .ref m4, .ref m5, .int (nI ln), .int th, .long hs])), (m1, .inl (cI, 228, .inl gs)), (m2, .inl (cI, 684, .inl (pSv gs gp kn))), (m3, .inl (cI, 228, .inl gl)), (m4, .inl (cZ, 2, .inl gk)), (m5, .inl (cI, 60, .inl fx))] := by simp [pSv, pKn, c6, c54]
        rw [hW9] at hP hD
        have hP9 : va_P D vwCl [(m0, .inr (4, [.ref m1, .ref m2, .int (nI (pKn kn + 1)), .ref m3, .ref m4, .ref m5, .int (nI ln), .int th, .long hs])), (m1, .inl (cI, 228, .inl gs)), (m2, .inl (cI, 684, .inl (pSv gs gp kn))), (m3, .inl (cI, 228, .inl gl)), (m4, .inl (cZ, 2, .inl gk)), (m5, .inl (cI, 60, .inl fx))] _ := hP
        have hD9 : va_D A [(m0, .inr (4, [.ref m1, .ref m2, .int (nI (pKn kn + 1)), .ref m3, .ref m4, .ref m5, .int (nI ln), .int th, .long hs])), (m1, .inl (cI, 228, .inl gs)), (m2, .inl (cI, 684, .inl (pSv gs gp kn))), (m3, .inl (cI, 228, .inl gl)), (m4, .inl (cZ, 2, .inl gk)), (m5, .inl (cI, 60, .inl fx))] := hD
        subst hAe
        exact z_mvret hx hb hr hlocks dX5_saves_93 hP9 hD9 hS
      · skip
        refine lv_aload_n hx hb dX5_saves_57 rfl (lv_at hl 0 rfl) ?_
        refine va_get (D := D) (ci := 4) (v := .ref m2) (C := RX5) (T := TX5) (N := 9) hx hb hts in4 hown hK hP 0 rfl rfl 1 (by decide) fl13 (fun _ h9 => h9) rfl dX5_saves_58 ?_
        refine lv_bipush (v := 114) hx hb dX5_saves_61 (by decide) ?_
        refine lv_aload_n hx hb dX5_saves_63 rfl (lv_at hl 0 rfl) ?_
        refine va_get (D := D) (ci := 4) (v := .int (nI (kn - 1))) (C := RX5) (T := TX5) (N := 9) hx hb hts in4 hown hK hP 0 rfl rfl 2 (by decide) fl34 (fun _ h9 => h9) rfl dX5_saves_64 ?_
        refine z_imul (v := nI (114 * (kn - 1))) hx hb dX5_saves_67 (pk_mul (114) ((kn - 1))) ?_
        refine lv_iload_n hx hb dX5_saves_68 rfl (lv_at hl 1 rfl) ?_
        refine z_iadd (v := nI ((114 * (kn - 1)) + i)) hx hb dX5_saves_69 (nI_add ((114 * (kn - 1))) (i)) ?_
        refine lv_aload_n hx hb dX5_saves_70 rfl (lv_at hl 0 rfl) ?_
        refine va_get (D := D) (ci := 4) (v := .ref m1) (C := RX5) (T := TX5) (N := 9) hx hb hts in4 hown hK hP 0 rfl rfl 0 (by decide) fl7 (fun _ h9 => h9) rfl dX5_saves_71 ?_
        refine lv_iload_n hx hb dX5_saves_74 rfl (lv_at hl 1 rfl) ?_
        refine z_iald hx hb hK hP 1 0 rfl rfl (k := i) (rfl) (by omega) (by decide) dX5_saves_75 ?_
        refine z_iast hx hb hK hP hD hS 2 0 rfl rfl (k := ((114 * (kn - 1)) + i)) (rfl) (by omega) (by decide) dX5_saves_76 (g := (va_cpy gs (va_cpy gp gp 114 0 570) 0 (114 * (kn - 1)) (i + 1))) (cp_s _ _ _ _) (fun H locs hP hD hS => ?_)
        have hP : va_P D vwCl [(m0, .inr (4, [.ref m1, .ref m2, .int (nI (kn - 1)), .ref m3, .ref m4, .ref m5, .int (nI ln), .int th, .long hs])), (m1, .inl (cI, 228, .inl gs)), (m2, .inl (cI, 684, .inl (va_cpy gs (va_cpy gp gp 114 0 570) 0 (114 * (kn - 1)) (i + 1)))), (m3, .inl (cI, 228, .inl gl)), (m4, .inl (cZ, 2, .inl gk)), (m5, .inl (cI, 60, .inl fx))] _ := hP
        have hD : va_D A [(m0, .inr (4, [.ref m1, .ref m2, .int (nI (kn - 1)), .ref m3, .ref m4, .ref m5, .int (nI ln), .int th, .long hs])), (m1, .inl (cI, 228, .inl gs)), (m2, .inl (cI, 684, .inl (va_cpy gs (va_cpy gp gp 114 0 570) 0 (114 * (kn - 1)) (i + 1)))), (m3, .inl (cI, 228, .inl gl)), (m4, .inl (cZ, 2, .inl gk)), (m5, .inl (cI, 60, .inl fx))] := hD
        refine lv_iinc (v := nI (i + 1)) (lv' := [(1, .int (nI (i + 1))), (0, .ref m0)]) hx hb dX5_saves_77 hl (k := 1) rfl (nI_1 (i)) (by decide) rfl (fun ls hl => ?_)
        refine lv_goto (tgt := 51) hx hb dX5_saves_80 (by decide) ?_
        exact ih51 (by omega) _ _ _ (⟨hP, hD, hS, lv_sub hl [1, 0] rfl⟩)
    · skip
      refine lv_aload_n hx hb dX5_saves_18 rfl (lv_at hl 0 rfl) ?_
      refine va_get (D := D) (ci := 4) (v := .ref m2) (C := RX5) (T := TX5) (N := 9) hx hb hts in4 hown hK hP 0 rfl rfl 1 (by decide) fl13 (fun _ h9 => h9) rfl dX5_saves_19 ?_
      refine lv_iload_n hx hb dX5_saves_22 rfl (lv_at hl 1 rfl) ?_
      refine lv_aload_n hx hb dX5_saves_23 rfl (lv_at hl 0 rfl) ?_
      refine va_get (D := D) (ci := 4) (v := .ref m2) (C := RX5) (T := TX5) (N := 9) hx hb hts in4 hown hK hP 0 rfl rfl 1 (by decide) fl13 (fun _ h9 => h9) rfl dX5_saves_24 ?_
      refine lv_bipush (v := 114) hx hb dX5_saves_27 (by decide) ?_
      refine lv_iload_n hx hb dX5_saves_29 rfl (lv_at hl 1 rfl) ?_
      refine z_iadd (v := nI (114 + i)) hx hb dX5_saves_30 (nI_add (114) (i)) ?_
      refine z_iald hx hb hK hP 2 0 rfl rfl (k := (114 + i)) (rfl) (by omega) (by decide) dX5_saves_31 ?_
      refine z_top (y := (gp (114 + i))) (cp_out (by omega)) ?_
      refine z_iast hx hb hK hP hD hS 2 0 rfl rfl (k := i) (rfl) (by omega) (by decide) dX5_saves_32 (g := (va_cpy gp gp 114 0 (i + 1))) (cp_b _ _ _ _) (fun H locs hP hD hS => ?_)
      have hP : va_P D vwCl [(m0, .inr (4, [.ref m1, .ref m2, .int (nI kn), .ref m3, .ref m4, .ref m5, .int (nI ln), .int th, .long hs])), (m1, .inl (cI, 228, .inl gs)), (m2, .inl (cI, 684, .inl (va_cpy gp gp 114 0 (i + 1)))), (m3, .inl (cI, 228, .inl gl)), (m4, .inl (cZ, 2, .inl gk)), (m5, .inl (cI, 60, .inl fx))] _ := hP
      have hD : va_D A [(m0, .inr (4, [.ref m1, .ref m2, .int (nI kn), .ref m3, .ref m4, .ref m5, .int (nI ln), .int th, .long hs])), (m1, .inl (cI, 228, .inl gs)), (m2, .inl (cI, 684, .inl (va_cpy gp gp 114 0 (i + 1)))), (m3, .inl (cI, 228, .inl gl)), (m4, .inl (cZ, 2, .inl gk)), (m5, .inl (cI, 60, .inl fx))] := hD
      refine lv_iinc (v := nI (i + 1)) (lv' := [(1, .int (nI (i + 1))), (0, .ref m0)]) hx hb dX5_saves_33 hl (k := 1) rfl (nI_1 (i)) (by decide) rfl (fun ls hl => ?_)
      refine lv_goto (tgt := 11) hx hb dX5_saves_36 (by decide) ?_
      exact ih11 (by omega) _ _ _ (⟨hP, hD, hS, lv_sub hl [1, 0] rfl⟩)

set_option maxHeartbeats 4000000 in
set_option maxRecDepth 100000 in
/-- the row beside -/
theorem c_X5_copies (l : Launch) (D : va_G) (cI cZ cL : ClassId) (sz : Nat) (m0 : Nat) (m1 : Nat) (m2 : Nat) (m3 : Nat) (m4 : Nat) (m5 : Nat) (gs : Nat → Int32) (gp : Nat → Int32) (gl : Nat → Int32) (gk : Nat → Int32) (fx : Nat → Int32) (kn : Nat) (ln : Nat) (th : Int32) (hs : Int64) : Met l yX5_copies wsX5_copies ({ frames := 0, cells := 0, slots := 0, locals := 0 }) (va_Pc [.ref m0] (zM D cI cZ cL [(m0, .inr (4, [.ref m1, .ref m2, .int (nI kn), .ref m3, .ref m4, .ref m5, .int (nI ln), .int th, .long hs])), (m1, .inl (cI, 228, .inl gs)), (m2, .inl (cI, 684, .inl gp)), (m3, .inl (cI, 228, .inl gl)), (m4, .inl (cZ, 2, .inl gk)), (m5, .inl (cI, 60, .inl fx))] sz)) (zQmv D [(m0, .inr (4, [.ref m1, .ref m2, .int (nI kn), .ref m3, .ref m4, .ref m5, .int (nI ln), .int th, .long hs])), (m1, .inl (cI, 228, .inl gs)), (m2, .inl (cI, 684, .inl gp)), (m3, .inl (cI, 228, .inl gl)), (m4, .inl (cZ, 2, .inl gk)), (m5, .inl (cI, 60, .inl fx))] [(m0, .inr (4, [.ref m1, .ref m2, .int (nI kn), .ref m3, .ref m4, .ref m5, .int (nI ln), .int th, .long hs])), (m1, .inl (cI, 228, .inl (pCo gs))), (m2, .inl (cI, 684, .inl gp)), (m3, .inl (cI, 228, .inl gl)), (m4, .inl (cZ, 2, .inl gk)), (m5, .inl (cI, 60, .inl fx))] sz) 0 0 (va_A [(m0, .inr (4, [.ref m1, .ref m2, .int (nI kn), .ref m3, .ref m4, .ref m5, .int (nI ln), .int th, .long hs])), (m1, .inl (cI, 228, .inl gs)), (m2, .inl (cI, 684, .inl gp)), (m3, .inl (cI, 228, .inl gl)), (m4, .inl (cZ, 2, .inl gk)), (m5, .inl (cI, 60, .inl fx))] sz) := by
  refine Met.ofW (cc := cX5_copies) (maxL := 2) (ret := none) (by decide) rfl ?_
  intro p e s m args below meth c s₁ B hml hv
  obtain ⟨rfl, hsz, ⟨hP, hK⟩, hD0⟩ := hv
  have hx := B.exec
  have hb := B.bytes
  have hr := B.returns
  have hts := atoms_spec (ws := wsX5_copies) B.pre
  have hown : s.vm.findClass RX5 = some m.cls := findClass_of_methodNamed B.named
  have hlocks := B.notSynchronized
  subst hsz
  have hD := hD0.self (sz := s.heap.size)
  generalize hAe : va_A [(m0, .inr (4, [.ref m1, .ref m2, .int (nI kn), .ref m3, .ref m4, .ref m5, .int (nI ln), .int th, .long hs])), (m1, .inl (cI, 228, .inl gs)), (m2, .inl (cI, 684, .inl gp)), (m3, .inl (cI, 228, .inl gl)), (m4, .inl (cZ, 2, .inl gk)), (m5, .inl (cI, 60, .inl fx))] s.heap.size = A at hD ⊢
  have hA : ∀ q : Nat, s.heap.size ≤ q → A q := fun q h => by rw [← hAe]; exact Or.inr h
  have hS : va_S A s.heap s.heap [] := va_S.rf
  have in4 : ∀ w ∈ u_ws RX5 TX5 9, w ∈ wsX5_copies := by decide +kernel
  have fl7 := hts (.fieldLink RX5 7 "TowerShadesModel" "s" "[I") (by decide +kernel)
  have hl := lv_entry ([.ref m0]) (n := 2) (Nat.le_of_ble_eq_true rfl)
  rw [lg_entry_eq]
  generalize (lg_sl ([.ref m0]) ++ List.replicate (2 - (lg_sl ([.ref m0])).length) Slot.unset).toArray = ls at hl ⊢
  have hl : lv_has ls 2 [(0, .ref m0)] := hl
  refine lv_iconst (v := 0) hx hb dX5_copies_0 (by decide) ?_
  refine lv_istore_n (lv' := [(1, .int 0), (0, .ref m0)]) hx hb dX5_copies_1 rfl hl (by decide) rfl (fun ls hl => ?_)
  have hW9 : ([(m0, .inr (4, [.ref m1, .ref m2, .int (nI kn), .ref m3, .ref m4, .ref m5, .int (nI ln), .int th, .long hs])), (m1, .inl (cI, 228, .inl gs)), (m2, .inl (cI, 684, .inl gp)), (m3, .inl (cI, 228, .inl gl)), (m4, .inl (cZ, 2, .inl gk)), (m5, .inl (cI, 60, .inl fx))] : va_W) = [(m0, .inr (4, [.ref m1, .ref m2, .int (nI kn), .ref m3, .ref m4, .ref m5, .int (nI ln), .int th, .long hs])), (m1, .inl (cI, 228, .inl (va_cpy gs gs 0 114 0))), (m2, .inl (cI, 684, .inl gp)), (m3, .inl (cI, 228, .inl gl)), (m4, .inl (cZ, 2, .inl gk)), (m5, .inl (cI, 60, .inl fx))] := by rw [cp_0]
  rw [hW9] at hP hD
  refine z_upH (N := 114) (i0 := 0) (fun i H locs ls => va_P D vwCl [(m0, .inr (4, [.ref m1, .ref m2, .int (nI kn), .ref m3, .ref m4, .ref m5, .int (nI ln), .int th, .long hs])), (m1, .inl (cI, 228, .inl (va_cpy gs gs 0 114 i))), (m2, .inl (cI, 684, .inl gp)), (m3, .inl (cI, 228, .inl gl)), (m4, .inl (cZ, 2, .inl gk)), (m5, .inl (cI, 60, .inl fx))] H ∧ va_D A [(m0, .inr (4, [.ref m1, .ref m2, .int (nI kn), .ref m3, .ref m4, .ref m5, .int (nI ln), .int th, .long hs])), (m1, .inl (cI, 228, .inl (va_cpy gs gs 0 114 i))), (m2, .inl (cI, 684, .inl gp)), (m3, .inl (cI, 228, .inl gl)), (m4, .inl (cZ, 2, .inl gk)), (m5, .inl (cI, 60, .inl fx))] ∧ va_S A s.heap H locs ∧ lv_has ls 2 [(0, .ref m0), (1, .int (nI i))]) (by omega) (⟨hP, hD, hS, lv_sub hl [1, 0] rfl⟩) (fun i H locs ls hi2 hI ih2 => ?_)
  obtain ⟨hP, hD, hS, hl⟩ := hI
  refine lv_iload_n hx hb dX5_copies_2 rfl (lv_at hl 1 rfl) ?_
  refine lv_bipush (v := 114) hx hb dX5_copies_3 (by decide) ?_
  refine z_icmp_ge (tgt := 29) (P := 114 ≤ i) hx hb dX5_copies_5 (by decide) (nI_leI (a := 114) (b := i) (by omega) (by omega)) (fun c5 => ?_) (fun c5 => ?_)
  · skip
    obtain rfl : i = 114 := by omega
    have hW9 : ([(m0, .inr (4, [.ref m1, .ref m2, .int (nI kn), .ref m3, .ref m4, .ref m5, .int (nI ln), .int th, .long hs])), (m1, .inl (cI, 228, .inl (va_cpy gs gs 0 114 114))), (m2, .inl (cI, 684, .inl gp)), (m3, .inl (cI, 228, .inl gl)), (m4, .inl (cZ, 2, .inl gk)), (m5, .inl (cI, 60, .inl fx))] : va_W) = [(m0, .inr (4, [.ref m1, .ref m2, .int (nI kn), .ref m3, .ref m4, .ref m5, .int (nI ln), .int th, .long hs])), (m1, .inl (cI, 228, .inl (pCo gs))), (m2, .inl (cI, 684, .inl gp)), (m3, .inl (cI, 228, .inl gl)), (m4, .inl (cZ, 2, .inl gk)), (m5, .inl (cI, 60, .inl fx))] := rfl
    rw [hW9] at hP hD
    have hP9 : va_P D vwCl [(m0, .inr (4, [.ref m1, .ref m2, .int (nI kn), .ref m3, .ref m4, .ref m5, .int (nI ln), .int th, .long hs])), (m1, .inl (cI, 228, .inl (pCo gs))), (m2, .inl (cI, 684, .inl gp)), (m3, .inl (cI, 228, .inl gl)), (m4, .inl (cZ, 2, .inl gk)), (m5, .inl (cI, 60, .inl fx))] _ := hP
    have hD9 : va_D A [(m0, .inr (4, [.ref m1, .ref m2, .int (nI kn), .ref m3, .ref m4, .ref m5, .int (nI ln), .int th, .long hs])), (m1, .inl (cI, 228, .inl (pCo gs))), (m2, .inl (cI, 684, .inl gp)), (m3, .inl (cI, 228, .inl gl)), (m4, .inl (cZ, 2, .inl gk)), (m5, .inl (cI, 60, .inl fx))] := hD
    subst hAe
    exact z_mvret hx hb hr hlocks dX5_copies_29 hP9 hD9 hS
  · skip
    refine lv_aload_n hx hb dX5_copies_8 rfl (lv_at hl 0 rfl) ?_
    refine va_get (D := D) (ci := 4) (v := .ref m1) (C := RX5) (T := TX5) (N := 9) hx hb hts in4 hown hK hP 0 rfl rfl 0 (by decide) fl7 (fun _ h9 => h9) rfl dX5_copies_9 ?_
    refine lv_bipush (v := 114) hx hb dX5_copies_12 (by decide) ?_
    refine lv_iload_n hx hb dX5_copies_14 rfl (lv_at hl 1 rfl) ?_
    refine z_iadd (v := nI (114 + i)) hx hb dX5_copies_15 (nI_add (114) (i)) ?_
    refine lv_aload_n hx hb dX5_copies_16 rfl (lv_at hl 0 rfl) ?_
    refine va_get (D := D) (ci := 4) (v := .ref m1) (C := RX5) (T := TX5) (N := 9) hx hb hts in4 hown hK hP 0 rfl rfl 0 (by decide) fl7 (fun _ h9 => h9) rfl dX5_copies_17 ?_
    refine lv_iload_n hx hb dX5_copies_20 rfl (lv_at hl 1 rfl) ?_
    refine z_iald hx hb hK hP 1 0 rfl rfl (k := i) (rfl) (by omega) (by decide) dX5_copies_21 ?_
    refine z_top (y := (gs i)) (cp_out (by omega)) ?_
    refine z_iast hx hb hK hP hD hS 1 0 rfl rfl (k := (114 + i)) (rfl) (by omega) (by decide) dX5_copies_22 (g := (va_cpy gs gs 0 114 (i + 1))) (cp_s _ _ _ _) (fun H locs hP hD hS => ?_)
    have hP : va_P D vwCl [(m0, .inr (4, [.ref m1, .ref m2, .int (nI kn), .ref m3, .ref m4, .ref m5, .int (nI ln), .int th, .long hs])), (m1, .inl (cI, 228, .inl (va_cpy gs gs 0 114 (i + 1)))), (m2, .inl (cI, 684, .inl gp)), (m3, .inl (cI, 228, .inl gl)), (m4, .inl (cZ, 2, .inl gk)), (m5, .inl (cI, 60, .inl fx))] _ := hP
    have hD : va_D A [(m0, .inr (4, [.ref m1, .ref m2, .int (nI kn), .ref m3, .ref m4, .ref m5, .int (nI ln), .int th, .long hs])), (m1, .inl (cI, 228, .inl (va_cpy gs gs 0 114 (i + 1)))), (m2, .inl (cI, 684, .inl gp)), (m3, .inl (cI, 228, .inl gl)), (m4, .inl (cZ, 2, .inl gk)), (m5, .inl (cI, 60, .inl fx))] := hD
    refine lv_iinc (v := nI (i + 1)) (lv' := [(1, .int (nI (i + 1))), (0, .ref m0)]) hx hb dX5_copies_23 hl (k := 1) rfl (nI_1 (i)) (by decide) rfl (fun ls hl => ?_)
    refine lv_goto (tgt := 2) hx hb dX5_copies_26 (by decide) ?_
    exact ih2 (by omega) _ _ _ (⟨hP, hD, hS, lv_sub hl [1, 0] rfl⟩)

set_option maxHeartbeats 4000000 in
set_option maxRecDepth 100000 in
/-- a tower raised -/
theorem c_X5_raises (l : Launch) (D : va_G) (cI cZ cL : ClassId) (sz : Nat) (m0 : Nat) (m1 : Nat) (m2 : Nat) (m3 : Nat) (m4 : Nat) (m5 : Nat) (gs : Nat → Int32) (gp : Nat → Int32) (gl : Nat → Int32) (gk : Nat → Int32) (fx : Nat → Int32) (kn : Nat) (ln : Nat) (th : Int32) (hs : Int64) (P : Nat) (q : Nat) (hpp : P < 115) (hq : q < 36) : Met l yX5_raises wsX5_raises ({ frames := 0, cells := 0, slots := 0, locals := 0 }) (va_Pc [.ref m0, .int (nI P), .int (nI q)] (zM D cI cZ cL [(m0, .inr (4, [.ref m1, .ref m2, .int (nI kn), .ref m3, .ref m4, .ref m5, .int (nI ln), .int th, .long hs])), (m1, .inl (cI, 228, .inl gs)), (m2, .inl (cI, 684, .inl gp)), (m3, .inl (cI, 228, .inl gl)), (m4, .inl (cZ, 2, .inl gk)), (m5, .inl (cI, 60, .inl fx))] sz)) (zQmv D [(m0, .inr (4, [.ref m1, .ref m2, .int (nI kn), .ref m3, .ref m4, .ref m5, .int (nI ln), .int th, .long hs])), (m1, .inl (cI, 228, .inl gs)), (m2, .inl (cI, 684, .inl gp)), (m3, .inl (cI, 228, .inl gl)), (m4, .inl (cZ, 2, .inl gk)), (m5, .inl (cI, 60, .inl fx))] [(m0, .inr (4, [.ref m1, .ref m2, .int (nI kn), .ref m3, .ref m4, .ref m5, .int (nI ln), .int th, .long hs])), (m1, .inl (cI, 228, .inl (pRs gs P q))), (m2, .inl (cI, 684, .inl gp)), (m3, .inl (cI, 228, .inl gl)), (m4, .inl (cZ, 2, .inl gk)), (m5, .inl (cI, 60, .inl fx))] sz) 0 0 (va_A [(m0, .inr (4, [.ref m1, .ref m2, .int (nI kn), .ref m3, .ref m4, .ref m5, .int (nI ln), .int th, .long hs])), (m1, .inl (cI, 228, .inl gs)), (m2, .inl (cI, 684, .inl gp)), (m3, .inl (cI, 228, .inl gl)), (m4, .inl (cZ, 2, .inl gk)), (m5, .inl (cI, 60, .inl fx))] sz) := by
  refine Met.ofW (cc := cX5_raises) (maxL := 3) (ret := none) (by decide) rfl ?_
  intro p e s m args below meth c s₁ B hml hv
  obtain ⟨rfl, hsz, ⟨hP, hK⟩, hD0⟩ := hv
  have hx := B.exec
  have hb := B.bytes
  have hr := B.returns
  have hts := atoms_spec (ws := wsX5_raises) B.pre
  have hown : s.vm.findClass RX5 = some m.cls := findClass_of_methodNamed B.named
  have hlocks := B.notSynchronized
  subst hsz
  have hD := hD0.self (sz := s.heap.size)
  generalize hAe : va_A [(m0, .inr (4, [.ref m1, .ref m2, .int (nI kn), .ref m3, .ref m4, .ref m5, .int (nI ln), .int th, .long hs])), (m1, .inl (cI, 228, .inl gs)), (m2, .inl (cI, 684, .inl gp)), (m3, .inl (cI, 228, .inl gl)), (m4, .inl (cZ, 2, .inl gk)), (m5, .inl (cI, 60, .inl fx))] s.heap.size = A at hD ⊢
  have hA : ∀ q : Nat, s.heap.size ≤ q → A q := fun q h => by rw [← hAe]; exact Or.inr h
  have hS : va_S A s.heap s.heap [] := va_S.rf
  have in4 : ∀ w ∈ u_ws RX5 TX5 9, w ∈ wsX5_raises := by decide +kernel
  have fl7 := hts (.fieldLink RX5 7 "TowerShadesModel" "s" "[I") (by decide +kernel)
  have hl := lv_entry ([.ref m0, .int (nI P), .int (nI q)]) (n := 3) (Nat.le_of_ble_eq_true rfl)
  rw [lg_entry_eq]
  generalize (lg_sl ([.ref m0, .int (nI P), .int (nI q)]) ++ List.replicate (3 - (lg_sl ([.ref m0, .int (nI P), .int (nI q)])).length) Slot.unset).toArray = ls at hl ⊢
  have hl : lv_has ls 3 [(0, .ref m0), (1, .int (nI P)), (2, .int (nI q))] := hl
  refine lv_aload_n hx hb dX5_raises_0 rfl (lv_at hl 0 rfl) ?_
  refine va_get (D := D) (ci := 4) (v := .ref m1) (C := RX5) (T := TX5) (N := 9) hx hb hts in4 hown hK hP 0 rfl rfl 0 (by decide) fl7 (fun _ h9 => h9) rfl dX5_raises_1 ?_
  refine lv_iload_n hx hb dX5_raises_4 rfl (lv_at hl 1 rfl) ?_
  refine lv_bipush (v := 36) hx hb dX5_raises_5 (by decide) ?_
  refine z_iadd (v := nI (P + 36)) hx hb dX5_raises_7 (nI_add (P) (36)) ?_
  refine lv_iload_n hx hb dX5_raises_8 rfl (lv_at hl 2 rfl) ?_
  refine z_iadd (v := nI ((P + 36) + q)) hx hb dX5_raises_9 (nI_add ((P + 36)) (q)) ?_
  refine lv_aload_n hx hb dX5_raises_10 rfl (lv_at hl 0 rfl) ?_
  refine va_get (D := D) (ci := 4) (v := .ref m1) (C := RX5) (T := TX5) (N := 9) hx hb hts in4 hown hK hP 0 rfl rfl 0 (by decide) fl7 (fun _ h9 => h9) rfl dX5_raises_11 ?_
  refine lv_iload_n hx hb dX5_raises_14 rfl (lv_at hl 1 rfl) ?_
  refine lv_bipush (v := 109) hx hb dX5_raises_15 (by decide) ?_
  refine z_iadd (v := nI (P + 109)) hx hb dX5_raises_17 (nI_add (P) (109)) ?_
  refine z_iald hx hb hK hP 1 0 rfl rfl (k := (P + 109)) (rfl) (by omega) (by decide) dX5_raises_18 ?_
  refine lv_iconst (v := 1) hx hb dX5_raises_19 (by decide) ?_
  refine z_iadd (v := ((gs (P + 109)) + 1)) hx hb dX5_raises_20 (rfl) ?_
  refine z_iast hx hb hK hP hD hS 1 0 rfl rfl (k := ((P + 36) + q)) (rfl) (by omega) (by decide) dX5_raises_21 (g := upd gs ((P + 36) + q) ((gs (P + 109)) + 1)) (rfl) (fun H locs hP hD hS => ?_)
  have hP : va_P D vwCl [(m0, .inr (4, [.ref m1, .ref m2, .int (nI kn), .ref m3, .ref m4, .ref m5, .int (nI ln), .int th, .long hs])), (m1, .inl (cI, 228, .inl (upd gs ((P + 36) + q) ((gs (P + 109)) + 1)))), (m2, .inl (cI, 684, .inl gp)), (m3, .inl (cI, 228, .inl gl)), (m4, .inl (cZ, 2, .inl gk)), (m5, .inl (cI, 60, .inl fx))] _ := hP
  have hD : va_D A [(m0, .inr (4, [.ref m1, .ref m2, .int (nI kn), .ref m3, .ref m4, .ref m5, .int (nI ln), .int th, .long hs])), (m1, .inl (cI, 228, .inl (upd gs ((P + 36) + q) ((gs (P + 109)) + 1)))), (m2, .inl (cI, 684, .inl gp)), (m3, .inl (cI, 228, .inl gl)), (m4, .inl (cZ, 2, .inl gk)), (m5, .inl (cI, 60, .inl fx))] := hD
  refine lv_aload_n hx hb dX5_raises_22 rfl (lv_at hl 0 rfl) ?_
  refine va_get (D := D) (ci := 4) (v := .ref m1) (C := RX5) (T := TX5) (N := 9) hx hb hts in4 hown hK hP 0 rfl rfl 0 (by decide) fl7 (fun _ h9 => h9) rfl dX5_raises_23 ?_
  refine lv_iload_n hx hb dX5_raises_26 rfl (lv_at hl 1 rfl) ?_
  refine lv_iconst (v := 0) hx hb dX5_raises_27 (by decide) ?_
  refine z_iadd (v := nI (P + 0)) hx hb dX5_raises_28 (nI_add (P) (0)) ?_
  refine lv_iload_n hx hb dX5_raises_29 rfl (lv_at hl 2 rfl) ?_
  refine z_iadd (v := nI ((P + 0) + q)) hx hb dX5_raises_30 (nI_add ((P + 0)) (q)) ?_
  refine lv_dup2_11 hx hb dX5_raises_31 rfl rfl ?_
  refine z_iald hx hb hK hP 1 0 rfl rfl (k := ((P + 0) + q)) (rfl) (by omega) (by decide) dX5_raises_32 ?_
  refine z_top (y := (gs (P + 0 + q))) (by simp only [upd]; rw [if_neg (by omega)]) ?_
  refine lv_iconst (v := 1) hx hb dX5_raises_33 (by decide) ?_
  refine z_iadd (v := ((gs (P + 0 + q)) + 1)) hx hb dX5_raises_34 (rfl) ?_
  refine z_iast hx hb hK hP hD hS 1 0 rfl rfl (k := ((P + 0) + q)) (rfl) (by omega) (by decide) dX5_raises_35 (g := upd (upd gs ((P + 36) + q) ((gs (P + 109)) + 1)) ((P + 0) + q) ((gs (P + 0 + q)) + 1)) (rfl) (fun H locs hP hD hS => ?_)
  have hP : va_P D vwCl [(m0, .inr (4, [.ref m1, .ref m2, .int (nI kn), .ref m3, .ref m4, .ref m5, .int (nI ln), .int th, .long hs])), (m1, .inl (cI, 228, .inl (upd (upd gs ((P + 36) + q) ((gs (P + 109)) + 1)) ((P + 0) + q) ((gs (P + 0 + q)) + 1)))), (m2, .inl (cI, 684, .inl gp)), (m3, .inl (cI, 228, .inl gl)), (m4, .inl (cZ, 2, .inl gk)), (m5, .inl (cI, 60, .inl fx))] _ := hP
  have hD : va_D A [(m0, .inr (4, [.ref m1, .ref m2, .int (nI kn), .ref m3, .ref m4, .ref m5, .int (nI ln), .int th, .long hs])), (m1, .inl (cI, 228, .inl (upd (upd gs ((P + 36) + q) ((gs (P + 109)) + 1)) ((P + 0) + q) ((gs (P + 0 + q)) + 1)))), (m2, .inl (cI, 684, .inl gp)), (m3, .inl (cI, 228, .inl gl)), (m4, .inl (cZ, 2, .inl gk)), (m5, .inl (cI, 60, .inl fx))] := hD
  have hW9 : ([(m0, .inr (4, [.ref m1, .ref m2, .int (nI kn), .ref m3, .ref m4, .ref m5, .int (nI ln), .int th, .long hs])), (m1, .inl (cI, 228, .inl (upd (upd gs ((P + 36) + q) ((gs (P + 109)) + 1)) ((P + 0) + q) ((gs (P + 0 + q)) + 1)))), (m2, .inl (cI, 684, .inl gp)), (m3, .inl (cI, 228, .inl gl)), (m4, .inl (cZ, 2, .inl gk)), (m5, .inl (cI, 60, .inl fx))] : va_W) = [(m0, .inr (4, [.ref m1, .ref m2, .int (nI kn), .ref m3, .ref m4, .ref m5, .int (nI ln), .int th, .long hs])), (m1, .inl (cI, 228, .inl (pRs gs P q))), (m2, .inl (cI, 684, .inl gp)), (m3, .inl (cI, 228, .inl gl)), (m4, .inl (cZ, 2, .inl gk)), (m5, .inl (cI, 60, .inl fx))] := rfl
  rw [hW9] at hP hD
  have hP9 : va_P D vwCl [(m0, .inr (4, [.ref m1, .ref m2, .int (nI kn), .ref m3, .ref m4, .ref m5, .int (nI ln), .int th, .long hs])), (m1, .inl (cI, 228, .inl (pRs gs P q))), (m2, .inl (cI, 684, .inl gp)), (m3, .inl (cI, 228, .inl gl)), (m4, .inl (cZ, 2, .inl gk)), (m5, .inl (cI, 60, .inl fx))] _ := hP
  have hD9 : va_D A [(m0, .inr (4, [.ref m1, .ref m2, .int (nI kn), .ref m3, .ref m4, .ref m5, .int (nI ln), .int th, .long hs])), (m1, .inl (cI, 228, .inl (pRs gs P q))), (m2, .inl (cI, 684, .inl gp)), (m3, .inl (cI, 228, .inl gl)), (m4, .inl (cZ, 2, .inl gk)), (m5, .inl (cI, 60, .inl fx))] := hD
  subst hAe
  exact z_mvret hx hb hr hlocks dX5_raises_36 hP9 hD9 hS

set_option maxHeartbeats 4000000 in
set_option maxRecDepth 100000 in
/-- a turn is over -/
theorem c_X5_ends (l : Launch) (D : va_G) (cI cZ cL : ClassId) (sz : Nat) (m0 : Nat) (m1 : Nat) (m2 : Nat) (m3 : Nat) (m4 : Nat) (m5 : Nat) (gs : Nat → Int32) (gp : Nat → Int32) (gl : Nat → Int32) (gk : Nat → Int32) (fx : Nat → Int32) (kn : Nat) (ln : Nat) (th : Int32) (hs : Int64) (hz : Nat) (mv : Nat) (hhz : hz < 12) (hmv : mv < 2) (hH : gs 108 = nI hz) (hM : gs 109 = nI mv) : Met l yX5_ends wsX5_ends ({ frames := 6, cells := 0, slots := 0, locals := 145 }) (va_Pc [.ref m0] (zM D cI cZ cL [(m0, .inr (4, [.ref m1, .ref m2, .int (nI kn), .ref m3, .ref m4, .ref m5, .int (nI ln), .int th, .long hs])), (m1, .inl (cI, 228, .inl gs)), (m2, .inl (cI, 684, .inl gp)), (m3, .inl (cI, 228, .inl gl)), (m4, .inl (cZ, 2, .inl gk)), (m5, .inl (cI, 60, .inl fx))] sz)) (zQmv D [(m0, .inr (4, [.ref m1, .ref m2, .int (nI kn), .ref m3, .ref m4, .ref m5, .int (nI ln), .int th, .long hs])), (m1, .inl (cI, 228, .inl gs)), (m2, .inl (cI, 684, .inl gp)), (m3, .inl (cI, 228, .inl gl)), (m4, .inl (cZ, 2, .inl gk)), (m5, .inl (cI, 60, .inl fx))] [(m0, .inr (4, [.ref m1, .ref m2, .int (nI kn), .ref m3, .ref m4, .ref m5, .int (nI ln), .int th, .long hs])), (m1, .inl (cI, 228, .inl (pEn gs hz mv))), (m2, .inl (cI, 684, .inl gp)), (m3, .inl (cI, 228, .inl gl)), (m4, .inl (cZ, 2, .inl gk)), (m5, .inl (cI, 60, .inl fx))] sz) 0 0 (va_A [(m0, .inr (4, [.ref m1, .ref m2, .int (nI kn), .ref m3, .ref m4, .ref m5, .int (nI ln), .int th, .long hs])), (m1, .inl (cI, 228, .inl gs)), (m2, .inl (cI, 684, .inl gp)), (m3, .inl (cI, 228, .inl gl)), (m4, .inl (cZ, 2, .inl gk)), (m5, .inl (cI, 60, .inl fx))] sz) := by
  refine Met.ofW (cc := cX5_ends) (maxL := 3) (ret := none) (by decide) rfl ?_
  intro p e s m args below meth c s₁ B hml hv
  obtain ⟨rfl, hsz, ⟨hP, hK⟩, hD0⟩ := hv
  have hx := B.exec
  have hb := B.bytes
  have hr := B.returns
  have hts := atoms_spec (ws := wsX5_ends) B.pre
  have hown : s.vm.findClass RX5 = some m.cls := findClass_of_methodNamed B.named
  have hlocks := B.notSynchronized
  subst hsz
  have hD := hD0.self (sz := s.heap.size)
  generalize hAe : va_A [(m0, .inr (4, [.ref m1, .ref m2, .int (nI kn), .ref m3, .ref m4, .ref m5, .int (nI ln), .int th, .long hs])), (m1, .inl (cI, 228, .inl gs)), (m2, .inl (cI, 684, .inl gp)), (m3, .inl (cI, 228, .inl gl)), (m4, .inl (cZ, 2, .inl gk)), (m5, .inl (cI, 60, .inl fx))] s.heap.size = A at hD ⊢
  have hA : ∀ q : Nat, s.heap.size ≤ q → A q := fun q h => by rw [← hAe]; exact Or.inr h
  have hS : va_S A s.heap s.heap [] := va_S.rf
  have in4 : ∀ w ∈ u_ws RX5 TX5 9, w ∈ wsX5_ends := by decide +kernel
  have fl7 := hts (.fieldLink RX5 7 "TowerShadesModel" "s" "[I") (by decide +kernel)
  have hl := lv_entry ([.ref m0]) (n := 3) (Nat.le_of_ble_eq_true rfl)
  rw [lg_entry_eq]
  generalize (lg_sl ([.ref m0]) ++ List.replicate (3 - (lg_sl ([.ref m0])).length) Slot.unset).toArray = ls at hl ⊢
  have hl : lv_has ls 3 [(0, .ref m0)] := hl
  refine lv_aload_n hx hb dX5_ends_0 rfl (lv_at hl 0 rfl) ?_
  refine lv_iconst (v := 0) hx hb dX5_ends_1 (by decide) ?_
  refine lv_iconst (v := 0) hx hb dX5_ends_2 (by decide) ?_
  refine z_ci (va_runV (As := [.int 0, .int 0]) (rest := []) ⟨hx, hb, hml, hown, hts⟩ (c_X5_payment l D cI cZ cL (m0 := m0) (m1 := m1) (m2 := m2) (m3 := m3) (m4 := m4) (m5 := m5) (gs := gs) (gp := gp) (gl := gl) (gk := gk) (fx := fx) (kn := kn) (ln := ln) (th := th) (hs := hs) (P := 0) (pl := 0) (hz := hz) (hpp := by omega) (hpl := by omega) (hhz := by omega) (hHP := hH)) (cwV 2 hts gX5_ends_X5_payment rfl rfl rfl (by decide +kernel) ⟨Nat.le_of_ble_eq_true rfl, Nat.le_of_ble_eq_true rfl⟩) (z_preV hK (hP.sub [0, 1, 2, 3, 4, 5] rfl) 0 4 rfl rfl) rfl rfl hl.1 rfl (lv_room (Nat.le_of_ble_eq_true rfl)) dX5_ends_3 ⟨Nat.le_of_ble_eq_true rfl, Nat.le_of_ble_eq_true rfl⟩) ?_
  refine lv_istore_n (lv' := [(1, .int (pPM gs 0 hz 0)), (0, .ref m0)]) hx hb dX5_ends_6 rfl hl (by decide) rfl (fun ls hl => ?_)
  refine lv_aload_n hx hb dX5_ends_7 rfl (lv_at hl 1 rfl) ?_
  refine lv_iconst (v := 0) hx hb dX5_ends_8 (by decide) ?_
  refine lv_iconst (v := 1) hx hb dX5_ends_9 (by decide) ?_
  refine z_ci (va_runV (As := [.int 0, .int 1]) (rest := []) ⟨hx, hb, hml, hown, hts⟩ (c_X5_payment l D cI cZ cL (m0 := m0) (m1 := m1) (m2 := m2) (m3 := m3) (m4 := m4) (m5 := m5) (gs := gs) (gp := gp) (gl := gl) (gk := gk) (fx := fx) (kn := kn) (ln := ln) (th := th) (hs := hs) (P := 0) (pl := 1) (hz := hz) (hpp := by omega) (hpl := by omega) (hhz := by omega) (hHP := hH)) (cwV 2 hts gX5_ends_X5_payment rfl rfl rfl (by decide +kernel) ⟨Nat.le_of_ble_eq_true rfl, Nat.le_of_ble_eq_true rfl⟩) (z_preV hK (hP.sub [0, 1, 2, 3, 4, 5] rfl) 0 4 rfl rfl) rfl rfl hl.1 rfl (lv_room (Nat.le_of_ble_eq_true rfl)) dX5_ends_10 ⟨Nat.le_of_ble_eq_true rfl, Nat.le_of_ble_eq_true rfl⟩) ?_
  refine lv_istore_n (lv' := [(2, .int (pPM gs 0 hz 1)), (1, .int (pPM gs 0 hz 0)), (0, .ref m0)]) hx hb dX5_ends_13 rfl hl (by decide) rfl (fun ls hl => ?_)
  refine lv_aload_n hx hb dX5_ends_14 rfl (lv_at hl 2 rfl) ?_
  refine va_get (D := D) (ci := 4) (v := .ref m1) (C := RX5) (T := TX5) (N := 9) hx hb hts in4 hown hK hP 0 rfl rfl 0 (by decide) fl7 (fun _ h9 => h9) rfl dX5_ends_15 ?_
  refine lv_bipush (v := 112) hx hb dX5_ends_18 (by decide) ?_
  refine lv_dup2_11 hx hb dX5_ends_20 rfl rfl ?_
  refine z_iald hx hb hK hP 1 0 rfl rfl (k := 112) (rfl) (by omega) (by decide) dX5_ends_21 ?_
  refine lv_iload_n hx hb dX5_ends_22 rfl (lv_at hl 1 rfl) ?_
  refine z_iadd (v := ((gs 112) + (pPM gs 0 hz 0))) hx hb dX5_ends_23 (rfl) ?_
  refine z_iast hx hb hK hP hD hS 1 0 rfl rfl (k := 112) (rfl) (by omega) (by decide) dX5_ends_24 (g := upd gs 112 ((gs 112) + (pPM gs 0 hz 0))) (rfl) (fun H locs hP hD hS => ?_)
  have hP : va_P D vwCl [(m0, .inr (4, [.ref m1, .ref m2, .int (nI kn), .ref m3, .ref m4, .ref m5, .int (nI ln), .int th, .long hs])), (m1, .inl (cI, 228, .inl (upd gs 112 ((gs 112) + (pPM gs 0 hz 0))))), (m2, .inl (cI, 684, .inl gp)), (m3, .inl (cI, 228, .inl gl)), (m4, .inl (cZ, 2, .inl gk)), (m5, .inl (cI, 60, .inl fx))] _ := hP
  have hD : va_D A [(m0, .inr (4, [.ref m1, .ref m2, .int (nI kn), .ref m3, .ref m4, .ref m5, .int (nI ln), .int th, .long hs])), (m1, .inl (cI, 228, .inl (upd gs 112 ((gs 112) + (pPM gs 0 hz 0))))), (m2, .inl (cI, 684, .inl gp)), (m3, .inl (cI, 228, .inl gl)), (m4, .inl (cZ, 2, .inl gk)), (m5, .inl (cI, 60, .inl fx))] := hD
  refine lv_aload_n hx hb dX5_ends_25 rfl (lv_at hl 2 rfl) ?_
  refine va_get (D := D) (ci := 4) (v := .ref m1) (C := RX5) (T := TX5) (N := 9) hx hb hts in4 hown hK hP 0 rfl rfl 0 (by decide) fl7 (fun _ h9 => h9) rfl dX5_ends_26 ?_
  refine lv_bipush (v := 113) hx hb dX5_ends_29 (by decide) ?_
  refine lv_dup2_11 hx hb dX5_ends_31 rfl rfl ?_
  refine z_iald hx hb hK hP 1 0 rfl rfl (k := 113) (rfl) (by omega) (by decide) dX5_ends_32 ?_
  refine z_top (y := (gs 113)) (by simp [upd]) ?_
  refine lv_iload_n hx hb dX5_ends_33 rfl (lv_at hl 0 rfl) ?_
  refine z_iadd (v := ((gs 113) + (pPM gs 0 hz 1))) hx hb dX5_ends_34 (rfl) ?_
  refine z_iast hx hb hK hP hD hS 1 0 rfl rfl (k := 113) (rfl) (by omega) (by decide) dX5_ends_35 (g := upd (upd gs 112 ((gs 112) + (pPM gs 0 hz 0))) 113 ((gs 113) + (pPM gs 0 hz 1))) (rfl) (fun H locs hP hD hS => ?_)
  have hP : va_P D vwCl [(m0, .inr (4, [.ref m1, .ref m2, .int (nI kn), .ref m3, .ref m4, .ref m5, .int (nI ln), .int th, .long hs])), (m1, .inl (cI, 228, .inl (upd (upd gs 112 ((gs 112) + (pPM gs 0 hz 0))) 113 ((gs 113) + (pPM gs 0 hz 1))))), (m2, .inl (cI, 684, .inl gp)), (m3, .inl (cI, 228, .inl gl)), (m4, .inl (cZ, 2, .inl gk)), (m5, .inl (cI, 60, .inl fx))] _ := hP
  have hD : va_D A [(m0, .inr (4, [.ref m1, .ref m2, .int (nI kn), .ref m3, .ref m4, .ref m5, .int (nI ln), .int th, .long hs])), (m1, .inl (cI, 228, .inl (upd (upd gs 112 ((gs 112) + (pPM gs 0 hz 0))) 113 ((gs 113) + (pPM gs 0 hz 1))))), (m2, .inl (cI, 684, .inl gp)), (m3, .inl (cI, 228, .inl gl)), (m4, .inl (cZ, 2, .inl gk)), (m5, .inl (cI, 60, .inl fx))] := hD
  refine lv_aload_n hx hb dX5_ends_36 rfl (lv_at hl 2 rfl) ?_
  refine va_get (D := D) (ci := 4) (v := .ref m1) (C := RX5) (T := TX5) (N := 9) hx hb hts in4 hown hK hP 0 rfl rfl 0 (by decide) fl7 (fun _ h9 => h9) rfl dX5_ends_37 ?_
  refine lv_bipush (v := 108) hx hb dX5_ends_40 (by decide) ?_
  refine lv_aload_n hx hb dX5_ends_42 rfl (lv_at hl 2 rfl) ?_
  refine va_get (D := D) (ci := 4) (v := .ref m1) (C := RX5) (T := TX5) (N := 9) hx hb hts in4 hown hK hP 0 rfl rfl 0 (by decide) fl7 (fun _ h9 => h9) rfl dX5_ends_43 ?_
  refine lv_bipush (v := 108) hx hb dX5_ends_46 (by decide) ?_
  refine z_iald hx hb hK hP 1 0 rfl rfl (k := 108) (rfl) (by omega) (by decide) dX5_ends_48 ?_
  refine z_top (y := nI hz) (by simp [upd, hH]) ?_
  refine lv_iconst (v := 1) hx hb dX5_ends_49 (by decide) ?_
  refine z_iadd (v := nI (hz + 1)) hx hb dX5_ends_50 (nI_add (hz) (1)) ?_
  refine lv_bipush (v := 12) hx hb dX5_ends_51 (by decide) ?_
  refine z_irem (v := nI ((hz + 1) % 12)) hx hb dX5_ends_53 (by decide) (pk_rem (a := (hz + 1)) (d := 12) (by omega) (by omega) (by omega)) ?_
  refine z_iast hx hb hK hP hD hS 1 0 rfl rfl (k := 108) (rfl) (by omega) (by decide) dX5_ends_54 (g := upd (upd (upd gs 112 ((gs 112) + (pPM gs 0 hz 0))) 113 ((gs 113) + (pPM gs 0 hz 1))) 108 (nI ((hz + 1) % 12))) (rfl) (fun H locs hP hD hS => ?_)
  have hP : va_P D vwCl [(m0, .inr (4, [.ref m1, .ref m2, .int (nI kn), .ref m3, .ref m4, .ref m5, .int (nI ln), .int th, .long hs])), (m1, .inl (cI, 228, .inl (upd (upd (upd gs 112 ((gs 112) + (pPM gs 0 hz 0))) 113 ((gs 113) + (pPM gs 0 hz 1))) 108 (nI ((hz + 1) % 12))))), (m2, .inl (cI, 684, .inl gp)), (m3, .inl (cI, 228, .inl gl)), (m4, .inl (cZ, 2, .inl gk)), (m5, .inl (cI, 60, .inl fx))] _ := hP
  have hD : va_D A [(m0, .inr (4, [.ref m1, .ref m2, .int (nI kn), .ref m3, .ref m4, .ref m5, .int (nI ln), .int th, .long hs])), (m1, .inl (cI, 228, .inl (upd (upd (upd gs 112 ((gs 112) + (pPM gs 0 hz 0))) 113 ((gs 113) + (pPM gs 0 hz 1))) 108 (nI ((hz + 1) % 12))))), (m2, .inl (cI, 684, .inl gp)), (m3, .inl (cI, 228, .inl gl)), (m4, .inl (cZ, 2, .inl gk)), (m5, .inl (cI, 60, .inl fx))] := hD
  refine lv_aload_n hx hb dX5_ends_55 rfl (lv_at hl 2 rfl) ?_
  refine va_get (D := D) (ci := 4) (v := .ref m1) (C := RX5) (T := TX5) (N := 9) hx hb hts in4 hown hK hP 0 rfl rfl 0 (by decide) fl7 (fun _ h9 => h9) rfl dX5_ends_56 ?_
  refine lv_bipush (v := 109) hx hb dX5_ends_59 (by decide) ?_
  refine lv_iconst (v := 1) hx hb dX5_ends_61 (by decide) ?_
  refine lv_aload_n hx hb dX5_ends_62 rfl (lv_at hl 2 rfl) ?_
  refine va_get (D := D) (ci := 4) (v := .ref m1) (C := RX5) (T := TX5) (N := 9) hx hb hts in4 hown hK hP 0 rfl rfl 0 (by decide) fl7 (fun _ h9 => h9) rfl dX5_ends_63 ?_
  refine lv_bipush (v := 109) hx hb dX5_ends_66 (by decide) ?_
  refine z_iald hx hb hK hP 1 0 rfl rfl (k := 109) (rfl) (by omega) (by decide) dX5_ends_68 ?_
  refine z_top (y := nI mv) (by simp [upd, hM]) ?_
  refine z_isub (v := nI (1 - mv)) hx hb dX5_ends_69 (pk_sub (a := 1) (b := mv) (by omega)) ?_
  refine z_iast hx hb hK hP hD hS 1 0 rfl rfl (k := 109) (rfl) (by omega) (by decide) dX5_ends_70 (g := upd (upd (upd (upd gs 112 ((gs 112) + (pPM gs 0 hz 0))) 113 ((gs 113) + (pPM gs 0 hz 1))) 108 (nI ((hz + 1) % 12))) 109 (nI (1 - mv))) (rfl) (fun H locs hP hD hS => ?_)
  have hP : va_P D vwCl [(m0, .inr (4, [.ref m1, .ref m2, .int (nI kn), .ref m3, .ref m4, .ref m5, .int (nI ln), .int th, .long hs])), (m1, .inl (cI, 228, .inl (upd (upd (upd (upd gs 112 ((gs 112) + (pPM gs 0 hz 0))) 113 ((gs 113) + (pPM gs 0 hz 1))) 108 (nI ((hz + 1) % 12))) 109 (nI (1 - mv))))), (m2, .inl (cI, 684, .inl gp)), (m3, .inl (cI, 228, .inl gl)), (m4, .inl (cZ, 2, .inl gk)), (m5, .inl (cI, 60, .inl fx))] _ := hP
  have hD : va_D A [(m0, .inr (4, [.ref m1, .ref m2, .int (nI kn), .ref m3, .ref m4, .ref m5, .int (nI ln), .int th, .long hs])), (m1, .inl (cI, 228, .inl (upd (upd (upd (upd gs 112 ((gs 112) + (pPM gs 0 hz 0))) 113 ((gs 113) + (pPM gs 0 hz 1))) 108 (nI ((hz + 1) % 12))) 109 (nI (1 - mv))))), (m2, .inl (cI, 684, .inl gp)), (m3, .inl (cI, 228, .inl gl)), (m4, .inl (cZ, 2, .inl gk)), (m5, .inl (cI, 60, .inl fx))] := hD
  refine lv_aload_n hx hb dX5_ends_71 rfl (lv_at hl 2 rfl) ?_
  refine va_get (D := D) (ci := 4) (v := .ref m1) (C := RX5) (T := TX5) (N := 9) hx hb hts in4 hown hK hP 0 rfl rfl 0 (by decide) fl7 (fun _ h9 => h9) rfl dX5_ends_72 ?_
  refine lv_bipush (v := 110) hx hb dX5_ends_75 (by decide) ?_
  refine lv_dup2_11 hx hb dX5_ends_77 rfl rfl ?_
  refine z_iald hx hb hK hP 1 0 rfl rfl (k := 110) (rfl) (by omega) (by decide) dX5_ends_78 ?_
  refine z_top (y := (gs 110)) (by simp [upd]) ?_
  refine lv_iconst (v := 1) hx hb dX5_ends_79 (by decide) ?_
  refine z_iadd (v := ((gs 110) + 1)) hx hb dX5_ends_80 (rfl) ?_
  refine z_iast hx hb hK hP hD hS 1 0 rfl rfl (k := 110) (rfl) (by omega) (by decide) dX5_ends_81 (g := upd (upd (upd (upd (upd gs 112 ((gs 112) + (pPM gs 0 hz 0))) 113 ((gs 113) + (pPM gs 0 hz 1))) 108 (nI ((hz + 1) % 12))) 109 (nI (1 - mv))) 110 ((gs 110) + 1)) (rfl) (fun H locs hP hD hS => ?_)
  have hP : va_P D vwCl [(m0, .inr (4, [.ref m1, .ref m2, .int (nI kn), .ref m3, .ref m4, .ref m5, .int (nI ln), .int th, .long hs])), (m1, .inl (cI, 228, .inl (upd (upd (upd (upd (upd gs 112 ((gs 112) + (pPM gs 0 hz 0))) 113 ((gs 113) + (pPM gs 0 hz 1))) 108 (nI ((hz + 1) % 12))) 109 (nI (1 - mv))) 110 ((gs 110) + 1)))), (m2, .inl (cI, 684, .inl gp)), (m3, .inl (cI, 228, .inl gl)), (m4, .inl (cZ, 2, .inl gk)), (m5, .inl (cI, 60, .inl fx))] _ := hP
  have hD : va_D A [(m0, .inr (4, [.ref m1, .ref m2, .int (nI kn), .ref m3, .ref m4, .ref m5, .int (nI ln), .int th, .long hs])), (m1, .inl (cI, 228, .inl (upd (upd (upd (upd (upd gs 112 ((gs 112) + (pPM gs 0 hz 0))) 113 ((gs 113) + (pPM gs 0 hz 1))) 108 (nI ((hz + 1) % 12))) 109 (nI (1 - mv))) 110 ((gs 110) + 1)))), (m2, .inl (cI, 684, .inl gp)), (m3, .inl (cI, 228, .inl gl)), (m4, .inl (cZ, 2, .inl gk)), (m5, .inl (cI, 60, .inl fx))] := hD
  have hW9 : ([(m0, .inr (4, [.ref m1, .ref m2, .int (nI kn), .ref m3, .ref m4, .ref m5, .int (nI ln), .int th, .long hs])), (m1, .inl (cI, 228, .inl (upd (upd (upd (upd (upd gs 112 ((gs 112) + (pPM gs 0 hz 0))) 113 ((gs 113) + (pPM gs 0 hz 1))) 108 (nI ((hz + 1) % 12))) 109 (nI (1 - mv))) 110 ((gs 110) + 1)))), (m2, .inl (cI, 684, .inl gp)), (m3, .inl (cI, 228, .inl gl)), (m4, .inl (cZ, 2, .inl gk)), (m5, .inl (cI, 60, .inl fx))] : va_W) = [(m0, .inr (4, [.ref m1, .ref m2, .int (nI kn), .ref m3, .ref m4, .ref m5, .int (nI ln), .int th, .long hs])), (m1, .inl (cI, 228, .inl (pEn gs hz mv))), (m2, .inl (cI, 684, .inl gp)), (m3, .inl (cI, 228, .inl gl)), (m4, .inl (cZ, 2, .inl gk)), (m5, .inl (cI, 60, .inl fx))] := rfl
  rw [hW9] at hP hD
  have hP9 : va_P D vwCl [(m0, .inr (4, [.ref m1, .ref m2, .int (nI kn), .ref m3, .ref m4, .ref m5, .int (nI ln), .int th, .long hs])), (m1, .inl (cI, 228, .inl (pEn gs hz mv))), (m2, .inl (cI, 684, .inl gp)), (m3, .inl (cI, 228, .inl gl)), (m4, .inl (cZ, 2, .inl gk)), (m5, .inl (cI, 60, .inl fx))] _ := hP
  have hD9 : va_D A [(m0, .inr (4, [.ref m1, .ref m2, .int (nI kn), .ref m3, .ref m4, .ref m5, .int (nI ln), .int th, .long hs])), (m1, .inl (cI, 228, .inl (pEn gs hz mv))), (m2, .inl (cI, 684, .inl gp)), (m3, .inl (cI, 228, .inl gl)), (m4, .inl (cZ, 2, .inl gk)), (m5, .inl (cI, 60, .inl fx))] := hD
  subst hAe
  exact z_mvret hx hb hr hlocks dX5_ends_82 hP9 hD9 hS

set_option maxHeartbeats 4000000 in
set_option maxRecDepth 100000 in
/-- raise: no square -/
theorem c_X5_raise_bad (l : Launch) (D : va_G) (cI cZ cL : ClassId) (sz : Nat) (m0 : Nat) (m1 : Nat) (m2 : Nat) (m3 : Nat) (m4 : Nat) (m5 : Nat) (gs : Nat → Int32) (gp : Nat → Int32) (gl : Nat → Int32) (gk : Nat → Int32) (fx : Nat → Int32) (kn : Nat) (ln : Nat) (th : Int32) (hs : Int64) (p0 : Int32) (hbad : (decide (0 ≤ p0) && decide (p0 ≤ 35)) = false) : Met l yX5_raise wsX5_raise ({ frames := 2, cells := 0, slots := 0, locals := 42 }) (va_Pc [.ref m0, .int p0] (zM D cI cZ cL [(m0, .inr (4, [.ref m1, .ref m2, .int (nI kn), .ref m3, .ref m4, .ref m5, .int (nI ln), .int th, .long hs])), (m1, .inl (cI, 228, .inl gs)), (m2, .inl (cI, 684, .inl gp)), (m3, .inl (cI, 228, .inl gl)), (m4, .inl (cZ, 2, .inl gk)), (m5, .inl (cI, 60, .inl fx))] sz)) (zQmi D 0 [(m0, .inr (4, [.ref m1, .ref m2, .int (nI kn), .ref m3, .ref m4, .ref m5, .int (nI ln), .int th, .long hs])), (m1, .inl (cI, 228, .inl gs)), (m2, .inl (cI, 684, .inl gp)), (m3, .inl (cI, 228, .inl gl)), (m4, .inl (cZ, 2, .inl gk)), (m5, .inl (cI, 60, .inl fx))] [(m0, .inr (4, [.ref m1, .ref m2, .int (nI kn), .ref m3, .ref m4, .ref m5, .int (nI ln), .int (nI 1), .long hs])), (m1, .inl (cI, 228, .inl gs)), (m2, .inl (cI, 684, .inl gp)), (m3, .inl (cI, 228, .inl gl)), (m4, .inl (cZ, 2, .inl gk)), (m5, .inl (cI, 60, .inl fx))] sz) 0 0 (va_A [(m0, .inr (4, [.ref m1, .ref m2, .int (nI kn), .ref m3, .ref m4, .ref m5, .int (nI ln), .int th, .long hs])), (m1, .inl (cI, 228, .inl gs)), (m2, .inl (cI, 684, .inl gp)), (m3, .inl (cI, 228, .inl gl)), (m4, .inl (cZ, 2, .inl gk)), (m5, .inl (cI, 60, .inl fx))] sz) := by
  refine Met.ofW (cc := cX5_raise) (maxL := 3) (ret := (some .int)) (by decide) rfl ?_
  intro p e s m args below meth c s₁ B hml hv
  obtain ⟨rfl, hsz, ⟨hP, hK⟩, hD0⟩ := hv
  have hx := B.exec
  have hb := B.bytes
  have hr := B.returns
  have hts := atoms_spec (ws := wsX5_raise) B.pre
  have hown : s.vm.findClass RX5 = some m.cls := findClass_of_methodNamed B.named
  have hlocks := B.notSynchronized
  subst hsz
  have hD := hD0.self (sz := s.heap.size)
  generalize hAe : va_A [(m0, .inr (4, [.ref m1, .ref m2, .int (nI kn), .ref m3, .ref m4, .ref m5, .int (nI ln), .int th, .long hs])), (m1, .inl (cI, 228, .inl gs)), (m2, .inl (cI, 684, .inl gp)), (m3, .inl (cI, 228, .inl gl)), (m4, .inl (cZ, 2, .inl gk)), (m5, .inl (cI, 60, .inl fx))] s.heap.size = A at hD ⊢
  have hA : ∀ q : Nat, s.heap.size ≤ q → A q := fun q h => by rw [← hAe]; exact Or.inr h
  have hS : va_S A s.heap s.heap [] := va_S.rf
  have hl := lv_entry ([.ref m0, .int p0]) (n := 3) (Nat.le_of_ble_eq_true rfl)
  rw [lg_entry_eq]
  generalize (lg_sl ([.ref m0, .int p0]) ++ List.replicate (3 - (lg_sl ([.ref m0, .int p0])).length) Slot.unset).toArray = ls at hl ⊢
  have hl : lv_has ls 3 [(0, .ref m0), (1, .int p0)] := hl
  refine lv_aload_n hx hb dX5_raise_0 rfl (lv_at hl 0 rfl) ?_
  refine lv_iload_n hx hb dX5_raise_1 rfl (lv_at hl 1 rfl) ?_
  refine z_ci (va_runS (As := [.int p0]) (rest := [.ref m0]) ⟨hx, hb, hml, hown, hts⟩ (c_X5_isSquare l (v := p0)) (va_cwS 1 hts gX5_raise_X5_isSquare rfl rfl rfl (by decide +kernel) ⟨Nat.le_of_ble_eq_true rfl, Nat.le_of_ble_eq_true rfl⟩) z_preS rfl rfl hl.1 rfl (lv_room (Nat.le_of_ble_eq_true rfl)) dX5_raise_2 ⟨Nat.le_of_ble_eq_true rfl, Nat.le_of_ble_eq_true rfl⟩) ?_
  refine z_top (y := 0) (by rw [hbad]; rfl) ?_
  refine z_if_eq (tgt := 12) (P := True) hx hb dX5_raise_5 (by decide) (by decide) (fun c5 => ?_) (fun c5 => (show False from c5 trivial).elim)
  refine lv_iconst (v := 1) hx hb dX5_raise_12 (by decide) ?_
  refine z_cmi (wr := []) (ws' := [(m0, .inr (4, [.ref m1, .ref m2, .int (nI kn), .ref m3, .ref m4, .ref m5, .int (nI ln), .int (nI 1), .long hs])), (m1, .inl (cI, 228, .inl gs)), (m2, .inl (cI, 684, .inl gp)), (m3, .inl (cI, 228, .inl gl)), (m4, .inl (cZ, 2, .inl gk)), (m5, .inl (cI, 60, .inl fx))]) (va_runV (As := [.int 1]) (rest := []) ⟨hx, hb, hml, hown, hts⟩ (c_X5_throwsAt l D cI cZ cL _ (m0 := m0) (m1 := m1) (m2 := m2) (m3 := m3) (m4 := m4) (m5 := m5) (gs := gs) (gp := gp) (gl := gl) (gk := gk) (fx := fx) (kn := kn) (ln := ln) (th := th) (hs := hs) (pc0 := 1) (hpc := by omega)) (cwV 1 hts gX5_raise_X5_throwsAt rfl rfl rfl (by decide +kernel) ⟨Nat.le_of_ble_eq_true rfl, Nat.le_of_ble_eq_true rfl⟩) (z_preMV hK (hP.sub [0, 1, 2, 3, 4, 5] rfl) (hD.sub [0, 1, 2, 3, 4, 5] (by decide) rfl) 0 4 rfl rfl) rfl rfl hl.1 rfl (lv_room (Nat.le_of_ble_eq_true rfl)) dX5_raise_13 ⟨Nat.le_of_ble_eq_true rfl, Nat.le_of_ble_eq_true rfl⟩) hP hD hS hA [0, 1, 2, 3, 4, 5] [] [0, 1, 2, 3, 4, 5] rfl rfl (by decide) (by decide) rfl rfl (by decide) (fun H locs hP hD hS => ?_)
  refine z_top (y := 1) (by decide) ?_
  refine z_if_eq (tgt := 21) (P := False) hx hb dX5_raise_16 (by decide) (by decide) (fun c16 => (show False from c16).elim) (fun c16 => ?_)
  refine lv_iconst (v := 0) hx hb dX5_raise_19 (by decide) ?_
  have hP9 : va_P D vwCl [(m0, .inr (4, [.ref m1, .ref m2, .int (nI kn), .ref m3, .ref m4, .ref m5, .int (nI ln), .int (nI 1), .long hs])), (m1, .inl (cI, 228, .inl gs)), (m2, .inl (cI, 684, .inl gp)), (m3, .inl (cI, 228, .inl gl)), (m4, .inl (cZ, 2, .inl gk)), (m5, .inl (cI, 60, .inl fx))] _ := hP
  have hD9 : va_D A [(m0, .inr (4, [.ref m1, .ref m2, .int (nI kn), .ref m3, .ref m4, .ref m5, .int (nI ln), .int (nI 1), .long hs])), (m1, .inl (cI, 228, .inl gs)), (m2, .inl (cI, 684, .inl gp)), (m3, .inl (cI, 228, .inl gl)), (m4, .inl (cZ, 2, .inl gk)), (m5, .inl (cI, 60, .inl fx))] := hD
  subst hAe
  exact z_miret hx hb hr hlocks dX5_raise_20 (rfl) hP9 hD9 hS

set_option maxHeartbeats 4000000 in
set_option maxRecDepth 100000 in
/-- raise: refused -/
theorem c_X5_raise_ref (l : Launch) (D : va_G) (cI cZ cL : ClassId) (sz : Nat) (m0 : Nat) (m1 : Nat) (m2 : Nat) (m3 : Nat) (m4 : Nat) (m5 : Nat) (gs : Nat → Int32) (gp : Nat → Int32) (gl : Nat → Int32) (gk : Nat → Int32) (fx : Nat → Int32) (kn : Nat) (ln : Nat) (th : Int32) (hs : Int64) (q : Nat) (hz : Nat) (mv : Nat) (hq : q < 36) (hhz : hz < 12) (hmv : mv < 2) (hH : gs 108 = nI hz) (hM : gs 109 = nI mv) (hkn : kn < 7) (hre : pRM gs hz mv q ≠ 0) : Met l yX5_raise wsX5_raise ({ frames := 6, cells := 0, slots := 0, locals := 142 }) (va_Pc [.ref m0, .int (nI q)] (zM D cI cZ cL [(m0, .inr (4, [.ref m1, .ref m2, .int (nI kn), .ref m3, .ref m4, .ref m5, .int (nI ln), .int th, .long hs])), (m1, .inl (cI, 228, .inl gs)), (m2, .inl (cI, 684, .inl gp)), (m3, .inl (cI, 228, .inl gl)), (m4, .inl (cZ, 2, .inl gk)), (m5, .inl (cI, 60, .inl fx))] sz)) (zQmi D (nI (pRM gs hz mv q)) [(m0, .inr (4, [.ref m1, .ref m2, .int (nI kn), .ref m3, .ref m4, .ref m5, .int (nI ln), .int th, .long hs])), (m1, .inl (cI, 228, .inl gs)), (m2, .inl (cI, 684, .inl gp)), (m3, .inl (cI, 228, .inl gl)), (m4, .inl (cZ, 2, .inl gk)), (m5, .inl (cI, 60, .inl fx))] [(m0, .inr (4, [.ref m1, .ref m2, .int (nI (pKn kn + 1)), .ref m3, .ref m4, .ref m5, .int (nI ln), .int (nI 0), .long hs])), (m1, .inl (cI, 228, .inl (upd gs 111 (gs 111 + 1)))), (m2, .inl (cI, 684, .inl (pSv gs gp kn))), (m3, .inl (cI, 228, .inl gl)), (m4, .inl (cZ, 2, .inl gk)), (m5, .inl (cI, 60, .inl fx))] sz) 0 0 (va_A [(m0, .inr (4, [.ref m1, .ref m2, .int (nI kn), .ref m3, .ref m4, .ref m5, .int (nI ln), .int th, .long hs])), (m1, .inl (cI, 228, .inl gs)), (m2, .inl (cI, 684, .inl gp)), (m3, .inl (cI, 228, .inl gl)), (m4, .inl (cZ, 2, .inl gk)), (m5, .inl (cI, 60, .inl fx))] sz) := by
  refine Met.ofW (cc := cX5_raise) (maxL := 3) (ret := (some .int)) (by decide) rfl ?_
  intro p e s m args below meth c s₁ B hml hv
  obtain ⟨rfl, hsz, ⟨hP, hK⟩, hD0⟩ := hv
  have hx := B.exec
  have hb := B.bytes
  have hr := B.returns
  have hts := atoms_spec (ws := wsX5_raise) B.pre
  have hown : s.vm.findClass RX5 = some m.cls := findClass_of_methodNamed B.named
  have hlocks := B.notSynchronized
  subst hsz
  have hD := hD0.self (sz := s.heap.size)
  generalize hAe : va_A [(m0, .inr (4, [.ref m1, .ref m2, .int (nI kn), .ref m3, .ref m4, .ref m5, .int (nI ln), .int th, .long hs])), (m1, .inl (cI, 228, .inl gs)), (m2, .inl (cI, 684, .inl gp)), (m3, .inl (cI, 228, .inl gl)), (m4, .inl (cZ, 2, .inl gk)), (m5, .inl (cI, 60, .inl fx))] s.heap.size = A at hD ⊢
  have hA : ∀ q : Nat, s.heap.size ≤ q → A q := fun q h => by rw [← hAe]; exact Or.inr h
  have hS : va_S A s.heap s.heap [] := va_S.rf
  have in4 : ∀ w ∈ u_ws RX5 TX5 9, w ∈ wsX5_raise := by decide +kernel
  have fl7 := hts (.fieldLink RX5 7 "TowerShadesModel" "s" "[I") (by decide +kernel)
  have hl := lv_entry ([.ref m0, .int (nI q)]) (n := 3) (Nat.le_of_ble_eq_true rfl)
  rw [lg_entry_eq]
  generalize (lg_sl ([.ref m0, .int (nI q)]) ++ List.replicate (3 - (lg_sl ([.ref m0, .int (nI q)])).length) Slot.unset).toArray = ls at hl ⊢
  have hl : lv_has ls 3 [(0, .ref m0), (1, .int (nI q))] := hl
  have hkn5 := pKn_lt hkn
  have hr3 : pRM gs hz mv q ≤ 3 := by unfold pRM; repeat (first | split | omega)
  refine lv_aload_n hx hb dX5_raise_0 rfl (lv_at hl 0 rfl) ?_
  refine lv_iload_n hx hb dX5_raise_1 rfl (lv_at hl 1 rfl) ?_
  refine z_ci (va_runS (As := [.int (nI q)]) (rest := [.ref m0]) ⟨hx, hb, hml, hown, hts⟩ (c_X5_isSquare l (v := nI q)) (va_cwS 1 hts gX5_raise_X5_isSquare rfl rfl rfl (by decide +kernel) ⟨Nat.le_of_ble_eq_true rfl, Nat.le_of_ble_eq_true rfl⟩) z_preS rfl rfl hl.1 rfl (lv_room (Nat.le_of_ble_eq_true rfl)) dX5_raise_2 ⟨Nat.le_of_ble_eq_true rfl, Nat.le_of_ble_eq_true rfl⟩) ?_
  refine z_top (y := 1) (by rw [sq_ok q hq]; rfl) ?_
  refine z_if_eq (tgt := 12) (P := False) hx hb dX5_raise_5 (by decide) (by decide) (fun c5 => (show False from c5).elim) (fun c5 => ?_)
  refine lv_iconst (v := 0) hx hb dX5_raise_8 (by decide) ?_
  refine lv_goto (tgt := 13) hx hb dX5_raise_9 (by decide) ?_
  refine z_cmi (wr := []) (ws' := [(m0, .inr (4, [.ref m1, .ref m2, .int (nI kn), .ref m3, .ref m4, .ref m5, .int (nI ln), .int (nI 0), .long hs])), (m1, .inl (cI, 228, .inl gs)), (m2, .inl (cI, 684, .inl gp)), (m3, .inl (cI, 228, .inl gl)), (m4, .inl (cZ, 2, .inl gk)), (m5, .inl (cI, 60, .inl fx))]) (va_runV (As := [.int 0]) (rest := []) ⟨hx, hb, hml, hown, hts⟩ (c_X5_throwsAt l D cI cZ cL _ (m0 := m0) (m1 := m1) (m2 := m2) (m3 := m3) (m4 := m4) (m5 := m5) (gs := gs) (gp := gp) (gl := gl) (gk := gk) (fx := fx) (kn := kn) (ln := ln) (th := th) (hs := hs) (pc0 := 0) (hpc := by omega)) (cwV 1 hts gX5_raise_X5_throwsAt rfl rfl rfl (by decide +kernel) ⟨Nat.le_of_ble_eq_true rfl, Nat.le_of_ble_eq_true rfl⟩) (z_preMV hK (hP.sub [0, 1, 2, 3, 4, 5] rfl) (hD.sub [0, 1, 2, 3, 4, 5] (by decide) rfl) 0 4 rfl rfl) rfl rfl hl.1 rfl (lv_room (Nat.le_of_ble_eq_true rfl)) dX5_raise_13 ⟨Nat.le_of_ble_eq_true rfl, Nat.le_of_ble_eq_true rfl⟩) hP hD hS hA [0, 1, 2, 3, 4, 5] [] [0, 1, 2, 3, 4, 5] rfl rfl (by decide) (by decide) rfl rfl (by decide) (fun H locs hP hD hS => ?_)
  refine z_top (y := 0) (by decide) ?_
  refine z_if_eq (tgt := 21) (P := True) hx hb dX5_raise_16 (by decide) (by decide) (fun c16 => ?_) (fun c16 => (show False from c16 trivial).elim)
  refine lv_aload_n hx hb dX5_raise_21 rfl (lv_at hl 0 rfl) ?_
  refine z_cmv (wr := []) (ws' := [(m0, .inr (4, [.ref m1, .ref m2, .int (nI (pKn kn + 1)), .ref m3, .ref m4, .ref m5, .int (nI ln), .int (nI 0), .long hs])), (m1, .inl (cI, 228, .inl gs)), (m2, .inl (cI, 684, .inl (pSv gs gp kn))), (m3, .inl (cI, 228, .inl gl)), (m4, .inl (cZ, 2, .inl gk)), (m5, .inl (cI, 60, .inl fx))]) (va_runV (As := []) (rest := []) ⟨hx, hb, hml, hown, hts⟩ (c_X5_saves l D cI cZ cL _ (m0 := m0) (m1 := m1) (m2 := m2) (m3 := m3) (m4 := m4) (m5 := m5) (gs := gs) (gp := gp) (gl := gl) (gk := gk) (fx := fx) (kn := kn) (ln := ln) (th := nI 0) (hs := hs) (hkn := by omega)) (cwV 0 hts gX5_raise_X5_saves rfl rfl rfl (by decide +kernel) ⟨Nat.le_of_ble_eq_true rfl, Nat.le_of_ble_eq_true rfl⟩) (z_preMV hK (hP.sub [0, 1, 2, 3, 4, 5] rfl) (hD.sub [0, 1, 2, 3, 4, 5] (by decide) rfl) 0 4 rfl rfl) rfl rfl hl.1 rfl (lv_room (Nat.le_of_ble_eq_true rfl)) dX5_raise_22 ⟨Nat.le_of_ble_eq_true rfl, Nat.le_of_ble_eq_true rfl⟩) hP hD hS hA [0, 1, 2, 3, 4, 5] [] [0, 1, 2, 3, 4, 5] rfl rfl (by decide) (by decide) rfl rfl (by decide) (fun H locs hP hD hS => ?_)
  refine lv_aload_n hx hb dX5_raise_25 rfl (lv_at hl 0 rfl) ?_
  refine lv_iload_n hx hb dX5_raise_26 rfl (lv_at hl 1 rfl) ?_
  refine z_ci (va_runV (As := [.int (nI q)]) (rest := []) ⟨hx, hb, hml, hown, hts⟩ (c_X5_reason l D cI cZ cL (m0 := m0) (m1 := m1) (m2 := m2) (m3 := m3) (m4 := m4) (m5 := m5) (gs := gs) (gp := (pSv gs gp kn)) (gl := gl) (gk := gk) (fx := fx) (kn := (pKn kn + 1)) (ln := ln) (th := (nI 0)) (hs := hs) (q := q) (hz := hz) (mv := mv) (hq := by omega) (hhz := by omega) (hmv := by omega) (hH := hH) (hM := hM)) (cwV 1 hts gX5_raise_X5_reason rfl rfl rfl (by decide +kernel) ⟨Nat.le_of_ble_eq_true rfl, Nat.le_of_ble_eq_true rfl⟩) (z_preV hK (hP.sub [0, 1, 2, 3, 4, 5] rfl) 0 4 rfl rfl) rfl rfl hl.1 rfl (lv_room (Nat.le_of_ble_eq_true rfl)) dX5_raise_27 ⟨Nat.le_of_ble_eq_true rfl, Nat.le_of_ble_eq_true rfl⟩) ?_
  refine lv_istore_n (lv' := [(2, .int (nI (pRM gs hz mv q))), (0, .ref m0), (1, .int (nI q))]) hx hb dX5_raise_30 rfl hl (by decide) rfl (fun ls hl => ?_)
  refine lv_iload_n hx hb dX5_raise_31 rfl (lv_at hl 0 rfl) ?_
  refine z_if_le (tgt := 48) (P := pRM gs hz mv q ≤ 0) hx hb dX5_raise_32 (by decide) (nI_leI (a := pRM gs hz mv q) (b := 0) (by omega) (by omega)) (fun c32 => (show False from hre (by omega)).elim) (fun c32 => ?_)
  refine lv_aload_n hx hb dX5_raise_35 rfl (lv_at hl 1 rfl) ?_
  refine va_get (D := D) (ci := 4) (v := .ref m1) (C := RX5) (T := TX5) (N := 9) hx hb hts in4 hown hK hP 0 rfl rfl 0 (by decide) fl7 (fun _ h9 => h9) rfl dX5_raise_36 ?_
  refine lv_bipush (v := 111) hx hb dX5_raise_39 (by decide) ?_
  refine lv_dup2_11 hx hb dX5_raise_41 rfl rfl ?_
  refine z_iald hx hb hK hP 1 0 rfl rfl (k := 111) (rfl) (by omega) (by decide) dX5_raise_42 ?_
  refine lv_iconst (v := 1) hx hb dX5_raise_43 (by decide) ?_
  refine z_iadd (v := ((gs 111) + 1)) hx hb dX5_raise_44 (rfl) ?_
  refine z_iast hx hb hK hP hD hS 1 0 rfl rfl (k := 111) (rfl) (by omega) (by decide) dX5_raise_45 (g := upd gs 111 ((gs 111) + 1)) (rfl) (fun H locs hP hD hS => ?_)
  have hP : va_P D vwCl [(m0, .inr (4, [.ref m1, .ref m2, .int (nI (pKn kn + 1)), .ref m3, .ref m4, .ref m5, .int (nI ln), .int (nI 0), .long hs])), (m1, .inl (cI, 228, .inl (upd gs 111 ((gs 111) + 1)))), (m2, .inl (cI, 684, .inl (pSv gs gp kn))), (m3, .inl (cI, 228, .inl gl)), (m4, .inl (cZ, 2, .inl gk)), (m5, .inl (cI, 60, .inl fx))] _ := hP
  have hD : va_D A [(m0, .inr (4, [.ref m1, .ref m2, .int (nI (pKn kn + 1)), .ref m3, .ref m4, .ref m5, .int (nI ln), .int (nI 0), .long hs])), (m1, .inl (cI, 228, .inl (upd gs 111 ((gs 111) + 1)))), (m2, .inl (cI, 684, .inl (pSv gs gp kn))), (m3, .inl (cI, 228, .inl gl)), (m4, .inl (cZ, 2, .inl gk)), (m5, .inl (cI, 60, .inl fx))] := hD
  refine lv_iload_n hx hb dX5_raise_46 rfl (lv_at hl 0 rfl) ?_
  have hW9 : ([(m0, .inr (4, [.ref m1, .ref m2, .int (nI (pKn kn + 1)), .ref m3, .ref m4, .ref m5, .int (nI ln), .int (nI 0), .long hs])), (m1, .inl (cI, 228, .inl (upd gs 111 ((gs 111) + 1)))), (m2, .inl (cI, 684, .inl (pSv gs gp kn))), (m3, .inl (cI, 228, .inl gl)), (m4, .inl (cZ, 2, .inl gk)), (m5, .inl (cI, 60, .inl fx))] : va_W) = [(m0, .inr (4, [.ref m1, .ref m2, .int (nI (pKn kn + 1)), .ref m3, .ref m4, .ref m5, .int (nI ln), .int (nI 0), .long hs])), (m1, .inl (cI, 228, .inl (upd gs 111 (gs 111 + 1)))), (m2, .inl (cI, 684, .inl (pSv gs gp kn))), (m3, .inl (cI, 228, .inl gl)), (m4, .inl (cZ, 2, .inl gk)), (m5, .inl (cI, 60, .inl fx))] := rfl
  rw [hW9] at hP hD
  have hP9 : va_P D vwCl [(m0, .inr (4, [.ref m1, .ref m2, .int (nI (pKn kn + 1)), .ref m3, .ref m4, .ref m5, .int (nI ln), .int (nI 0), .long hs])), (m1, .inl (cI, 228, .inl (upd gs 111 (gs 111 + 1)))), (m2, .inl (cI, 684, .inl (pSv gs gp kn))), (m3, .inl (cI, 228, .inl gl)), (m4, .inl (cZ, 2, .inl gk)), (m5, .inl (cI, 60, .inl fx))] _ := hP
  have hD9 : va_D A [(m0, .inr (4, [.ref m1, .ref m2, .int (nI (pKn kn + 1)), .ref m3, .ref m4, .ref m5, .int (nI ln), .int (nI 0), .long hs])), (m1, .inl (cI, 228, .inl (upd gs 111 (gs 111 + 1)))), (m2, .inl (cI, 684, .inl (pSv gs gp kn))), (m3, .inl (cI, 228, .inl gl)), (m4, .inl (cZ, 2, .inl gk)), (m5, .inl (cI, 60, .inl fx))] := hD
  subst hAe
  exact z_miret hx hb hr hlocks dX5_raise_47 (rfl) hP9 hD9 hS

set_option maxHeartbeats 4000000 in
set_option maxRecDepth 100000 in
/-- raise: a turn -/
theorem c_X5_raise_ok (l : Launch) (D : va_G) (cI cZ cL : ClassId) (sz : Nat) (m0 : Nat) (m1 : Nat) (m2 : Nat) (m3 : Nat) (m4 : Nat) (m5 : Nat) (gs : Nat → Int32) (gp : Nat → Int32) (gl : Nat → Int32) (gk : Nat → Int32) (fx : Nat → Int32) (kn : Nat) (ln : Nat) (th : Int32) (hs : Int64) (q : Nat) (hz : Nat) (mv : Nat) (hq : q < 36) (hhz : hz < 12) (hmv : mv < 2) (hH : gs 108 = nI hz) (hM : gs 109 = nI mv) (hkn : kn < 7) (hre : pRM gs hz mv q = 0) : Met l yX5_raise wsX5_raise ({ frames := 7, cells := 0, slots := 0, locals := 167 }) (va_Pc [.ref m0, .int (nI q)] (zM D cI cZ cL [(m0, .inr (4, [.ref m1, .ref m2, .int (nI kn), .ref m3, .ref m4, .ref m5, .int (nI ln), .int th, .long hs])), (m1, .inl (cI, 228, .inl gs)), (m2, .inl (cI, 684, .inl gp)), (m3, .inl (cI, 228, .inl gl)), (m4, .inl (cZ, 2, .inl gk)), (m5, .inl (cI, 60, .inl fx))] sz)) (zQmi D (10 + pEn (pRs gs 0 q) hz mv (0 + q)) [(m0, .inr (4, [.ref m1, .ref m2, .int (nI kn), .ref m3, .ref m4, .ref m5, .int (nI ln), .int th, .long hs])), (m1, .inl (cI, 228, .inl gs)), (m2, .inl (cI, 684, .inl gp)), (m3, .inl (cI, 228, .inl gl)), (m4, .inl (cZ, 2, .inl gk)), (m5, .inl (cI, 60, .inl fx))] [(m0, .inr (4, [.ref m1, .ref m2, .int (nI (pKn kn + 1)), .ref m3, .ref m4, .ref m5, .int (nI ln), .int (nI 0), .long hs])), (m1, .inl (cI, 228, .inl (pEn (pRs gs 0 q) hz mv))), (m2, .inl (cI, 684, .inl (pSv gs gp kn))), (m3, .inl (cI, 228, .inl gl)), (m4, .inl (cZ, 2, .inl gk)), (m5, .inl (cI, 60, .inl fx))] sz) 0 0 (va_A [(m0, .inr (4, [.ref m1, .ref m2, .int (nI kn), .ref m3, .ref m4, .ref m5, .int (nI ln), .int th, .long hs])), (m1, .inl (cI, 228, .inl gs)), (m2, .inl (cI, 684, .inl gp)), (m3, .inl (cI, 228, .inl gl)), (m4, .inl (cZ, 2, .inl gk)), (m5, .inl (cI, 60, .inl fx))] sz) := by
  refine Met.ofW (cc := cX5_raise) (maxL := 3) (ret := (some .int)) (by decide) rfl ?_
  intro p e s m args below meth c s₁ B hml hv
  obtain ⟨rfl, hsz, ⟨hP, hK⟩, hD0⟩ := hv
  have hx := B.exec
  have hb := B.bytes
  have hr := B.returns
  have hts := atoms_spec (ws := wsX5_raise) B.pre
  have hown : s.vm.findClass RX5 = some m.cls := findClass_of_methodNamed B.named
  have hlocks := B.notSynchronized
  subst hsz
  have hD := hD0.self (sz := s.heap.size)
  generalize hAe : va_A [(m0, .inr (4, [.ref m1, .ref m2, .int (nI kn), .ref m3, .ref m4, .ref m5, .int (nI ln), .int th, .long hs])), (m1, .inl (cI, 228, .inl gs)), (m2, .inl (cI, 684, .inl gp)), (m3, .inl (cI, 228, .inl gl)), (m4, .inl (cZ, 2, .inl gk)), (m5, .inl (cI, 60, .inl fx))] s.heap.size = A at hD ⊢
  have hA : ∀ q : Nat, s.heap.size ≤ q → A q := fun q h => by rw [← hAe]; exact Or.inr h
  have hS : va_S A s.heap s.heap [] := va_S.rf
  have in4 : ∀ w ∈ u_ws RX5 TX5 9, w ∈ wsX5_raise := by decide +kernel
  have fl7 := hts (.fieldLink RX5 7 "TowerShadesModel" "s" "[I") (by decide +kernel)
  have hl := lv_entry ([.ref m0, .int (nI q)]) (n := 3) (Nat.le_of_ble_eq_true rfl)
  rw [lg_entry_eq]
  generalize (lg_sl ([.ref m0, .int (nI q)]) ++ List.replicate (3 - (lg_sl ([.ref m0, .int (nI q)])).length) Slot.unset).toArray = ls at hl ⊢
  have hl : lv_has ls 3 [(0, .ref m0), (1, .int (nI q))] := hl
  have hkn5 := pKn_lt hkn
  refine lv_aload_n hx hb dX5_raise_0 rfl (lv_at hl 0 rfl) ?_
  refine lv_iload_n hx hb dX5_raise_1 rfl (lv_at hl 1 rfl) ?_
  refine z_ci (va_runS (As := [.int (nI q)]) (rest := [.ref m0]) ⟨hx, hb, hml, hown, hts⟩ (c_X5_isSquare l (v := nI q)) (va_cwS 1 hts gX5_raise_X5_isSquare rfl rfl rfl (by decide +kernel) ⟨Nat.le_of_ble_eq_true rfl, Nat.le_of_ble_eq_true rfl⟩) z_preS rfl rfl hl.1 rfl (lv_room (Nat.le_of_ble_eq_true rfl)) dX5_raise_2 ⟨Nat.le_of_ble_eq_true rfl, Nat.le_of_ble_eq_true rfl⟩) ?_
  refine z_top (y := 1) (by rw [sq_ok q hq]; rfl) ?_
  refine z_if_eq (tgt := 12) (P := False) hx hb dX5_raise_5 (by decide) (by decide) (fun c5 => (show False from c5).elim) (fun c5 => ?_)
  refine lv_iconst (v := 0) hx hb dX5_raise_8 (by decide) ?_
  refine lv_goto (tgt := 13) hx hb dX5_raise_9 (by decide) ?_
  refine z_cmi (wr := []) (ws' := [(m0, .inr (4, [.ref m1, .ref m2, .int (nI kn), .ref m3, .ref m4, .ref m5, .int (nI ln), .int (nI 0), .long hs])), (m1, .inl (cI, 228, .inl gs)), (m2, .inl (cI, 684, .inl gp)), (m3, .inl (cI, 228, .inl gl)), (m4, .inl (cZ, 2, .inl gk)), (m5, .inl (cI, 60, .inl fx))]) (va_runV (As := [.int 0]) (rest := []) ⟨hx, hb, hml, hown, hts⟩ (c_X5_throwsAt l D cI cZ cL _ (m0 := m0) (m1 := m1) (m2 := m2) (m3 := m3) (m4 := m4) (m5 := m5) (gs := gs) (gp := gp) (gl := gl) (gk := gk) (fx := fx) (kn := kn) (ln := ln) (th := th) (hs := hs) (pc0 := 0) (hpc := by omega)) (cwV 1 hts gX5_raise_X5_throwsAt rfl rfl rfl (by decide +kernel) ⟨Nat.le_of_ble_eq_true rfl, Nat.le_of_ble_eq_true rfl⟩) (z_preMV hK (hP.sub [0, 1, 2, 3, 4, 5] rfl) (hD.sub [0, 1, 2, 3, 4, 5] (by decide) rfl) 0 4 rfl rfl) rfl rfl hl.1 rfl (lv_room (Nat.le_of_ble_eq_true rfl)) dX5_raise_13 ⟨Nat.le_of_ble_eq_true rfl, Nat.le_of_ble_eq_true rfl⟩) hP hD hS hA [0, 1, 2, 3, 4, 5] [] [0, 1, 2, 3, 4, 5] rfl rfl (by decide) (by decide) rfl rfl (by decide) (fun H locs hP hD hS => ?_)
  refine z_top (y := 0) (by decide) ?_
  refine z_if_eq (tgt := 21) (P := True) hx hb dX5_raise_16 (by decide) (by decide) (fun c16 => ?_) (fun c16 => (show False from c16 trivial).elim)
  refine lv_aload_n hx hb dX5_raise_21 rfl (lv_at hl 0 rfl) ?_
  refine z_cmv (wr := []) (ws' := [(m0, .inr (4, [.ref m1, .ref m2, .int (nI (pKn kn + 1)), .ref m3, .ref m4, .ref m5, .int (nI ln), .int (nI 0), .long hs])), (m1, .inl (cI, 228, .inl gs)), (m2, .inl (cI, 684, .inl (pSv gs gp kn))), (m3, .inl (cI, 228, .inl gl)), (m4, .inl (cZ, 2, .inl gk)), (m5, .inl (cI, 60, .inl fx))]) (va_runV (As := []) (rest := []) ⟨hx, hb, hml, hown, hts⟩ (c_X5_saves l D cI cZ cL _ (m0 := m0) (m1 := m1) (m2 := m2) (m3 := m3) (m4 := m4) (m5 := m5) (gs := gs) (gp := gp) (gl := gl) (gk := gk) (fx := fx) (kn := kn) (ln := ln) (th := nI 0) (hs := hs) (hkn := by omega)) (cwV 0 hts gX5_raise_X5_saves rfl rfl rfl (by decide +kernel) ⟨Nat.le_of_ble_eq_true rfl, Nat.le_of_ble_eq_true rfl⟩) (z_preMV hK (hP.sub [0, 1, 2, 3, 4, 5] rfl) (hD.sub [0, 1, 2, 3, 4, 5] (by decide) rfl) 0 4 rfl rfl) rfl rfl hl.1 rfl (lv_room (Nat.le_of_ble_eq_true rfl)) dX5_raise_22 ⟨Nat.le_of_ble_eq_true rfl, Nat.le_of_ble_eq_true rfl⟩) hP hD hS hA [0, 1, 2, 3, 4, 5] [] [0, 1, 2, 3, 4, 5] rfl rfl (by decide) (by decide) rfl rfl (by decide) (fun H locs hP hD hS => ?_)
  refine lv_aload_n hx hb dX5_raise_25 rfl (lv_at hl 0 rfl) ?_
  refine lv_iload_n hx hb dX5_raise_26 rfl (lv_at hl 1 rfl) ?_
  refine z_ci (va_runV (As := [.int (nI q)]) (rest := []) ⟨hx, hb, hml, hown, hts⟩ (c_X5_reason l D cI cZ cL (m0 := m0) (m1 := m1) (m2 := m2) (m3 := m3) (m4 := m4) (m5 := m5) (gs := gs) (gp := (pSv gs gp kn)) (gl := gl) (gk := gk) (fx := fx) (kn := (pKn kn + 1)) (ln := ln) (th := (nI 0)) (hs := hs) (q := q) (hz := hz) (mv := mv) (hq := by omega) (hhz := by omega) (hmv := by omega) (hH := hH) (hM := hM)) (cwV 1 hts gX5_raise_X5_reason rfl rfl rfl (by decide +kernel) ⟨Nat.le_of_ble_eq_true rfl, Nat.le_of_ble_eq_true rfl⟩) (z_preV hK (hP.sub [0, 1, 2, 3, 4, 5] rfl) 0 4 rfl rfl) rfl rfl hl.1 rfl (lv_room (Nat.le_of_ble_eq_true rfl)) dX5_raise_27 ⟨Nat.le_of_ble_eq_true rfl, Nat.le_of_ble_eq_true rfl⟩) ?_
  refine lv_istore_n (lv' := [(2, .int (nI (pRM gs hz mv q))), (0, .ref m0), (1, .int (nI q))]) hx hb dX5_raise_30 rfl hl (by decide) rfl (fun ls hl => ?_)
  refine lv_iload_n hx hb dX5_raise_31 rfl (lv_at hl 0 rfl) ?_
  refine z_if_le (tgt := 48) (P := pRM gs hz mv q ≤ 0) hx hb dX5_raise_32 (by decide) (nI_leI (a := pRM gs hz mv q) (b := 0) (by omega) (by omega)) (fun c32 => ?_) (fun c32 => (show False from c32 (by omega)).elim)
  refine lv_aload_n hx hb dX5_raise_48 rfl (lv_at hl 1 rfl) ?_
  refine lv_iconst (v := 0) hx hb dX5_raise_49 (by decide) ?_
  refine lv_iload_n hx hb dX5_raise_50 rfl (lv_at hl 2 rfl) ?_
  refine z_cmv (wr := []) (ws' := [(m0, .inr (4, [.ref m1, .ref m2, .int (nI (pKn kn + 1)), .ref m3, .ref m4, .ref m5, .int (nI ln), .int (nI 0), .long hs])), (m1, .inl (cI, 228, .inl (pRs gs 0 q))), (m2, .inl (cI, 684, .inl (pSv gs gp kn))), (m3, .inl (cI, 228, .inl gl)), (m4, .inl (cZ, 2, .inl gk)), (m5, .inl (cI, 60, .inl fx))]) (va_runV (As := [.int 0, .int (nI q)]) (rest := []) ⟨hx, hb, hml, hown, hts⟩ (c_X5_raises l D cI cZ cL _ (m0 := m0) (m1 := m1) (m2 := m2) (m3 := m3) (m4 := m4) (m5 := m5) (gs := gs) (gp := (pSv gs gp kn)) (gl := gl) (gk := gk) (fx := fx) (kn := (pKn kn + 1)) (ln := ln) (th := (nI 0)) (hs := hs) (P := 0) (q := q) (hpp := by omega) (hq := by omega)) (cwV 2 hts gX5_raise_X5_raises rfl rfl rfl (by decide +kernel) ⟨Nat.le_of_ble_eq_true rfl, Nat.le_of_ble_eq_true rfl⟩) (z_preMV hK (hP.sub [0, 1, 2, 3, 4, 5] rfl) (hD.sub [0, 1, 2, 3, 4, 5] (by decide) rfl) 0 4 rfl rfl) rfl rfl hl.1 rfl (lv_room (Nat.le_of_ble_eq_true rfl)) dX5_raise_51 ⟨Nat.le_of_ble_eq_true rfl, Nat.le_of_ble_eq_true rfl⟩) hP hD hS hA [0, 1, 2, 3, 4, 5] [] [0, 1, 2, 3, 4, 5] rfl rfl (by decide) (by decide) rfl rfl (by decide) (fun H locs hP hD hS => ?_)
  refine lv_aload_n hx hb dX5_raise_54 rfl (lv_at hl 1 rfl) ?_
  refine z_cmv (wr := []) (ws' := [(m0, .inr (4, [.ref m1, .ref m2, .int (nI (pKn kn + 1)), .ref m3, .ref m4, .ref m5, .int (nI ln), .int (nI 0), .long hs])), (m1, .inl (cI, 228, .inl (pEn (pRs gs 0 q) hz mv))), (m2, .inl (cI, 684, .inl (pSv gs gp kn))), (m3, .inl (cI, 228, .inl gl)), (m4, .inl (cZ, 2, .inl gk)), (m5, .inl (cI, 60, .inl fx))]) (va_runV (As := []) (rest := []) ⟨hx, hb, hml, hown, hts⟩ (c_X5_ends l D cI cZ cL _ (m0 := m0) (m1 := m1) (m2 := m2) (m3 := m3) (m4 := m4) (m5 := m5) (gs := (pRs gs 0 q)) (gp := (pSv gs gp kn)) (gl := gl) (gk := gk) (fx := fx) (kn := (pKn kn + 1)) (ln := ln) (th := (nI 0)) (hs := hs) (hz := hz) (mv := mv) (hhz := by omega) (hmv := by omega) (hH := by rw [pRs_hi 0 hq (by omega)]; exact hH) (hM := by rw [pRs_hi 0 hq (by omega)]; exact hM)) (cwV 0 hts gX5_raise_X5_ends rfl rfl rfl (by decide +kernel) ⟨Nat.le_of_ble_eq_true rfl, Nat.le_of_ble_eq_true rfl⟩) (z_preMV hK (hP.sub [0, 1, 2, 3, 4, 5] rfl) (hD.sub [0, 1, 2, 3, 4, 5] (by decide) rfl) 0 4 rfl rfl) rfl rfl hl.1 rfl (lv_room (Nat.le_of_ble_eq_true rfl)) dX5_raise_55 ⟨Nat.le_of_ble_eq_true rfl, Nat.le_of_ble_eq_true rfl⟩) hP hD hS hA [0, 1, 2, 3, 4, 5] [] [0, 1, 2, 3, 4, 5] rfl rfl (by decide) (by decide) rfl rfl (by decide) (fun H locs hP hD hS => ?_)
  refine lv_bipush (v := 10) hx hb dX5_raise_58 (by decide) ?_
  refine lv_aload_n hx hb dX5_raise_60 rfl (lv_at hl 1 rfl) ?_
  refine va_get (D := D) (ci := 4) (v := .ref m1) (C := RX5) (T := TX5) (N := 9) hx hb hts in4 hown hK hP 0 rfl rfl 0 (by decide) fl7 (fun _ h9 => h9) rfl dX5_raise_61 ?_
  refine lv_iconst (v := 0) hx hb dX5_raise_64 (by decide) ?_
  refine lv_iload_n hx hb dX5_raise_65 rfl (lv_at hl 2 rfl) ?_
  refine z_iadd (v := nI (0 + q)) hx hb dX5_raise_66 (nI_add (0) (q)) ?_
  refine z_iald hx hb hK hP 1 0 rfl rfl (k := (0 + q)) (rfl) (by omega) (by decide) dX5_raise_67 ?_
  refine z_iadd (v := (10 + ((pEn (pRs gs 0 q) hz mv) (0 + q)))) hx hb dX5_raise_68 (rfl) ?_
  have hP9 : va_P D vwCl [(m0, .inr (4, [.ref m1, .ref m2, .int (nI (pKn kn + 1)), .ref m3, .ref m4, .ref m5, .int (nI ln), .int (nI 0), .long hs])), (m1, .inl (cI, 228, .inl (pEn (pRs gs 0 q) hz mv))), (m2, .inl (cI, 684, .inl (pSv gs gp kn))), (m3, .inl (cI, 228, .inl gl)), (m4, .inl (cZ, 2, .inl gk)), (m5, .inl (cI, 60, .inl fx))] _ := hP
  have hD9 : va_D A [(m0, .inr (4, [.ref m1, .ref m2, .int (nI (pKn kn + 1)), .ref m3, .ref m4, .ref m5, .int (nI ln), .int (nI 0), .long hs])), (m1, .inl (cI, 228, .inl (pEn (pRs gs 0 q) hz mv))), (m2, .inl (cI, 684, .inl (pSv gs gp kn))), (m3, .inl (cI, 228, .inl gl)), (m4, .inl (cZ, 2, .inl gk)), (m5, .inl (cI, 60, .inl fx))] := hD
  subst hAe
  exact z_miret hx hb hr hlocks dX5_raise_69 (rfl) hP9 hD9 hS

set_option maxHeartbeats 4000000 in
set_option maxRecDepth 100000 in
/-- rest -/
theorem c_X5_rest_ok (l : Launch) (D : va_G) (cI cZ cL : ClassId) (sz : Nat) (m0 : Nat) (m1 : Nat) (m2 : Nat) (m3 : Nat) (m4 : Nat) (m5 : Nat) (gs : Nat → Int32) (gp : Nat → Int32) (gl : Nat → Int32) (gk : Nat → Int32) (fx : Nat → Int32) (kn : Nat) (ln : Nat) (th : Int32) (hs : Int64) (hz : Nat) (mv : Nat) (hhz : hz < 12) (hmv : mv < 2) (hH : gs 108 = nI hz) (hM : gs 109 = nI mv) (hkn : kn < 7) : Met l yX5_rest wsX5_rest ({ frames := 7, cells := 0, slots := 0, locals := 167 }) (va_Pc [.ref m0] (zM D cI cZ cL [(m0, .inr (4, [.ref m1, .ref m2, .int (nI kn), .ref m3, .ref m4, .ref m5, .int (nI ln), .int th, .long hs])), (m1, .inl (cI, 228, .inl gs)), (m2, .inl (cI, 684, .inl gp)), (m3, .inl (cI, 228, .inl gl)), (m4, .inl (cZ, 2, .inl gk)), (m5, .inl (cI, 60, .inl fx))] sz)) (zQmi D (pPM gs 0 hz mv) [(m0, .inr (4, [.ref m1, .ref m2, .int (nI kn), .ref m3, .ref m4, .ref m5, .int (nI ln), .int th, .long hs])), (m1, .inl (cI, 228, .inl gs)), (m2, .inl (cI, 684, .inl gp)), (m3, .inl (cI, 228, .inl gl)), (m4, .inl (cZ, 2, .inl gk)), (m5, .inl (cI, 60, .inl fx))] [(m0, .inr (4, [.ref m1, .ref m2, .int (nI (pKn kn + 1)), .ref m3, .ref m4, .ref m5, .int (nI ln), .int (nI 0), .long hs])), (m1, .inl (cI, 228, .inl (pEn gs hz mv))), (m2, .inl (cI, 684, .inl (pSv gs gp kn))), (m3, .inl (cI, 228, .inl gl)), (m4, .inl (cZ, 2, .inl gk)), (m5, .inl (cI, 60, .inl fx))] sz) 0 0 (va_A [(m0, .inr (4, [.ref m1, .ref m2, .int (nI kn), .ref m3, .ref m4, .ref m5, .int (nI ln), .int th, .long hs])), (m1, .inl (cI, 228, .inl gs)), (m2, .inl (cI, 684, .inl gp)), (m3, .inl (cI, 228, .inl gl)), (m4, .inl (cZ, 2, .inl gk)), (m5, .inl (cI, 60, .inl fx))] sz) := by
  refine Met.ofW (cc := cX5_rest) (maxL := 2) (ret := (some .int)) (by decide) rfl ?_
  intro p e s m args below meth c s₁ B hml hv
  obtain ⟨rfl, hsz, ⟨hP, hK⟩, hD0⟩ := hv
  have hx := B.exec
  have hb := B.bytes
  have hr := B.returns
  have hts := atoms_spec (ws := wsX5_rest) B.pre
  have hown : s.vm.findClass RX5 = some m.cls := findClass_of_methodNamed B.named
  have hlocks := B.notSynchronized
  subst hsz
  have hD := hD0.self (sz := s.heap.size)
  generalize hAe : va_A [(m0, .inr (4, [.ref m1, .ref m2, .int (nI kn), .ref m3, .ref m4, .ref m5, .int (nI ln), .int th, .long hs])), (m1, .inl (cI, 228, .inl gs)), (m2, .inl (cI, 684, .inl gp)), (m3, .inl (cI, 228, .inl gl)), (m4, .inl (cZ, 2, .inl gk)), (m5, .inl (cI, 60, .inl fx))] s.heap.size = A at hD ⊢
  have hA : ∀ q : Nat, s.heap.size ≤ q → A q := fun q h => by rw [← hAe]; exact Or.inr h
  have hS : va_S A s.heap s.heap [] := va_S.rf
  have in4 : ∀ w ∈ u_ws RX5 TX5 9, w ∈ wsX5_rest := by decide +kernel
  have fl7 := hts (.fieldLink RX5 7 "TowerShadesModel" "s" "[I") (by decide +kernel)
  have fl26 := hts (.fieldLink RX5 26 "TowerShadesModel" "thrown" "I") (by decide +kernel)
  have hl := lv_entry ([.ref m0]) (n := 2) (Nat.le_of_ble_eq_true rfl)
  rw [lg_entry_eq]
  generalize (lg_sl ([.ref m0]) ++ List.replicate (2 - (lg_sl ([.ref m0])).length) Slot.unset).toArray = ls at hl ⊢
  have hl : lv_has ls 2 [(0, .ref m0)] := hl
  refine lv_aload_n hx hb dX5_rest_0 rfl (lv_at hl 0 rfl) ?_
  refine lv_iconst (v := 0) hx hb dX5_rest_1 (by decide) ?_
  refine va_put (D := D) (ci := 4) (v := .int 0) (ty := .int) (C := RX5) (T := TX5) (N := 9) hx hb hts in4 tyX5 tyX5_ok nmX5 hown hK hP hD hS 0 rfl rfl 7 (by decide) fl26 (fun _ h9 => h9) rfl (by decide +kernel) rfl rfl (Nat.le_of_ble_eq_true rfl) dX5_rest_2 (fun H locs hP hD hS => ?_)
  have hP : va_P D vwCl [(m0, .inr (4, [.ref m1, .ref m2, .int (nI kn), .ref m3, .ref m4, .ref m5, .int (nI ln), .int 0, .long hs])), (m1, .inl (cI, 228, .inl gs)), (m2, .inl (cI, 684, .inl gp)), (m3, .inl (cI, 228, .inl gl)), (m4, .inl (cZ, 2, .inl gk)), (m5, .inl (cI, 60, .inl fx))] _ := hP
  have hD : va_D A [(m0, .inr (4, [.ref m1, .ref m2, .int (nI kn), .ref m3, .ref m4, .ref m5, .int (nI ln), .int 0, .long hs])), (m1, .inl (cI, 228, .inl gs)), (m2, .inl (cI, 684, .inl gp)), (m3, .inl (cI, 228, .inl gl)), (m4, .inl (cZ, 2, .inl gk)), (m5, .inl (cI, 60, .inl fx))] := hD
  refine lv_aload_n hx hb dX5_rest_5 rfl (lv_at hl 0 rfl) ?_
  refine z_cmv (wr := []) (ws' := [(m0, .inr (4, [.ref m1, .ref m2, .int (nI (pKn kn + 1)), .ref m3, .ref m4, .ref m5, .int (nI ln), .int 0, .long hs])), (m1, .inl (cI, 228, .inl gs)), (m2, .inl (cI, 684, .inl (pSv gs gp kn))), (m3, .inl (cI, 228, .inl gl)), (m4, .inl (cZ, 2, .inl gk)), (m5, .inl (cI, 60, .inl fx))]) (va_runV (As := []) (rest := []) ⟨hx, hb, hml, hown, hts⟩ (c_X5_saves l D cI cZ cL _ (m0 := m0) (m1 := m1) (m2 := m2) (m3 := m3) (m4 := m4) (m5 := m5) (gs := gs) (gp := gp) (gl := gl) (gk := gk) (fx := fx) (kn := kn) (ln := ln) (th := 0) (hs := hs) (hkn := by omega)) (cwV 0 hts gX5_rest_X5_saves rfl rfl rfl (by decide +kernel) ⟨Nat.le_of_ble_eq_true rfl, Nat.le_of_ble_eq_true rfl⟩) (z_preMV hK (hP.sub [0, 1, 2, 3, 4, 5] rfl) (hD.sub [0, 1, 2, 3, 4, 5] (by decide) rfl) 0 4 rfl rfl) rfl rfl hl.1 rfl (lv_room (Nat.le_of_ble_eq_true rfl)) dX5_rest_6 ⟨Nat.le_of_ble_eq_true rfl, Nat.le_of_ble_eq_true rfl⟩) hP hD hS hA [0, 1, 2, 3, 4, 5] [] [0, 1, 2, 3, 4, 5] rfl rfl (by decide) (by decide) rfl rfl (by decide) (fun H locs hP hD hS => ?_)
  refine lv_aload_n hx hb dX5_rest_9 rfl (lv_at hl 0 rfl) ?_
  refine lv_iconst (v := 0) hx hb dX5_rest_10 (by decide) ?_
  refine lv_aload_n hx hb dX5_rest_11 rfl (lv_at hl 0 rfl) ?_
  refine va_get (D := D) (ci := 4) (v := .ref m1) (C := RX5) (T := TX5) (N := 9) hx hb hts in4 hown hK hP 0 rfl rfl 0 (by decide) fl7 (fun _ h9 => h9) rfl dX5_rest_12 ?_
  refine lv_bipush (v := 109) hx hb dX5_rest_15 (by decide) ?_
  refine z_iald hx hb hK hP 1 0 rfl rfl (k := 109) (rfl) (by omega) (by decide) dX5_rest_17 ?_
  refine z_top (y := nI mv) hM ?_
  refine z_ci (va_runV (As := [.int 0, .int (nI mv)]) (rest := []) ⟨hx, hb, hml, hown, hts⟩ (c_X5_payment l D cI cZ cL (m0 := m0) (m1 := m1) (m2 := m2) (m3 := m3) (m4 := m4) (m5 := m5) (gs := gs) (gp := (pSv gs gp kn)) (gl := gl) (gk := gk) (fx := fx) (kn := (pKn kn + 1)) (ln := ln) (th := 0) (hs := hs) (P := 0) (pl := mv) (hz := hz) (hpp := by omega) (hpl := by omega) (hhz := by omega) (hHP := hH)) (cwV 2 hts gX5_rest_X5_payment rfl rfl rfl (by decide +kernel) ⟨Nat.le_of_ble_eq_true rfl, Nat.le_of_ble_eq_true rfl⟩) (z_preV hK (hP.sub [0, 1, 2, 3, 4, 5] rfl) 0 4 rfl rfl) rfl rfl hl.1 rfl (lv_room (Nat.le_of_ble_eq_true rfl)) dX5_rest_18 ⟨Nat.le_of_ble_eq_true rfl, Nat.le_of_ble_eq_true rfl⟩) ?_
  refine lv_istore_n (lv' := [(1, .int (pPM gs 0 hz mv)), (0, .ref m0)]) hx hb dX5_rest_21 rfl hl (by decide) rfl (fun ls hl => ?_)
  refine lv_aload_n hx hb dX5_rest_22 rfl (lv_at hl 1 rfl) ?_
  refine z_cmv (wr := []) (ws' := [(m0, .inr (4, [.ref m1, .ref m2, .int (nI (pKn kn + 1)), .ref m3, .ref m4, .ref m5, .int (nI ln), .int 0, .long hs])), (m1, .inl (cI, 228, .inl (pEn gs hz mv))), (m2, .inl (cI, 684, .inl (pSv gs gp kn))), (m3, .inl (cI, 228, .inl gl)), (m4, .inl (cZ, 2, .inl gk)), (m5, .inl (cI, 60, .inl fx))]) (va_runV (As := []) (rest := []) ⟨hx, hb, hml, hown, hts⟩ (c_X5_ends l D cI cZ cL _ (m0 := m0) (m1 := m1) (m2 := m2) (m3 := m3) (m4 := m4) (m5 := m5) (gs := gs) (gp := (pSv gs gp kn)) (gl := gl) (gk := gk) (fx := fx) (kn := (pKn kn + 1)) (ln := ln) (th := 0) (hs := hs) (hz := hz) (mv := mv) (hhz := by omega) (hmv := by omega) (hH := hH) (hM := hM)) (cwV 0 hts gX5_rest_X5_ends rfl rfl rfl (by decide +kernel) ⟨Nat.le_of_ble_eq_true rfl, Nat.le_of_ble_eq_true rfl⟩) (z_preMV hK (hP.sub [0, 1, 2, 3, 4, 5] rfl) (hD.sub [0, 1, 2, 3, 4, 5] (by decide) rfl) 0 4 rfl rfl) rfl rfl hl.1 rfl (lv_room (Nat.le_of_ble_eq_true rfl)) dX5_rest_23 ⟨Nat.le_of_ble_eq_true rfl, Nat.le_of_ble_eq_true rfl⟩) hP hD hS hA [0, 1, 2, 3, 4, 5] [] [0, 1, 2, 3, 4, 5] rfl rfl (by decide) (by decide) rfl rfl (by decide) (fun H locs hP hD hS => ?_)
  refine lv_iload_n hx hb dX5_rest_26 rfl (lv_at hl 0 rfl) ?_
  have hW9 : ([(m0, .inr (4, [.ref m1, .ref m2, .int (nI (pKn kn + 1)), .ref m3, .ref m4, .ref m5, .int (nI ln), .int 0, .long hs])), (m1, .inl (cI, 228, .inl (pEn gs hz mv))), (m2, .inl (cI, 684, .inl (pSv gs gp kn))), (m3, .inl (cI, 228, .inl gl)), (m4, .inl (cZ, 2, .inl gk)), (m5, .inl (cI, 60, .inl fx))] : va_W) = [(m0, .inr (4, [.ref m1, .ref m2, .int (nI (pKn kn + 1)), .ref m3, .ref m4, .ref m5, .int (nI ln), .int (nI 0), .long hs])), (m1, .inl (cI, 228, .inl (pEn gs hz mv))), (m2, .inl (cI, 684, .inl (pSv gs gp kn))), (m3, .inl (cI, 228, .inl gl)), (m4, .inl (cZ, 2, .inl gk)), (m5, .inl (cI, 60, .inl fx))] := rfl
  rw [hW9] at hP hD
  have hP9 : va_P D vwCl [(m0, .inr (4, [.ref m1, .ref m2, .int (nI (pKn kn + 1)), .ref m3, .ref m4, .ref m5, .int (nI ln), .int (nI 0), .long hs])), (m1, .inl (cI, 228, .inl (pEn gs hz mv))), (m2, .inl (cI, 684, .inl (pSv gs gp kn))), (m3, .inl (cI, 228, .inl gl)), (m4, .inl (cZ, 2, .inl gk)), (m5, .inl (cI, 60, .inl fx))] _ := hP
  have hD9 : va_D A [(m0, .inr (4, [.ref m1, .ref m2, .int (nI (pKn kn + 1)), .ref m3, .ref m4, .ref m5, .int (nI ln), .int (nI 0), .long hs])), (m1, .inl (cI, 228, .inl (pEn gs hz mv))), (m2, .inl (cI, 684, .inl (pSv gs gp kn))), (m3, .inl (cI, 228, .inl gl)), (m4, .inl (cZ, 2, .inl gk)), (m5, .inl (cI, 60, .inl fx))] := hD
  subst hAe
  exact z_miret hx hb hr hlocks dX5_rest_27 (rfl) hP9 hD9 hS

set_option maxHeartbeats 4000000 in
set_option maxRecDepth 100000 in
/-- crowd: no square -/
theorem c_X5_crowd_bad (l : Launch) (D : va_G) (cI cZ cL : ClassId) (sz : Nat) (m0 : Nat) (m1 : Nat) (m2 : Nat) (m3 : Nat) (m4 : Nat) (m5 : Nat) (gs : Nat → Int32) (gp : Nat → Int32) (gl : Nat → Int32) (gk : Nat → Int32) (fx : Nat → Int32) (kn : Nat) (ln : Nat) (th : Int32) (hs : Int64) (p0 : Int32) (p1 : Int32) (hbad : (decide (0 ≤ p0) && decide (p0 ≤ 35)) = false) : Met l yX5_crowd wsX5_crowd ({ frames := 2, cells := 0, slots := 0, locals := 42 }) (va_Pc [.ref m0, .int p0, .int p1] (zM D cI cZ cL [(m0, .inr (4, [.ref m1, .ref m2, .int (nI kn), .ref m3, .ref m4, .ref m5, .int (nI ln), .int th, .long hs])), (m1, .inl (cI, 228, .inl gs)), (m2, .inl (cI, 684, .inl gp)), (m3, .inl (cI, 228, .inl gl)), (m4, .inl (cZ, 2, .inl gk)), (m5, .inl (cI, 60, .inl fx))] sz)) (zQmi D 0 [(m0, .inr (4, [.ref m1, .ref m2, .int (nI kn), .ref m3, .ref m4, .ref m5, .int (nI ln), .int th, .long hs])), (m1, .inl (cI, 228, .inl gs)), (m2, .inl (cI, 684, .inl gp)), (m3, .inl (cI, 228, .inl gl)), (m4, .inl (cZ, 2, .inl gk)), (m5, .inl (cI, 60, .inl fx))] [(m0, .inr (4, [.ref m1, .ref m2, .int (nI kn), .ref m3, .ref m4, .ref m5, .int (nI ln), .int (nI 1), .long hs])), (m1, .inl (cI, 228, .inl gs)), (m2, .inl (cI, 684, .inl gp)), (m3, .inl (cI, 228, .inl gl)), (m4, .inl (cZ, 2, .inl gk)), (m5, .inl (cI, 60, .inl fx))] sz) 0 0 (va_A [(m0, .inr (4, [.ref m1, .ref m2, .int (nI kn), .ref m3, .ref m4, .ref m5, .int (nI ln), .int th, .long hs])), (m1, .inl (cI, 228, .inl gs)), (m2, .inl (cI, 684, .inl gp)), (m3, .inl (cI, 228, .inl gl)), (m4, .inl (cZ, 2, .inl gk)), (m5, .inl (cI, 60, .inl fx))] sz) := by
  refine Met.ofW (cc := cX5_crowd) (maxL := 4) (ret := (some .int)) (by decide) rfl ?_
  intro p e s m args below meth c s₁ B hml hv
  obtain ⟨rfl, hsz, ⟨hP, hK⟩, hD0⟩ := hv
  have hx := B.exec
  have hb := B.bytes
  have hr := B.returns
  have hts := atoms_spec (ws := wsX5_crowd) B.pre
  have hown : s.vm.findClass RX5 = some m.cls := findClass_of_methodNamed B.named
  have hlocks := B.notSynchronized
  subst hsz
  have hD := hD0.self (sz := s.heap.size)
  generalize hAe : va_A [(m0, .inr (4, [.ref m1, .ref m2, .int (nI kn), .ref m3, .ref m4, .ref m5, .int (nI ln), .int th, .long hs])), (m1, .inl (cI, 228, .inl gs)), (m2, .inl (cI, 684, .inl gp)), (m3, .inl (cI, 228, .inl gl)), (m4, .inl (cZ, 2, .inl gk)), (m5, .inl (cI, 60, .inl fx))] s.heap.size = A at hD ⊢
  have hA : ∀ q : Nat, s.heap.size ≤ q → A q := fun q h => by rw [← hAe]; exact Or.inr h
  have hS : va_S A s.heap s.heap [] := va_S.rf
  have hl := lv_entry ([.ref m0, .int p0, .int p1]) (n := 4) (Nat.le_of_ble_eq_true rfl)
  rw [lg_entry_eq]
  generalize (lg_sl ([.ref m0, .int p0, .int p1]) ++ List.replicate (4 - (lg_sl ([.ref m0, .int p0, .int p1])).length) Slot.unset).toArray = ls at hl ⊢
  have hl : lv_has ls 4 [(0, .ref m0), (1, .int p0), (2, .int p1)] := hl
  refine lv_aload_n hx hb dX5_crowd_0 rfl (lv_at hl 0 rfl) ?_
  refine lv_iload_n hx hb dX5_crowd_1 rfl (lv_at hl 1 rfl) ?_
  refine z_ci (va_runS (As := [.int p0]) (rest := [.ref m0]) ⟨hx, hb, hml, hown, hts⟩ (c_X5_isSquare l (v := p0)) (va_cwS 1 hts gX5_crowd_X5_isSquare rfl rfl rfl (by decide +kernel) ⟨Nat.le_of_ble_eq_true rfl, Nat.le_of_ble_eq_true rfl⟩) z_preS rfl rfl hl.1 rfl (lv_room (Nat.le_of_ble_eq_true rfl)) dX5_crowd_2 ⟨Nat.le_of_ble_eq_true rfl, Nat.le_of_ble_eq_true rfl⟩) ?_
  refine z_top (y := 0) (by rw [hbad]; rfl) ?_
  refine z_if_ne (tgt := 12) (P := True) hx hb dX5_crowd_5 (by decide) (by decide) (fun c5 => (show False from c5 trivial).elim) (fun c5 => ?_)
  refine lv_iconst (v := 1) hx hb dX5_crowd_8 (by decide) ?_
  refine lv_goto (tgt := 27) hx hb dX5_crowd_9 (by decide) ?_
  refine z_cmi (wr := []) (ws' := [(m0, .inr (4, [.ref m1, .ref m2, .int (nI kn), .ref m3, .ref m4, .ref m5, .int (nI ln), .int (nI 1), .long hs])), (m1, .inl (cI, 228, .inl gs)), (m2, .inl (cI, 684, .inl gp)), (m3, .inl (cI, 228, .inl gl)), (m4, .inl (cZ, 2, .inl gk)), (m5, .inl (cI, 60, .inl fx))]) (va_runV (As := [.int 1]) (rest := []) ⟨hx, hb, hml, hown, hts⟩ (c_X5_throwsAt l D cI cZ cL _ (m0 := m0) (m1 := m1) (m2 := m2) (m3 := m3) (m4 := m4) (m5 := m5) (gs := gs) (gp := gp) (gl := gl) (gk := gk) (fx := fx) (kn := kn) (ln := ln) (th := th) (hs := hs) (pc0 := 1) (hpc := by omega)) (cwV 1 hts gX5_crowd_X5_throwsAt rfl rfl rfl (by decide +kernel) ⟨Nat.le_of_ble_eq_true rfl, Nat.le_of_ble_eq_true rfl⟩) (z_preMV hK (hP.sub [0, 1, 2, 3, 4, 5] rfl) (hD.sub [0, 1, 2, 3, 4, 5] (by decide) rfl) 0 4 rfl rfl) rfl rfl hl.1 rfl (lv_room (Nat.le_of_ble_eq_true rfl)) dX5_crowd_27 ⟨Nat.le_of_ble_eq_true rfl, Nat.le_of_ble_eq_true rfl⟩) hP hD hS hA [0, 1, 2, 3, 4, 5] [] [0, 1, 2, 3, 4, 5] rfl rfl (by decide) (by decide) rfl rfl (by decide) (fun H locs hP hD hS => ?_)
  refine z_top (y := 1) (by decide) ?_
  refine z_if_eq (tgt := 35) (P := False) hx hb dX5_crowd_30 (by decide) (by decide) (fun c30 => (show False from c30).elim) (fun c30 => ?_)
  refine lv_iconst (v := 0) hx hb dX5_crowd_33 (by decide) ?_
  have hP9 : va_P D vwCl [(m0, .inr (4, [.ref m1, .ref m2, .int (nI kn), .ref m3, .ref m4, .ref m5, .int (nI ln), .int (nI 1), .long hs])), (m1, .inl (cI, 228, .inl gs)), (m2, .inl (cI, 684, .inl gp)), (m3, .inl (cI, 228, .inl gl)), (m4, .inl (cZ, 2, .inl gk)), (m5, .inl (cI, 60, .inl fx))] _ := hP
  have hD9 : va_D A [(m0, .inr (4, [.ref m1, .ref m2, .int (nI kn), .ref m3, .ref m4, .ref m5, .int (nI ln), .int (nI 1), .long hs])), (m1, .inl (cI, 228, .inl gs)), (m2, .inl (cI, 684, .inl gp)), (m3, .inl (cI, 228, .inl gl)), (m4, .inl (cZ, 2, .inl gk)), (m5, .inl (cI, 60, .inl fx))] := hD
  subst hAe
  exact z_miret hx hb hr hlocks dX5_crowd_34 (rfl) hP9 hD9 hS

set_option maxHeartbeats 4000000 in
set_option maxRecDepth 100000 in
/-- crowd: out of range -/
theorem c_X5_crowd_out (l : Launch) (D : va_G) (cI cZ cL : ClassId) (sz : Nat) (m0 : Nat) (m1 : Nat) (m2 : Nat) (m3 : Nat) (m4 : Nat) (m5 : Nat) (gs : Nat → Int32) (gp : Nat → Int32) (gl : Nat → Int32) (gk : Nat → Int32) (fx : Nat → Int32) (kn : Nat) (ln : Nat) (th : Int32) (hs : Int64) (q : Nat) (p1 : Int32) (hq : q < 36) (hout : (decide (0 ≤ p1) && decide (p1 ≤ 9)) = false) : Met l yX5_crowd wsX5_crowd ({ frames := 2, cells := 0, slots := 0, locals := 42 }) (va_Pc [.ref m0, .int (nI q), .int p1] (zM D cI cZ cL [(m0, .inr (4, [.ref m1, .ref m2, .int (nI kn), .ref m3, .ref m4, .ref m5, .int (nI ln), .int th, .long hs])), (m1, .inl (cI, 228, .inl gs)), (m2, .inl (cI, 684, .inl gp)), (m3, .inl (cI, 228, .inl gl)), (m4, .inl (cZ, 2, .inl gk)), (m5, .inl (cI, 60, .inl fx))] sz)) (zQmi D 0 [(m0, .inr (4, [.ref m1, .ref m2, .int (nI kn), .ref m3, .ref m4, .ref m5, .int (nI ln), .int th, .long hs])), (m1, .inl (cI, 228, .inl gs)), (m2, .inl (cI, 684, .inl gp)), (m3, .inl (cI, 228, .inl gl)), (m4, .inl (cZ, 2, .inl gk)), (m5, .inl (cI, 60, .inl fx))] [(m0, .inr (4, [.ref m1, .ref m2, .int (nI kn), .ref m3, .ref m4, .ref m5, .int (nI ln), .int (nI 2), .long hs])), (m1, .inl (cI, 228, .inl gs)), (m2, .inl (cI, 684, .inl gp)), (m3, .inl (cI, 228, .inl gl)), (m4, .inl (cZ, 2, .inl gk)), (m5, .inl (cI, 60, .inl fx))] sz) 0 0 (va_A [(m0, .inr (4, [.ref m1, .ref m2, .int (nI kn), .ref m3, .ref m4, .ref m5, .int (nI ln), .int th, .long hs])), (m1, .inl (cI, 228, .inl gs)), (m2, .inl (cI, 684, .inl gp)), (m3, .inl (cI, 228, .inl gl)), (m4, .inl (cZ, 2, .inl gk)), (m5, .inl (cI, 60, .inl fx))] sz) := by
  refine Met.ofW (cc := cX5_crowd) (maxL := 4) (ret := (some .int)) (by decide) rfl ?_
  intro p e s m args below meth c s₁ B hml hv
  obtain ⟨rfl, hsz, ⟨hP, hK⟩, hD0⟩ := hv
  have hx := B.exec
  have hb := B.bytes
  have hr := B.returns
  have hts := atoms_spec (ws := wsX5_crowd) B.pre
  have hown : s.vm.findClass RX5 = some m.cls := findClass_of_methodNamed B.named
  have hlocks := B.notSynchronized
  subst hsz
  have hD := hD0.self (sz := s.heap.size)
  generalize hAe : va_A [(m0, .inr (4, [.ref m1, .ref m2, .int (nI kn), .ref m3, .ref m4, .ref m5, .int (nI ln), .int th, .long hs])), (m1, .inl (cI, 228, .inl gs)), (m2, .inl (cI, 684, .inl gp)), (m3, .inl (cI, 228, .inl gl)), (m4, .inl (cZ, 2, .inl gk)), (m5, .inl (cI, 60, .inl fx))] s.heap.size = A at hD ⊢
  have hA : ∀ q : Nat, s.heap.size ≤ q → A q := fun q h => by rw [← hAe]; exact Or.inr h
  have hS : va_S A s.heap s.heap [] := va_S.rf
  have hl := lv_entry ([.ref m0, .int (nI q), .int p1]) (n := 4) (Nat.le_of_ble_eq_true rfl)
  rw [lg_entry_eq]
  generalize (lg_sl ([.ref m0, .int (nI q), .int p1]) ++ List.replicate (4 - (lg_sl ([.ref m0, .int (nI q), .int p1])).length) Slot.unset).toArray = ls at hl ⊢
  have hl : lv_has ls 4 [(0, .ref m0), (1, .int (nI q)), (2, .int p1)] := hl
  refine lv_aload_n hx hb dX5_crowd_0 rfl (lv_at hl 0 rfl) ?_
  refine lv_iload_n hx hb dX5_crowd_1 rfl (lv_at hl 1 rfl) ?_
  refine z_ci (va_runS (As := [.int (nI q)]) (rest := [.ref m0]) ⟨hx, hb, hml, hown, hts⟩ (c_X5_isSquare l (v := nI q)) (va_cwS 1 hts gX5_crowd_X5_isSquare rfl rfl rfl (by decide +kernel) ⟨Nat.le_of_ble_eq_true rfl, Nat.le_of_ble_eq_true rfl⟩) z_preS rfl rfl hl.1 rfl (lv_room (Nat.le_of_ble_eq_true rfl)) dX5_crowd_2 ⟨Nat.le_of_ble_eq_true rfl, Nat.le_of_ble_eq_true rfl⟩) ?_
  refine z_top (y := 1) (by rw [sq_ok q hq]; rfl) ?_
  refine z_if_ne (tgt := 12) (P := False) hx hb dX5_crowd_5 (by decide) (by decide) (fun c5 => ?_) (fun c5 => (show False from c5).elim)
  refine lv_iload_n hx hb dX5_crowd_12 rfl (lv_at hl 2 rfl) ?_
  refine lv_iconst (v := 0) hx hb dX5_crowd_13 (by decide) ?_
  refine lv_bipush (v := 9) hx hb dX5_crowd_14 (by decide) ?_
  refine z_ci (va_runS (As := [.int p1, .int 0, .int 9]) (rest := [.ref m0]) ⟨hx, hb, hml, hown, hts⟩ (c_X5_in l (v := p1) (lo := 0) (hg := 9)) (va_cwS 3 hts gX5_crowd_X5_in rfl rfl rfl (by decide +kernel) ⟨Nat.le_of_ble_eq_true rfl, Nat.le_of_ble_eq_true rfl⟩) z_preS rfl rfl hl.1 rfl (lv_room (Nat.le_of_ble_eq_true rfl)) dX5_crowd_16 ⟨Nat.le_of_ble_eq_true rfl, Nat.le_of_ble_eq_true rfl⟩) ?_
  refine z_top (y := 0) (by rw [hout]; rfl) ?_
  refine z_if_eq (tgt := 26) (P := True) hx hb dX5_crowd_19 (by decide) (by decide) (fun c19 => ?_) (fun c19 => (show False from c19 trivial).elim)
  refine lv_iconst (v := 2) hx hb dX5_crowd_26 (by decide) ?_
  refine z_cmi (wr := []) (ws' := [(m0, .inr (4, [.ref m1, .ref m2, .int (nI kn), .ref m3, .ref m4, .ref m5, .int (nI ln), .int (nI 2), .long hs])), (m1, .inl (cI, 228, .inl gs)), (m2, .inl (cI, 684, .inl gp)), (m3, .inl (cI, 228, .inl gl)), (m4, .inl (cZ, 2, .inl gk)), (m5, .inl (cI, 60, .inl fx))]) (va_runV (As := [.int 2]) (rest := []) ⟨hx, hb, hml, hown, hts⟩ (c_X5_throwsAt l D cI cZ cL _ (m0 := m0) (m1 := m1) (m2 := m2) (m3 := m3) (m4 := m4) (m5 := m5) (gs := gs) (gp := gp) (gl := gl) (gk := gk) (fx := fx) (kn := kn) (ln := ln) (th := th) (hs := hs) (pc0 := 2) (hpc := by omega)) (cwV 1 hts gX5_crowd_X5_throwsAt rfl rfl rfl (by decide +kernel) ⟨Nat.le_of_ble_eq_true rfl, Nat.le_of_ble_eq_true rfl⟩) (z_preMV hK (hP.sub [0, 1, 2, 3, 4, 5] rfl) (hD.sub [0, 1, 2, 3, 4, 5] (by decide) rfl) 0 4 rfl rfl) rfl rfl hl.1 rfl (lv_room (Nat.le_of_ble_eq_true rfl)) dX5_crowd_27 ⟨Nat.le_of_ble_eq_true rfl, Nat.le_of_ble_eq_true rfl⟩) hP hD hS hA [0, 1, 2, 3, 4, 5] [] [0, 1, 2, 3, 4, 5] rfl rfl (by decide) (by decide) rfl rfl (by decide) (fun H locs hP hD hS => ?_)
  refine z_top (y := 1) (by decide) ?_
  refine z_if_eq (tgt := 35) (P := False) hx hb dX5_crowd_30 (by decide) (by decide) (fun c30 => (show False from c30).elim) (fun c30 => ?_)
  refine lv_iconst (v := 0) hx hb dX5_crowd_33 (by decide) ?_
  have hP9 : va_P D vwCl [(m0, .inr (4, [.ref m1, .ref m2, .int (nI kn), .ref m3, .ref m4, .ref m5, .int (nI ln), .int (nI 2), .long hs])), (m1, .inl (cI, 228, .inl gs)), (m2, .inl (cI, 684, .inl gp)), (m3, .inl (cI, 228, .inl gl)), (m4, .inl (cZ, 2, .inl gk)), (m5, .inl (cI, 60, .inl fx))] _ := hP
  have hD9 : va_D A [(m0, .inr (4, [.ref m1, .ref m2, .int (nI kn), .ref m3, .ref m4, .ref m5, .int (nI ln), .int (nI 2), .long hs])), (m1, .inl (cI, 228, .inl gs)), (m2, .inl (cI, 684, .inl gp)), (m3, .inl (cI, 228, .inl gl)), (m4, .inl (cZ, 2, .inl gk)), (m5, .inl (cI, 60, .inl fx))] := hD
  subst hAe
  exact z_miret hx hb hr hlocks dX5_crowd_34 (rfl) hP9 hD9 hS

set_option maxHeartbeats 4000000 in
set_option maxRecDepth 100000 in
/-- crowd -/
theorem c_X5_crowd_ok (l : Launch) (D : va_G) (cI cZ cL : ClassId) (sz : Nat) (m0 : Nat) (m1 : Nat) (m2 : Nat) (m3 : Nat) (m4 : Nat) (m5 : Nat) (gs : Nat → Int32) (gp : Nat → Int32) (gl : Nat → Int32) (gk : Nat → Int32) (fx : Nat → Int32) (kn : Nat) (ln : Nat) (th : Int32) (hs : Int64) (q : Nat) (cr : Nat) (hq : q < 36) (hcr : cr < 10) (hkn : kn < 7) : Met l yX5_crowd wsX5_crowd ({ frames := 2, cells := 0, slots := 0, locals := 42 }) (va_Pc [.ref m0, .int (nI q), .int (nI cr)] (zM D cI cZ cL [(m0, .inr (4, [.ref m1, .ref m2, .int (nI kn), .ref m3, .ref m4, .ref m5, .int (nI ln), .int th, .long hs])), (m1, .inl (cI, 228, .inl gs)), (m2, .inl (cI, 684, .inl gp)), (m3, .inl (cI, 228, .inl gl)), (m4, .inl (cZ, 2, .inl gk)), (m5, .inl (cI, 60, .inl fx))] sz)) (zQmi D (gs (72 + q)) [(m0, .inr (4, [.ref m1, .ref m2, .int (nI kn), .ref m3, .ref m4, .ref m5, .int (nI ln), .int th, .long hs])), (m1, .inl (cI, 228, .inl gs)), (m2, .inl (cI, 684, .inl gp)), (m3, .inl (cI, 228, .inl gl)), (m4, .inl (cZ, 2, .inl gk)), (m5, .inl (cI, 60, .inl fx))] [(m0, .inr (4, [.ref m1, .ref m2, .int (nI (pKn kn + 1)), .ref m3, .ref m4, .ref m5, .int (nI ln), .int (nI 0), .long hs])), (m1, .inl (cI, 228, .inl (upd gs (72 + q) (nI cr)))), (m2, .inl (cI, 684, .inl (pSv gs gp kn))), (m3, .inl (cI, 228, .inl gl)), (m4, .inl (cZ, 2, .inl gk)), (m5, .inl (cI, 60, .inl fx))] sz) 0 0 (va_A [(m0, .inr (4, [.ref m1, .ref m2, .int (nI kn), .ref m3, .ref m4, .ref m5, .int (nI ln), .int th, .long hs])), (m1, .inl (cI, 228, .inl gs)), (m2, .inl (cI, 684, .inl gp)), (m3, .inl (cI, 228, .inl gl)), (m4, .inl (cZ, 2, .inl gk)), (m5, .inl (cI, 60, .inl fx))] sz) := by
  refine Met.ofW (cc := cX5_crowd) (maxL := 4) (ret := (some .int)) (by decide) rfl ?_
  intro p e s m args below meth c s₁ B hml hv
  obtain ⟨rfl, hsz, ⟨hP, hK⟩, hD0⟩ := hv
  have hx := B.exec
  have hb := B.bytes
  have hr := B.returns
  have hts := atoms_spec (ws := wsX5_crowd) B.pre
  have hown : s.vm.findClass RX5 = some m.cls := findClass_of_methodNamed B.named
  have hlocks := B.notSynchronized
  subst hsz
  have hD := hD0.self (sz := s.heap.size)
  generalize hAe : va_A [(m0, .inr (4, [.ref m1, .ref m2, .int (nI kn), .ref m3, .ref m4, .ref m5, .int (nI ln), .int th, .long hs])), (m1, .inl (cI, 228, .inl gs)), (m2, .inl (cI, 684, .inl gp)), (m3, .inl (cI, 228, .inl gl)), (m4, .inl (cZ, 2, .inl gk)), (m5, .inl (cI, 60, .inl fx))] s.heap.size = A at hD ⊢
  have hA : ∀ q : Nat, s.heap.size ≤ q → A q := fun q h => by rw [← hAe]; exact Or.inr h
  have hS : va_S A s.heap s.heap [] := va_S.rf
  have in4 : ∀ w ∈ u_ws RX5 TX5 9, w ∈ wsX5_crowd := by decide +kernel
  have fl7 := hts (.fieldLink RX5 7 "TowerShadesModel" "s" "[I") (by decide +kernel)
  have hl := lv_entry ([.ref m0, .int (nI q), .int (nI cr)]) (n := 4) (Nat.le_of_ble_eq_true rfl)
  rw [lg_entry_eq]
  generalize (lg_sl ([.ref m0, .int (nI q), .int (nI cr)]) ++ List.replicate (4 - (lg_sl ([.ref m0, .int (nI q), .int (nI cr)])).length) Slot.unset).toArray = ls at hl ⊢
  have hl : lv_has ls 4 [(0, .ref m0), (1, .int (nI q)), (2, .int (nI cr))] := hl
  have hkn5 := pKn_lt hkn
  refine lv_aload_n hx hb dX5_crowd_0 rfl (lv_at hl 0 rfl) ?_
  refine lv_iload_n hx hb dX5_crowd_1 rfl (lv_at hl 1 rfl) ?_
  refine z_ci (va_runS (As := [.int (nI q)]) (rest := [.ref m0]) ⟨hx, hb, hml, hown, hts⟩ (c_X5_isSquare l (v := nI q)) (va_cwS 1 hts gX5_crowd_X5_isSquare rfl rfl rfl (by decide +kernel) ⟨Nat.le_of_ble_eq_true rfl, Nat.le_of_ble_eq_true rfl⟩) z_preS rfl rfl hl.1 rfl (lv_room (Nat.le_of_ble_eq_true rfl)) dX5_crowd_2 ⟨Nat.le_of_ble_eq_true rfl, Nat.le_of_ble_eq_true rfl⟩) ?_
  refine z_top (y := 1) (by rw [sq_ok q hq]; rfl) ?_
  refine z_if_ne (tgt := 12) (P := False) hx hb dX5_crowd_5 (by decide) (by decide) (fun c5 => ?_) (fun c5 => (show False from c5).elim)
  refine lv_iload_n hx hb dX5_crowd_12 rfl (lv_at hl 2 rfl) ?_
  refine lv_iconst (v := 0) hx hb dX5_crowd_13 (by decide) ?_
  refine lv_bipush (v := 9) hx hb dX5_crowd_14 (by decide) ?_
  refine z_ci (va_runS (As := [.int (nI cr), .int 0, .int 9]) (rest := [.ref m0]) ⟨hx, hb, hml, hown, hts⟩ (c_X5_in l (v := nI cr) (lo := 0) (hg := 9)) (va_cwS 3 hts gX5_crowd_X5_in rfl rfl rfl (by decide +kernel) ⟨Nat.le_of_ble_eq_true rfl, Nat.le_of_ble_eq_true rfl⟩) z_preS rfl rfl hl.1 rfl (lv_room (Nat.le_of_ble_eq_true rfl)) dX5_crowd_16 ⟨Nat.le_of_ble_eq_true rfl, Nat.le_of_ble_eq_true rfl⟩) ?_
  refine z_top (y := 1) (by rw [show (decide (0 ≤ nI cr) && decide (nI cr ≤ 9)) = true from in_ok 0 9 (by omega) (by omega) (by omega)]; rfl) ?_
  refine z_if_eq (tgt := 26) (P := False) hx hb dX5_crowd_19 (by decide) (by decide) (fun c19 => (show False from c19).elim) (fun c19 => ?_)
  refine lv_iconst (v := 0) hx hb dX5_crowd_22 (by decide) ?_
  refine lv_goto (tgt := 27) hx hb dX5_crowd_23 (by decide) ?_
  refine z_cmi (wr := []) (ws' := [(m0, .inr (4, [.ref m1, .ref m2, .int (nI kn), .ref m3, .ref m4, .ref m5, .int (nI ln), .int (nI 0), .long hs])), (m1, .inl (cI, 228, .inl gs)), (m2, .inl (cI, 684, .inl gp)), (m3, .inl (cI, 228, .inl gl)), (m4, .inl (cZ, 2, .inl gk)), (m5, .inl (cI, 60, .inl fx))]) (va_runV (As := [.int 0]) (rest := []) ⟨hx, hb, hml, hown, hts⟩ (c_X5_throwsAt l D cI cZ cL _ (m0 := m0) (m1 := m1) (m2 := m2) (m3 := m3) (m4 := m4) (m5 := m5) (gs := gs) (gp := gp) (gl := gl) (gk := gk) (fx := fx) (kn := kn) (ln := ln) (th := th) (hs := hs) (pc0 := 0) (hpc := by omega)) (cwV 1 hts gX5_crowd_X5_throwsAt rfl rfl rfl (by decide +kernel) ⟨Nat.le_of_ble_eq_true rfl, Nat.le_of_ble_eq_true rfl⟩) (z_preMV hK (hP.sub [0, 1, 2, 3, 4, 5] rfl) (hD.sub [0, 1, 2, 3, 4, 5] (by decide) rfl) 0 4 rfl rfl) rfl rfl hl.1 rfl (lv_room (Nat.le_of_ble_eq_true rfl)) dX5_crowd_27 ⟨Nat.le_of_ble_eq_true rfl, Nat.le_of_ble_eq_true rfl⟩) hP hD hS hA [0, 1, 2, 3, 4, 5] [] [0, 1, 2, 3, 4, 5] rfl rfl (by decide) (by decide) rfl rfl (by decide) (fun H locs hP hD hS => ?_)
  refine z_top (y := 0) (by decide) ?_
  refine z_if_eq (tgt := 35) (P := True) hx hb dX5_crowd_30 (by decide) (by decide) (fun c30 => ?_) (fun c30 => (show False from c30 trivial).elim)
  refine lv_aload_n hx hb dX5_crowd_35 rfl (lv_at hl 0 rfl) ?_
  refine z_cmv (wr := []) (ws' := [(m0, .inr (4, [.ref m1, .ref m2, .int (nI (pKn kn + 1)), .ref m3, .ref m4, .ref m5, .int (nI ln), .int (nI 0), .long hs])), (m1, .inl (cI, 228, .inl gs)), (m2, .inl (cI, 684, .inl (pSv gs gp kn))), (m3, .inl (cI, 228, .inl gl)), (m4, .inl (cZ, 2, .inl gk)), (m5, .inl (cI, 60, .inl fx))]) (va_runV (As := []) (rest := []) ⟨hx, hb, hml, hown, hts⟩ (c_X5_saves l D cI cZ cL _ (m0 := m0) (m1 := m1) (m2 := m2) (m3 := m3) (m4 := m4) (m5 := m5) (gs := gs) (gp := gp) (gl := gl) (gk := gk) (fx := fx) (kn := kn) (ln := ln) (th := nI 0) (hs := hs) (hkn := by omega)) (cwV 0 hts gX5_crowd_X5_saves rfl rfl rfl (by decide +kernel) ⟨Nat.le_of_ble_eq_true rfl, Nat.le_of_ble_eq_true rfl⟩) (z_preMV hK (hP.sub [0, 1, 2, 3, 4, 5] rfl) (hD.sub [0, 1, 2, 3, 4, 5] (by decide) rfl) 0 4 rfl rfl) rfl rfl hl.1 rfl (lv_room (Nat.le_of_ble_eq_true rfl)) dX5_crowd_36 ⟨Nat.le_of_ble_eq_true rfl, Nat.le_of_ble_eq_true rfl⟩) hP hD hS hA [0, 1, 2, 3, 4, 5] [] [0, 1, 2, 3, 4, 5] rfl rfl (by decide) (by decide) rfl rfl (by decide) (fun H locs hP hD hS => ?_)
  refine lv_aload_n hx hb dX5_crowd_39 rfl (lv_at hl 0 rfl) ?_
  refine va_get (D := D) (ci := 4) (v := .ref m1) (C := RX5) (T := TX5) (N := 9) hx hb hts in4 hown hK hP 0 rfl rfl 0 (by decide) fl7 (fun _ h9 => h9) rfl dX5_crowd_40 ?_
  refine lv_bipush (v := 72) hx hb dX5_crowd_43 (by decide) ?_
  refine lv_iload_n hx hb dX5_crowd_45 rfl (lv_at hl 1 rfl) ?_
  refine z_iadd (v := nI (72 + q)) hx hb dX5_crowd_46 (nI_add (72) (q)) ?_
  refine z_iald hx hb hK hP 1 0 rfl rfl (k := (72 + q)) (rfl) (by omega) (by decide) dX5_crowd_47 ?_
  refine lv_istore_n (lv' := [(3, .int (gs (72 + q))), (0, .ref m0), (1, .int (nI q)), (2, .int (nI cr))]) hx hb dX5_crowd_48 rfl hl (by decide) rfl (fun ls hl => ?_)
  refine lv_aload_n hx hb dX5_crowd_49 rfl (lv_at hl 1 rfl) ?_
  refine va_get (D := D) (ci := 4) (v := .ref m1) (C := RX5) (T := TX5) (N := 9) hx hb hts in4 hown hK hP 0 rfl rfl 0 (by decide) fl7 (fun _ h9 => h9) rfl dX5_crowd_50 ?_
  refine lv_bipush (v := 72) hx hb dX5_crowd_53 (by decide) ?_
  refine lv_iload_n hx hb dX5_crowd_55 rfl (lv_at hl 2 rfl) ?_
  refine z_iadd (v := nI (72 + q)) hx hb dX5_crowd_56 (nI_add (72) (q)) ?_
  refine lv_iload_n hx hb dX5_crowd_57 rfl (lv_at hl 3 rfl) ?_
  refine z_iast hx hb hK hP hD hS 1 0 rfl rfl (k := (72 + q)) (rfl) (by omega) (by decide) dX5_crowd_58 (g := upd gs (72 + q) (nI cr)) (rfl) (fun H locs hP hD hS => ?_)
  have hP : va_P D vwCl [(m0, .inr (4, [.ref m1, .ref m2, .int (nI (pKn kn + 1)), .ref m3, .ref m4, .ref m5, .int (nI ln), .int (nI 0), .long hs])), (m1, .inl (cI, 228, .inl (upd gs (72 + q) (nI cr)))), (m2, .inl (cI, 684, .inl (pSv gs gp kn))), (m3, .inl (cI, 228, .inl gl)), (m4, .inl (cZ, 2, .inl gk)), (m5, .inl (cI, 60, .inl fx))] _ := hP
  have hD : va_D A [(m0, .inr (4, [.ref m1, .ref m2, .int (nI (pKn kn + 1)), .ref m3, .ref m4, .ref m5, .int (nI ln), .int (nI 0), .long hs])), (m1, .inl (cI, 228, .inl (upd gs (72 + q) (nI cr)))), (m2, .inl (cI, 684, .inl (pSv gs gp kn))), (m3, .inl (cI, 228, .inl gl)), (m4, .inl (cZ, 2, .inl gk)), (m5, .inl (cI, 60, .inl fx))] := hD
  refine lv_iload_n hx hb dX5_crowd_59 rfl (lv_at hl 0 rfl) ?_
  have hP9 : va_P D vwCl [(m0, .inr (4, [.ref m1, .ref m2, .int (nI (pKn kn + 1)), .ref m3, .ref m4, .ref m5, .int (nI ln), .int (nI 0), .long hs])), (m1, .inl (cI, 228, .inl (upd gs (72 + q) (nI cr)))), (m2, .inl (cI, 684, .inl (pSv gs gp kn))), (m3, .inl (cI, 228, .inl gl)), (m4, .inl (cZ, 2, .inl gk)), (m5, .inl (cI, 60, .inl fx))] _ := hP
  have hD9 : va_D A [(m0, .inr (4, [.ref m1, .ref m2, .int (nI (pKn kn + 1)), .ref m3, .ref m4, .ref m5, .int (nI ln), .int (nI 0), .long hs])), (m1, .inl (cI, 228, .inl (upd gs (72 + q) (nI cr)))), (m2, .inl (cI, 684, .inl (pSv gs gp kn))), (m3, .inl (cI, 228, .inl gl)), (m4, .inl (cZ, 2, .inl gk)), (m5, .inl (cI, 60, .inl fx))] := hD
  subst hAe
  exact z_miret hx hb hr hlocks dX5_crowd_60 (rfl) hP9 hD9 hS

set_option maxHeartbeats 4000000 in
set_option maxRecDepth 100000 in
/-- tear: no square -/
theorem c_X5_tear_bad (l : Launch) (D : va_G) (cI cZ cL : ClassId) (sz : Nat) (m0 : Nat) (m1 : Nat) (m2 : Nat) (m3 : Nat) (m4 : Nat) (m5 : Nat) (gs : Nat → Int32) (gp : Nat → Int32) (gl : Nat → Int32) (gk : Nat → Int32) (fx : Nat → Int32) (kn : Nat) (ln : Nat) (th : Int32) (hs : Int64) (p0 : Int32) (hbad : (decide (0 ≤ p0) && decide (p0 ≤ 35)) = false) : Met l yX5_tear wsX5_tear ({ frames := 2, cells := 0, slots := 0, locals := 42 }) (va_Pc [.ref m0, .int p0] (zM D cI cZ cL [(m0, .inr (4, [.ref m1, .ref m2, .int (nI kn), .ref m3, .ref m4, .ref m5, .int (nI ln), .int th, .long hs])), (m1, .inl (cI, 228, .inl gs)), (m2, .inl (cI, 684, .inl gp)), (m3, .inl (cI, 228, .inl gl)), (m4, .inl (cZ, 2, .inl gk)), (m5, .inl (cI, 60, .inl fx))] sz)) (zQmi D 0 [(m0, .inr (4, [.ref m1, .ref m2, .int (nI kn), .ref m3, .ref m4, .ref m5, .int (nI ln), .int th, .long hs])), (m1, .inl (cI, 228, .inl gs)), (m2, .inl (cI, 684, .inl gp)), (m3, .inl (cI, 228, .inl gl)), (m4, .inl (cZ, 2, .inl gk)), (m5, .inl (cI, 60, .inl fx))] [(m0, .inr (4, [.ref m1, .ref m2, .int (nI kn), .ref m3, .ref m4, .ref m5, .int (nI ln), .int (nI 1), .long hs])), (m1, .inl (cI, 228, .inl gs)), (m2, .inl (cI, 684, .inl gp)), (m3, .inl (cI, 228, .inl gl)), (m4, .inl (cZ, 2, .inl gk)), (m5, .inl (cI, 60, .inl fx))] sz) 0 0 (va_A [(m0, .inr (4, [.ref m1, .ref m2, .int (nI kn), .ref m3, .ref m4, .ref m5, .int (nI ln), .int th, .long hs])), (m1, .inl (cI, 228, .inl gs)), (m2, .inl (cI, 684, .inl gp)), (m3, .inl (cI, 228, .inl gl)), (m4, .inl (cZ, 2, .inl gk)), (m5, .inl (cI, 60, .inl fx))] sz) := by
  refine Met.ofW (cc := cX5_tear) (maxL := 3) (ret := (some .int)) (by decide) rfl ?_
  intro p e s m args below meth c s₁ B hml hv
  obtain ⟨rfl, hsz, ⟨hP, hK⟩, hD0⟩ := hv
  have hx := B.exec
  have hb := B.bytes
  have hr := B.returns
  have hts := atoms_spec (ws := wsX5_tear) B.pre
  have hown : s.vm.findClass RX5 = some m.cls := findClass_of_methodNamed B.named
  have hlocks := B.notSynchronized
  subst hsz
  have hD := hD0.self (sz := s.heap.size)
  generalize hAe : va_A [(m0, .inr (4, [.ref m1, .ref m2, .int (nI kn), .ref m3, .ref m4, .ref m5, .int (nI ln), .int th, .long hs])), (m1, .inl (cI, 228, .inl gs)), (m2, .inl (cI, 684, .inl gp)), (m3, .inl (cI, 228, .inl gl)), (m4, .inl (cZ, 2, .inl gk)), (m5, .inl (cI, 60, .inl fx))] s.heap.size = A at hD ⊢
  have hA : ∀ q : Nat, s.heap.size ≤ q → A q := fun q h => by rw [← hAe]; exact Or.inr h
  have hS : va_S A s.heap s.heap [] := va_S.rf
  have hl := lv_entry ([.ref m0, .int p0]) (n := 3) (Nat.le_of_ble_eq_true rfl)
  rw [lg_entry_eq]
  generalize (lg_sl ([.ref m0, .int p0]) ++ List.replicate (3 - (lg_sl ([.ref m0, .int p0])).length) Slot.unset).toArray = ls at hl ⊢
  have hl : lv_has ls 3 [(0, .ref m0), (1, .int p0)] := hl
  refine lv_aload_n hx hb dX5_tear_0 rfl (lv_at hl 0 rfl) ?_
  refine lv_iload_n hx hb dX5_tear_1 rfl (lv_at hl 1 rfl) ?_
  refine z_ci (va_runS (As := [.int p0]) (rest := [.ref m0]) ⟨hx, hb, hml, hown, hts⟩ (c_X5_isSquare l (v := p0)) (va_cwS 1 hts gX5_tear_X5_isSquare rfl rfl rfl (by decide +kernel) ⟨Nat.le_of_ble_eq_true rfl, Nat.le_of_ble_eq_true rfl⟩) z_preS rfl rfl hl.1 rfl (lv_room (Nat.le_of_ble_eq_true rfl)) dX5_tear_2 ⟨Nat.le_of_ble_eq_true rfl, Nat.le_of_ble_eq_true rfl⟩) ?_
  refine z_top (y := 0) (by rw [hbad]; rfl) ?_
  refine z_if_eq (tgt := 12) (P := True) hx hb dX5_tear_5 (by decide) (by decide) (fun c5 => ?_) (fun c5 => (show False from c5 trivial).elim)
  refine lv_iconst (v := 1) hx hb dX5_tear_12 (by decide) ?_
  refine z_cmi (wr := []) (ws' := [(m0, .inr (4, [.ref m1, .ref m2, .int (nI kn), .ref m3, .ref m4, .ref m5, .int (nI ln), .int (nI 1), .long hs])), (m1, .inl (cI, 228, .inl gs)), (m2, .inl (cI, 684, .inl gp)), (m3, .inl (cI, 228, .inl gl)), (m4, .inl (cZ, 2, .inl gk)), (m5, .inl (cI, 60, .inl fx))]) (va_runV (As := [.int 1]) (rest := []) ⟨hx, hb, hml, hown, hts⟩ (c_X5_throwsAt l D cI cZ cL _ (m0 := m0) (m1 := m1) (m2 := m2) (m3 := m3) (m4 := m4) (m5 := m5) (gs := gs) (gp := gp) (gl := gl) (gk := gk) (fx := fx) (kn := kn) (ln := ln) (th := th) (hs := hs) (pc0 := 1) (hpc := by omega)) (cwV 1 hts gX5_tear_X5_throwsAt rfl rfl rfl (by decide +kernel) ⟨Nat.le_of_ble_eq_true rfl, Nat.le_of_ble_eq_true rfl⟩) (z_preMV hK (hP.sub [0, 1, 2, 3, 4, 5] rfl) (hD.sub [0, 1, 2, 3, 4, 5] (by decide) rfl) 0 4 rfl rfl) rfl rfl hl.1 rfl (lv_room (Nat.le_of_ble_eq_true rfl)) dX5_tear_13 ⟨Nat.le_of_ble_eq_true rfl, Nat.le_of_ble_eq_true rfl⟩) hP hD hS hA [0, 1, 2, 3, 4, 5] [] [0, 1, 2, 3, 4, 5] rfl rfl (by decide) (by decide) rfl rfl (by decide) (fun H locs hP hD hS => ?_)
  refine z_top (y := 1) (by decide) ?_
  refine z_if_eq (tgt := 21) (P := False) hx hb dX5_tear_16 (by decide) (by decide) (fun c16 => (show False from c16).elim) (fun c16 => ?_)
  refine lv_iconst (v := 0) hx hb dX5_tear_19 (by decide) ?_
  have hP9 : va_P D vwCl [(m0, .inr (4, [.ref m1, .ref m2, .int (nI kn), .ref m3, .ref m4, .ref m5, .int (nI ln), .int (nI 1), .long hs])), (m1, .inl (cI, 228, .inl gs)), (m2, .inl (cI, 684, .inl gp)), (m3, .inl (cI, 228, .inl gl)), (m4, .inl (cZ, 2, .inl gk)), (m5, .inl (cI, 60, .inl fx))] _ := hP
  have hD9 : va_D A [(m0, .inr (4, [.ref m1, .ref m2, .int (nI kn), .ref m3, .ref m4, .ref m5, .int (nI ln), .int (nI 1), .long hs])), (m1, .inl (cI, 228, .inl gs)), (m2, .inl (cI, 684, .inl gp)), (m3, .inl (cI, 228, .inl gl)), (m4, .inl (cZ, 2, .inl gk)), (m5, .inl (cI, 60, .inl fx))] := hD
  subst hAe
  exact z_miret hx hb hr hlocks dX5_tear_20 (rfl) hP9 hD9 hS

set_option maxHeartbeats 4000000 in
set_option maxRecDepth 100000 in
/-- tear -/
theorem c_X5_tear_ok (l : Launch) (D : va_G) (cI cZ cL : ClassId) (sz : Nat) (m0 : Nat) (m1 : Nat) (m2 : Nat) (m3 : Nat) (m4 : Nat) (m5 : Nat) (gs : Nat → Int32) (gp : Nat → Int32) (gl : Nat → Int32) (gk : Nat → Int32) (fx : Nat → Int32) (kn : Nat) (ln : Nat) (th : Int32) (hs : Int64) (q : Nat) (hq : q < 36) (hkn : kn < 7) : Met l yX5_tear wsX5_tear ({ frames := 2, cells := 0, slots := 0, locals := 42 }) (va_Pc [.ref m0, .int (nI q)] (zM D cI cZ cL [(m0, .inr (4, [.ref m1, .ref m2, .int (nI kn), .ref m3, .ref m4, .ref m5, .int (nI ln), .int th, .long hs])), (m1, .inl (cI, 228, .inl gs)), (m2, .inl (cI, 684, .inl gp)), (m3, .inl (cI, 228, .inl gl)), (m4, .inl (cZ, 2, .inl gk)), (m5, .inl (cI, 60, .inl fx))] sz)) (zQmi D (gs (0 + q)) [(m0, .inr (4, [.ref m1, .ref m2, .int (nI kn), .ref m3, .ref m4, .ref m5, .int (nI ln), .int th, .long hs])), (m1, .inl (cI, 228, .inl gs)), (m2, .inl (cI, 684, .inl gp)), (m3, .inl (cI, 228, .inl gl)), (m4, .inl (cZ, 2, .inl gk)), (m5, .inl (cI, 60, .inl fx))] [(m0, .inr (4, [.ref m1, .ref m2, .int (nI (pKn kn + 1)), .ref m3, .ref m4, .ref m5, .int (nI ln), .int (nI 0), .long hs])), (m1, .inl (cI, 228, .inl (upd (upd gs (0 + q) 0) (36 + q) 0))), (m2, .inl (cI, 684, .inl (pSv gs gp kn))), (m3, .inl (cI, 228, .inl gl)), (m4, .inl (cZ, 2, .inl gk)), (m5, .inl (cI, 60, .inl fx))] sz) 0 0 (va_A [(m0, .inr (4, [.ref m1, .ref m2, .int (nI kn), .ref m3, .ref m4, .ref m5, .int (nI ln), .int th, .long hs])), (m1, .inl (cI, 228, .inl gs)), (m2, .inl (cI, 684, .inl gp)), (m3, .inl (cI, 228, .inl gl)), (m4, .inl (cZ, 2, .inl gk)), (m5, .inl (cI, 60, .inl fx))] sz) := by
  refine Met.ofW (cc := cX5_tear) (maxL := 3) (ret := (some .int)) (by decide) rfl ?_
  intro p e s m args below meth c s₁ B hml hv
  obtain ⟨rfl, hsz, ⟨hP, hK⟩, hD0⟩ := hv
  have hx := B.exec
  have hb := B.bytes
  have hr := B.returns
  have hts := atoms_spec (ws := wsX5_tear) B.pre
  have hown : s.vm.findClass RX5 = some m.cls := findClass_of_methodNamed B.named
  have hlocks := B.notSynchronized
  subst hsz
  have hD := hD0.self (sz := s.heap.size)
  generalize hAe : va_A [(m0, .inr (4, [.ref m1, .ref m2, .int (nI kn), .ref m3, .ref m4, .ref m5, .int (nI ln), .int th, .long hs])), (m1, .inl (cI, 228, .inl gs)), (m2, .inl (cI, 684, .inl gp)), (m3, .inl (cI, 228, .inl gl)), (m4, .inl (cZ, 2, .inl gk)), (m5, .inl (cI, 60, .inl fx))] s.heap.size = A at hD ⊢
  have hA : ∀ q : Nat, s.heap.size ≤ q → A q := fun q h => by rw [← hAe]; exact Or.inr h
  have hS : va_S A s.heap s.heap [] := va_S.rf
  have in4 : ∀ w ∈ u_ws RX5 TX5 9, w ∈ wsX5_tear := by decide +kernel
  have fl7 := hts (.fieldLink RX5 7 "TowerShadesModel" "s" "[I") (by decide +kernel)
  have hl := lv_entry ([.ref m0, .int (nI q)]) (n := 3) (Nat.le_of_ble_eq_true rfl)
  rw [lg_entry_eq]
  generalize (lg_sl ([.ref m0, .int (nI q)]) ++ List.replicate (3 - (lg_sl ([.ref m0, .int (nI q)])).length) Slot.unset).toArray = ls at hl ⊢
  have hl : lv_has ls 3 [(0, .ref m0), (1, .int (nI q))] := hl
  have hkn5 := pKn_lt hkn
  refine lv_aload_n hx hb dX5_tear_0 rfl (lv_at hl 0 rfl) ?_
  refine lv_iload_n hx hb dX5_tear_1 rfl (lv_at hl 1 rfl) ?_
  refine z_ci (va_runS (As := [.int (nI q)]) (rest := [.ref m0]) ⟨hx, hb, hml, hown, hts⟩ (c_X5_isSquare l (v := nI q)) (va_cwS 1 hts gX5_tear_X5_isSquare rfl rfl rfl (by decide +kernel) ⟨Nat.le_of_ble_eq_true rfl, Nat.le_of_ble_eq_true rfl⟩) z_preS rfl rfl hl.1 rfl (lv_room (Nat.le_of_ble_eq_true rfl)) dX5_tear_2 ⟨Nat.le_of_ble_eq_true rfl, Nat.le_of_ble_eq_true rfl⟩) ?_
  refine z_top (y := 1) (by rw [sq_ok q hq]; rfl) ?_
  refine z_if_eq (tgt := 12) (P := False) hx hb dX5_tear_5 (by decide) (by decide) (fun c5 => (show False from c5).elim) (fun c5 => ?_)
  refine lv_iconst (v := 0) hx hb dX5_tear_8 (by decide) ?_
  refine lv_goto (tgt := 13) hx hb dX5_tear_9 (by decide) ?_
  refine z_cmi (wr := []) (ws' := [(m0, .inr (4, [.ref m1, .ref m2, .int (nI kn), .ref m3, .ref m4, .ref m5, .int (nI ln), .int (nI 0), .long hs])), (m1, .inl (cI, 228, .inl gs)), (m2, .inl (cI, 684, .inl gp)), (m3, .inl (cI, 228, .inl gl)), (m4, .inl (cZ, 2, .inl gk)), (m5, .inl (cI, 60, .inl fx))]) (va_runV (As := [.int 0]) (rest := []) ⟨hx, hb, hml, hown, hts⟩ (c_X5_throwsAt l D cI cZ cL _ (m0 := m0) (m1 := m1) (m2 := m2) (m3 := m3) (m4 := m4) (m5 := m5) (gs := gs) (gp := gp) (gl := gl) (gk := gk) (fx := fx) (kn := kn) (ln := ln) (th := th) (hs := hs) (pc0 := 0) (hpc := by omega)) (cwV 1 hts gX5_tear_X5_throwsAt rfl rfl rfl (by decide +kernel) ⟨Nat.le_of_ble_eq_true rfl, Nat.le_of_ble_eq_true rfl⟩) (z_preMV hK (hP.sub [0, 1, 2, 3, 4, 5] rfl) (hD.sub [0, 1, 2, 3, 4, 5] (by decide) rfl) 0 4 rfl rfl) rfl rfl hl.1 rfl (lv_room (Nat.le_of_ble_eq_true rfl)) dX5_tear_13 ⟨Nat.le_of_ble_eq_true rfl, Nat.le_of_ble_eq_true rfl⟩) hP hD hS hA [0, 1, 2, 3, 4, 5] [] [0, 1, 2, 3, 4, 5] rfl rfl (by decide) (by decide) rfl rfl (by decide) (fun H locs hP hD hS => ?_)
  refine z_top (y := 0) (by decide) ?_
  refine z_if_eq (tgt := 21) (P := True) hx hb dX5_tear_16 (by decide) (by decide) (fun c16 => ?_) (fun c16 => (show False from c16 trivial).elim)
  refine lv_aload_n hx hb dX5_tear_21 rfl (lv_at hl 0 rfl) ?_
  refine z_cmv (wr := []) (ws' := [(m0, .inr (4, [.ref m1, .ref m2, .int (nI (pKn kn + 1)), .ref m3, .ref m4, .ref m5, .int (nI ln), .int (nI 0), .long hs])), (m1, .inl (cI, 228, .inl gs)), (m2, .inl (cI, 684, .inl (pSv gs gp kn))), (m3, .inl (cI, 228, .inl gl)), (m4, .inl (cZ, 2, .inl gk)), (m5, .inl (cI, 60, .inl fx))]) (va_runV (As := []) (rest := []) ⟨hx, hb, hml, hown, hts⟩ (c_X5_saves l D cI cZ cL _ (m0 := m0) (m1 := m1) (m2 := m2) (m3 := m3) (m4 := m4) (m5 := m5) (gs := gs) (gp := gp) (gl := gl) (gk := gk) (fx := fx) (kn := kn) (ln := ln) (th := nI 0) (hs := hs) (hkn := by omega)) (cwV 0 hts gX5_tear_X5_saves rfl rfl rfl (by decide +kernel) ⟨Nat.le_of_ble_eq_true rfl, Nat.le_of_ble_eq_true rfl⟩) (z_preMV hK (hP.sub [0, 1, 2, 3, 4, 5] rfl) (hD.sub [0, 1, 2, 3, 4, 5] (by decide) rfl) 0 4 rfl rfl) rfl rfl hl.1 rfl (lv_room (Nat.le_of_ble_eq_true rfl)) dX5_tear_22 ⟨Nat.le_of_ble_eq_true rfl, Nat.le_of_ble_eq_true rfl⟩) hP hD hS hA [0, 1, 2, 3, 4, 5] [] [0, 1, 2, 3, 4, 5] rfl rfl (by decide) (by decide) rfl rfl (by decide) (fun H locs hP hD hS => ?_)
  refine lv_aload_n hx hb dX5_tear_25 rfl (lv_at hl 0 rfl) ?_
  refine va_get (D := D) (ci := 4) (v := .ref m1) (C := RX5) (T := TX5) (N := 9) hx hb hts in4 hown hK hP 0 rfl rfl 0 (by decide) fl7 (fun _ h9 => h9) rfl dX5_tear_26 ?_
  refine lv_iconst (v := 0) hx hb dX5_tear_29 (by decide) ?_
  refine lv_iload_n hx hb dX5_tear_30 rfl (lv_at hl 1 rfl) ?_
  refine z_iadd (v := nI (0 + q)) hx hb dX5_tear_31 (nI_add (0) (q)) ?_
  refine z_iald hx hb hK hP 1 0 rfl rfl (k := (0 + q)) (rfl) (by omega) (by decide) dX5_tear_32 ?_
  refine lv_istore_n (lv' := [(2, .int (gs (0 + q))), (0, .ref m0), (1, .int (nI q))]) hx hb dX5_tear_33 rfl hl (by decide) rfl (fun ls hl => ?_)
  refine lv_aload_n hx hb dX5_tear_34 rfl (lv_at hl 1 rfl) ?_
  refine va_get (D := D) (ci := 4) (v := .ref m1) (C := RX5) (T := TX5) (N := 9) hx hb hts in4 hown hK hP 0 rfl rfl 0 (by decide) fl7 (fun _ h9 => h9) rfl dX5_tear_35 ?_
  refine lv_iconst (v := 0) hx hb dX5_tear_38 (by decide) ?_
  refine lv_iload_n hx hb dX5_tear_39 rfl (lv_at hl 2 rfl) ?_
  refine z_iadd (v := nI (0 + q)) hx hb dX5_tear_40 (nI_add (0) (q)) ?_
  refine lv_iconst (v := 0) hx hb dX5_tear_41 (by decide) ?_
  refine z_iast hx hb hK hP hD hS 1 0 rfl rfl (k := (0 + q)) (rfl) (by omega) (by decide) dX5_tear_42 (g := upd gs (0 + q) 0) (rfl) (fun H locs hP hD hS => ?_)
  have hP : va_P D vwCl [(m0, .inr (4, [.ref m1, .ref m2, .int (nI (pKn kn + 1)), .ref m3, .ref m4, .ref m5, .int (nI ln), .int (nI 0), .long hs])), (m1, .inl (cI, 228, .inl (upd gs (0 + q) 0))), (m2, .inl (cI, 684, .inl (pSv gs gp kn))), (m3, .inl (cI, 228, .inl gl)), (m4, .inl (cZ, 2, .inl gk)), (m5, .inl (cI, 60, .inl fx))] _ := hP
  have hD : va_D A [(m0, .inr (4, [.ref m1, .ref m2, .int (nI (pKn kn + 1)), .ref m3, .ref m4, .ref m5, .int (nI ln), .int (nI 0), .long hs])), (m1, .inl (cI, 228, .inl (upd gs (0 + q) 0))), (m2, .inl (cI, 684, .inl (pSv gs gp kn))), (m3, .inl (cI, 228, .inl gl)), (m4, .inl (cZ, 2, .inl gk)), (m5, .inl (cI, 60, .inl fx))] := hD
  refine lv_aload_n hx hb dX5_tear_43 rfl (lv_at hl 1 rfl) ?_
  refine va_get (D := D) (ci := 4) (v := .ref m1) (C := RX5) (T := TX5) (N := 9) hx hb hts in4 hown hK hP 0 rfl rfl 0 (by decide) fl7 (fun _ h9 => h9) rfl dX5_tear_44 ?_
  refine lv_bipush (v := 36) hx hb dX5_tear_47 (by decide) ?_
  refine lv_iload_n hx hb dX5_tear_49 rfl (lv_at hl 2 rfl) ?_
  refine z_iadd (v := nI (36 + q)) hx hb dX5_tear_50 (nI_add (36) (q)) ?_
  refine lv_iconst (v := 0) hx hb dX5_tear_51 (by decide) ?_
  refine z_iast hx hb hK hP hD hS 1 0 rfl rfl (k := (36 + q)) (rfl) (by omega) (by decide) dX5_tear_52 (g := upd (upd gs (0 + q) 0) (36 + q) 0) (rfl) (fun H locs hP hD hS => ?_)
  have hP : va_P D vwCl [(m0, .inr (4, [.ref m1, .ref m2, .int (nI (pKn kn + 1)), .ref m3, .ref m4, .ref m5, .int (nI ln), .int (nI 0), .long hs])), (m1, .inl (cI, 228, .inl (upd (upd gs (0 + q) 0) (36 + q) 0))), (m2, .inl (cI, 684, .inl (pSv gs gp kn))), (m3, .inl (cI, 228, .inl gl)), (m4, .inl (cZ, 2, .inl gk)), (m5, .inl (cI, 60, .inl fx))] _ := hP
  have hD : va_D A [(m0, .inr (4, [.ref m1, .ref m2, .int (nI (pKn kn + 1)), .ref m3, .ref m4, .ref m5, .int (nI ln), .int (nI 0), .long hs])), (m1, .inl (cI, 228, .inl (upd (upd gs (0 + q) 0) (36 + q) 0))), (m2, .inl (cI, 684, .inl (pSv gs gp kn))), (m3, .inl (cI, 228, .inl gl)), (m4, .inl (cZ, 2, .inl gk)), (m5, .inl (cI, 60, .inl fx))] := hD
  refine lv_iload_n hx hb dX5_tear_53 rfl (lv_at hl 0 rfl) ?_
  have hP9 : va_P D vwCl [(m0, .inr (4, [.ref m1, .ref m2, .int (nI (pKn kn + 1)), .ref m3, .ref m4, .ref m5, .int (nI ln), .int (nI 0), .long hs])), (m1, .inl (cI, 228, .inl (upd (upd gs (0 + q) 0) (36 + q) 0))), (m2, .inl (cI, 684, .inl (pSv gs gp kn))), (m3, .inl (cI, 228, .inl gl)), (m4, .inl (cZ, 2, .inl gk)), (m5, .inl (cI, 60, .inl fx))] _ := hP
  have hD9 : va_D A [(m0, .inr (4, [.ref m1, .ref m2, .int (nI (pKn kn + 1)), .ref m3, .ref m4, .ref m5, .int (nI ln), .int (nI 0), .long hs])), (m1, .inl (cI, 228, .inl (upd (upd gs (0 + q) 0) (36 + q) 0))), (m2, .inl (cI, 684, .inl (pSv gs gp kn))), (m3, .inl (cI, 228, .inl gl)), (m4, .inl (cZ, 2, .inl gk)), (m5, .inl (cI, 60, .inl fx))] := hD
  subst hAe
  exact z_miret hx hb hr hlocks dX5_tear_54 (rfl) hP9 hD9 hS

set_option maxHeartbeats 4000000 in
set_option maxRecDepth 100000 in
/-- hour: out of range -/
theorem c_X5_hour_out (l : Launch) (D : va_G) (cI cZ cL : ClassId) (sz : Nat) (m0 : Nat) (m1 : Nat) (m2 : Nat) (m3 : Nat) (m4 : Nat) (m5 : Nat) (gs : Nat → Int32) (gp : Nat → Int32) (gl : Nat → Int32) (gk : Nat → Int32) (fx : Nat → Int32) (kn : Nat) (ln : Nat) (th : Int32) (hs : Int64) (p0 : Int32) (hout : (decide (0 ≤ p0) && decide (p0 ≤ 11)) = false) : Met l yX5_hour wsX5_hour ({ frames := 1, cells := 0, slots := 0, locals := 22 }) (va_Pc [.ref m0, .int p0] (zM D cI cZ cL [(m0, .inr (4, [.ref m1, .ref m2, .int (nI kn), .ref m3, .ref m4, .ref m5, .int (nI ln), .int th, .long hs])), (m1, .inl (cI, 228, .inl gs)), (m2, .inl (cI, 684, .inl gp)), (m3, .inl (cI, 228, .inl gl)), (m4, .inl (cZ, 2, .inl gk)), (m5, .inl (cI, 60, .inl fx))] sz)) (zQmi D 0 [(m0, .inr (4, [.ref m1, .ref m2, .int (nI kn), .ref m3, .ref m4, .ref m5, .int (nI ln), .int th, .long hs])), (m1, .inl (cI, 228, .inl gs)), (m2, .inl (cI, 684, .inl gp)), (m3, .inl (cI, 228, .inl gl)), (m4, .inl (cZ, 2, .inl gk)), (m5, .inl (cI, 60, .inl fx))] [(m0, .inr (4, [.ref m1, .ref m2, .int (nI kn), .ref m3, .ref m4, .ref m5, .int (nI ln), .int (nI 1), .long hs])), (m1, .inl (cI, 228, .inl gs)), (m2, .inl (cI, 684, .inl gp)), (m3, .inl (cI, 228, .inl gl)), (m4, .inl (cZ, 2, .inl gk)), (m5, .inl (cI, 60, .inl fx))] sz) 0 0 (va_A [(m0, .inr (4, [.ref m1, .ref m2, .int (nI kn), .ref m3, .ref m4, .ref m5, .int (nI ln), .int th, .long hs])), (m1, .inl (cI, 228, .inl gs)), (m2, .inl (cI, 684, .inl gp)), (m3, .inl (cI, 228, .inl gl)), (m4, .inl (cZ, 2, .inl gk)), (m5, .inl (cI, 60, .inl fx))] sz) := by
  refine Met.ofW (cc := cX5_hour) (maxL := 3) (ret := (some .int)) (by decide) rfl ?_
  intro p e s m args below meth c s₁ B hml hv
  obtain ⟨rfl, hsz, ⟨hP, hK⟩, hD0⟩ := hv
  have hx := B.exec
  have hb := B.bytes
  have hr := B.returns
  have hts := atoms_spec (ws := wsX5_hour) B.pre
  have hown : s.vm.findClass RX5 = some m.cls := findClass_of_methodNamed B.named
  have hlocks := B.notSynchronized
  subst hsz
  have hD := hD0.self (sz := s.heap.size)
  generalize hAe : va_A [(m0, .inr (4, [.ref m1, .ref m2, .int (nI kn), .ref m3, .ref m4, .ref m5, .int (nI ln), .int th, .long hs])), (m1, .inl (cI, 228, .inl gs)), (m2, .inl (cI, 684, .inl gp)), (m3, .inl (cI, 228, .inl gl)), (m4, .inl (cZ, 2, .inl gk)), (m5, .inl (cI, 60, .inl fx))] s.heap.size = A at hD ⊢
  have hA : ∀ q : Nat, s.heap.size ≤ q → A q := fun q h => by rw [← hAe]; exact Or.inr h
  have hS : va_S A s.heap s.heap [] := va_S.rf
  have hl := lv_entry ([.ref m0, .int p0]) (n := 3) (Nat.le_of_ble_eq_true rfl)
  rw [lg_entry_eq]
  generalize (lg_sl ([.ref m0, .int p0]) ++ List.replicate (3 - (lg_sl ([.ref m0, .int p0])).length) Slot.unset).toArray = ls at hl ⊢
  have hl : lv_has ls 3 [(0, .ref m0), (1, .int p0)] := hl
  refine lv_aload_n hx hb dX5_hour_0 rfl (lv_at hl 0 rfl) ?_
  refine lv_iload_n hx hb dX5_hour_1 rfl (lv_at hl 1 rfl) ?_
  refine lv_iconst (v := 0) hx hb dX5_hour_2 (by decide) ?_
  refine lv_bipush (v := 11) hx hb dX5_hour_3 (by decide) ?_
  refine z_ci (va_runS (As := [.int p0, .int 0, .int 11]) (rest := [.ref m0]) ⟨hx, hb, hml, hown, hts⟩ (c_X5_in l (v := p0) (lo := 0) (hg := 11)) (va_cwS 3 hts gX5_hour_X5_in rfl rfl rfl (by decide +kernel) ⟨Nat.le_of_ble_eq_true rfl, Nat.le_of_ble_eq_true rfl⟩) z_preS rfl rfl hl.1 rfl (lv_room (Nat.le_of_ble_eq_true rfl)) dX5_hour_5 ⟨Nat.le_of_ble_eq_true rfl, Nat.le_of_ble_eq_true rfl⟩) ?_
  refine z_top (y := 0) (by rw [hout]; rfl) ?_
  refine z_if_eq (tgt := 15) (P := True) hx hb dX5_hour_8 (by decide) (by decide) (fun c8 => ?_) (fun c8 => (show False from c8 trivial).elim)
  refine lv_iconst (v := 1) hx hb dX5_hour_15 (by decide) ?_
  refine z_cmi (wr := []) (ws' := [(m0, .inr (4, [.ref m1, .ref m2, .int (nI kn), .ref m3, .ref m4, .ref m5, .int (nI ln), .int (nI 1), .long hs])), (m1, .inl (cI, 228, .inl gs)), (m2, .inl (cI, 684, .inl gp)), (m3, .inl (cI, 228, .inl gl)), (m4, .inl (cZ, 2, .inl gk)), (m5, .inl (cI, 60, .inl fx))]) (va_runV (As := [.int 1]) (rest := []) ⟨hx, hb, hml, hown, hts⟩ (c_X5_throwsAt l D cI cZ cL _ (m0 := m0) (m1 := m1) (m2 := m2) (m3 := m3) (m4 := m4) (m5 := m5) (gs := gs) (gp := gp) (gl := gl) (gk := gk) (fx := fx) (kn := kn) (ln := ln) (th := th) (hs := hs) (pc0 := 1) (hpc := by omega)) (cwV 1 hts gX5_hour_X5_throwsAt rfl rfl rfl (by decide +kernel) ⟨Nat.le_of_ble_eq_true rfl, Nat.le_of_ble_eq_true rfl⟩) (z_preMV hK (hP.sub [0, 1, 2, 3, 4, 5] rfl) (hD.sub [0, 1, 2, 3, 4, 5] (by decide) rfl) 0 4 rfl rfl) rfl rfl hl.1 rfl (lv_room (Nat.le_of_ble_eq_true rfl)) dX5_hour_16 ⟨Nat.le_of_ble_eq_true rfl, Nat.le_of_ble_eq_true rfl⟩) hP hD hS hA [0, 1, 2, 3, 4, 5] [] [0, 1, 2, 3, 4, 5] rfl rfl (by decide) (by decide) rfl rfl (by decide) (fun H locs hP hD hS => ?_)
  refine z_top (y := 1) (by decide) ?_
  refine z_if_eq (tgt := 24) (P := False) hx hb dX5_hour_19 (by decide) (by decide) (fun c19 => (show False from c19).elim) (fun c19 => ?_)
  refine lv_iconst (v := 0) hx hb dX5_hour_22 (by decide) ?_
  have hP9 : va_P D vwCl [(m0, .inr (4, [.ref m1, .ref m2, .int (nI kn), .ref m3, .ref m4, .ref m5, .int (nI ln), .int (nI 1), .long hs])), (m1, .inl (cI, 228, .inl gs)), (m2, .inl (cI, 684, .inl gp)), (m3, .inl (cI, 228, .inl gl)), (m4, .inl (cZ, 2, .inl gk)), (m5, .inl (cI, 60, .inl fx))] _ := hP
  have hD9 : va_D A [(m0, .inr (4, [.ref m1, .ref m2, .int (nI kn), .ref m3, .ref m4, .ref m5, .int (nI ln), .int (nI 1), .long hs])), (m1, .inl (cI, 228, .inl gs)), (m2, .inl (cI, 684, .inl gp)), (m3, .inl (cI, 228, .inl gl)), (m4, .inl (cZ, 2, .inl gk)), (m5, .inl (cI, 60, .inl fx))] := hD
  subst hAe
  exact z_miret hx hb hr hlocks dX5_hour_23 (rfl) hP9 hD9 hS

set_option maxHeartbeats 4000000 in
set_option maxRecDepth 100000 in
/-- hour -/
theorem c_X5_hour_ok (l : Launch) (D : va_G) (cI cZ cL : ClassId) (sz : Nat) (m0 : Nat) (m1 : Nat) (m2 : Nat) (m3 : Nat) (m4 : Nat) (m5 : Nat) (gs : Nat → Int32) (gp : Nat → Int32) (gl : Nat → Int32) (gk : Nat → Int32) (fx : Nat → Int32) (kn : Nat) (ln : Nat) (th : Int32) (hs : Int64) (hu : Nat) (hhu : hu < 12) (hkn : kn < 7) : Met l yX5_hour wsX5_hour ({ frames := 1, cells := 0, slots := 0, locals := 22 }) (va_Pc [.ref m0, .int (nI hu)] (zM D cI cZ cL [(m0, .inr (4, [.ref m1, .ref m2, .int (nI kn), .ref m3, .ref m4, .ref m5, .int (nI ln), .int th, .long hs])), (m1, .inl (cI, 228, .inl gs)), (m2, .inl (cI, 684, .inl gp)), (m3, .inl (cI, 228, .inl gl)), (m4, .inl (cZ, 2, .inl gk)), (m5, .inl (cI, 60, .inl fx))] sz)) (zQmi D (gs 108) [(m0, .inr (4, [.ref m1, .ref m2, .int (nI kn), .ref m3, .ref m4, .ref m5, .int (nI ln), .int th, .long hs])), (m1, .inl (cI, 228, .inl gs)), (m2, .inl (cI, 684, .inl gp)), (m3, .inl (cI, 228, .inl gl)), (m4, .inl (cZ, 2, .inl gk)), (m5, .inl (cI, 60, .inl fx))] [(m0, .inr (4, [.ref m1, .ref m2, .int (nI (pKn kn + 1)), .ref m3, .ref m4, .ref m5, .int (nI ln), .int (nI 0), .long hs])), (m1, .inl (cI, 228, .inl (upd gs 108 (nI hu)))), (m2, .inl (cI, 684, .inl (pSv gs gp kn))), (m3, .inl (cI, 228, .inl gl)), (m4, .inl (cZ, 2, .inl gk)), (m5, .inl (cI, 60, .inl fx))] sz) 0 0 (va_A [(m0, .inr (4, [.ref m1, .ref m2, .int (nI kn), .ref m3, .ref m4, .ref m5, .int (nI ln), .int th, .long hs])), (m1, .inl (cI, 228, .inl gs)), (m2, .inl (cI, 684, .inl gp)), (m3, .inl (cI, 228, .inl gl)), (m4, .inl (cZ, 2, .inl gk)), (m5, .inl (cI, 60, .inl fx))] sz) := by
  refine Met.ofW (cc := cX5_hour) (maxL := 3) (ret := (some .int)) (by decide) rfl ?_
  intro p e s m args below meth c s₁ B hml hv
  obtain ⟨rfl, hsz, ⟨hP, hK⟩, hD0⟩ := hv
  have hx := B.exec
  have hb := B.bytes
  have hr := B.returns
  have hts := atoms_spec (ws := wsX5_hour) B.pre
  have hown : s.vm.findClass RX5 = some m.cls := findClass_of_methodNamed B.named
  have hlocks := B.notSynchronized
  subst hsz
  have hD := hD0.self (sz := s.heap.size)
  generalize hAe : va_A [(m0, .inr (4, [.ref m1, .ref m2, .int (nI kn), .ref m3, .ref m4, .ref m5, .int (nI ln), .int th, .long hs])), (m1, .inl (cI, 228, .inl gs)), (m2, .inl (cI, 684, .inl gp)), (m3, .inl (cI, 228, .inl gl)), (m4, .inl (cZ, 2, .inl gk)), (m5, .inl (cI, 60, .inl fx))] s.heap.size = A at hD ⊢
  have hA : ∀ q : Nat, s.heap.size ≤ q → A q := fun q h => by rw [← hAe]; exact Or.inr h
  have hS : va_S A s.heap s.heap [] := va_S.rf
  have in4 : ∀ w ∈ u_ws RX5 TX5 9, w ∈ wsX5_hour := by decide +kernel
  have fl7 := hts (.fieldLink RX5 7 "TowerShadesModel" "s" "[I") (by decide +kernel)
  have hl := lv_entry ([.ref m0, .int (nI hu)]) (n := 3) (Nat.le_of_ble_eq_true rfl)
  rw [lg_entry_eq]
  generalize (lg_sl ([.ref m0, .int (nI hu)]) ++ List.replicate (3 - (lg_sl ([.ref m0, .int (nI hu)])).length) Slot.unset).toArray = ls at hl ⊢
  have hl : lv_has ls 3 [(0, .ref m0), (1, .int (nI hu))] := hl
  have hkn5 := pKn_lt hkn
  refine lv_aload_n hx hb dX5_hour_0 rfl (lv_at hl 0 rfl) ?_
  refine lv_iload_n hx hb dX5_hour_1 rfl (lv_at hl 1 rfl) ?_
  refine lv_iconst (v := 0) hx hb dX5_hour_2 (by decide) ?_
  refine lv_bipush (v := 11) hx hb dX5_hour_3 (by decide) ?_
  refine z_ci (va_runS (As := [.int (nI hu), .int 0, .int 11]) (rest := [.ref m0]) ⟨hx, hb, hml, hown, hts⟩ (c_X5_in l (v := nI hu) (lo := 0) (hg := 11)) (va_cwS 3 hts gX5_hour_X5_in rfl rfl rfl (by decide +kernel) ⟨Nat.le_of_ble_eq_true rfl, Nat.le_of_ble_eq_true rfl⟩) z_preS rfl rfl hl.1 rfl (lv_room (Nat.le_of_ble_eq_true rfl)) dX5_hour_5 ⟨Nat.le_of_ble_eq_true rfl, Nat.le_of_ble_eq_true rfl⟩) ?_
  refine z_top (y := 1) (by rw [show (decide (0 ≤ nI hu) && decide (nI hu ≤ 11)) = true from in_ok 0 11 (by omega) (by omega) (by omega)]; rfl) ?_
  refine z_if_eq (tgt := 15) (P := False) hx hb dX5_hour_8 (by decide) (by decide) (fun c8 => (show False from c8).elim) (fun c8 => ?_)
  refine lv_iconst (v := 0) hx hb dX5_hour_11 (by decide) ?_
  refine lv_goto (tgt := 16) hx hb dX5_hour_12 (by decide) ?_
  refine z_cmi (wr := []) (ws' := [(m0, .inr (4, [.ref m1, .ref m2, .int (nI kn), .ref m3, .ref m4, .ref m5, .int (nI ln), .int (nI 0), .long hs])), (m1, .inl (cI, 228, .inl gs)), (m2, .inl (cI, 684, .inl gp)), (m3, .inl (cI, 228, .inl gl)), (m4, .inl (cZ, 2, .inl gk)), (m5, .inl (cI, 60, .inl fx))]) (va_runV (As := [.int 0]) (rest := []) ⟨hx, hb, hml, hown, hts⟩ (c_X5_throwsAt l D cI cZ cL _ (m0 := m0) (m1 := m1) (m2 := m2) (m3 := m3) (m4 := m4) (m5 := m5) (gs := gs) (gp := gp) (gl := gl) (gk := gk) (fx := fx) (kn := kn) (ln := ln) (th := th) (hs := hs) (pc0 := 0) (hpc := by omega)) (cwV 1 hts gX5_hour_X5_throwsAt rfl rfl rfl (by decide +kernel) ⟨Nat.le_of_ble_eq_true rfl, Nat.le_of_ble_eq_true rfl⟩) (z_preMV hK (hP.sub [0, 1, 2, 3, 4, 5] rfl) (hD.sub [0, 1, 2, 3, 4, 5] (by decide) rfl) 0 4 rfl rfl) rfl rfl hl.1 rfl (lv_room (Nat.le_of_ble_eq_true rfl)) dX5_hour_16 ⟨Nat.le_of_ble_eq_true rfl, Nat.le_of_ble_eq_true rfl⟩) hP hD hS hA [0, 1, 2, 3, 4, 5] [] [0, 1, 2, 3, 4, 5] rfl rfl (by decide) (by decide) rfl rfl (by decide) (fun H locs hP hD hS => ?_)
  refine z_top (y := 0) (by decide) ?_
  refine z_if_eq (tgt := 24) (P := True) hx hb dX5_hour_19 (by decide) (by decide) (fun c19 => ?_) (fun c19 => (show False from c19 trivial).elim)
  refine lv_aload_n hx hb dX5_hour_24 rfl (lv_at hl 0 rfl) ?_
  refine z_cmv (wr := []) (ws' := [(m0, .inr (4, [.ref m1, .ref m2, .int (nI (pKn kn + 1)), .ref m3, .ref m4, .ref m5, .int (nI ln), .int (nI 0), .long hs])), (m1, .inl (cI, 228, .inl gs)), (m2, .inl (cI, 684, .inl (pSv gs gp kn))), (m3, .inl (cI, 228, .inl gl)), (m4, .inl (cZ, 2, .inl gk)), (m5, .inl (cI, 60, .inl fx))]) (va_runV (As := []) (rest := []) ⟨hx, hb, hml, hown, hts⟩ (c_X5_saves l D cI cZ cL _ (m0 := m0) (m1 := m1) (m2 := m2) (m3 := m3) (m4 := m4) (m5 := m5) (gs := gs) (gp := gp) (gl := gl) (gk := gk) (fx := fx) (kn := kn) (ln := ln) (th := nI 0) (hs := hs) (hkn := by omega)) (cwV 0 hts gX5_hour_X5_saves rfl rfl rfl (by decide +kernel) ⟨Nat.le_of_ble_eq_true rfl, Nat.le_of_ble_eq_true rfl⟩) (z_preMV hK (hP.sub [0, 1, 2, 3, 4, 5] rfl) (hD.sub [0, 1, 2, 3, 4, 5] (by decide) rfl) 0 4 rfl rfl) rfl rfl hl.1 rfl (lv_room (Nat.le_of_ble_eq_true rfl)) dX5_hour_25 ⟨Nat.le_of_ble_eq_true rfl, Nat.le_of_ble_eq_true rfl⟩) hP hD hS hA [0, 1, 2, 3, 4, 5] [] [0, 1, 2, 3, 4, 5] rfl rfl (by decide) (by decide) rfl rfl (by decide) (fun H locs hP hD hS => ?_)
  refine lv_aload_n hx hb dX5_hour_28 rfl (lv_at hl 0 rfl) ?_
  refine va_get (D := D) (ci := 4) (v := .ref m1) (C := RX5) (T := TX5) (N := 9) hx hb hts in4 hown hK hP 0 rfl rfl 0 (by decide) fl7 (fun _ h9 => h9) rfl dX5_hour_29 ?_
  refine lv_bipush (v := 108) hx hb dX5_hour_32 (by decide) ?_
  refine z_iald hx hb hK hP 1 0 rfl rfl (k := 108) (rfl) (by omega) (by decide) dX5_hour_34 ?_
  refine lv_istore_n (lv' := [(2, .int (gs 108)), (0, .ref m0), (1, .int (nI hu))]) hx hb dX5_hour_35 rfl hl (by decide) rfl (fun ls hl => ?_)
  refine lv_aload_n hx hb dX5_hour_36 rfl (lv_at hl 1 rfl) ?_
  refine va_get (D := D) (ci := 4) (v := .ref m1) (C := RX5) (T := TX5) (N := 9) hx hb hts in4 hown hK hP 0 rfl rfl 0 (by decide) fl7 (fun _ h9 => h9) rfl dX5_hour_37 ?_
  refine lv_bipush (v := 108) hx hb dX5_hour_40 (by decide) ?_
  refine lv_iload_n hx hb dX5_hour_42 rfl (lv_at hl 2 rfl) ?_
  refine z_iast hx hb hK hP hD hS 1 0 rfl rfl (k := 108) (rfl) (by omega) (by decide) dX5_hour_43 (g := upd gs 108 (nI hu)) (rfl) (fun H locs hP hD hS => ?_)
  have hP : va_P D vwCl [(m0, .inr (4, [.ref m1, .ref m2, .int (nI (pKn kn + 1)), .ref m3, .ref m4, .ref m5, .int (nI ln), .int (nI 0), .long hs])), (m1, .inl (cI, 228, .inl (upd gs 108 (nI hu)))), (m2, .inl (cI, 684, .inl (pSv gs gp kn))), (m3, .inl (cI, 228, .inl gl)), (m4, .inl (cZ, 2, .inl gk)), (m5, .inl (cI, 60, .inl fx))] _ := hP
  have hD : va_D A [(m0, .inr (4, [.ref m1, .ref m2, .int (nI (pKn kn + 1)), .ref m3, .ref m4, .ref m5, .int (nI ln), .int (nI 0), .long hs])), (m1, .inl (cI, 228, .inl (upd gs 108 (nI hu)))), (m2, .inl (cI, 684, .inl (pSv gs gp kn))), (m3, .inl (cI, 228, .inl gl)), (m4, .inl (cZ, 2, .inl gk)), (m5, .inl (cI, 60, .inl fx))] := hD
  refine lv_iload_n hx hb dX5_hour_44 rfl (lv_at hl 0 rfl) ?_
  have hP9 : va_P D vwCl [(m0, .inr (4, [.ref m1, .ref m2, .int (nI (pKn kn + 1)), .ref m3, .ref m4, .ref m5, .int (nI ln), .int (nI 0), .long hs])), (m1, .inl (cI, 228, .inl (upd gs 108 (nI hu)))), (m2, .inl (cI, 684, .inl (pSv gs gp kn))), (m3, .inl (cI, 228, .inl gl)), (m4, .inl (cZ, 2, .inl gk)), (m5, .inl (cI, 60, .inl fx))] _ := hP
  have hD9 : va_D A [(m0, .inr (4, [.ref m1, .ref m2, .int (nI (pKn kn + 1)), .ref m3, .ref m4, .ref m5, .int (nI ln), .int (nI 0), .long hs])), (m1, .inl (cI, 228, .inl (upd gs 108 (nI hu)))), (m2, .inl (cI, 684, .inl (pSv gs gp kn))), (m3, .inl (cI, 228, .inl gl)), (m4, .inl (cZ, 2, .inl gk)), (m5, .inl (cI, 60, .inl fx))] := hD
  subst hAe
  exact z_miret hx hb hr hlocks dX5_hour_45 (rfl) hP9 hD9 hS

set_option maxHeartbeats 4000000 in
set_option maxRecDepth 100000 in
/-- append: no sign -/
theorem c_X5_append_out (l : Launch) (D : va_G) (cI cZ cL : ClassId) (sz : Nat) (m0 : Nat) (m1 : Nat) (m2 : Nat) (m3 : Nat) (m4 : Nat) (m5 : Nat) (gs : Nat → Int32) (gp : Nat → Int32) (gl : Nat → Int32) (gk : Nat → Int32) (fx : Nat → Int32) (kn : Nat) (ln : Nat) (th : Int32) (hs : Int64) (p0 : Int32) (hout : (decide (33 ≤ p0) && decide (p0 ≤ 126)) = false) : Met l yX5_append wsX5_append ({ frames := 1, cells := 0, slots := 0, locals := 22 }) (va_Pc [.ref m0, .int p0] (zM D cI cZ cL [(m0, .inr (4, [.ref m1, .ref m2, .int (nI kn), .ref m3, .ref m4, .ref m5, .int (nI ln), .int th, .long hs])), (m1, .inl (cI, 228, .inl gs)), (m2, .inl (cI, 684, .inl gp)), (m3, .inl (cI, 228, .inl gl)), (m4, .inl (cZ, 2, .inl gk)), (m5, .inl (cI, 60, .inl fx))] sz)) (zQmi D 0 [(m0, .inr (4, [.ref m1, .ref m2, .int (nI kn), .ref m3, .ref m4, .ref m5, .int (nI ln), .int th, .long hs])), (m1, .inl (cI, 228, .inl gs)), (m2, .inl (cI, 684, .inl gp)), (m3, .inl (cI, 228, .inl gl)), (m4, .inl (cZ, 2, .inl gk)), (m5, .inl (cI, 60, .inl fx))] [(m0, .inr (4, [.ref m1, .ref m2, .int (nI kn), .ref m3, .ref m4, .ref m5, .int (nI ln), .int (nI 1), .long hs])), (m1, .inl (cI, 228, .inl gs)), (m2, .inl (cI, 684, .inl gp)), (m3, .inl (cI, 228, .inl gl)), (m4, .inl (cZ, 2, .inl gk)), (m5, .inl (cI, 60, .inl fx))] sz) 0 0 (va_A [(m0, .inr (4, [.ref m1, .ref m2, .int (nI kn), .ref m3, .ref m4, .ref m5, .int (nI ln), .int th, .long hs])), (m1, .inl (cI, 228, .inl gs)), (m2, .inl (cI, 684, .inl gp)), (m3, .inl (cI, 228, .inl gl)), (m4, .inl (cZ, 2, .inl gk)), (m5, .inl (cI, 60, .inl fx))] sz) := by
  refine Met.ofW (cc := cX5_append) (maxL := 2) (ret := (some .int)) (by decide) rfl ?_
  intro p e s m args below meth c s₁ B hml hv
  obtain ⟨rfl, hsz, ⟨hP, hK⟩, hD0⟩ := hv
  have hx := B.exec
  have hb := B.bytes
  have hr := B.returns
  have hts := atoms_spec (ws := wsX5_append) B.pre
  have hown : s.vm.findClass RX5 = some m.cls := findClass_of_methodNamed B.named
  have hlocks := B.notSynchronized
  subst hsz
  have hD := hD0.self (sz := s.heap.size)
  generalize hAe : va_A [(m0, .inr (4, [.ref m1, .ref m2, .int (nI kn), .ref m3, .ref m4, .ref m5, .int (nI ln), .int th, .long hs])), (m1, .inl (cI, 228, .inl gs)), (m2, .inl (cI, 684, .inl gp)), (m3, .inl (cI, 228, .inl gl)), (m4, .inl (cZ, 2, .inl gk)), (m5, .inl (cI, 60, .inl fx))] s.heap.size = A at hD ⊢
  have hA : ∀ q : Nat, s.heap.size ≤ q → A q := fun q h => by rw [← hAe]; exact Or.inr h
  have hS : va_S A s.heap s.heap [] := va_S.rf
  have hl := lv_entry ([.ref m0, .int p0]) (n := 2) (Nat.le_of_ble_eq_true rfl)
  rw [lg_entry_eq]
  generalize (lg_sl ([.ref m0, .int p0]) ++ List.replicate (2 - (lg_sl ([.ref m0, .int p0])).length) Slot.unset).toArray = ls at hl ⊢
  have hl : lv_has ls 2 [(0, .ref m0), (1, .int p0)] := hl
  refine lv_aload_n hx hb dX5_append_0 rfl (lv_at hl 0 rfl) ?_
  refine lv_iload_n hx hb dX5_append_1 rfl (lv_at hl 1 rfl) ?_
  refine lv_bipush (v := 33) hx hb dX5_append_2 (by decide) ?_
  refine lv_bipush (v := 126) hx hb dX5_append_4 (by decide) ?_
  refine z_ci (va_runS (As := [.int p0, .int 33, .int 126]) (rest := [.ref m0]) ⟨hx, hb, hml, hown, hts⟩ (c_X5_in l (v := p0) (lo := 33) (hg := 126)) (va_cwS 3 hts gX5_append_X5_in rfl rfl rfl (by decide +kernel) ⟨Nat.le_of_ble_eq_true rfl, Nat.le_of_ble_eq_true rfl⟩) z_preS rfl rfl hl.1 rfl (lv_room (Nat.le_of_ble_eq_true rfl)) dX5_append_6 ⟨Nat.le_of_ble_eq_true rfl, Nat.le_of_ble_eq_true rfl⟩) ?_
  refine z_top (y := 0) (by rw [hout]; rfl) ?_
  refine z_if_ne (tgt := 16) (P := True) hx hb dX5_append_9 (by decide) (by decide) (fun c9 => (show False from c9 trivial).elim) (fun c9 => ?_)
  refine lv_iconst (v := 1) hx hb dX5_append_12 (by decide) ?_
  refine lv_goto (tgt := 30) hx hb dX5_append_13 (by decide) ?_
  refine z_cmi (wr := []) (ws' := [(m0, .inr (4, [.ref m1, .ref m2, .int (nI kn), .ref m3, .ref m4, .ref m5, .int (nI ln), .int (nI 1), .long hs])), (m1, .inl (cI, 228, .inl gs)), (m2, .inl (cI, 684, .inl gp)), (m3, .inl (cI, 228, .inl gl)), (m4, .inl (cZ, 2, .inl gk)), (m5, .inl (cI, 60, .inl fx))]) (va_runV (As := [.int 1]) (rest := []) ⟨hx, hb, hml, hown, hts⟩ (c_X5_throwsAt l D cI cZ cL _ (m0 := m0) (m1 := m1) (m2 := m2) (m3 := m3) (m4 := m4) (m5 := m5) (gs := gs) (gp := gp) (gl := gl) (gk := gk) (fx := fx) (kn := kn) (ln := ln) (th := th) (hs := hs) (pc0 := 1) (hpc := by omega)) (cwV 1 hts gX5_append_X5_throwsAt rfl rfl rfl (by decide +kernel) ⟨Nat.le_of_ble_eq_true rfl, Nat.le_of_ble_eq_true rfl⟩) (z_preMV hK (hP.sub [0, 1, 2, 3, 4, 5] rfl) (hD.sub [0, 1, 2, 3, 4, 5] (by decide) rfl) 0 4 rfl rfl) rfl rfl hl.1 rfl (lv_room (Nat.le_of_ble_eq_true rfl)) dX5_append_30 ⟨Nat.le_of_ble_eq_true rfl, Nat.le_of_ble_eq_true rfl⟩) hP hD hS hA [0, 1, 2, 3, 4, 5] [] [0, 1, 2, 3, 4, 5] rfl rfl (by decide) (by decide) rfl rfl (by decide) (fun H locs hP hD hS => ?_)
  refine z_top (y := 1) (by decide) ?_
  refine z_if_eq (tgt := 38) (P := False) hx hb dX5_append_33 (by decide) (by decide) (fun c33 => (show False from c33).elim) (fun c33 => ?_)
  refine lv_iconst (v := 0) hx hb dX5_append_36 (by decide) ?_
  have hP9 : va_P D vwCl [(m0, .inr (4, [.ref m1, .ref m2, .int (nI kn), .ref m3, .ref m4, .ref m5, .int (nI ln), .int (nI 1), .long hs])), (m1, .inl (cI, 228, .inl gs)), (m2, .inl (cI, 684, .inl gp)), (m3, .inl (cI, 228, .inl gl)), (m4, .inl (cZ, 2, .inl gk)), (m5, .inl (cI, 60, .inl fx))] _ := hP
  have hD9 : va_D A [(m0, .inr (4, [.ref m1, .ref m2, .int (nI kn), .ref m3, .ref m4, .ref m5, .int (nI ln), .int (nI 1), .long hs])), (m1, .inl (cI, 228, .inl gs)), (m2, .inl (cI, 684, .inl gp)), (m3, .inl (cI, 228, .inl gl)), (m4, .inl (cZ, 2, .inl gk)), (m5, .inl (cI, 60, .inl fx))] := hD
  subst hAe
  exact z_miret hx hb hr hlocks dX5_append_37 (rfl) hP9 hD9 hS

set_option maxHeartbeats 4000000 in
set_option maxRecDepth 100000 in
/-- append: full -/
theorem c_X5_append_full (l : Launch) (D : va_G) (cI cZ cL : ClassId) (sz : Nat) (m0 : Nat) (m1 : Nat) (m2 : Nat) (m3 : Nat) (m4 : Nat) (m5 : Nat) (gs : Nat → Int32) (gp : Nat → Int32) (gl : Nat → Int32) (gk : Nat → Int32) (fx : Nat → Int32) (kn : Nat) (ln : Nat) (th : Int32) (hs : Int64) (p0 : Int32) (hin0 : (decide (33 ≤ p0) && decide (p0 ≤ 126)) = true) (hfu : ln = 60) : Met l yX5_append wsX5_append ({ frames := 1, cells := 0, slots := 0, locals := 22 }) (va_Pc [.ref m0, .int p0] (zM D cI cZ cL [(m0, .inr (4, [.ref m1, .ref m2, .int (nI kn), .ref m3, .ref m4, .ref m5, .int (nI ln), .int th, .long hs])), (m1, .inl (cI, 228, .inl gs)), (m2, .inl (cI, 684, .inl gp)), (m3, .inl (cI, 228, .inl gl)), (m4, .inl (cZ, 2, .inl gk)), (m5, .inl (cI, 60, .inl fx))] sz)) (zQmi D 0 [(m0, .inr (4, [.ref m1, .ref m2, .int (nI kn), .ref m3, .ref m4, .ref m5, .int (nI ln), .int th, .long hs])), (m1, .inl (cI, 228, .inl gs)), (m2, .inl (cI, 684, .inl gp)), (m3, .inl (cI, 228, .inl gl)), (m4, .inl (cZ, 2, .inl gk)), (m5, .inl (cI, 60, .inl fx))] [(m0, .inr (4, [.ref m1, .ref m2, .int (nI kn), .ref m3, .ref m4, .ref m5, .int (nI ln), .int (nI 2), .long hs])), (m1, .inl (cI, 228, .inl gs)), (m2, .inl (cI, 684, .inl gp)), (m3, .inl (cI, 228, .inl gl)), (m4, .inl (cZ, 2, .inl gk)), (m5, .inl (cI, 60, .inl fx))] sz) 0 0 (va_A [(m0, .inr (4, [.ref m1, .ref m2, .int (nI kn), .ref m3, .ref m4, .ref m5, .int (nI ln), .int th, .long hs])), (m1, .inl (cI, 228, .inl gs)), (m2, .inl (cI, 684, .inl gp)), (m3, .inl (cI, 228, .inl gl)), (m4, .inl (cZ, 2, .inl gk)), (m5, .inl (cI, 60, .inl fx))] sz) := by
  refine Met.ofW (cc := cX5_append) (maxL := 2) (ret := (some .int)) (by decide) rfl ?_
  intro p e s m args below meth c s₁ B hml hv
  obtain ⟨rfl, hsz, ⟨hP, hK⟩, hD0⟩ := hv
  have hx := B.exec
  have hb := B.bytes
  have hr := B.returns
  have hts := atoms_spec (ws := wsX5_append) B.pre
  have hown : s.vm.findClass RX5 = some m.cls := findClass_of_methodNamed B.named
  have hlocks := B.notSynchronized
  subst hsz
  have hD := hD0.self (sz := s.heap.size)
  generalize hAe : va_A [(m0, .inr (4, [.ref m1, .ref m2, .int (nI kn), .ref m3, .ref m4, .ref m5, .int (nI ln), .int th, .long hs])), (m1, .inl (cI, 228, .inl gs)), (m2, .inl (cI, 684, .inl gp)), (m3, .inl (cI, 228, .inl gl)), (m4, .inl (cZ, 2, .inl gk)), (m5, .inl (cI, 60, .inl fx))] s.heap.size = A at hD ⊢
  have hA : ∀ q : Nat, s.heap.size ≤ q → A q := fun q h => by rw [← hAe]; exact Or.inr h
  have hS : va_S A s.heap s.heap [] := va_S.rf
  have in4 : ∀ w ∈ u_ws RX5 TX5 9, w ∈ wsX5_append := by decide +kernel
  have fl85 := hts (.fieldLink RX5 85 "TowerShadesModel" "length" "I") (by decide +kernel)
  have hl := lv_entry ([.ref m0, .int p0]) (n := 2) (Nat.le_of_ble_eq_true rfl)
  rw [lg_entry_eq]
  generalize (lg_sl ([.ref m0, .int p0]) ++ List.replicate (2 - (lg_sl ([.ref m0, .int p0])).length) Slot.unset).toArray = ls at hl ⊢
  have hl : lv_has ls 2 [(0, .ref m0), (1, .int p0)] := hl
  refine lv_aload_n hx hb dX5_append_0 rfl (lv_at hl 0 rfl) ?_
  refine lv_iload_n hx hb dX5_append_1 rfl (lv_at hl 1 rfl) ?_
  refine lv_bipush (v := 33) hx hb dX5_append_2 (by decide) ?_
  refine lv_bipush (v := 126) hx hb dX5_append_4 (by decide) ?_
  refine z_ci (va_runS (As := [.int p0, .int 33, .int 126]) (rest := [.ref m0]) ⟨hx, hb, hml, hown, hts⟩ (c_X5_in l (v := p0) (lo := 33) (hg := 126)) (va_cwS 3 hts gX5_append_X5_in rfl rfl rfl (by decide +kernel) ⟨Nat.le_of_ble_eq_true rfl, Nat.le_of_ble_eq_true rfl⟩) z_preS rfl rfl hl.1 rfl (lv_room (Nat.le_of_ble_eq_true rfl)) dX5_append_6 ⟨Nat.le_of_ble_eq_true rfl, Nat.le_of_ble_eq_true rfl⟩) ?_
  refine z_top (y := 1) (by rw [hin0]; rfl) ?_
  refine z_if_ne (tgt := 16) (P := False) hx hb dX5_append_9 (by decide) (by decide) (fun c9 => ?_) (fun c9 => (show False from c9).elim)
  refine lv_aload_n hx hb dX5_append_16 rfl (lv_at hl 0 rfl) ?_
  refine va_get (D := D) (ci := 4) (v := .int (nI ln)) (C := RX5) (T := TX5) (N := 9) hx hb hts in4 hown hK hP 0 rfl rfl 6 (by decide) fl85 (fun _ h9 => h9) rfl dX5_append_17 ?_
  refine lv_bipush (v := 60) hx hb dX5_append_20 (by decide) ?_
  refine z_icmp_ne (tgt := 29) (P := ln = 60) hx hb dX5_append_22 (by decide) (nI_eq (a := ln) (b := 60) (by omega) (by omega)) (fun c22 => (show False from c22 hfu).elim) (fun c22 => ?_)
  refine lv_iconst (v := 2) hx hb dX5_append_25 (by decide) ?_
  refine lv_goto (tgt := 30) hx hb dX5_append_26 (by decide) ?_
  refine z_cmi (wr := []) (ws' := [(m0, .inr (4, [.ref m1, .ref m2, .int (nI kn), .ref m3, .ref m4, .ref m5, .int (nI ln), .int (nI 2), .long hs])), (m1, .inl (cI, 228, .inl gs)), (m2, .inl (cI, 684, .inl gp)), (m3, .inl (cI, 228, .inl gl)), (m4, .inl (cZ, 2, .inl gk)), (m5, .inl (cI, 60, .inl fx))]) (va_runV (As := [.int 2]) (rest := []) ⟨hx, hb, hml, hown, hts⟩ (c_X5_throwsAt l D cI cZ cL _ (m0 := m0) (m1 := m1) (m2 := m2) (m3 := m3) (m4 := m4) (m5 := m5) (gs := gs) (gp := gp) (gl := gl) (gk := gk) (fx := fx) (kn := kn) (ln := ln) (th := th) (hs := hs) (pc0 := 2) (hpc := by omega)) (cwV 1 hts gX5_append_X5_throwsAt rfl rfl rfl (by decide +kernel) ⟨Nat.le_of_ble_eq_true rfl, Nat.le_of_ble_eq_true rfl⟩) (z_preMV hK (hP.sub [0, 1, 2, 3, 4, 5] rfl) (hD.sub [0, 1, 2, 3, 4, 5] (by decide) rfl) 0 4 rfl rfl) rfl rfl hl.1 rfl (lv_room (Nat.le_of_ble_eq_true rfl)) dX5_append_30 ⟨Nat.le_of_ble_eq_true rfl, Nat.le_of_ble_eq_true rfl⟩) hP hD hS hA [0, 1, 2, 3, 4, 5] [] [0, 1, 2, 3, 4, 5] rfl rfl (by decide) (by decide) rfl rfl (by decide) (fun H locs hP hD hS => ?_)
  refine z_top (y := 1) (by decide) ?_
  refine z_if_eq (tgt := 38) (P := False) hx hb dX5_append_33 (by decide) (by decide) (fun c33 => (show False from c33).elim) (fun c33 => ?_)
  refine lv_iconst (v := 0) hx hb dX5_append_36 (by decide) ?_
  have hP9 : va_P D vwCl [(m0, .inr (4, [.ref m1, .ref m2, .int (nI kn), .ref m3, .ref m4, .ref m5, .int (nI ln), .int (nI 2), .long hs])), (m1, .inl (cI, 228, .inl gs)), (m2, .inl (cI, 684, .inl gp)), (m3, .inl (cI, 228, .inl gl)), (m4, .inl (cZ, 2, .inl gk)), (m5, .inl (cI, 60, .inl fx))] _ := hP
  have hD9 : va_D A [(m0, .inr (4, [.ref m1, .ref m2, .int (nI kn), .ref m3, .ref m4, .ref m5, .int (nI ln), .int (nI 2), .long hs])), (m1, .inl (cI, 228, .inl gs)), (m2, .inl (cI, 684, .inl gp)), (m3, .inl (cI, 228, .inl gl)), (m4, .inl (cZ, 2, .inl gk)), (m5, .inl (cI, 60, .inl fx))] := hD
  subst hAe
  exact z_miret hx hb hr hlocks dX5_append_37 (rfl) hP9 hD9 hS

set_option maxHeartbeats 4000000 in
set_option maxRecDepth 100000 in
/-- append -/
theorem c_X5_append_ok (l : Launch) (D : va_G) (cI cZ cL : ClassId) (sz : Nat) (m0 : Nat) (m1 : Nat) (m2 : Nat) (m3 : Nat) (m4 : Nat) (m5 : Nat) (gs : Nat → Int32) (gp : Nat → Int32) (gl : Nat → Int32) (gk : Nat → Int32) (fx : Nat → Int32) (kn : Nat) (ln : Nat) (th : Int32) (hs : Int64) (p0 : Int32) (hin0 : (decide (33 ≤ p0) && decide (p0 ≤ 126)) = true) (hfu : ln < 60) : Met l yX5_append wsX5_append ({ frames := 1, cells := 0, slots := 0, locals := 22 }) (va_Pc [.ref m0, .int p0] (zM D cI cZ cL [(m0, .inr (4, [.ref m1, .ref m2, .int (nI kn), .ref m3, .ref m4, .ref m5, .int (nI ln), .int th, .long hs])), (m1, .inl (cI, 228, .inl gs)), (m2, .inl (cI, 684, .inl gp)), (m3, .inl (cI, 228, .inl gl)), (m4, .inl (cZ, 2, .inl gk)), (m5, .inl (cI, 60, .inl fx))] sz)) (zQmi D (nI (ln + 1)) [(m0, .inr (4, [.ref m1, .ref m2, .int (nI kn), .ref m3, .ref m4, .ref m5, .int (nI ln), .int th, .long hs])), (m1, .inl (cI, 228, .inl gs)), (m2, .inl (cI, 684, .inl gp)), (m3, .inl (cI, 228, .inl gl)), (m4, .inl (cZ, 2, .inl gk)), (m5, .inl (cI, 60, .inl fx))] [(m0, .inr (4, [.ref m1, .ref m2, .int (nI kn), .ref m3, .ref m4, .ref m5, .int (nI (ln + 1)), .int (nI 0), .long hs])), (m1, .inl (cI, 228, .inl gs)), (m2, .inl (cI, 684, .inl gp)), (m3, .inl (cI, 228, .inl gl)), (m4, .inl (cZ, 2, .inl gk)), (m5, .inl (cI, 60, .inl (upd fx ln p0)))] sz) 0 0 (va_A [(m0, .inr (4, [.ref m1, .ref m2, .int (nI kn), .ref m3, .ref m4, .ref m5, .int (nI ln), .int th, .long hs])), (m1, .inl (cI, 228, .inl gs)), (m2, .inl (cI, 684, .inl gp)), (m3, .inl (cI, 228, .inl gl)), (m4, .inl (cZ, 2, .inl gk)), (m5, .inl (cI, 60, .inl fx))] sz) := by
  refine Met.ofW (cc := cX5_append) (maxL := 2) (ret := (some .int)) (by decide) rfl ?_
  intro p e s m args below meth c s₁ B hml hv
  obtain ⟨rfl, hsz, ⟨hP, hK⟩, hD0⟩ := hv
  have hx := B.exec
  have hb := B.bytes
  have hr := B.returns
  have hts := atoms_spec (ws := wsX5_append) B.pre
  have hown : s.vm.findClass RX5 = some m.cls := findClass_of_methodNamed B.named
  have hlocks := B.notSynchronized
  subst hsz
  have hD := hD0.self (sz := s.heap.size)
  generalize hAe : va_A [(m0, .inr (4, [.ref m1, .ref m2, .int (nI kn), .ref m3, .ref m4, .ref m5, .int (nI ln), .int th, .long hs])), (m1, .inl (cI, 228, .inl gs)), (m2, .inl (cI, 684, .inl gp)), (m3, .inl (cI, 228, .inl gl)), (m4, .inl (cZ, 2, .inl gk)), (m5, .inl (cI, 60, .inl fx))] s.heap.size = A at hD ⊢
  have hA : ∀ q : Nat, s.heap.size ≤ q → A q := fun q h => by rw [← hAe]; exact Or.inr h
  have hS : va_S A s.heap s.heap [] := va_S.rf
  have in4 : ∀ w ∈ u_ws RX5 TX5 9, w ∈ wsX5_append := by decide +kernel
  have fl23 := hts (.fieldLink RX5 23 "TowerShadesModel" "text" "[I") (by decide +kernel)
  have fl85 := hts (.fieldLink RX5 85 "TowerShadesModel" "length" "I") (by decide +kernel)
  have hl := lv_entry ([.ref m0, .int p0]) (n := 2) (Nat.le_of_ble_eq_true rfl)
  rw [lg_entry_eq]
  generalize (lg_sl ([.ref m0, .int p0]) ++ List.replicate (2 - (lg_sl ([.ref m0, .int p0])).length) Slot.unset).toArray = ls at hl ⊢
  have hl : lv_has ls 2 [(0, .ref m0), (1, .int p0)] := hl
  refine lv_aload_n hx hb dX5_append_0 rfl (lv_at hl 0 rfl) ?_
  refine lv_iload_n hx hb dX5_append_1 rfl (lv_at hl 1 rfl) ?_
  refine lv_bipush (v := 33) hx hb dX5_append_2 (by decide) ?_
  refine lv_bipush (v := 126) hx hb dX5_append_4 (by decide) ?_
  refine z_ci (va_runS (As := [.int p0, .int 33, .int 126]) (rest := [.ref m0]) ⟨hx, hb, hml, hown, hts⟩ (c_X5_in l (v := p0) (lo := 33) (hg := 126)) (va_cwS 3 hts gX5_append_X5_in rfl rfl rfl (by decide +kernel) ⟨Nat.le_of_ble_eq_true rfl, Nat.le_of_ble_eq_true rfl⟩) z_preS rfl rfl hl.1 rfl (lv_room (Nat.le_of_ble_eq_true rfl)) dX5_append_6 ⟨Nat.le_of_ble_eq_true rfl, Nat.le_of_ble_eq_true rfl⟩) ?_
  refine z_top (y := 1) (by rw [hin0]; rfl) ?_
  refine z_if_ne (tgt := 16) (P := False) hx hb dX5_append_9 (by decide) (by decide) (fun c9 => ?_) (fun c9 => (show False from c9).elim)
  refine lv_aload_n hx hb dX5_append_16 rfl (lv_at hl 0 rfl) ?_
  refine va_get (D := D) (ci := 4) (v := .int (nI ln)) (C := RX5) (T := TX5) (N := 9) hx hb hts in4 hown hK hP 0 rfl rfl 6 (by decide) fl85 (fun _ h9 => h9) rfl dX5_append_17 ?_
  refine lv_bipush (v := 60) hx hb dX5_append_20 (by decide) ?_
  refine z_icmp_ne (tgt := 29) (P := ln = 60) hx hb dX5_append_22 (by decide) (nI_eq (a := ln) (b := 60) (by omega) (by omega)) (fun c22 => ?_) (fun c22 => (show False from by omega).elim)
  refine lv_iconst (v := 0) hx hb dX5_append_29 (by decide) ?_
  refine z_cmi (wr := []) (ws' := [(m0, .inr (4, [.ref m1, .ref m2, .int (nI kn), .ref m3, .ref m4, .ref m5, .int (nI ln), .int (nI 0), .long hs])), (m1, .inl (cI, 228, .inl gs)), (m2, .inl (cI, 684, .inl gp)), (m3, .inl (cI, 228, .inl gl)), (m4, .inl (cZ, 2, .inl gk)), (m5, .inl (cI, 60, .inl fx))]) (va_runV (As := [.int 0]) (rest := []) ⟨hx, hb, hml, hown, hts⟩ (c_X5_throwsAt l D cI cZ cL _ (m0 := m0) (m1 := m1) (m2 := m2) (m3 := m3) (m4 := m4) (m5 := m5) (gs := gs) (gp := gp) (gl := gl) (gk := gk) (fx := fx) (kn := kn) (ln := ln) (th := th) (hs := hs) (pc0 := 0) (hpc := by omega)) (cwV 1 hts gX5_append_X5_throwsAt rfl rfl rfl (by decide +kernel) ⟨Nat.le_of_ble_eq_true rfl, Nat.le_of_ble_eq_true rfl⟩) (z_preMV hK (hP.sub [0, 1, 2, 3, 4, 5] rfl) (hD.sub [0, 1, 2, 3, 4, 5] (by decide) rfl) 0 4 rfl rfl) rfl rfl hl.1 rfl (lv_room (Nat.le_of_ble_eq_true rfl)) dX5_append_30 ⟨Nat.le_of_ble_eq_true rfl, Nat.le_of_ble_eq_true rfl⟩) hP hD hS hA [0, 1, 2, 3, 4, 5] [] [0, 1, 2, 3, 4, 5] rfl rfl (by decide) (by decide) rfl rfl (by decide) (fun H locs hP hD hS => ?_)
  refine z_top (y := 0) (by decide) ?_
  refine z_if_eq (tgt := 38) (P := True) hx hb dX5_append_33 (by decide) (by decide) (fun c33 => ?_) (fun c33 => (show False from c33 trivial).elim)
  refine lv_aload_n hx hb dX5_append_38 rfl (lv_at hl 0 rfl) ?_
  refine va_get (D := D) (ci := 4) (v := .ref m5) (C := RX5) (T := TX5) (N := 9) hx hb hts in4 hown hK hP 0 rfl rfl 5 (by decide) fl23 (fun _ h9 => h9) rfl dX5_append_39 ?_
  refine lv_aload_n hx hb dX5_append_42 rfl (lv_at hl 0 rfl) ?_
  refine va_get (D := D) (ci := 4) (v := .int (nI ln)) (C := RX5) (T := TX5) (N := 9) hx hb hts in4 hown hK hP 0 rfl rfl 6 (by decide) fl85 (fun _ h9 => h9) rfl dX5_append_43 ?_
  refine lv_iload_n hx hb dX5_append_46 rfl (lv_at hl 1 rfl) ?_
  refine z_iast hx hb hK hP hD hS 5 0 rfl rfl (k := ln) (rfl) (by omega) (by decide) dX5_append_47 (g := upd fx ln p0) (rfl) (fun H locs hP hD hS => ?_)
  have hP : va_P D vwCl [(m0, .inr (4, [.ref m1, .ref m2, .int (nI kn), .ref m3, .ref m4, .ref m5, .int (nI ln), .int (nI 0), .long hs])), (m1, .inl (cI, 228, .inl gs)), (m2, .inl (cI, 684, .inl gp)), (m3, .inl (cI, 228, .inl gl)), (m4, .inl (cZ, 2, .inl gk)), (m5, .inl (cI, 60, .inl (upd fx ln p0)))] _ := hP
  have hD : va_D A [(m0, .inr (4, [.ref m1, .ref m2, .int (nI kn), .ref m3, .ref m4, .ref m5, .int (nI ln), .int (nI 0), .long hs])), (m1, .inl (cI, 228, .inl gs)), (m2, .inl (cI, 684, .inl gp)), (m3, .inl (cI, 228, .inl gl)), (m4, .inl (cZ, 2, .inl gk)), (m5, .inl (cI, 60, .inl (upd fx ln p0)))] := hD
  refine lv_aload_n hx hb dX5_append_48 rfl (lv_at hl 0 rfl) ?_
  refine lv_dup hx hb dX5_append_49 rfl ?_
  refine va_get (D := D) (ci := 4) (v := .int (nI ln)) (C := RX5) (T := TX5) (N := 9) hx hb hts in4 hown hK hP 0 rfl rfl 6 (by decide) fl85 (fun _ h9 => h9) rfl dX5_append_50 ?_
  refine lv_iconst (v := 1) hx hb dX5_append_53 (by decide) ?_
  refine z_iadd (v := nI (ln + 1)) hx hb dX5_append_54 (nI_add (ln) (1)) ?_
  refine va_put (D := D) (ci := 4) (v := .int (nI (ln + 1))) (ty := .int) (C := RX5) (T := TX5) (N := 9) hx hb hts in4 tyX5 tyX5_ok nmX5 hown hK hP hD hS 0 rfl rfl 6 (by decide) fl85 (fun _ h9 => h9) rfl (by decide +kernel) rfl rfl (Nat.le_of_ble_eq_true rfl) dX5_append_55 (fun H locs hP hD hS => ?_)
  have hP : va_P D vwCl [(m0, .inr (4, [.ref m1, .ref m2, .int (nI kn), .ref m3, .ref m4, .ref m5, .int (nI (ln + 1)), .int (nI 0), .long hs])), (m1, .inl (cI, 228, .inl gs)), (m2, .inl (cI, 684, .inl gp)), (m3, .inl (cI, 228, .inl gl)), (m4, .inl (cZ, 2, .inl gk)), (m5, .inl (cI, 60, .inl (upd fx ln p0)))] _ := hP
  have hD : va_D A [(m0, .inr (4, [.ref m1, .ref m2, .int (nI kn), .ref m3, .ref m4, .ref m5, .int (nI (ln + 1)), .int (nI 0), .long hs])), (m1, .inl (cI, 228, .inl gs)), (m2, .inl (cI, 684, .inl gp)), (m3, .inl (cI, 228, .inl gl)), (m4, .inl (cZ, 2, .inl gk)), (m5, .inl (cI, 60, .inl (upd fx ln p0)))] := hD
  refine lv_aload_n hx hb dX5_append_58 rfl (lv_at hl 0 rfl) ?_
  refine va_get (D := D) (ci := 4) (v := .int (nI (ln + 1))) (C := RX5) (T := TX5) (N := 9) hx hb hts in4 hown hK hP 0 rfl rfl 6 (by decide) fl85 (fun _ h9 => h9) rfl dX5_append_59 ?_
  have hP9 : va_P D vwCl [(m0, .inr (4, [.ref m1, .ref m2, .int (nI kn), .ref m3, .ref m4, .ref m5, .int (nI (ln + 1)), .int (nI 0), .long hs])), (m1, .inl (cI, 228, .inl gs)), (m2, .inl (cI, 684, .inl gp)), (m3, .inl (cI, 228, .inl gl)), (m4, .inl (cZ, 2, .inl gk)), (m5, .inl (cI, 60, .inl (upd fx ln p0)))] _ := hP
  have hD9 : va_D A [(m0, .inr (4, [.ref m1, .ref m2, .int (nI kn), .ref m3, .ref m4, .ref m5, .int (nI (ln + 1)), .int (nI 0), .long hs])), (m1, .inl (cI, 228, .inl gs)), (m2, .inl (cI, 684, .inl gp)), (m3, .inl (cI, 228, .inl gl)), (m4, .inl (cZ, 2, .inl gk)), (m5, .inl (cI, 60, .inl (upd fx ln p0)))] := hD
  subst hAe
  exact z_miret hx hb hr hlocks dX5_append_62 (rfl) hP9 hD9 hS

set_option maxHeartbeats 4000000 in
set_option maxRecDepth 100000 in
/-- clearBuffer -/
theorem c_X5_clearBuffer_ok (l : Launch) (D : va_G) (cI cZ cL : ClassId) (sz : Nat) (m0 : Nat) (m1 : Nat) (m2 : Nat) (m3 : Nat) (m4 : Nat) (m5 : Nat) (gs : Nat → Int32) (gp : Nat → Int32) (gl : Nat → Int32) (gk : Nat → Int32) (fx : Nat → Int32) (kn : Nat) (ln : Nat) (th : Int32) (hs : Int64) : Met l yX5_clearBuffer wsX5_clearBuffer ({ frames := 0, cells := 0, slots := 0, locals := 0 }) (va_Pc [.ref m0] (zM D cI cZ cL [(m0, .inr (4, [.ref m1, .ref m2, .int (nI kn), .ref m3, .ref m4, .ref m5, .int (nI ln), .int th, .long hs])), (m1, .inl (cI, 228, .inl gs)), (m2, .inl (cI, 684, .inl gp)), (m3, .inl (cI, 228, .inl gl)), (m4, .inl (cZ, 2, .inl gk)), (m5, .inl (cI, 60, .inl fx))] sz)) (zQmi D (nI ln) [(m0, .inr (4, [.ref m1, .ref m2, .int (nI kn), .ref m3, .ref m4, .ref m5, .int (nI ln), .int th, .long hs])), (m1, .inl (cI, 228, .inl gs)), (m2, .inl (cI, 684, .inl gp)), (m3, .inl (cI, 228, .inl gl)), (m4, .inl (cZ, 2, .inl gk)), (m5, .inl (cI, 60, .inl fx))] [(m0, .inr (4, [.ref m1, .ref m2, .int (nI kn), .ref m3, .ref m4, .ref m5, .int (nI 0), .int (nI 0), .long hs])), (m1, .inl (cI, 228, .inl gs)), (m2, .inl (cI, 684, .inl gp)), (m3, .inl (cI, 228, .inl gl)), (m4, .inl (cZ, 2, .inl gk)), (m5, .inl (cI, 60, .inl fx))] sz) 0 0 (va_A [(m0, .inr (4, [.ref m1, .ref m2, .int (nI kn), .ref m3, .ref m4, .ref m5, .int (nI ln), .int th, .long hs])), (m1, .inl (cI, 228, .inl gs)), (m2, .inl (cI, 684, .inl gp)), (m3, .inl (cI, 228, .inl gl)), (m4, .inl (cZ, 2, .inl gk)), (m5, .inl (cI, 60, .inl fx))] sz) := by
  refine Met.ofW (cc := cX5_clearBuffer) (maxL := 2) (ret := (some .int)) (by decide) rfl ?_
  intro p e s m args below meth c s₁ B hml hv
  obtain ⟨rfl, hsz, ⟨hP, hK⟩, hD0⟩ := hv
  have hx := B.exec
  have hb := B.bytes
  have hr := B.returns
  have hts := atoms_spec (ws := wsX5_clearBuffer) B.pre
  have hown : s.vm.findClass RX5 = some m.cls := findClass_of_methodNamed B.named
  have hlocks := B.notSynchronized
  subst hsz
  have hD := hD0.self (sz := s.heap.size)
  generalize hAe : va_A [(m0, .inr (4, [.ref m1, .ref m2, .int (nI kn), .ref m3, .ref m4, .ref m5, .int (nI ln), .int th, .long hs])), (m1, .inl (cI, 228, .inl gs)), (m2, .inl (cI, 684, .inl gp)), (m3, .inl (cI, 228, .inl gl)), (m4, .inl (cZ, 2, .inl gk)), (m5, .inl (cI, 60, .inl fx))] s.heap.size = A at hD ⊢
  have hA : ∀ q : Nat, s.heap.size ≤ q → A q := fun q h => by rw [← hAe]; exact Or.inr h
  have hS : va_S A s.heap s.heap [] := va_S.rf
  have in4 : ∀ w ∈ u_ws RX5 TX5 9, w ∈ wsX5_clearBuffer := by decide +kernel
  have fl26 := hts (.fieldLink RX5 26 "TowerShadesModel" "thrown" "I") (by decide +kernel)
  have fl85 := hts (.fieldLink RX5 85 "TowerShadesModel" "length" "I") (by decide +kernel)
  have hl := lv_entry ([.ref m0]) (n := 2) (Nat.le_of_ble_eq_true rfl)
  rw [lg_entry_eq]
  generalize (lg_sl ([.ref m0]) ++ List.replicate (2 - (lg_sl ([.ref m0])).length) Slot.unset).toArray = ls at hl ⊢
  have hl : lv_has ls 2 [(0, .ref m0)] := hl
  refine lv_aload_n hx hb dX5_clearBuffer_0 rfl (lv_at hl 0 rfl) ?_
  refine lv_iconst (v := 0) hx hb dX5_clearBuffer_1 (by decide) ?_
  refine va_put (D := D) (ci := 4) (v := .int 0) (ty := .int) (C := RX5) (T := TX5) (N := 9) hx hb hts in4 tyX5 tyX5_ok nmX5 hown hK hP hD hS 0 rfl rfl 7 (by decide) fl26 (fun _ h9 => h9) rfl (by decide +kernel) rfl rfl (Nat.le_of_ble_eq_true rfl) dX5_clearBuffer_2 (fun H locs hP hD hS => ?_)
  have hP : va_P D vwCl [(m0, .inr (4, [.ref m1, .ref m2, .int (nI kn), .ref m3, .ref m4, .ref m5, .int (nI ln), .int 0, .long hs])), (m1, .inl (cI, 228, .inl gs)), (m2, .inl (cI, 684, .inl gp)), (m3, .inl (cI, 228, .inl gl)), (m4, .inl (cZ, 2, .inl gk)), (m5, .inl (cI, 60, .inl fx))] _ := hP
  have hD : va_D A [(m0, .inr (4, [.ref m1, .ref m2, .int (nI kn), .ref m3, .ref m4, .ref m5, .int (nI ln), .int 0, .long hs])), (m1, .inl (cI, 228, .inl gs)), (m2, .inl (cI, 684, .inl gp)), (m3, .inl (cI, 228, .inl gl)), (m4, .inl (cZ, 2, .inl gk)), (m5, .inl (cI, 60, .inl fx))] := hD
  refine lv_aload_n hx hb dX5_clearBuffer_5 rfl (lv_at hl 0 rfl) ?_
  refine va_get (D := D) (ci := 4) (v := .int (nI ln)) (C := RX5) (T := TX5) (N := 9) hx hb hts in4 hown hK hP 0 rfl rfl 6 (by decide) fl85 (fun _ h9 => h9) rfl dX5_clearBuffer_6 ?_
  refine lv_istore_n (lv' := [(1, .int (nI ln)), (0, .ref m0)]) hx hb dX5_clearBuffer_9 rfl hl (by decide) rfl (fun ls hl => ?_)
  refine lv_aload_n hx hb dX5_clearBuffer_10 rfl (lv_at hl 1 rfl) ?_
  refine lv_iconst (v := 0) hx hb dX5_clearBuffer_11 (by decide) ?_
  refine va_put (D := D) (ci := 4) (v := .int 0) (ty := .int) (C := RX5) (T := TX5) (N := 9) hx hb hts in4 tyX5 tyX5_ok nmX5 hown hK hP hD hS 0 rfl rfl 6 (by decide) fl85 (fun _ h9 => h9) rfl (by decide +kernel) rfl rfl (Nat.le_of_ble_eq_true rfl) dX5_clearBuffer_12 (fun H locs hP hD hS => ?_)
  have hP : va_P D vwCl [(m0, .inr (4, [.ref m1, .ref m2, .int (nI kn), .ref m3, .ref m4, .ref m5, .int 0, .int 0, .long hs])), (m1, .inl (cI, 228, .inl gs)), (m2, .inl (cI, 684, .inl gp)), (m3, .inl (cI, 228, .inl gl)), (m4, .inl (cZ, 2, .inl gk)), (m5, .inl (cI, 60, .inl fx))] _ := hP
  have hD : va_D A [(m0, .inr (4, [.ref m1, .ref m2, .int (nI kn), .ref m3, .ref m4, .ref m5, .int 0, .int 0, .long hs])), (m1, .inl (cI, 228, .inl gs)), (m2, .inl (cI, 684, .inl gp)), (m3, .inl (cI, 228, .inl gl)), (m4, .inl (cZ, 2, .inl gk)), (m5, .inl (cI, 60, .inl fx))] := hD
  refine lv_iload_n hx hb dX5_clearBuffer_15 rfl (lv_at hl 0 rfl) ?_
  have hW9 : ([(m0, .inr (4, [.ref m1, .ref m2, .int (nI kn), .ref m3, .ref m4, .ref m5, .int 0, .int 0, .long hs])), (m1, .inl (cI, 228, .inl gs)), (m2, .inl (cI, 684, .inl gp)), (m3, .inl (cI, 228, .inl gl)), (m4, .inl (cZ, 2, .inl gk)), (m5, .inl (cI, 60, .inl fx))] : va_W) = [(m0, .inr (4, [.ref m1, .ref m2, .int (nI kn), .ref m3, .ref m4, .ref m5, .int (nI 0), .int (nI 0), .long hs])), (m1, .inl (cI, 228, .inl gs)), (m2, .inl (cI, 684, .inl gp)), (m3, .inl (cI, 228, .inl gl)), (m4, .inl (cZ, 2, .inl gk)), (m5, .inl (cI, 60, .inl fx))] := rfl
  rw [hW9] at hP hD
  have hP9 : va_P D vwCl [(m0, .inr (4, [.ref m1, .ref m2, .int (nI kn), .ref m3, .ref m4, .ref m5, .int (nI 0), .int (nI 0), .long hs])), (m1, .inl (cI, 228, .inl gs)), (m2, .inl (cI, 684, .inl gp)), (m3, .inl (cI, 228, .inl gl)), (m4, .inl (cZ, 2, .inl gk)), (m5, .inl (cI, 60, .inl fx))] _ := hP
  have hD9 : va_D A [(m0, .inr (4, [.ref m1, .ref m2, .int (nI kn), .ref m3, .ref m4, .ref m5, .int (nI 0), .int (nI 0), .long hs])), (m1, .inl (cI, 228, .inl gs)), (m2, .inl (cI, 684, .inl gp)), (m3, .inl (cI, 228, .inl gl)), (m4, .inl (cZ, 2, .inl gk)), (m5, .inl (cI, 60, .inl fx))] := hD
  subst hAe
  exact z_miret hx hb hr hlocks dX5_clearBuffer_16 (rfl) hP9 hD9 hS

set_option maxHeartbeats 4000000 in
set_option maxRecDepth 100000 in
/-- firstError -/
theorem c_X5_firstError_ok (l : Launch) (D : va_G) (cI cZ cL : ClassId) (sz : Nat) (m0 : Nat) (m1 : Nat) (m2 : Nat) (m3 : Nat) (m4 : Nat) (m5 : Nat) (gs : Nat → Int32) (gp : Nat → Int32) (gl : Nat → Int32) (gk : Nat → Int32) (fx : Nat → Int32) (kn : Nat) (ln : Nat) (th : Int32) (hs : Int64) (hln : ln ≤ 60) : Met l yX5_firstError wsX5_firstError ({ frames := 3, cells := 0, slots := 0, locals := 65 }) (va_Pc [.ref m0] (zM D cI cZ cL [(m0, .inr (4, [.ref m1, .ref m2, .int (nI kn), .ref m3, .ref m4, .ref m5, .int (nI ln), .int th, .long hs])), (m1, .inl (cI, 228, .inl gs)), (m2, .inl (cI, 684, .inl gp)), (m3, .inl (cI, 228, .inl gl)), (m4, .inl (cZ, 2, .inl gk)), (m5, .inl (cI, 60, .inl fx))] sz)) (zQmi D (nI (pEr fx ln)) [(m0, .inr (4, [.ref m1, .ref m2, .int (nI kn), .ref m3, .ref m4, .ref m5, .int (nI ln), .int th, .long hs])), (m1, .inl (cI, 228, .inl gs)), (m2, .inl (cI, 684, .inl gp)), (m3, .inl (cI, 228, .inl gl)), (m4, .inl (cZ, 2, .inl gk)), (m5, .inl (cI, 60, .inl fx))] [(m0, .inr (4, [.ref m1, .ref m2, .int (nI kn), .ref m3, .ref m4, .ref m5, .int (nI ln), .int (nI 0), .long hs])), (m1, .inl (cI, 228, .inl gs)), (m2, .inl (cI, 684, .inl gp)), (m3, .inl (cI, 228, .inl gl)), (m4, .inl (cZ, 2, .inl gk)), (m5, .inl (cI, 60, .inl fx))] sz) 0 0 (va_A [(m0, .inr (4, [.ref m1, .ref m2, .int (nI kn), .ref m3, .ref m4, .ref m5, .int (nI ln), .int th, .long hs])), (m1, .inl (cI, 228, .inl gs)), (m2, .inl (cI, 684, .inl gp)), (m3, .inl (cI, 228, .inl gl)), (m4, .inl (cZ, 2, .inl gk)), (m5, .inl (cI, 60, .inl fx))] sz) := by
  refine Met.ofW (cc := cX5_firstError) (maxL := 1) (ret := (some .int)) (by decide) rfl ?_
  intro p e s m args below meth c s₁ B hml hv
  obtain ⟨rfl, hsz, ⟨hP, hK⟩, hD0⟩ := hv
  have hx := B.exec
  have hb := B.bytes
  have hr := B.returns
  have hts := atoms_spec (ws := wsX5_firstError) B.pre
  have hown : s.vm.findClass RX5 = some m.cls := findClass_of_methodNamed B.named
  have hlocks := B.notSynchronized
  subst hsz
  have hD := hD0.self (sz := s.heap.size)
  generalize hAe : va_A [(m0, .inr (4, [.ref m1, .ref m2, .int (nI kn), .ref m3, .ref m4, .ref m5, .int (nI ln), .int th, .long hs])), (m1, .inl (cI, 228, .inl gs)), (m2, .inl (cI, 684, .inl gp)), (m3, .inl (cI, 228, .inl gl)), (m4, .inl (cZ, 2, .inl gk)), (m5, .inl (cI, 60, .inl fx))] s.heap.size = A at hD ⊢
  have hA : ∀ q : Nat, s.heap.size ≤ q → A q := fun q h => by rw [← hAe]; exact Or.inr h
  have hS : va_S A s.heap s.heap [] := va_S.rf
  have in4 : ∀ w ∈ u_ws RX5 TX5 9, w ∈ wsX5_firstError := by decide +kernel
  have fl26 := hts (.fieldLink RX5 26 "TowerShadesModel" "thrown" "I") (by decide +kernel)
  have hl := lv_entry ([.ref m0]) (n := 1) (Nat.le_of_ble_eq_true rfl)
  rw [lg_entry_eq]
  generalize (lg_sl ([.ref m0]) ++ List.replicate (1 - (lg_sl ([.ref m0])).length) Slot.unset).toArray = ls at hl ⊢
  have hl : lv_has ls 1 [(0, .ref m0)] := hl
  refine lv_aload_n hx hb dX5_firstError_0 rfl (lv_at hl 0 rfl) ?_
  refine lv_iconst (v := 0) hx hb dX5_firstError_1 (by decide) ?_
  refine va_put (D := D) (ci := 4) (v := .int 0) (ty := .int) (C := RX5) (T := TX5) (N := 9) hx hb hts in4 tyX5 tyX5_ok nmX5 hown hK hP hD hS 0 rfl rfl 7 (by decide) fl26 (fun _ h9 => h9) rfl (by decide +kernel) rfl rfl (Nat.le_of_ble_eq_true rfl) dX5_firstError_2 (fun H locs hP hD hS => ?_)
  have hP : va_P D vwCl [(m0, .inr (4, [.ref m1, .ref m2, .int (nI kn), .ref m3, .ref m4, .ref m5, .int (nI ln), .int 0, .long hs])), (m1, .inl (cI, 228, .inl gs)), (m2, .inl (cI, 684, .inl gp)), (m3, .inl (cI, 228, .inl gl)), (m4, .inl (cZ, 2, .inl gk)), (m5, .inl (cI, 60, .inl fx))] _ := hP
  have hD : va_D A [(m0, .inr (4, [.ref m1, .ref m2, .int (nI kn), .ref m3, .ref m4, .ref m5, .int (nI ln), .int 0, .long hs])), (m1, .inl (cI, 228, .inl gs)), (m2, .inl (cI, 684, .inl gp)), (m3, .inl (cI, 228, .inl gl)), (m4, .inl (cZ, 2, .inl gk)), (m5, .inl (cI, 60, .inl fx))] := hD
  refine lv_aload_n hx hb dX5_firstError_5 rfl (lv_at hl 0 rfl) ?_
  refine z_ci (va_runV (As := []) (rest := []) ⟨hx, hb, hml, hown, hts⟩ (c_X5_errorAt l D cI cZ cL (m0 := m0) (m1 := m1) (m2 := m2) (m3 := m3) (m4 := m4) (m5 := m5) (gs := gs) (gp := gp) (gl := gl) (gk := gk) (fx := fx) (kn := kn) (ln := ln) (th := 0) (hs := hs) (hln := by omega)) (cwV 0 hts gX5_firstError_X5_errorAt rfl rfl rfl (by decide +kernel) ⟨Nat.le_of_ble_eq_true rfl, Nat.le_of_ble_eq_true rfl⟩) (z_preV hK (hP.sub [0, 1, 2, 3, 4, 5] rfl) 0 4 rfl rfl) rfl rfl hl.1 rfl (lv_room (Nat.le_of_ble_eq_true rfl)) dX5_firstError_6 ⟨Nat.le_of_ble_eq_true rfl, Nat.le_of_ble_eq_true rfl⟩) ?_
  have hW9 : ([(m0, .inr (4, [.ref m1, .ref m2, .int (nI kn), .ref m3, .ref m4, .ref m5, .int (nI ln), .int 0, .long hs])), (m1, .inl (cI, 228, .inl gs)), (m2, .inl (cI, 684, .inl gp)), (m3, .inl (cI, 228, .inl gl)), (m4, .inl (cZ, 2, .inl gk)), (m5, .inl (cI, 60, .inl fx))] : va_W) = [(m0, .inr (4, [.ref m1, .ref m2, .int (nI kn), .ref m3, .ref m4, .ref m5, .int (nI ln), .int (nI 0), .long hs])), (m1, .inl (cI, 228, .inl gs)), (m2, .inl (cI, 684, .inl gp)), (m3, .inl (cI, 228, .inl gl)), (m4, .inl (cZ, 2, .inl gk)), (m5, .inl (cI, 60, .inl fx))] := rfl
  rw [hW9] at hP hD
  have hP9 : va_P D vwCl [(m0, .inr (4, [.ref m1, .ref m2, .int (nI kn), .ref m3, .ref m4, .ref m5, .int (nI ln), .int (nI 0), .long hs])), (m1, .inl (cI, 228, .inl gs)), (m2, .inl (cI, 684, .inl gp)), (m3, .inl (cI, 228, .inl gl)), (m4, .inl (cZ, 2, .inl gk)), (m5, .inl (cI, 60, .inl fx))] _ := hP
  have hD9 : va_D A [(m0, .inr (4, [.ref m1, .ref m2, .int (nI kn), .ref m3, .ref m4, .ref m5, .int (nI ln), .int (nI 0), .long hs])), (m1, .inl (cI, 228, .inl gs)), (m2, .inl (cI, 684, .inl gp)), (m3, .inl (cI, 228, .inl gl)), (m4, .inl (cZ, 2, .inl gk)), (m5, .inl (cI, 60, .inl fx))] := hD
  subst hAe
  exact z_miret hx hb hr hlocks dX5_firstError_9 (rfl) hP9 hD9 hS
