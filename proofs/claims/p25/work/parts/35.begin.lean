/-! the law's entry: what the machine gives -/
theorem lo_mem {L B : List Cond} (h : L.all (fun w => decide (w ∈ B)) = true) : ∀ w ∈ L, w ∈ B := fun w hw => of_decide_eq_true (List.all_eq_true.mp h w hw)
theorem lo_m1 : ∀ w ∈ zNf.map (fun q => Cond.fieldLinkNest RX4 q.1 q.2.1 q.2.2.1 q.2.2.2 RX4), w ∈ lw_tbl := lo_mem (by decide +kernel)
theorem lo_m2 : ∀ w ∈ [Cond.methodLinkNest RX4 18 yX1_init RX4, Cond.methodLinkNest RX4 25 yX2_init RX4], w ∈ lw_tbl := lo_mem (by decide +kernel)
theorem lo_zN {args : Array Value} {s : State} (hts : ∀ w ∈ lw_tbl, w.before args s = true) : zNs s :=
  ⟨fun q hq => va_Nw.of rfl (hts _ (lo_m1 _ (List.mem_map.mpr ⟨q, hq, rfl⟩))), va_Nw.of rfl (hts _ (lo_m2 _ (by simp))), va_Nw.of rfl (hts _ (lo_m2 _ (by simp)))⟩
theorem lo_K {args : Array Value} {s : State} (hts : ∀ w ∈ lw_tbl, w.before args s = true) : ∃ (D : va_G) (cI cZ cL : ClassId), va_K D vwCl (zTy cI cZ cL) s := by
  obtain ⟨cI, cZ, cL, hT⟩ := z_tyK (hts (.arrayClass .int) (by decide +kernel)) (hts (.arrayClass .boolean) (by decide +kernel))
  obtain ⟨k0, i0, h0⟩ := u_known (C := RX0) (T := TX0) (N := 8) (n := 8) hts inX0 (hts (.instantiable RX0 8) (by decide +kernel))
  obtain ⟨k1, i1, h1⟩ := u_known (C := RX1) (T := TX1) (N := 2) (n := 2) hts inX1 (hts (.instantiable RX1 2) (by decide +kernel))
  obtain ⟨k2, i2, h2⟩ := u_known (C := RX2) (T := TX2) (N := 3) (n := 3) hts inX2 (hts (.instantiable RX2 3) (by decide +kernel))
  obtain ⟨k4, i4, h4⟩ := u_known (C := RX4) (T := TX4) (N := 5) (n := 5) hts inX4 (hts (.instantiable RX4 5) (by decide +kernel))
  refine ⟨(fun k => if k = 0 then k0 else if k = 1 then k1 else if k = 2 then k2 else k4, fun k => if k = 0 then i0 else if k = 1 then i1 else if k = 2 then i2 else i4), cI, cZ, cL, ?_, hT⟩
  intro k q hq
  match k, hq with
  | 0, hq => cases hq; exact h0
  | 1, hq => cases hq; exact h1
  | 2, hq => cases hq; exact h2
  | 3, hq => cases hq; exact h4
  | k + 4, hq => simp [vwCl] at hq
