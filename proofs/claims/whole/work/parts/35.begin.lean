/-! the law's entry: both sides are made; then the loop -/
theorem lo_mem {L B : List Cond} (h : L.all (fun w => decide (w ∈ B)) = true) : ∀ w ∈ L, w ∈ B := fun w hw => of_decide_eq_true (List.all_eq_true.mp h w hw)
theorem lo_m1 : ∀ w ∈ zNf.map (fun q => Cond.fieldLinkNest RX4 q.1 q.2.1 q.2.2.1 q.2.2.2 RX4), w ∈ lw_tbl := lo_mem (by decide +kernel)
theorem lo_m2 : ∀ w ∈ [Cond.methodLinkNest RX4 18 yX1_init RX4, Cond.methodLinkNest RX4 25 yX2_init RX4], w ∈ lw_tbl := lo_mem (by decide +kernel)
theorem lo_m3 : ∀ w ∈ [xOOB, xIAE, xISE].map (fun X => Cond.castable X X), w ∈ lw_tbl := lo_mem (by decide +kernel)
theorem lo_m4 : ∀ w ∈ xDe.map (fun Y => Cond.declares (Bundle.initS Y)), w ∈ lw_tbl := lo_mem (by decide +kernel)
theorem lo_m5 : ∀ w ∈ xTx.map (fun q => Cond.stringRef RX4 q.1 q.2), w ∈ lw_tbl := lo_mem (by decide +kernel)
theorem lo_m6 : ∀ w ∈ [Cond.laysStatic Bundle.tN "UNASSIGNED_STACK" Bundle.steD, Cond.laysStatic Bundle.tN "SUPPRESSED_SENTINEL" Bundle.listD, Cond.initialized Bundle.tN], w ∈ lw_tbl := lo_mem (by decide +kernel)
theorem lo_m7 : ∀ w ∈ [Cond.isRef (.static Bundle.tN "UNASSIGNED_STACK" Bundle.steD), Cond.isRef (.static Bundle.tN "SUPPRESSED_SENTINEL" Bundle.listD), Cond.not (.castable xIAE xOOB), Cond.not (.castable xISE xIAE)], w ∈ flatC (Jvm.Cond.and given_1 narrow_1) := lo_mem (by decide +kernel)
theorem lo_str {args : Array Value} {s : State} {i : Nat} {tx : String} (h : (Cond.stringRef RX4 i tx).before args s = true) : ∃ sa, vk_R RX4 i tx sa s := by
  have hcur : ∃ cur, s.vm.findClass RX4 = some cur := by
    have h1 := h
    simp only [Cond.before, Cond.holds, Cond.value] at h1
    cases hc : s.vm.findClass RX4 with
    | none => simp [hc] at h1
    | some cur => exact ⟨cur, rfl⟩
  obtain ⟨cur, hcur⟩ := hcur
  obtain ⟨-, -, -, sa, -, -, -, -, -, hev⟩ := Cond.stringRef_spec hcur h
  exact ⟨sa, vk_R.of h hev⟩
theorem lo_zN {args : Array Value} {s : State} (hts : ∀ w ∈ lw_tbl, w.before args s = true) : zNs s :=
  ⟨fun q hq => va_Nw.of rfl (hts _ (lo_m1 _ (List.mem_map.mpr ⟨q, hq, rfl⟩))), va_Nw.of rfl (hts _ (lo_m2 _ (by simp))), va_Nw.of rfl (hts _ (lo_m2 _ (by simp)))⟩
theorem lo_xN {args : Array Value} {s : State} (hts : ∀ w ∈ lw_tbl, w.before args s = true) : xNs s :=
  ⟨fun X hX => va_Nw.of rfl (hts _ (lo_m3 _ (List.mem_map.mpr ⟨X, hX, rfl⟩))), fun Y hY => va_Nw.of rfl (hts _ (lo_m4 _ (List.mem_map.mpr ⟨Y, hY, rfl⟩))), fun q hq => lo_str (hts _ (lo_m5 _ (List.mem_map.mpr ⟨q, hq, rfl⟩)))⟩
theorem lo_xH {args : Array Value} {s : State} (hts : ∀ w ∈ lw_tbl, w.before args s = true) (hgv : (Jvm.Cond.and given_1 narrow_1).before args s = true) : xHs (fun q => s.heap.size ≤ q) s s.heap :=
  ⟨vx_Zqof (hts _ (lo_m6 _ (by simp))) (hts _ (lo_m6 _ (by simp))) (flat_of_before _ hgv _ (lo_m7 _ (by simp))) (fun a h => Nat.not_le.mpr h), vx_Zqof (hts _ (lo_m6 _ (by simp))) (hts _ (lo_m6 _ (by simp))) (flat_of_before _ hgv _ (lo_m7 _ (by simp))) (fun a h => Nat.not_le.mpr h)⟩
theorem lo_xC {args : Array Value} {s : State} (hgv : (Jvm.Cond.and given_1 narrow_1).before args s = true) : xNc s := by
  intro q hq
  rcases List.mem_cons.mp hq with rfl | hq
  · exact va_Nc.of (flat_of_before _ hgv _ (lo_m7 _ (by simp)))
  · rcases List.mem_cons.mp hq with rfl | hq
    · exact va_Nc.of (flat_of_before _ hgv _ (lo_m7 _ (by simp)))
    · cases hq
theorem lo_K {args : Array Value} {s : State} (hts : ∀ w ∈ lw_tbl, w.before args s = true) : ∃ (D : va_G) (cI cZ cL : ClassId), va_K D vwCl (zTy cI cZ cL) s := by
  obtain ⟨cI, cZ, cL, hT⟩ := z_tyK (hts (.arrayClass .int) (by decide +kernel)) (hts (.arrayClass .boolean) (by decide +kernel)) (hts (.arrayClass .long) (by decide +kernel))
  obtain ⟨k0, i0, h0⟩ := u_known (C := RX0) (T := TX0) (N := 8) (n := 8) hts inX0 (hts (.instantiable RX0 8) (by decide +kernel))
  obtain ⟨k1, i1, h1⟩ := u_known (C := RX1) (T := TX1) (N := 2) (n := 2) hts inX1 (hts (.instantiable RX1 2) (by decide +kernel))
  obtain ⟨k2, i2, h2⟩ := u_known (C := RX2) (T := TX2) (N := 3) (n := 3) hts inX2 (hts (.instantiable RX2 3) (by decide +kernel))
  obtain ⟨k4, i4, h4⟩ := u_known (C := RX4) (T := TX4) (N := 5) (n := 5) hts inX4 (hts (.instantiable RX4 5) (by decide +kernel))
  obtain ⟨k5, i5, h5⟩ := u_known (C := RX5) (T := TX5) (N := 9) (n := 9) hts inX5 (hts (.instantiable RX5 9) (by decide +kernel))
  refine ⟨(fun k => if k = 0 then k0 else if k = 1 then k1 else if k = 2 then k2 else if k = 3 then k4 else k5, fun k => if k = 0 then i0 else if k = 1 then i1 else if k = 2 then i2 else if k = 3 then i4 else i5), cI, cZ, cL, ?_, hT⟩
  intro k q hq
  match k, hq with
  | 0, hq => cases hq; exact h0
  | 1, hq => cases hq; exact h1
  | 2, hq => cases hq; exact h2
  | 3, hq => cases hq; exact h4
  | 4, hq => cases hq; exact h5
  | k + 5, hq => simp [vwCl] at hq
