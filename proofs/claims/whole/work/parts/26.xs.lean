/-! what the class's refusals ask of the tables and of the heap -/
def xTx : List (Nat × String) := [(44, "no such square"), (79, "crowd is not 0 to 9"), (85, "hour is not 0 to 11"), (90, "code is not 33 to 126"), (98, "the buffer is full"), (115, "the buffer tells no field"), (126, "slot is not 0 or 1"), (132, "no snapshot in the slot"), (140, "no saved state"), (165, "what is not 0 to 7"), (167, "no such player"), (184, "what is not 0 to 5"), (203, "what is not 0 to 9")]
abbrev xOOB : String := "java/lang/IndexOutOfBoundsException"
abbrev xIAE : String := "java/lang/IllegalArgumentException"
abbrev xISE : String := "java/lang/IllegalStateException"
abbrev xNm : List String := ["java/lang/RuntimeException", "java/lang/Exception"]
def xDe : List String := ["java/lang/RuntimeException", "java/lang/Exception", "java/lang/Throwable"]
def xNs (U : State) : Prop := (∀ X ∈ [xOOB, xIAE, xISE], va_Nw (.castable X X) U) ∧ (∀ Y ∈ xDe, va_Nw (.declares (Bundle.initS Y)) U) ∧ ∀ q ∈ xTx, ∃ sa, vk_R RX4 q.1 q.2 sa U
theorem xNs.warm {s U : State} (hW : s.WarmedH U.vm) (h : xNs s) : xNs U := ⟨fun X hX => va_Nw.warmC hW (h.1 X hX), fun Y hY => va_Nw.warmD hW (h.2.1 Y hY), fun q hq => (h.2.2 q hq).elim fun sa hs => ⟨sa, vk_R.warm hW hs⟩⟩
theorem xNs.same {u U : State} (hvm : u.vm = U.vm) (h : xNs u) : xNs U := ⟨fun X hX => va_Nw.same rfl hvm (h.1 X hX), fun Y hY => va_Nw.same rfl hvm (h.2.1 Y hY), fun q hq => (h.2.2 q hq).elim fun sa hs => ⟨sa, vk_R.same hvm.symm hs⟩⟩
def xHs (A : Nat → Prop) (U : State) (H : Heap) : Prop := vx_Zq Bundle.tN "UNASSIGNED_STACK" Bundle.steD A U H ∧ vx_Zq Bundle.tN "SUPPRESSED_SENTINEL" Bundle.listD A U H
theorem xHs.moved {A : Nat → Prop} {u U : State} {H : Heap} (hvm : u.vm.Alike U.vm) (h : xHs A u H) : xHs A U H := ⟨h.1.moved hvm, h.2.moved hvm⟩
theorem xHs.kept {A : Nat → Prop} {U : State} {H H1 : Heap} (h : xHs A U H) (hq : ∀ a : Nat, a < H.size → ¬ A a → H1[a]? = H[a]?) : xHs A U H1 := ⟨h.1.kept hq, h.2.kept hq⟩
theorem xHs.narrow {A B : Nat → Prop} {U : State} {H : Heap} (h : xHs A U H) (hAB : ∀ q, B q → A q) : xHs B U H := ⟨h.1.narrow hAB, h.2.narrow hAB⟩
def zWx (D : va_G) (cI cZ cL : ClassId) (ws : va_W) (U : State) : Prop := zWn D cI cZ cL ws U ∧ xNs U ∧ xHs (fun _ => False) U U.heap
def xXC (E0 : String) : String → State → State → Prop := vx_X (S := Unit) (fun _ => True) (fun E _ _ => E = E0) (fun _ => False)
theorem zWx_blind {D : va_G} {cI cZ cL : ClassId} {ws : va_W} {av : List Value} : FrameBlind (va_Pc av (zWx D cI cZ cL ws)) := fun a U g mk q => ⟨q.1, ⟨⟨q.2.1.1.1, va_K.moved (u := U) (U := U.calling g mk a) (Vm.Alike.refl U.vm) q.2.1.1.2⟩, q.2.1.2.same (U := U.calling g mk a) rfl⟩, q.2.2.1.same (U := U.calling g mk a) rfl, q.2.2.2.moved (U := U.calling g mk a) (Vm.Alike.refl U.vm)⟩
theorem z_preVx {s : State} {H : Heap} {D : va_G} {cI cZ cL : ClassId} {wc : va_W} {b : Nat} {C : String} {T : u_T} {N : Nat} {fs As : List Value} (hN : zNs s) (hX : xNs s) (hH : xHs (fun _ => False) s H) (hK : va_K D vwCl (zTy cI cZ cL) s) (hP : va_P D vwCl wc H) (q0 ci : Nat) (hc : vwCl[ci]? = some (C, T, N)) (he : wc[q0]? = some (b, .inr (ci, fs))) : PreV s H C b (va_Pc (.ref b :: As) (zWx D cI cZ cL wc)) As :=
  ⟨zWx_blind, va_recv hK hP hc he, fun U hU hW => ⟨rfl, ⟨⟨by rw [hU]; exact hP, va_K.moved hW.alike hK⟩, hN.warm hW⟩, hX.warm hW, by rw [hU]; exact hH.moved hW.alike⟩⟩
def xB (X : String) : List Cond := [.castable X X, .declares (Bundle.initS "java/lang/RuntimeException"), .declares (Bundle.initS "java/lang/Exception"), .declares (Bundle.initS "java/lang/Throwable")]
theorem xNs.use {s : State} {args : Array Value} (h : xNs s) {X : String} (hX : X ∈ [xOOB, xIAE, xISE]) : ∀ w ∈ xB X, w.before args s = true :=
  vx_c (va_Nw.use rfl (h.1 X hX)) (vx_c (va_Nw.use rfl (h.2.1 _ (by decide))) (vx_c (va_Nw.use rfl (h.2.1 _ (by decide))) (vx_c (va_Nw.use rfl (h.2.1 _ (by decide))) vx_n)))
theorem x_all {L : List Cond} {f : Cond → Bool} (h : L.all f = true) : ∀ w ∈ L, f w = true := fun w hw => List.all_eq_true.mp h w hw
theorem x_memB {L B : List Cond} (h : L.all (fun w => decide (w ∈ B)) = true) : ∀ w ∈ L, w ∈ B := fun w hw => of_decide_eq_true (List.all_eq_true.mp h w hw)
theorem x_g46 : ∀ w ∈ Cond.classLink RX4 42 xOOB :: Cond.initialized xOOB :: vx_atS RX4 46 xOOB xNm, vx_ot w = true := x_all (by decide +kernel)
theorem x_g81 : ∀ w ∈ Cond.classLink RX4 77 xIAE :: Cond.initialized xIAE :: vx_atS RX4 81 xIAE xNm, vx_ot w = true := x_all (by decide +kernel)
theorem x_g100 : ∀ w ∈ Cond.classLink RX4 96 xISE :: Cond.initialized xISE :: vx_atS RX4 100 xISE xNm, vx_ot w = true := x_all (by decide +kernel)
theorem x_b46 : ∀ w ∈ (vx_atS RX4 46 xOOB xNm).filter (fun w => !goodWord w), w ∈ xB xOOB := x_memB (by decide +kernel)
theorem x_b81 : ∀ w ∈ (vx_atS RX4 81 xIAE xNm).filter (fun w => !goodWord w), w ∈ xB xIAE := x_memB (by decide +kernel)
theorem x_b100 : ∀ w ∈ (vx_atS RX4 100 xISE xNm).filter (fun w => !goodWord w), w ∈ xB xISE := x_memB (by decide +kernel)
theorem x_hx {E0 : String} {H : Heap} {s : State} (hH : s.heap = H) : ∀ t : State, s.vm.Alike t.vm → H.size ≤ t.heap.size → (∀ q : Nat, q < H.size → t.heap[q]? = H[q]?) → xXC E0 E0 s t := fun _ _ h1 h2 => ⟨(), trivial, rfl, by rw [hH]; exact h1, fun q hq _ => by rw [hH] at hq ⊢; exact h2 q hq⟩
theorem x_cov {c : Code} {n : Nat} (h : ∀ x ∈ c.exceptionTable.toList, False) : ∀ x ∈ c.exceptionTable.toList, covers x n = false := fun x hx => (h x hx).elim
