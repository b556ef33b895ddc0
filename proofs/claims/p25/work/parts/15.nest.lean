/-! the class's outer methods reach private members of their nest mates; pure words of the class's writing methods -/
def zNf : List (Nat × String × String × String) := [(105, RX1, "length", "I"), (137, RX2, "size", "I"), (145, RX0, "owners", "[I"), (169, RX0, "scores", "[I"), (194, RX0, "turns", "I"), (57, RX0, "refused", "I"), (61, RX0, "mover", "I"), (64, RX0, "heights", "[I"), (82, RX0, "crowds", "[I"), (87, RX0, "hourNow", "I")]
def zNs (U : State) : Prop := (∀ q ∈ zNf, va_Nw (.fieldLinkNest RX4 q.1 q.2.1 q.2.2.1 q.2.2.2 RX4) U) ∧ va_Nw (.methodLinkNest RX4 18 yX1_init RX4) U ∧ va_Nw (.methodLinkNest RX4 25 yX2_init RX4) U
theorem zNs.warm {s U : State} (hW : s.WarmedH U.vm) (h : zNs s) : zNs U := ⟨fun q hq => va_Nw.warmF hW (h.1 q hq), va_Nw.warmM hW h.2.1, va_Nw.warmM hW h.2.2⟩
theorem zNs.same {u U : State} (hvm : u.vm = U.vm) (h : zNs u) : zNs U := ⟨fun q hq => va_Nw.same rfl hvm (h.1 q hq), va_Nw.same rfl hvm h.2.1, va_Nw.same rfl hvm h.2.2⟩
theorem zNs.get {s : State} {args : Array Value} (h : zNs s) {i : Nat} {r n d : String} (hq : (i, r, n, d) ∈ zNf) : (Cond.fieldLinkNest RX4 i r n d RX4).before args s = true := va_Nw.use rfl (h.1 (i, r, n, d) hq)
def zWn (D : va_G) (cI cZ cL : ClassId) (ws : va_W) (U : State) : Prop := (va_P D vwCl ws U.heap ∧ va_K D vwCl (zTy cI cZ cL) U) ∧ zNs U
def zMn (D : va_G) (cI cZ cL : ClassId) (ws : va_W) (sz : Nat) (U : State) : Prop := U.heap.size = sz ∧ zWn D cI cZ cL ws U ∧ va_D (fun _ => True) ws
theorem zWn_blind {D : va_G} {cI cZ cL : ClassId} {ws : va_W} {av : List Value} : FrameBlind (va_Pc av (zWn D cI cZ cL ws)) := fun a U g mk q => ⟨q.1, ⟨q.2.1.1, va_K.moved (u := U) (U := U.calling g mk a) (Vm.Alike.refl U.vm) q.2.1.2⟩, q.2.2.same (U := U.calling g mk a) rfl⟩
theorem zMn_blind {D : va_G} {cI cZ cL : ClassId} {ws : va_W} {sz : Nat} {av : List Value} : FrameBlind (va_Pc av (zMn D cI cZ cL ws sz)) := fun a U g mk q => ⟨q.1, q.2.1, ⟨⟨q.2.2.1.1.1, va_K.moved (u := U) (U := U.calling g mk a) (Vm.Alike.refl U.vm) q.2.2.1.1.2⟩, q.2.2.1.2.same (U := U.calling g mk a) rfl⟩, q.2.2.2⟩
theorem z_preVn {s : State} {H : Heap} {D : va_G} {cI cZ cL : ClassId} {wc : va_W} {b : Nat} {C : String} {T : u_T} {N : Nat} {fs As : List Value} (hN : zNs s) (hK : va_K D vwCl (zTy cI cZ cL) s) (hP : va_P D vwCl wc H) (q0 ci : Nat) (hc : vwCl[ci]? = some (C, T, N)) (he : wc[q0]? = some (b, .inr (ci, fs))) : PreV s H C b (va_Pc (.ref b :: As) (zWn D cI cZ cL wc)) As :=
  ⟨zWn_blind, va_recv hK hP hc he, fun U hU hW => ⟨rfl, ⟨by rw [hU]; exact hP, va_K.moved hW.alike hK⟩, hN.warm hW⟩⟩
theorem z_preMVn {s : State} {H : Heap} {D : va_G} {cI cZ cL : ClassId} {wc : va_W} {b : Nat} {C : String} {T : u_T} {N : Nat} {fs As : List Value} {A : Nat → Prop} (hN : zNs s) (hK : va_K D vwCl (zTy cI cZ cL) s) (hP : va_P D vwCl wc H) (hD : va_D A wc) (q0 ci : Nat) (hc : vwCl[ci]? = some (C, T, N)) (he : wc[q0]? = some (b, .inr (ci, fs))) : PreV s H C b (va_Pc (.ref b :: As) (zMn D cI cZ cL wc H.size)) As :=
  ⟨zMn_blind, va_recv hK hP hc he, fun U hU hW => ⟨rfl, by rw [hU], ⟨⟨by rw [hU]; exact hP, va_K.moved hW.alike hK⟩, hN.warm hW⟩, hD.weaken (fun _ _ _ _ => trivial)⟩⟩
/-- a state of the class as one row of 114 numbers -/
def cG (fh fo fc fs : Nat → Int32) (hz mv : Nat) (tu rf : Int32) (k : Nat) : Int32 :=
  if k < 36 then fh k else if k < 72 then fo (k - 36) else if k < 108 then fc (k - 72) else if k < 110 then fs (k - 108) else if k < 111 then nI hz else if k < 112 then nI mv else if k < 113 then tu else rf
theorem cG_wr (fn fh fo fc fs : Nat → Int32) (hz mv : Nat) (tu rf : Int32) (t : Nat) :
    upd (upd (upd (upd (va_cpy fs (va_cpy fc (va_cpy fo (va_cpy fh fn 0 t 36) 0 (t + 36) 36) 0 (t + 72) 36) 0 (t + 108) 2) (t + 108 + 2) (nI hz)) (t + 108 + 2 + 1) (nI mv)) (t + 108 + 2 + 2) tu) (t + 108 + 2 + 3) rf = va_cpy (cG fh fo fc fs hz mv tu rf) fn 0 t 114 := by
  funext j
  rcases (show j < t ∨ t + 114 ≤ j ∨ (t ≤ j ∧ j < t + 36) ∨ (t + 36 ≤ j ∧ j < t + 72) ∨ (t + 72 ≤ j ∧ j < t + 108) ∨ (t + 108 ≤ j ∧ j < t + 110) ∨ j = t + 110 ∨ j = t + 111 ∨ j = t + 112 ∨ j = t + 113 by omega) with h | h | h | h | h | h | h | h | h | h
  all_goals
    simp only [upd, va_cpy, cG]
    repeat (first | rw [if_pos (by omega)] | rw [if_neg (by omega)])
    try (congr 1; omega)
theorem upd_back (f : Nat → Int32) (k : Nat) (x : Int32) : upd (upd f k x) k (f k) = f := by
  funext j; simp only [upd]
  by_cases h : j = k
  · rw [if_pos h, h]
  · rw [if_neg h, if_neg h]
def pEs (fs v : Nat → Int32) : Nat → Nat → Int32
  | 0 => fs
  | n + 1 => upd (pEs fs v n) n (pEs fs v n n + v n)
def cWo (fo fh fc : Nat → Int32) (hz mv q : Nat) : Int32 := if pRe fo fh hz mv q = 0 then pPy (upd fo q (nI mv)) (upd fh q (fh q + 1)) fc hz mv - pPy (upd fo q (nI mv)) (upd fh q (fh q + 1)) fc hz (1 - mv) else -999
def pRo (od n : Nat) : Nat := if n < 6 then od else (od + 1) % 6
def pRz (n : Nat) : Nat := if n < 6 then n + 1 else n
theorem sq36 (v : Int32) : (36 : Int32) ≤ v ↔ ¬ v ≤ 35 := by
  rw [Int32.le_iff_toInt_le, Int32.le_iff_toInt_le]
  have e1 : (36 : Int32).toInt = 36 := by decide
  have e2 : (35 : Int32).toInt = 35 := by decide
  rw [e1, e2]; omega
theorem hr12 (v : Int32) : v < 12 ↔ v ≤ 11 := by
  rw [Int32.lt_iff_toInt_lt, Int32.le_iff_toInt_le]
  have e1 : (12 : Int32).toInt = 12 := by decide
  have e2 : (11 : Int32).toInt = 11 := by decide
  rw [e1, e2]; omega
theorem sl2 (v : Int32) : v < 2 ↔ v ≤ 1 := by
  rw [Int32.lt_iff_toInt_lt, Int32.le_iff_toInt_le]
  have e1 : (2 : Int32).toInt = 2 := by decide
  have e2 : (1 : Int32).toInt = 1 := by decide
  rw [e1, e2]; omega
theorem pRe_le (fo fh : Nat → Int32) (hz mv q : Nat) : pRe fo fh hz mv q ≤ 3 := by unfold pRe; repeat (first | split | omega)
/-- an entry put onto the class's rows -/
def cEo (fo fx : Nat → Int32) (e : Nat) : Nat → Int32 := if fx (e * 5 + 2) = 61 then fo else upd fo (pSqN fx e) (if fx (e * 5 + 2) = 43 then 0 else 1)
def cEh (fh fx : Nat → Int32) (e : Nat) : Nat → Int32 := if fx (e * 5 + 2) = 61 then fh else upd fh (pSqN fx e) (pNm fx e)
def cEc (fc fx : Nat → Int32) (e : Nat) : Nat → Int32 := if fx (e * 5 + 2) = 61 then upd fc (pSqN fx e) (pNm fx e) else fc
def cLo (f : (Nat → Int32) → (Nat → Int32) → Nat → Nat → Int32) (g fx : Nat → Int32) : Nat → Nat → Int32
  | 0 => g
  | e + 1 => f (cLo f g fx e) fx e
