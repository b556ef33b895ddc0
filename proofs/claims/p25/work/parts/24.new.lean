/-! new arrays of known classes; constructors -/
theorem z_tyK {args : Array Value} {s : State} (hI : (Cond.arrayClass .int).before args s = true) (hZ : (Cond.arrayClass .boolean).before args s = true) : ∃ cI cZ cL : ClassId, ∀ (k : Nat) (q : ClassId × FieldType), (zTy cI cZ cL)[k]? = some q → ArrOfT s q.1 q.2 ∧ va_RA s q.1 q.2 := by
  obtain ⟨cI, kI, coI, fI, gI, dI⟩ := Cond.arrayClass_spec hI
  obtain ⟨cZ, kZ, coZ, fZ, gZ, dZ⟩ := Cond.arrayClass_spec hZ
  refine ⟨cI, cZ, cI, fun k q hq => ?_⟩
  match k, hq with
  | 0, hq => cases hq; exact ⟨fun n z => ⟨fun k h => (by cases h), kI, gI, coI, dI⟩, fI⟩
  | 1, hq => cases hq; exact ⟨fun n z => ⟨fun k h => (by cases h), kZ, gZ, coZ, dZ⟩, fZ⟩
  | k + 2, hq => simp [zTy] at hq
def zQc {S : Type} (D : va_G) (ws : va_W) (sz : Nat) (ws' : S → va_W) : Array Value → State → Outcome → State → Prop := va_Qv (S := S) (fun _ => True) (fun u t => va_P D vwCl (ws' u) t.heap ∧ va_D (va_A ws sz) (ws' u)) (va_A ws sz)
theorem z_preMSn {s : State} {H : Heap} {D : va_G} {cI cZ cL : ClassId} {wc : va_W} {As : List Value} {A : Nat → Prop} (hN : zNs s) (hK : va_K D vwCl (zTy cI cZ cL) s) (hP : va_P D vwCl wc H) (hD : va_D A wc) : PreS s H (va_Pc As (zMn D cI cZ cL wc H.size)) As :=
  ⟨zMn_blind, fun U hU hW => ⟨rfl, by rw [hU], ⟨⟨by rw [hU]; exact hP, va_K.moved hW.alike hK⟩, hN.warm hW⟩, hD.weaken (fun _ _ _ _ => trivial)⟩⟩
/-- 0 everywhere but v in the first n places -/
def pIn (v : Int32) (n : Nat) : Nat → Int32 := fun j => if j < n then v else 0
theorem pIn_0 (v : Int32) : (fun _ => (0 : Int32)) = pIn v 0 := by funext j; simp [pIn]
theorem pIn_s (v : Int32) (n : Nat) : upd (pIn v n) n v = pIn v (n + 1) := by
  funext j; simp only [upd, pIn]
  by_cases h : j = n
  · subst h; rw [if_pos rfl, if_pos (by omega)]
  · rw [if_neg h]
    by_cases h2 : j < n
    · rw [if_pos h2, if_pos (by omega)]
    · rw [if_neg h2, if_neg (by omega)]
/-- 1 at 72 up to 72 + n, 0 elsewhere -/
def pI1 (n : Nat) : Nat → Int32 := fun j => if 72 ≤ j ∧ j < 72 + n then 1 else 0
theorem pI1_0 : (fun _ => (0 : Int32)) = pI1 0 := by
  funext j; simp only [pI1]; rw [if_neg (by omega)]
theorem pI1_s (n : Nat) : upd (pI1 n) (72 + n) 1 = pI1 (n + 1) := by
  funext j; simp only [upd, pI1]
  by_cases h : j = 72 + n
  · subst h; rw [if_pos rfl, if_pos (by omega)]
  · rw [if_neg h]
    by_cases h2 : 72 ≤ j ∧ j < 72 + n
    · rw [if_pos h2, if_pos (by omega)]
    · rw [if_neg h2, if_neg (by omega)]
section ZC
variable {p : Program} {l : Launch} {e : Env} {R : Room} {s : State} {m : MethodId} {args : Array Value} {below : List Frame} {meth : Method} {c : Code} {H : Heap} {locs : List Loc} {cells slots : Nat} {Q : State → Prop}
variable {cc : ByteArray} {pc : Nat} {ls : Array Slot} {rest st0 : List Value} {a : Array Value}
variable {D : va_G} {ws wc wr : va_W} {A0 : Nat → Prop} {H0 : Heap} {mc ms : Nat}
theorem z_new (hexec : p.tables.exec = Jvm.exec) (hb : c.code = cc) {atype : ArrayType} (harr : (Cond.arrayClass (newarray.typeOf atype)).before args s = true) {ty : FieldType} (hty : newarray.typeOf atype = ty) {cI cZ cL cT : ClassId} (hK : va_K D vwCl (zTy cI cZ cL) s) (hP : va_P D vwCl ws H) (hD : va_D A0 ws) (hS : va_S A0 H0 H locs) (hA : ∀ q, H0.size ≤ q → A0 q) (t0 : Nat) (ht : (zTy cI cZ cL)[t0]? = some (cT, ty)) (hprim : ∀ C, ty ≠ .object C)
    {n : Int32} {N' : Nat} {a0 : vp_A} (ha : ∀ cA : ClassId, vp_cell cA a0 = arrV cA N' (fun _ => defaultValue ty)) (hn : ¬ n < 0) (hN : n.toNatClampNeg = N') (hbytes : N' * componentBytes ty ≤ 536870912) (hcells : cells + 1 ≤ R.cells) (hslots : slots + N' ≤ R.slots) (hdg : decode cc pc = .ok (.newarray atype, 2))
    (kk : ∀ (q : Nat) (H1 : Heap), va_P D vwCl (ws ++ [(q, .inl (cT, a0))]) H1 → va_D A0 (ws ++ [(q, .inl (cT, a0))]) → va_S A0 H0 H1 locs → W p l e R s m args below meth c H1 locs (cells + 1) (slots + N') Q (F0 m (pc + 2) ls (.ref q :: rest))) : W p l e R s m args below meth c H locs cells slots Q (F0 m pc ls (.int n :: rest)) := by
  refine va_newa hexec hb harr hty hK hP hD hS hA ha hn hN hbytes hcells hslots hdg (fun q cA H1 hK1 hP1 hD1 hS1 => ?_)
  have e1 := (hK1.2 2 (cA, ty) rfl).2
  have e2 := (hK.2 t0 (cT, ty) ht).2
  have e3 : cA = cT := by
    cases ty with
    | object C => exact absurd rfl (hprim C)
    | _ => exact Option.some.inj (Eq.trans (Eq.symm e1) e2)
  subst e3
  exact kk q H1 hP1 hD1 hS1
theorem z_cc {S : Type} {wc' ws' : S → va_W} (hr : va_Run p l e R s m args below meth c H locs cells slots mc ms (F0 m pc ls st0) rest (zQc D wc H.size wc' a) (va_A wc H.size)) (hP : va_P D vwCl ws H) (hD : va_D A0 ws) (hS : va_S A0 H0 H locs) (hA : ∀ q, H0.size ≤ q → A0 q) (isC isR isN : List Nat) (hC : isC.map (fun i => ws[i]?) = wc.map some) (hR : isR.map (fun i => ws[i]?) = wr.map some) (hn : va_nd isR = true) (hdis : ∀ i ∈ isR, i ∉ isC) (hN : ∀ u, isN.filterMap (fun i => (wr ++ wc' u)[i]?) = ws' u) (hN2 : ∀ u, isN.map (fun i => (wr ++ wc' u)[i]?) = (ws' u).map some) (hnd : va_nd isN = true)
    (kk : ∀ (u : S) (H1 : Heap) (locs1 : List Loc), va_P D vwCl (ws' u) H1 → va_D A0 (ws' u) → va_S A0 H0 H1 locs1 → W p l e R s m args below meth c H1 locs1 (cells + mc) (slots + ms) Q (F0 m (pc + 3) ls rest)) : W p l e R s m args below meth c H locs cells slots Q (F0 m pc ls st0) := by
  have hF := va_free (wc := wc) hD hS hA isC hC
  refine va_callv hr hS (fun q _ h => hF q h) hF (fun u t H1 locs1 ht _ hw hB _ hk hS1 => ?_)
  obtain ⟨h1, h2⟩ := z_rejoin hP hD hS hA isC isR isN hC hR hn hdis (hN u) (hN2 u) hnd ht hk hB
  exact kk u H1 locs1 h1 h2 hS1
theorem z_cret {S : Type} {wc' : S → va_W} (u : S) (hexec : p.tables.exec = Jvm.exec) (hb : c.code = cc) (hr : meth.sig.returnType = none) (hlocks : meth.locks = false) (hdg : decode cc pc = .ok (.return_, 1)) (hP : va_P D vwCl (wc' u) H) (hD : va_D (va_A ws s.heap.size) (wc' u)) (hS : va_S (va_A ws s.heap.size) s.heap H locs) : W p l e R s m args below meth c H locs cells slots (MQ below (zQc D ws s.heap.size wc') args s cells slots (va_A ws s.heap.size)) (F0 m pc ls []) :=
  W.vret hexec hb hr (fun t ht _ => ⟨⟨u, rfl, trivial, by rw [ht]; exact hP, hD⟩, hS.F ht⟩) hS.2.2 hdg hlocks
end ZC
