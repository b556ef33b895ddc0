/-! a world that only keeps what stays true -/
def EW (cI cZ : ClassId) (x0 a0 a1 a2 a3 a4 b0 b1 d0 d1 e1 e2 : Nat) (fh fo fc fs fn fl fk fx : Nat → Int32) (hz mv od sz6 : Nat) (tu rf : Int32) : va_W := [(x0, .inr (3, [.ref a0, .ref b0, .ref d0, .ref e1, .ref e2])), (a0, .inr (0, [.ref a1, .ref a2, .ref a3, .ref a4, .int (nI hz), .int (nI mv), .int tu, .int rf])), (a1, .inl (cI, 36, .inl fh)), (a2, .inl (cI, 36, .inl fo)), (a3, .inl (cI, 36, .inl fc)), (a4, .inl (cI, 2, .inl fs)), (b0, .inr (1, [.ref b1, .int (nI 0)])), (b1, .inl (cI, 60, .inl fx)), (d0, .inr (2, [.ref d1, .int (nI od), .int (nI sz6)])), (d1, .inl (cI, 684, .inl fn)), (e1, .inl (cI, 228, .inl fl)), (e2, .inl (cZ, 2, .inl fk))]
def EE (cI cZ : ClassId) (x0 a0 a1 a2 a3 a4 b0 b1 d0 d1 e1 e2 : Nat) (ws : va_W) : Prop := ∃ (fh fo fc fs fn fl fk fx : Nat → Int32) (hz mv od sz6 : Nat) (tu rf : Int32), JJ fh fo fc hz mv od sz6 ∧ ws = EW cI cZ x0 a0 a1 a2 a3 a4 b0 b1 d0 d1 e1 e2 fh fo fc fs fn fl fk fx hz mv od sz6 tu rf
def zQe (D : va_G) (ws : va_W) (E : va_W → Prop) (sz : Nat) : Array Value → State → Outcome → State → Prop := va_Qi (S := Unit) (fun r _ => r = 1) (fun _ t => ∃ ws', E ws' ∧ va_P D vwCl ws' t.heap ∧ va_D (va_A ws sz) ws') (va_A ws sz)
def zS (b L : Nat) (xs : Nat → Int32) (U : State) : Prop := va_X b L xs U U.heap ∧ b < U.heap.size
theorem zS_blind {b L : Nat} {xs : Nat → Int32} {av : List Value} : FrameBlind (va_Pc av (zS b L xs)) := fun a U g mk q => ⟨q.1, va_X.moved (u := U) (U := U.calling g mk a) (Vm.Alike.refl U.vm) q.2.1, q.2.2⟩
theorem b_nf {b : Bool} (h : ¬ b = false) : b = true := by cases b <;> simp_all
section ZE
variable {p : Program} {l : Launch} {e : Env} {R : Room} {s : State} {m : MethodId} {args : Array Value} {below : List Frame} {meth : Method} {c : Code} {H : Heap} {locs : List Loc} {cells slots : Nat} {Q : State → Prop}
variable {cc : ByteArray} {pc : Nat} {ls : Array Slot} {rest st0 : List Value} {a : Array Value}
variable {D : va_G} {ws ws' : va_W} {A0 : Nat → Prop} {H0 : Heap} {mc ms : Nat}
theorem z_preSn {cI cZ cL : ClassId} {wc : va_W} {As : List Value} (hN : zNs s) (hK : va_K D vwCl (zTy cI cZ cL) s) (hP : va_P D vwCl wc H) : PreS s H (va_Pc As (zWn D cI cZ cL wc)) As :=
  ⟨zWn_blind, fun U hU hW => ⟨rfl, ⟨by rw [hU]; exact hP, va_K.moved hW.alike hK⟩, hN.warm hW⟩⟩
theorem z_preSx {b L : Nat} {xs : Nat → Int32} {As : List Value} (hX : va_X b L xs s H0) (hbl : b < H0.size) (hbA : ¬ A0 b) (hS : va_S A0 H0 H locs) : PreS s H (va_Pc As (zS b L xs)) As :=
  ⟨zS_blind, fun U hU hW => ⟨rfl, by rw [hU]; exact va_X.moved hW.alike (hX.kept (hS.2.1 b hbl hbA)), by rw [hU]; exact Nat.lt_of_lt_of_le hbl hS.1⟩⟩
theorem z_cme {E : va_W → Prop} (hr : va_Run p l e R s m args below meth c H locs cells slots mc ms (F0 m pc ls st0) rest (zQe D ws E H.size a) (va_A ws H.size)) (hD : va_D A0 ws) (hS : va_S A0 H0 H locs) (hA : ∀ q, H0.size ≤ q → A0 q) (isC : List Nat) (hC : isC.map (fun i => ws[i]?) = ws.map some)
    (kk : ∀ (ws' : va_W) (H1 : Heap) (locs1 : List Loc), E ws' → va_P D vwCl ws' H1 → va_D A0 ws' → va_S A0 H0 H1 locs1 → W p l e R s m args below meth c H1 locs1 (cells + mc) (slots + ms) Q (F0 m (pc + 3) ls (.int 1 :: rest))) : W p l e R s m args below meth c H locs cells slots Q (F0 m pc ls st0) := by
  have hF := va_free (wc := ws) hD hS hA isC hC
  refine va_calli hr hS (fun q _ h => hF q h) hF (fun r u t H1 locs1 ht _ hw hB _ hk hS1 => ?_)
  subst hw
  obtain ⟨ws', h1, h2, h3⟩ := hB
  exact kk ws' H1 locs1 h1 (by rw [← ht]; exact h2) (h3.weaken (fun k q _ h => hF _ h)) hS1
theorem z_mzretE {v : Int32} {E : va_W → Prop} (hexec : p.tables.exec = Jvm.exec) (hb : c.code = cc) (hr : meth.sig.returnType = some .boolean) (hlocks : meth.locks = false) (hdg : decode cc pc = .ok (.ireturn, 1)) (e1 : v = 1) (hE : E ws') (hP : va_P D vwCl ws' H) (hD : va_D (va_A ws s.heap.size) ws') (hS : va_S (va_A ws s.heap.size) s.heap H locs) : W p l e R s m args below meth c H locs cells slots (MQ below (zQe D ws E s.heap.size) args s cells slots (va_A ws s.heap.size)) (F0 m pc ls [.int v]) := by
  subst e1
  exact W.zret hexec hb hr (zb_nar true) (fun t ht _ => ⟨⟨1, (), rfl, rfl, ws', hE, by rw [ht]; exact hP, hD⟩, hS.F ht⟩) hS.2.2 hdg hlocks
theorem z_zret1 {v : Int32} (hexec : p.tables.exec = Jvm.exec) (hb : c.code = cc) (hr : meth.sig.returnType = some .boolean) (hlocks : meth.locks = false) (hdg : decode cc pc = .ok (.ireturn, 1)) (e1 : v = 1) : W p l e R s m args below meth c s.heap [] 0 0 (MQ below (zQi 1) args s 0 0 (fun _ => False)) (F0 m pc ls [.int v]) := by
  subst e1
  exact W.zret hexec hb hr (zb_nar true) (fun t ht _ => ⟨rfl, ht⟩) (fun q h => absurd h List.not_mem_nil) hdg hlocks
theorem z_sld (hexec : p.tables.exec = Jvm.exec) (hb : c.code = cc) {b L : Nat} {xs : Nat → Int32} {A : Nat → Prop} (hX : va_X b L xs s H0) (hbl : b < H0.size) (hbA : ¬ A b) (hS : va_S A H0 H locs) {i : Int32} (k : Nat) (hi : i = nI k) (hk : k < L) (hn : L < 2 ^ 31) (hdg : decode cc pc = .ok (.iaload, 1))
    (kk : W p l e R s m args below meth c H locs cells slots Q (F0 m (pc + 1) ls (.int (xs k) :: rest))) : W p l e R s m args below meth c H locs cells slots Q (F0 m pc ls (.int i :: .ref b :: rest)) := by
  subst hi
  refine va_sld hexec hb hX hbl hbA hS (vp_in_nI hk hn) hdg ?_
  rw [nI_clamp (Nat.lt_trans hk hn)]
  exact kk
end ZE
