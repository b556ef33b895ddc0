/-! the law's own wrappers: what they ask, and a refusal that is caught -/
section XL
variable {p : Program} {l : Launch} {e : Env} {R : Room} {s : State} {m : MethodId} {args : Array Value} {below : List Frame} {meth : Method} {c : Code} {H : Heap} {locs : List Loc} {cells slots : Nat} {Q : State → Prop} {cc : ByteArray} {pc : Nat} {ls : Array Slot} {st0 rest : List Value} {D : va_G} {tys : List (ClassId × FieldType)} {ws : va_W} {A A0 : Nat → Prop} {H0 : Heap} {b : Nat}
theorem z_last (hexec : p.tables.exec = Jvm.exec) (hb : c.code = cc) (hK : va_K D vwCl tys s) (hP : va_P D vwCl ws H) (hD : va_D A ws) (hS : va_S A H0 H locs) (q0 t0 : Nat) {cA : ClassId} {n : Nat} {f : Nat → Int64} (ha : ws[q0]? = some (b, .inl (cA, n, .inr (.inl f)))) (ht : tys[t0]? = some (cA, .long)) {i : Int32} {x : Int64} (k : Nat) (hi : i = nI k) (hk : k < n) (hn : n < 2 ^ 31) (hdg : decode cc pc = .ok (.lastore, 1)) {g : Nat → Int64} (hg : vp_updL f k x = g)
    (kk : ∀ (H1 : Heap) (locs1 : List Loc), va_P D vwCl (ws.set q0 (b, .inl (cA, n, .inr (.inl g)))) H1 → va_D A (ws.set q0 (b, .inl (cA, n, .inr (.inl g)))) → va_S A H0 H1 locs1 → W p l e R s m args below meth c H1 locs1 cells slots Q (F0 m (pc + 1) ls rest)) : W p l e R s m args below meth c H locs cells slots Q (F0 m pc ls (.long x :: .int i :: .ref b :: rest)) := by
  subst hi
  subst hg
  refine va_last hexec hb hK hP hD hS q0 t0 ha ht (vp_in_nI hk hn) hdg ?_
  rw [nI_clamp (Nat.lt_trans hk hn)]
  exact kk
theorem x_cT {Qa : State → Outcome → State → Prop} {E0 : String} {mc ms : Nat} (hr : vx_Run p l e R s m args below meth c H locs cells slots mc ms (F0 m pc ls st0) rest Qa (xXC E0) (fun _ => False)) (hQ : ∀ st o t, Qa st o t → False) (hP : va_P D vwCl ws H) (hS : va_S A0 H0 H locs)
    (kx : ∀ (ce : Cell) (q : Addr) (H1 : Heap), va_P D vwCl ws H1 → va_S A0 H0 H1 locs → H1[q]? = some ce → ce.vm = .none → s.vm.findClass E0 = some ce.cls → vx_W p l e R s m args below meth c H1 locs (cells + mc) (slots + ms) Q (F0 m pc ls rest) q) : W p l e R s m args below meth c H locs cells slots Q (F0 m pc ls st0) := by
  intro T hT X
  rcases hr T hT X with ⟨v, st₀, t, T', L, h0, X', hL, e1, e2, hq, st⟩ | ⟨q, st₀, t, T', L, E, ce, h0, X', hL, e1, e2, ⟨u, -, rfl, hF⟩, hce, hcv, hcl, st⟩
  · exact (hQ _ _ _ hq).elim
  · obtain ⟨hz, hk⟩ := hF
    rw [h0] at hz hk
    obtain ⟨t2, a1, b1⟩ := kx ce q T'.heap (hP.kept (fun k r h => by rw [e1]; exact hk r.1 (hP k r h).lt (fun h => h))) ⟨Nat.le_trans hS.1 (by rw [e1]; exact hz), fun r h1 h2 => by rw [e1, hk r (Nat.lt_of_lt_of_le h1 hS.1) (fun h => h)]; exact hS.2.1 r h1 h2, hS.2.2⟩ (by rw [e1]; exact hce) hcv hcl T' rfl (Stand.forget X' (fun r h => (hL r h).elim))
    exact ⟨t2, st.trans a1, b1⟩
end XL
def xPr : List (String × String) := [(xIAE, xOOB), (xISE, xIAE)]
def xNc (U : State) : Prop := ∀ q ∈ xPr, va_Nc q.1 q.2 U
theorem xNc.moved {u U : State} (hvm : u.vm.Alike U.vm) (h : xNc u) : xNc U := fun q hq => (h q hq).moved hvm
def zLx (D : va_G) (cI cZ cL : ClassId) (ws : va_W) (sz : Nat) (U : State) : Prop := zMn D cI cZ cL ws sz U ∧ xNs U ∧ xHs (fun _ => False) U U.heap ∧ xNc U
theorem zLx_blind {D : va_G} {cI cZ cL : ClassId} {ws : va_W} {sz : Nat} {av : List Value} : FrameBlind (va_Pc av (zLx D cI cZ cL ws sz)) := fun a U g mk q => ⟨q.1, (zMn_blind (av := av) a U g mk ⟨q.1, q.2.1⟩).2, q.2.2.1.same (U := U.calling g mk a) rfl, q.2.2.2.1.moved (U := U.calling g mk a) (Vm.Alike.refl U.vm), q.2.2.2.2.moved (U := U.calling g mk a) (Vm.Alike.refl U.vm)⟩
theorem z_preLx {s : State} {H : Heap} {D : va_G} {cI cZ cL : ClassId} {wc : va_W} {As : List Value} {A : Nat → Prop} (hN : zNs s) (hX : xNs s) (hH : xHs (fun _ => False) s H) (hC : xNc s) (hK : va_K D vwCl (zTy cI cZ cL) s) (hP : va_P D vwCl wc H) (hD : va_D A wc) : PreS s H (va_Pc As (zLx D cI cZ cL wc H.size)) As :=
  ⟨zLx_blind, fun U hU hW => ⟨rfl, ⟨by rw [hU], ⟨⟨by rw [hU]; exact hP, va_K.moved hW.alike hK⟩, hN.warm hW⟩, hD.weaken (fun _ _ _ _ => trivial)⟩, hX.warm hW, by rw [hU]; exact hH.moved hW.alike, hC.moved hW.alike⟩⟩
