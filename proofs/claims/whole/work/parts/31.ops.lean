/-! the law's own loop: its script, ranges, what stays true -/
section XO
variable {p : Program} {l : Launch} {e : Env} {R : Room} {s : State} {m : MethodId} {args : Array Value} {below : List Frame} {meth : Method} {c : Code} {H : Heap} {locs : List Loc} {cells slots : Nat} {Q : State → Prop} {cc : ByteArray} {pc : Nat} {ls : Array Slot} {rest : List Value} {D : va_G} {tys : List (ClassId × FieldType)} {ws : va_W} {A : Nat → Prop} {H0 : Heap} {b : Nat}
theorem z_sld (hexec : p.tables.exec = Jvm.exec) (hb : c.code = cc) {L : Nat} {xs : Nat → Int32} (hX : va_X b L xs s H0) (hbl : b < H0.size) (hbA : ¬ A b) (hS : va_S A H0 H locs) {i : Int32} (k : Nat) (hi : i = nI k) (hk : k < L) (hn : L < 2 ^ 31) (hdg : decode cc pc = .ok (.iaload, 1))
    (kk : W p l e R s m args below meth c H locs cells slots Q (F0 m (pc + 1) ls (.int (xs k) :: rest))) : W p l e R s m args below meth c H locs cells slots Q (F0 m pc ls (.int i :: .ref b :: rest)) := by
  subst hi
  refine va_sld hexec hb hX hbl hbA hS (vp_in_nI hk hn) hdg ?_
  rw [nI_clamp (Nat.lt_trans hk hn)]
  exact kk
theorem z_lald (hexec : p.tables.exec = Jvm.exec) (hb : c.code = cc) (hK : va_K D vwCl tys s) (hP : va_P D vwCl ws H) (q0 t0 : Nat) {cA : ClassId} {n : Nat} {f : Nat → Int64} (ha : ws[q0]? = some (b, .inl (cA, n, .inr (.inl f)))) (ht : tys[t0]? = some (cA, .long)) {i : Int32} (k : Nat) (hi : i = nI k) (hk : k < n) (hn : n < 2 ^ 31) (hdg : decode cc pc = .ok (.laload, 1))
    (kk : W p l e R s m args below meth c H locs cells slots Q (F0 m (pc + 1) ls (.long (f k) :: rest))) : W p l e R s m args below meth c H locs cells slots Q (F0 m pc ls (.int i :: .ref b :: rest)) := by
  subst hi
  refine va_lald hexec hb hK hP q0 t0 ha ht (vp_in_nI hk hn) hdg ?_
  rw [nI_clamp (Nat.lt_trans hk hn)]
  exact kk
end XO
theorem lg_same {x y : Int64} (h : x = y) : lg_cmp x y = 0 ↔ True := by
  subst h
  unfold lg_cmp
  rw [if_neg (fun h => absurd h (Int64.lt_irrefl)), if_pos rfl]
  exact ⟨fun _ => trivial, fun _ => rfl⟩
theorem fr_q : ∀ n, n < 37 → Op.cmpValue (FP.dcmp (pFq n) (pFq n)) CmpOp.l = 0 := by decide +kernel
theorem ao_t {a b : Bool} (h : (a && b) = false) (ha : a = true) (hb : b = true) : False := by
  subst ha; subst hb; cases h
theorem ro12 {v : Int32} (h : (decide (0 ≤ v) && decide (v ≤ 11)) = false) (h1 : 0 ≤ v) (h2 : ¬ 12 ≤ v) : False := ao_t h (decide_eq_true h1) (decide_eq_true ((hr12 v).mp (Int32.not_le.mp h2)))
theorem ro2 {v : Int32} (h : (decide (0 ≤ v) && decide (v ≤ 1)) = false) (h1 : 0 ≤ v) (h2 : ¬ 2 ≤ v) : False := ao_t h (decide_eq_true h1) (decide_eq_true ((sl2 v).mp (Int32.not_le.mp h2)))
theorem ro9 {v lo hg : Int32} (h : (decide (lo ≤ v) && decide (v ≤ hg)) = false) (h1 : lo ≤ v) (h2 : v ≤ hg) : False := ao_t h (decide_eq_true h1) (decide_eq_true h2)
theorem rot {v : Int32} (k : Nat) (hk : k < 100) (h : (decide (0 ≤ v) && decide (v ≤ nI k)) = false) : v.toInt < 0 ∨ (k : Int) < v.toInt := by
  by_cases h1 : v.toInt < 0
  · exact Or.inl h1
  · refine Or.inr (Int.not_le.mp (fun h2 => ?_))
    have e1 : (0 : Int32).toInt = 0 := by decide
    have e2 : ∀ k, k < 100 → (nI k).toInt = (k : Int) := by decide +kernel
    exact ro9 h (by rw [Int32.le_iff_toInt_le, e1]; omega) (by rw [Int32.le_iff_toInt_le, e2 k hk]; exact h2)
theorem rgi {v : Int32} (lo hi : Nat) (h1 : lo < 2 ^ 31) (h2 : hi < 2 ^ 31) (h : (decide (nI lo ≤ v) && decide (v ≤ nI hi)) = true) : ∃ n, lo ≤ n ∧ n ≤ hi ∧ v = nI n := by
  rw [Bool.and_eq_true, decide_eq_true_iff, decide_eq_true_iff] at h
  exact rng lo hi h1 h2 h.1 h.2
def LC (p : Program) (l : Launch) (s : State) (m : MethodId) (args : Array Value) (c : Code) (D : va_G) (cI cZ cL : ClassId) (A : Nat → Prop) (b L : Nat) (xs : Nat → Int32) : Prop :=
  p.tables.exec = Jvm.exec ∧ c.code = code ∧ c.maxLocals = 9 ∧ s.vm.findClass RL = some m.cls ∧ (∀ w ∈ wsL_law, w.before args s = true) ∧ va_K D vwCl (zTy cI cZ cL) s ∧ zNs s ∧ xNs s ∧ xHs A s s.heap ∧ xNc s ∧ va_X b L xs s s.heap ∧ b < s.heap.size ∧ ¬ A b ∧ L ≤ 1536 ∧ (∀ q, s.heap.size ≤ q → A q) ∧ l.stackTraces = false
def LW9 (cI cZ cL : ClassId) (x0 a0 a1 a2 a3 a4 b0 b1 d0 d1 e1 e2 m0 m1 m2 m3 m4 m5 o1 : Nat) (gs gp gl gk fh fo fc fs fn fl fk fx : Nat → Int32) (hz mv kn od sz6 ln : Nat) (tu rf th : Int32) (hs : Int64) (ov : Nat → Int64) : va_W := [(x0, .inr (3, [.ref a0, .ref b0, .ref d0, .ref e1, .ref e2])), (a0, .inr (0, [.ref a1, .ref a2, .ref a3, .ref a4, .int (nI hz), .int (nI mv), .int tu, .int rf])), (a1, .inl (cI, 36, .inl fh)), (a2, .inl (cI, 36, .inl fo)), (a3, .inl (cI, 36, .inl fc)), (a4, .inl (cI, 2, .inl fs)), (b0, .inr (1, [.ref b1, .int (nI ln)])), (b1, .inl (cI, 60, .inl fx)), (d0, .inr (2, [.ref d1, .int (nI od), .int (nI sz6)])), (d1, .inl (cI, 684, .inl fn)), (e1, .inl (cI, 228, .inl fl)), (e2, .inl (cZ, 2, .inl fk)), (m0, .inr (4, [.ref m1, .ref m2, .int (nI kn), .ref m3, .ref m4, .ref m5, .int (nI ln), .int th, .long hs])), (m1, .inl (cI, 228, .inl gs)), (m2, .inl (cI, 684, .inl gp)), (m3, .inl (cI, 228, .inl gl)), (m4, .inl (cZ, 2, .inl gk)), (m5, .inl (cI, 60, .inl fx)), (o1, .inl (cL, 1, .inr (.inl ov)))]
def LG (D : va_G) (cI cZ cL : ClassId) (A : Nat → Prop) (H0 : Heap) (x0 a0 a1 a2 a3 a4 b0 b1 d0 d1 e1 e2 m0 m1 m2 m3 m4 m5 o1 : Nat) (H : Heap) (locs : List Loc) : Prop :=
  ∃ (gs gp gl gk fh fo fc fs fn fl fk fx : Nat → Int32) (hz mv kn od sz6 ln : Nat) (tu rf th : Int32) (hs : Int64) (ov : Nat → Int64), CU gs fh fo fc fs hz mv tu rf ∧ ST gp fn kn od sz6 ∧ SL gl gk fl fk ∧ ln ≤ 60 ∧ va_P D vwCl (LW9 cI cZ cL x0 a0 a1 a2 a3 a4 b0 b1 d0 d1 e1 e2 m0 m1 m2 m3 m4 m5 o1 gs gp gl gk fh fo fc fs fn fl fk fx hz mv kn od sz6 ln tu rf th hs ov) H ∧ va_D A (LW9 cI cZ cL x0 a0 a1 a2 a3 a4 b0 b1 d0 d1 e1 e2 m0 m1 m2 m3 m4 m5 o1 gs gp gl gk fh fo fc fs fn fl fk fx hz mv kn od sz6 ln tu rf th hs ov) ∧ va_S A H0 H locs
