/-! texts onto the field; what would be; the hash -/
theorem rng {x : Int32} (lo hi : Nat) (hlo : lo < 2 ^ 31) (hhi : hi < 2 ^ 31) (h1 : nI lo ≤ x) (h2 : x ≤ nI hi) : ∃ n, lo ≤ n ∧ n ≤ hi ∧ x = nI n := by
  have hx : ¬ x < 0 := by
    intro hx
    have a1 := Int32.le_iff_toInt_le.mp h1
    have a2 := Int32.lt_iff_toInt_lt.mp hx
    rw [nI_toInt hlo] at a1
    rw [Int32.toInt_zero] at a2
    omega
  obtain ⟨j, hj, rfl⟩ := nI_of hx
  rw [nI_leI hlo hj] at h1
  rw [nI_leI hj hhi] at h2
  exact ⟨j, h1, h2, rfl⟩
def pNm (fx : Nat → Int32) (e : Nat) : Int32 := fx (e * 5 + 3) - 48
def pSqN (fx : Nat → Int32) (e : Nat) : Nat := ((fx (e * 5)).toNatClampNeg - 97) * 6 + ((fx (e * 5 + 1)).toNatClampNeg - 49)
theorem pWh_1 {fx : Nat → Int32} {ln : Nat} (h : pWh fx ln = true) : ln % 5 = 4 ∧ pEr fx ln = ln := by
  simp only [pWh, Bool.and_eq_true, decide_eq_true_eq] at h; exact h
theorem pWh_ft {fx : Nat → Int32} {ln i : Nat} (h : pWh fx ln = true) (hi : i < ln) : pFt fx i = true := by
  have h2 := (pWh_1 h).2
  unfold pEr at h2
  by_cases h0 : fd (fun i => !pFt fx i) ln = 0
  · have h3 := fd_zero h0 i hi
    simpa using h3
  · rw [if_neg h0] at h2
    have h4 := (fd_pos (P := fun i => !pFt fx i) (N := ln) (by omega)).1
    omega
theorem ft_0 {fx : Nat → Int32} {e : Nat} (h : pFt fx (e * 5) = true) : ∃ n, 97 ≤ n ∧ n ≤ 102 ∧ fx (e * 5) = nI n := by
  unfold pFt at h
  rw [if_pos (by omega), Bool.and_eq_true, decide_eq_true_eq, decide_eq_true_eq] at h
  exact rng 97 102 (by omega) (by omega) h.1 h.2
theorem ft_1 {fx : Nat → Int32} {e : Nat} (h : pFt fx (e * 5 + 1) = true) : ∃ n, 49 ≤ n ∧ n ≤ 54 ∧ fx (e * 5 + 1) = nI n := by
  unfold pFt at h
  rw [if_neg (by omega), if_pos (by omega), Bool.and_eq_true, decide_eq_true_eq, decide_eq_true_eq] at h
  exact rng 49 54 (by omega) (by omega) h.1 h.2
theorem ft_2 {fx : Nat → Int32} {e : Nat} (h : pFt fx (e * 5 + 2) = true) : fx (e * 5 + 2) = 43 ∨ fx (e * 5 + 2) = 45 ∨ fx (e * 5 + 2) = 61 := by
  unfold pFt at h
  rw [if_neg (by omega), if_neg (by omega), if_pos (by omega)] at h
  simpa using h
theorem ft_3 {fx : Nat → Int32} {e : Nat} (h : pFt fx (e * 5 + 3) = true) : ∃ n, n ≤ 9 ∧ (fx (e * 5 + 2) ≠ 61 → 1 ≤ n) ∧ pNm fx e = nI n := by
  unfold pFt at h
  rw [if_neg (by omega), if_neg (by omega), if_neg (by omega), if_pos (by omega), Bool.and_eq_true, decide_eq_true_eq, decide_eq_true_eq] at h
  rw [show e * 5 + 3 - 1 = e * 5 + 2 from rfl] at h
  by_cases h6 : fx (e * 5 + 2) = 61
  · rw [pLd, if_pos h6] at h
    obtain ⟨n, h1, h2, h3⟩ := rng 48 57 (by omega) (by omega) h.1 h.2
    refine ⟨n - 48, by omega, fun q => absurd h6 q, ?_⟩
    rw [pNm, h3]; exact pk_sub (a := n) (b := 48) (by omega)
  · rw [pLd, if_neg h6] at h
    obtain ⟨n, h1, h2, h3⟩ := rng 49 57 (by omega) (by omega) h.1 h.2
    refine ⟨n - 48, by omega, fun _ => by omega, ?_⟩
    rw [pNm, h3]; exact pk_sub (a := n) (b := 48) (by omega)
theorem sq_e {fx : Nat → Int32} {ln e : Nat} (hw : pWh fx ln = true) (he : e * 5 + 1 < ln) : ((6 * (fx (e * 5) - 97)) + fx (e * 5 + 1)) - 49 = nI (pSqN fx e) ∧ pSqI fx e = nI (pSqN fx e) ∧ pSqN fx e < 36 := by
  obtain ⟨a, a1, a2, a3⟩ := ft_0 (pWh_ft hw (i := e * 5) (by omega))
  obtain ⟨b, b1, b2, b3⟩ := ft_1 (pWh_ft hw he)
  have e1 : pSqN fx e = (a - 97) * 6 + (b - 49) := by
    rw [pSqN, a3, b3, nI_clamp (by omega), nI_clamp (by omega)]
  have e2 : nI a - 97 = nI (a - 97) := pk_sub (a := a) (b := 97) a1
  have e3 : nI ((a - 97) * 6 + b) - 49 = nI ((a - 97) * 6 + b - 49) := pk_sub (a := (a - 97) * 6 + b) (b := 49) (by omega)
  have e4 : (a - 97) * 6 + b - 49 = (a - 97) * 6 + (b - 49) := by omega
  have e5 : (6 : Int32) * nI (a - 97) = nI (6 * (a - 97)) := pk_mul 6 (a - 97)
  have e6 : nI (a - 97) * (6 : Int32) = nI ((a - 97) * 6) := pk_mul (a - 97) 6
  refine ⟨?_, ?_, by omega⟩
  · rw [e1, a3, b3, e2, e5, Nat.mul_comm 6, nI_add, e3, e4]
  · rw [pSqI, e1, a3, b3, e2, e6, nI_add, e3, e4]
/-- an entry put onto the reference's row; all entries -/
def pLe (g fx : Nat → Int32) (e : Nat) : Nat → Int32 := if fx (e * 5 + 2) = 61 then upd g (72 + pSqN fx e) (pNm fx e) else upd (upd g (36 + pSqN fx e) (if fx (e * 5 + 2) = 43 then 1 else 2)) (0 + pSqN fx e) (pNm fx e)
def pLs (gs fx : Nat → Int32) : Nat → Nat → Int32
  | 0 => gs
  | e + 1 => pLe (pLs gs fx e) fx e
theorem and_ff {a b : Bool} (h : (a && b) = false) (ha : ¬ a = false) (hb : ¬ b = false) : False := by
  cases a <;> cases b <;> simp_all
/-- what a raise would bring -/
def pGa (gs : Nat → Int32) (hz mv q : Nat) : Int32 := if pRM gs hz mv q = 0 then pPM (pRs (pCo gs) 114 q) 114 hz mv - pPM (pRs (pCo gs) 114 q) 114 hz (1 - mv) else -999
def pGw (gs : Nat → Int32) (hz mv q : Nat) : Nat → Int32 := if pRM gs hz mv q = 0 then pRs (pCo gs) 114 q else gs
theorem pGw_lo {gs : Nat → Int32} {hz mv q k : Nat} (h : k < 114) : pGw gs hz mv q k = gs k := by
  unfold pGw; split
  · rw [pRs_lo 114 h, pCo_lo h]
  · rfl
def pBw (gs : Nat → Int32) (hz mv : Nat) : Nat → Nat → Int32
  | 0 => gs
  | n + 1 => pGw (pBw gs hz mv n) hz mv n
theorem pBw_lo (gs : Nat → Int32) (hz mv n : Nat) {k : Nat} (h : k < 114) : pBw gs hz mv n k = gs k := by
  induction n with
  | zero => rfl
  | succ n ih => rw [pBw, pGw_lo h, ih]
def mo (v : Nat → Int32) : Nat → Int32
  | 0 => -999
  | n + 1 => if v n ≤ mo v n then mo v n else v n
def be (v : Nat → Int32) : Nat → Int32
  | 0 => -1
  | n + 1 => if v n ≤ mo v n then be v n else nI n
theorem mo_congr {v w : Nat → Int32} {n : Nat} (h : ∀ i, i < n → v i = w i) : mo v n = mo w n := by
  induction n with
  | zero => rfl
  | succ n ih => simp only [mo, ih (fun i hi => h i (by omega)), h n (by omega)]
theorem be_congr {v w : Nat → Int32} {n : Nat} (h : ∀ i, i < n → v i = w i) : be v n = be w n := by
  induction n with
  | zero => rfl
  | succ n ih => simp only [be, ih (fun i hi => h i (by omega)), mo_congr (n := n) (fun i hi => h i (by omega)), h n (by omega)]
/-- the hash goes on -/
def hf (v : Nat → Int32) : Nat → Int64 → Int64
  | 0, h => h
  | n + 1, h => 31 * hf v n h + (v n).toInt64
theorem hf_congr {v w : Nat → Int32} {n : Nat} (x : Int64) (h : ∀ i, i < n → v i = w i) : hf v n x = hf w n x := by
  induction n with
  | zero => rfl
  | succ n ih => simp only [hf, ih (fun i hi => h i (by omega)), h n (by omega)]
/-- a share of the field as a double -/
def pFq (n : Nat) : UInt64 := FP.ddiv (FP.i2d (nI n)) 4630263366890291200
theorem pFq_1 : ∀ n, n < 37 → FP.ddiv (FP.dmul (FP.i2d (nI n)) 4607182418800017408) 4630263366890291200 = pFq n := by decide +kernel
theorem pFq_2 : ∀ n, n < 37 → (FP.dmul (FP.i2d (nI n)) 4607182418800017408) &&& 0x7fffffffffffffff ≤ 0x7ff0000000000000 := by decide +kernel
theorem pFq_3 : ∀ n, n < 37 → (FP.ddiv (FP.dmul (FP.i2d (nI n)) 4607182418800017408) 4630263366890291200) &&& 0x7fffffffffffffff ≤ 0x7ff0000000000000 := by decide +kernel
theorem pFq_4 : ∀ n, n < 37 → (pFq n) &&& 0x7fffffffffffffff ≤ 0x7ff0000000000000 := by decide +kernel
theorem pFq_5 : ∀ n, n < 37 → Op.cmpValue (FP.dcmp (pFq n) (pFq n)) CmpOp.l = 0 := by decide +kernel
section ZZ
variable {p : Program} {l : Launch} {e : Env} {R : Room} {s : State} {m : MethodId} {args : Array Value} {below : List Frame} {meth : Method} {c : Code} {H : Heap} {locs : List Loc} {cells slots : Nat} {Q : State → Prop}
variable {cc : ByteArray} {pc : Nat} {ls : Array Slot} {rest : List Value}
variable {D : va_G} {A : Nat → Prop} {b : Nat} {tys : List (ClassId × FieldType)} {ws : va_W} {H0 : Heap}
theorem z_zast (hexec : p.tables.exec = Jvm.exec) (hb : c.code = cc) (hK : va_K D vwCl tys s) (hP : va_P D vwCl ws H) (hD : va_D A ws) (hS : va_S A H0 H locs) (q0 t0 : Nat) {cA : ClassId} {n : Nat} {f : Nat → Int32} (ha : ws[q0]? = some (b, .inl (cA, n, .inl f))) (ht : tys[t0]? = some (cA, .boolean)) {i : Int32} {x : Int32} (k : Nat) (hi : i = nI k) (hk : k < n) (hn : n < 2 ^ 31) (hdg : decode cc pc = .ok (.bastore, 1)) {g : Nat → Int32} (hg : upd f k (vp_nar .boolean x) = g)
    (kk : ∀ (H1 : Heap) (locs1 : List Loc), va_P D vwCl (ws.set q0 (b, .inl (cA, n, .inl g))) H1 → va_D A (ws.set q0 (b, .inl (cA, n, .inl g))) → va_S A H0 H1 locs1 → W p l e R s m args below meth c H1 locs1 cells slots Q (F0 m (pc + 1) ls rest)) : W p l e R s m args below meth c H locs cells slots Q (F0 m pc ls (.int x :: .int i :: .ref b :: rest)) := by
  subst hi
  subst hg
  refine va_zast hexec hb hK hP hD hS q0 t0 ha ht (vp_in_nI hk hn) hdg ?_
  rw [nI_clamp (Nat.lt_trans hk hn)]
  exact kk
end ZZ
