/-! what stays true from call to call; the height that is needed -/
def JJ (fh fo fc : Nat → Int32) (hz mv od sz6 : Nat) : Prop := II fh fo ∧ CC fc ∧ hz < 12 ∧ mv < 2 ∧ od < 6 ∧ sz6 < 7
theorem II_ext {fh fo fh' fo' : Nat → Int32} (h : II fh fo) (e : ∀ k, k < 36 → fh' k = fh k ∧ fo' k = fo k) : II fh' fo' := fun k hk => by
  rw [(e k hk).1, (e k hk).2]; exact h k hk
theorem II_put {fh fo : Nat → Int32} (h : II fh fo) (q : Nat) {n : Nat} {o : Int32} (ho : o = 0 ∨ o = 1) (h1 : 1 ≤ n) (h9 : n ≤ 9) : II (upd fh q (nI n)) (upd fo q o) := fun k hk => by
  by_cases hkq : k = q
  · subst hkq; rw [upd_at, upd_at]; exact Or.inr ⟨ho, n, h1, h9, rfl⟩
  · rw [upd_ne hkq, upd_ne hkq]; exact h k hk
theorem II_tear {fh fo : Nat → Int32} (h : II fh fo) (q : Nat) : II (upd fh q 0) (upd fo q (-1)) := fun k hk => by
  by_cases hkq : k = q
  · subst hkq; rw [upd_at, upd_at]; exact Or.inl ⟨rfl, rfl⟩
  · rw [upd_ne hkq, upd_ne hkq]; exact h k hk
theorem II_raise {fh fo : Nat → Int32} (h : II fh fo) {q hz mv : Nat} (hq : q < 36) (hm : mv < 2) (hre : pRe fo fh hz mv q = 0) : II (upd fh q (fh q + 1)) (upd fo q (nI mv)) := by
  obtain ⟨n, n9, en⟩ := II_n h hq
  have hn : ¬ n = 9 := fun z => by
    subst z
    unfold pRe at hre
    by_cases h1 : fo q = nI (1 - mv)
    · rw [if_pos h1] at hre; cases hre
    · rw [if_neg h1, if_pos (show fh q = 9 from en)] at hre; cases hre
  rw [en, nI_1]
  exact II_put h q (by rcases (show mv = 0 ∨ mv = 1 by omega) with rfl | rfl <;> decide) (by omega) (by omega)
theorem CC_put {fc : Nat → Int32} (h : CC fc) (q : Nat) {n : Nat} (h9 : n < 10) : CC (upd fc q (nI n)) := fun k hk => by
  by_cases hkq : k = q
  · subst hkq; rw [upd_at]; exact ⟨n, by omega, rfl⟩
  · rw [upd_ne hkq]; exact h k hk
theorem CC_ext {fc fc' : Nat → Int32} (h : CC fc) (e : ∀ k, k < 36 → fc' k = fc k) : CC fc' := fun k hk => by rw [e k hk]; exact h k hk
/-- how far a square lies toward the sun, as the law counts -/
def pBy (sd : Nat) (r c : Int32) : Int32 := if sd = 0 ∧ r = 0 then c else if sd = 1 ∧ c = 0 then r else if sd = 2 ∧ r = 0 then -c else if sd = 3 ∧ c = 0 then -r else 0
theorem by_0 : ∀ sd, sd < 4 → ∀ q, q < 36 → ∀ f, f < 36 → (0 < pBy sd (nI (f / 6) - nI (q / 6)) (nI (f % 6) - nI (q % 6)) ↔ 0 < pDi sd q f) := by decide +kernel
theorem by_1 : ∀ sd, sd < 4 → ∀ q, q < 36 → ∀ f, f < 36 → 0 < pDi sd q f → pBy sd (nI (f / 6) - nI (q / 6)) (nI (f % 6) - nI (q % 6)) = nI (pDi sd q f) := by decide +kernel
theorem le_yes {fh : Nat → Int32} {hz f q hn : Nat} (hd : 0 < pDi (hz / 3) q f) (h : hn + pDi (hz / 3) q f * pSt hz + 1 ≤ 9) (e : fh q = nI hn) : cLe fh hz f q = nI (hn + pDi (hz / 3) q f * pSt hz + 1) := by
  have e2 : fh q + nI (pDi (hz / 3) q f * pSt hz) + 1 = nI (hn + pDi (hz / 3) q f * pSt hz + 1) := by rw [e, nI_add, nI_1]
  unfold cLe
  rw [e2, if_neg]
  rintro (z | z)
  · omega
  · exact z ((nI_leI (by omega) (by omega) (b := 9)).mpr h)
theorem le_no {fh : Nat → Int32} {hz f q hn : Nat} (hh : hn ≤ 9) (hp : pDi (hz / 3) q f * pSt hz ≤ 15) (h : ¬ (0 < pDi (hz / 3) q f ∧ hn + pDi (hz / 3) q f * pSt hz + 1 ≤ 9)) (e : fh q = nI hn) : cLe fh hz f q = -1 := by
  have e2 : fh q + nI (pDi (hz / 3) q f * pSt hz) + 1 = nI (hn + pDi (hz / 3) q f * pSt hz + 1) := by rw [e, nI_add, nI_1]
  unfold cLe
  rw [e2, if_pos]
  by_cases hd : pDi (hz / 3) q f = 0
  · exact Or.inl hd
  · refine Or.inr (fun z => h ⟨by omega, (nI_leI (by omega) (by omega) (b := 9)).mp z⟩)
theorem cn_one {P P' : Nat → Bool} {j N : Nat} (h : ∀ i, i < N → i ≠ j → P i = P' i) (h0 : P' j = false) (hj : j < N) : cn P N = cn P' N + (if P j then 1 else 0) := by
  induction N with
  | zero => omega
  | succ N ih =>
    by_cases hN : j = N
    · subst hN
      have e1 : cn P j = cn P' j := cn_congr (fun i hi => h i (by omega) (by omega))
      simp only [cn]
      rw [e1, h0]; simp
    · have e1 := ih (fun i hi hne => h i (by omega) hne) (by omega)
      simp only [cn]
      rw [e1, h N (by omega) (fun z => hN z.symm)]; omega
/-- a tower of the height x on f shades q just from the height that is needed on -/
theorem nd_sh {fh : Nat → Int32} {hz f q hn x : Nat} (hq : q < 36) (hhz : hz < 12) (hd : 0 < pDi (hz / 3) q f) (e : fh q = nI hn) (hh : hn ≤ 9) (hx : x ≤ 9) : pSn (upd fh f (nI x)) q hz = pSn (upd fh f 0) q hz + (if hn + pDi (hz / 3) q f * pSt hz < x then 1 else 0) := by
  have h4 : hz / 3 < 4 := by omega
  have hR := pR_le (hz / 3) h4 q hq
  have hS := pSt_le hz
  have h5 := fd_pos (P := fun i => decide (pT (hz / 3) q (i + 1) = f)) (N := pR (hz / 3) q) hd
  have h6 : fd (fun i => decide (pT (hz / 3) q (i + 1) = f)) (pR (hz / 3) q) = pDi (hz / 3) q f := rfl
  rw [h6, decide_eq_true_eq] at h5
  obtain ⟨h7, h8⟩ := h5
  obtain ⟨j, ej⟩ : ∃ j, pDi (hz / 3) q f = j + 1 := ⟨pDi (hz / 3) q f - 1, by omega⟩
  rw [ej] at h7 h8 ⊢
  rw [show j + 1 - 1 = j by omega] at h8
  have hqf : ¬ q = f := fun z => by
    have := (pT_q (hz / 3) h4 q hq (j + 1) (by omega)).mp (by rw [h8]; exact z.symm)
    omega
  have hm : (j + 1) * pSt hz ≤ 15 := Nat.le_trans (Nat.mul_le_mul (show j + 1 ≤ 5 by omega) hS) (by omega)
  have hv : ∀ y : Int32, upd fh f y q = nI hn := fun y => by rw [upd_ne hqf]; exact e
  have key : ∀ y, y ≤ 9 → pSi (upd fh f (nI y)) q hz j = decide (hn + (j + 1) * pSt hz < y) := by
    intro y hy
    unfold pSi pSh
    rw [h8, upd_at, hv]
    have hk : nI y - nI ((j + 1) * pSt hz) ≤ nI hn ↔ ¬ hn + (j + 1) * pSt hz < y := by
      rw [Int32.le_iff_toInt_le, pk_sub_toInt (by omega) (by omega), nI_toInt (by omega)]
      generalize (j + 1) * pSt hz = mm at *
      omega
    by_cases hc : hn + (j + 1) * pSt hz < y
    · rw [decide_eq_true hc, decide_eq_false (fun z => hk.mp z hc)]; rfl
    · rw [decide_eq_false hc, decide_eq_true (hk.mpr hc)]; rfl
  unfold pSn
  rw [cn_one (P' := pSi (upd fh f 0) q hz) (j := j)]
  · rw [key x hx]
    by_cases hc : hn + (j + 1) * pSt hz < x
    · rw [decide_eq_true hc, if_pos rfl, if_pos hc]
    · rw [decide_eq_false hc, if_neg (fun z => by cases z), if_neg hc]
  · intro i hi hij
    unfold pSi pSh
    have hT : ¬ pT (hz / 3) q (i + 1) = f := fun z => by
      have := pDi_T (hz / 3) h4 q hq i hi
      rw [z, ej] at this; omega
    rw [upd_ne hT, upd_ne hT, hv, hv]
  · rw [show (0 : Int32) = nI 0 from rfl, key 0 (by omega)]; exact decide_eq_false (by omega)
  · omega
/-- one entry of a text -/
theorem tx_wh {fx : Nat → Int32} {f h : Nat} (hf : f < 36) (h1 : 1 ≤ h) (h9 : h ≤ 9) (e0 : fx 0 = nI (97 + f / 6)) (e1 : fx 1 = nI (49 + f % 6)) (e2 : fx 2 = 43) (e3 : fx 3 = nI (48 + h)) : pWh fx 4 = true := by
  have p0 : pFt fx 0 = true := by
    unfold pFt; rw [if_pos (by decide), e0]; exact in_ok 97 102 (by omega) (by omega) (by decide)
  have p1 : pFt fx 1 = true := by
    unfold pFt; rw [if_neg (by decide), if_pos (by decide), e1]; exact in_ok 49 54 (by omega) (by omega) (by decide)
  have p2 : pFt fx 2 = true := by
    unfold pFt; rw [if_neg (by decide), if_neg (by decide), if_pos (by decide), e2]; decide
  have p3 : pFt fx 3 = true := by
    unfold pFt; rw [if_neg (by decide), if_neg (by decide), if_neg (by decide), if_pos (by decide), e3, show 3 - 1 = 2 from rfl, e2]; exact in_ok 49 57 (by omega) (by omega) (by decide)
  have hF : fd (fun i => !pFt fx i) 4 = 0 := by simp [fd, p0, p1, p2, p3]
  unfold pWh pEr
  rw [hF]; rfl
theorem tx_sq {fx : Nat → Int32} {f : Nat} (hf : f < 36) (e0 : fx 0 = nI (97 + f / 6)) (e1 : fx 1 = nI (49 + f % 6)) : pSqN fx 0 = f := by
  rw [pSqN, show 0 * 5 = 0 from rfl, show 0 + 1 = 1 from rfl, e0, e1, nI_clamp (by omega), nI_clamp (by omega)]; omega
theorem tx_nm {fx : Nat → Int32} {h : Nat} (e3 : fx 3 = nI (48 + h)) : pNm fx 0 = nI h := by
  rw [pNm, show 0 * 5 + 3 = 3 from rfl, e3, show (48 : Int32) = nI 48 from rfl, pk_sub (by omega)]
  exact congrArg nI (by omega)
theorem ld_o {fo fx : Nat → Int32} {f : Nat} (hf : f < 36) (e0 : fx 0 = nI (97 + f / 6)) (e1 : fx 1 = nI (49 + f % 6)) (e2 : fx 2 = 43) : cLo cEo fo fx 1 = upd fo f 0 := by
  show cEo fo fx 0 = _
  rw [cEo, show 0 * 5 + 2 = 2 from rfl, e2, if_neg (by decide), if_pos (by decide), tx_sq hf e0 e1]
theorem ld_h {fh fx : Nat → Int32} {f h : Nat} (hf : f < 36) (e0 : fx 0 = nI (97 + f / 6)) (e1 : fx 1 = nI (49 + f % 6)) (e2 : fx 2 = 43) (e3 : fx 3 = nI (48 + h)) : cLo cEh fh fx 1 = upd fh f (nI h) := by
  show cEh fh fx 0 = _
  rw [cEh, show 0 * 5 + 2 = 2 from rfl, e2, if_neg (by decide), tx_sq hf e0 e1, tx_nm e3]
theorem ld_c {fc fx : Nat → Int32} (e2 : fx 2 = 43) : cLo cEc fc fx 1 = fc := by
  show cEc fc fx 0 = _
  rw [cEc, show 0 * 5 + 2 = 2 from rfl, e2, if_neg (by decide)]
/-- the buffer with one entry -/
def FX (fx : Nat → Int32) (f h : Nat) : Nat → Int32 := upd (upd (upd (upd fx 0 (nI (97 + f / 6))) 1 (nI (49 + f % 6))) 2 43) 3 (nI (48 + h))
theorem FX_0 (fx : Nat → Int32) (f h : Nat) : FX fx f h 0 = nI (97 + f / 6) ∧ FX fx f h 1 = nI (49 + f % 6) ∧ FX fx f h 2 = 43 ∧ FX fx f h 3 = nI (48 + h) := ⟨rfl, rfl, rfl, rfl⟩
theorem ow_1 {fo : Nat → Int32} {f : Nat} (hf : f < 36) : 0 < pOw (upd fo f 0) 0 := (cn_an _ _).mpr (an_t (i := f) (decide_eq_true (upd_at fo f 0)) hf)
theorem pOw_c {fo fo' : Nat → Int32} (h : ∀ k, k < 36 → fo' k = fo k) (pl : Nat) : pOw fo' pl = pOw fo pl := cn_congr (fun i hi => by show decide (fo' i = nI pl) = decide (fo i = nI pl); rw [h i hi])
/-- back to what was kept -/
theorem gb_h {fh fo fc fs fl g : Nat → Int32} {hz mv : Nat} {tu rf : Int32} {k : Nat} (hk : k < 36) : va_cpy (va_cpy (cG fh fo fc fs hz mv tu rf) fl 0 (0 * 114) 114) g (0 * 114) 0 36 k = fh k := by
  rw [cp_in (by omega), cp_in (by omega), cG, if_pos (by omega)]; congr 1; omega
theorem gb_o {fh fo fc fs fl g : Nat → Int32} {hz mv : Nat} {tu rf : Int32} {k : Nat} (hk : k < 36) : va_cpy (va_cpy (cG fh fo fc fs hz mv tu rf) fl 0 (0 * 114) 114) g (0 * 114 + 36) 0 36 k = fo k := by
  rw [cp_in (by omega), cp_in (by omega), cG, if_neg (by omega), if_pos (by omega)]; congr 1; omega
theorem gb_c {fh fo fc fs fl g : Nat → Int32} {hz mv : Nat} {tu rf : Int32} {k : Nat} (hk : k < 36) : va_cpy (va_cpy (cG fh fo fc fs hz mv tu rf) fl 0 (0 * 114) 114) g (0 * 114 + 72) 0 36 k = fc k := by
  rw [cp_in (by omega), cp_in (by omega), cG, if_neg (by omega), if_neg (by omega), if_pos (by omega)]; congr 1; omega
theorem gb_z {fh fo fc fs fl : Nat → Int32} {hz mv : Nat} {tu rf : Int32} : va_cpy (cG fh fo fc fs hz mv tu rf) fl 0 (0 * 114) 114 (0 * 114 + 108 + 2) = nI hz := by
  rw [cp_in (by omega)]; rfl
theorem gb_m {fh fo fc fs fl : Nat → Int32} {hz mv : Nat} {tu rf : Int32} : va_cpy (cG fh fo fc fs hz mv tu rf) fl 0 (0 * 114) 114 (0 * 114 + 108 + 2 + 1) = nI mv := by
  rw [cp_in (by omega)]; rfl
/-- the script's cell -/
def pCe (L : Nat) (xs : Nat → Int32) (k : Nat) : Int32 := if k < L then xs k else nI ((7919 * (k + 3)) * (k + 11))
/-- a new game -/
theorem new_II : II (fun _ => (0 : Int32)) (pIn (-1) 36) := fun k hk => Or.inl ⟨by simp [pIn, hk], rfl⟩
theorem new_CC : CC (pIn 1 36) := fun k hk => ⟨1, by omega, by simp [pIn, hk]; rfl⟩
theorem new_ct : pCt (pIn 1 36) = 36 := by decide +kernel
theorem new_be : be (cWo (pIn (-1) 36) (fun _ => (0 : Int32)) (pIn 1 36) 0 0) 36 = 0 := by decide +kernel
theorem new_bd : bd (pDn (fun _ => (0 : Int32))) 12 = 0 := by decide +kernel
theorem JJ_mk {fh fo fc : Nat → Int32} {hz mv od sz6 : Nat} (a : II fh fo) (b : CC fc) (c : hz < 12) (d : mv < 2) (e : od < 6) (f : sz6 < 7) : JJ fh fo fc hz mv od sz6 := ⟨a, b, c, d, e, f⟩
theorem told_ok (fh : Nat → Int32) (q : Nat) : (10 : Int32) + upd fh q (fh q + 1) q = 11 + fh q := by
  rw [upd_at, Int32.add_comm (fh q) 1, ← Int32.add_assoc]; rfl
theorem pSt_1 (hz : Nat) : 1 ≤ pSt hz := by unfold pSt; split <;> (try split) <;> omega
theorem by_c0 {sd : Nat} {r c : Int32} (h0 : sd = 0) (hr : r = 0) : c = pBy sd r c := by simp [pBy, h0, hr]
theorem by_c1 {sd : Nat} {r c : Int32} (h0 : sd = 1) (hr : c = 0) : r = pBy sd r c := by simp [pBy, h0, hr]
theorem by_c2 {sd : Nat} {r c : Int32} (h0 : sd = 2) (hr : r = 0) : -c = pBy sd r c := by simp [pBy, h0, hr]
theorem by_c3 {sd : Nat} {r c : Int32} (h0 : sd = 3) (hr : c = 0) : -r = pBy sd r c := by simp [pBy, h0, hr]
theorem by_n {sd : Nat} {r c : Int32} (h0 : ¬ (sd = 0 ∧ r = 0)) (h1 : ¬ (sd = 1 ∧ c = 0)) (h2 : ¬ (sd = 2 ∧ r = 0)) (h3 : ¬ (sd = 3 ∧ c = 0)) : 0 = pBy sd r c := by
  unfold pBy; rw [if_neg h0, if_neg h1, if_neg h2, if_neg h3]
theorem ap_lo {n : Nat} (h : 33 ≤ n) (h2 : n < 200) : (33 : Int32) ≤ nI n := (nI_leI (a := 33) (by omega) (by omega)).mpr h
theorem ap_hi {n : Nat} (h : n ≤ 126) : nI n ≤ 126 := (nI_leI (b := 126) (by omega) (by omega)).mpr h
theorem fx_wh {fx : Nat → Int32} {f h : Nat} (hf : f < 36) (h1 : 1 ≤ h) (h9 : h ≤ 9) : pWh (FX fx f h) 4 = true :=
  tx_wh hf h1 h9 (FX_0 fx f h).1 (FX_0 fx f h).2.1 (FX_0 fx f h).2.2.1 (FX_0 fx f h).2.2.2
theorem lo_o {fo fx : Nat → Int32} {f h : Nat} {x : Int32} (hf : f < 36) : cLo cEo (upd fo f x) (FX fx f h) ((4 + 1) / 5) = upd fo f 0 := by
  rw [show (4 + 1) / 5 = 1 from rfl, ld_o hf (FX_0 fx f h).1 (FX_0 fx f h).2.1 (FX_0 fx f h).2.2.1, upd_upd]
theorem lo_h {fh fx : Nat → Int32} {f h : Nat} {x : Int32} (hf : f < 36) : cLo cEh (upd fh f x) (FX fx f h) ((4 + 1) / 5) = upd fh f (nI h) := by
  rw [show (4 + 1) / 5 = 1 from rfl, ld_h hf (FX_0 fx f h).1 (FX_0 fx f h).2.1 (FX_0 fx f h).2.2.1 (FX_0 fx f h).2.2.2, upd_upd]
theorem lo_c {fc fx : Nat → Int32} {f h : Nat} : cLo cEc fc (FX fx f h) ((4 + 1) / 5) = fc := ld_c (FX_0 fx f h).2.2.1
theorem gk_1 (fk : Nat → Int32) : ¬ upd fk 0 1 0 = 0 := by rw [upd_at]; decide
theorem gb_ow {fh fo fc fs fl g : Nat → Int32} {hz mv : Nat} {tu rf : Int32} : nI (pOw (va_cpy (va_cpy (cG fh fo fc fs hz mv tu rf) fl 0 (0 * 114) 114) g (0 * 114 + 36) 0 36) 0 + pOw (va_cpy (va_cpy (cG fh fo fc fs hz mv tu rf) fl 0 (0 * 114) 114) g (0 * 114 + 36) 0 36) 1) = nI (pOw fo 0 + pOw fo 1) := by
  have h : ∀ pl, pOw (va_cpy (va_cpy (cG fh fo fc fs hz mv tu rf) fl 0 (0 * 114) 114) g (0 * 114 + 36) 0 36) pl = pOw fo pl := fun pl => pOw_c (fun k hk => gb_o hk) pl
  rw [h, h]
theorem nI_nm {n : Nat} (h : n < 2 ^ 31) : ¬ nI n = -1 := fun z => by
  have z2 := congrArg Int32.toInt z
  rw [nI_toInt h, show ((-1 : Int32)).toInt = -1 by decide] at z2
  omega
theorem sn_f {fh : Nat → Int32} {q hz : Nat} (h : pSn fh q hz = 0) : pDk fh q hz = false := by
  cases hp : pDk fh q hz with
  | false => rfl
  | true => have := sn_dk.mpr hp; omega
