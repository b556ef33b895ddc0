/-! pure words: the sun, the squares toward it, counts and sums -/
def pT (sd q d : Nat) : Nat := match sd with
  | 0 => q + d
  | 1 => q + 6 * d
  | 2 => q - d
  | _ => q - 6 * d
def pR (sd q : Nat) : Nat := match sd with
  | 0 => 5 - q % 6
  | 1 => 5 - q / 6
  | 2 => q % 6
  | _ => q / 6
def pSt (hr : Nat) : Nat := if hr % 3 = 0 then 1 else if hr % 3 = 1 then 3 else 2
def pStep (sd : Nat) : Int32 := match sd with
  | 0 => 1
  | 1 => 6
  | 2 => -1
  | _ => -6
theorem pT_ok : ∀ sd, sd < 4 → ∀ q, q < 36 → ∀ d, d < pR sd q + 1 → nI q + nI d * pStep sd = nI (pT sd q d) ∧ pT sd q d < 36 := by decide +kernel
theorem pR_le : ∀ sd, sd < 4 → ∀ q, q < 36 → pR sd q ≤ 5 := by decide +kernel
theorem pSt_le (hr : Nat) : pSt hr ≤ 3 := by unfold pSt; split <;> (try split) <;> omega
theorem pSd_lt {hr : Nat} (h : hr < 12) : hr / 3 < 4 := by omega
/-- any, count, first, sum -/
def an (P : Nat → Bool) : Nat → Bool
  | 0 => false
  | n + 1 => an P n || P n
def cn (P : Nat → Bool) : Nat → Nat
  | 0 => 0
  | n + 1 => cn P n + (if P n then 1 else 0)
def fd (P : Nat → Bool) : Nat → Nat
  | 0 => 0
  | n + 1 => if fd P n = 0 then (if P n then n + 1 else 0) else fd P n
def sm (f : Nat → Int32) : Nat → Int32
  | 0 => 0
  | n + 1 => sm f n + f n
def om (f : Nat → Int32) : Nat → Int32
  | 0 => 0
  | n + 1 => om f n ||| f n
theorem an_t {P : Nat → Bool} {i N : Nat} (h : P i = true) (hi : i < N) : an P N = true := by
  induction N with
  | zero => omega
  | succ n ih =>
    by_cases hn : i = n
    · subst hn; simp [an, h]
    · simp [an, ih (by omega)]
theorem an_f {P : Nat → Bool} {N : Nat} (h : an P N = false) : ∀ i, i < N → P i = false := by
  intro i hi
  cases hp : P i with
  | false => rfl
  | true => rw [an_t hp hi] at h; cases h
theorem an_iff {P : Nat → Bool} {N : Nat} : an P N = true ↔ ∃ i, i < N ∧ P i = true := by
  constructor
  · intro h
    induction N with
    | zero => cases h
    | succ n ih =>
      simp only [an, Bool.or_eq_true] at h
      rcases h with h | h
      · obtain ⟨i, h1, h2⟩ := ih h
        exact ⟨i, by omega, h2⟩
      · exact ⟨n, by omega, h⟩
  · rintro ⟨i, h1, h2⟩; exact an_t h2 h1
theorem an_congr {P P' : Nat → Bool} {N : Nat} (h : ∀ i, i < N → P i = P' i) : an P N = an P' N := by
  induction N with
  | zero => rfl
  | succ n ih => simp [an, ih (fun i hi => h i (by omega)), h n (by omega)]
theorem cn_congr {P P' : Nat → Bool} {N : Nat} (h : ∀ i, i < N → P i = P' i) : cn P N = cn P' N := by
  induction N with
  | zero => rfl
  | succ n ih => simp [cn, ih (fun i hi => h i (by omega)), h n (by omega)]
theorem fd_congr {P P' : Nat → Bool} {N : Nat} (h : ∀ i, i < N → P i = P' i) : fd P N = fd P' N := by
  induction N with
  | zero => rfl
  | succ n ih => simp [fd, ih (fun i hi => h i (by omega)), h n (by omega)]
theorem sm_congr {f g : Nat → Int32} {N : Nat} (h : ∀ i, i < N → f i = g i) : sm f N = sm g N := by
  induction N with
  | zero => rfl
  | succ n ih => simp [sm, ih (fun i hi => h i (by omega)), h n (by omega)]
theorem om_congr {f g : Nat → Int32} {N : Nat} (h : ∀ i, i < N → f i = g i) : om f N = om g N := by
  induction N with
  | zero => rfl
  | succ n ih => simp [om, ih (fun i hi => h i (by omega)), h n (by omega)]
theorem cn_le (P : Nat → Bool) (N : Nat) : cn P N ≤ N := by
  induction N with
  | zero => exact Nat.le_refl _
  | succ n ih => simp only [cn]; split <;> omega
theorem cn_an (P : Nat → Bool) (N : Nat) : 0 < cn P N ↔ an P N = true := by
  induction N with
  | zero => simp [cn, an]
  | succ n ih =>
    simp only [cn, an, Bool.or_eq_true, ← ih]
    cases hp : P n <;> simp
theorem cn_an' (P : Nat → Bool) (N : Nat) : decide (0 < cn P N) = an P N := by
  rw [Bool.eq_iff_iff, decide_eq_true_iff]; exact cn_an P N
theorem cn_t {P : Nat → Bool} {i : Nat} (h : P i = true) : cn P (i + 1) = cn P i + 1 := by simp [cn, h]
theorem cn_f {P : Nat → Bool} {i : Nat} (h : P i = false) : cn P (i + 1) = cn P i := by simp [cn, h]
theorem fd_none {P : Nat → Bool} {i : Nat} (h0 : fd P i = 0) (h : P i = false) : fd P (i + 1) = 0 := by simp [fd, h0, h]
theorem fd_hit {P : Nat → Bool} {i N : Nat} (h0 : fd P i = 0) (h : P i = true) (hi : i < N) : fd P N = i + 1 := by
  induction N with
  | zero => omega
  | succ n ih =>
    by_cases hn : i = n
    · subst hn; simp [fd, h0, h]
    · simp [fd, ih (by omega)]
theorem fd_pos {P : Nat → Bool} {N : Nat} (h : 0 < fd P N) : fd P N ≤ N ∧ P (fd P N - 1) = true := by
  induction N with
  | zero => simp [fd] at h
  | succ n ih =>
    by_cases h0 : fd P n = 0
    · by_cases hp : P n = true
      · have e1 : fd P (n + 1) = n + 1 := by simp [fd, h0, hp]
        rw [e1]; exact ⟨Nat.le_refl _, by simpa using hp⟩
      · have hp' : P n = false := by simpa using hp
        rw [fd_none h0 hp'] at h; omega
    · have e1 : fd P (n + 1) = fd P n := by simp [fd, h0]
      rw [e1] at h ⊢
      have := ih h
      exact ⟨by omega, this.2⟩
theorem fd_zero {P : Nat → Bool} {N : Nat} (h : fd P N = 0) : ∀ i, i < N → P i = false := by
  induction N with
  | zero => intro i hi; omega
  | succ n ih =>
    intro i hi
    by_cases h0 : fd P n = 0
    · by_cases hn : i = n
      · subst hn
        cases hp : P i with
        | false => rfl
        | true => rw [show fd P (i + 1) = i + 1 by simp [fd, h0, hp]] at h; omega
      · exact ih h0 i (by omega)
    · exact absurd (show fd P (n + 1) = fd P n by simp [fd, h0]) (by omega)
/-- a tower on a shades b at the distance d -/
def pSh (fh : Nat → Int32) (st a b d : Nat) : Bool := !decide (fh a - nI (d * st) ≤ fh b)
theorem pSh_t {fh : Nat → Int32} {st a b d : Nat} (h : ¬ fh a - nI (d * st) ≤ fh b) : pSh fh st a b d = true := by simp [pSh, h]
theorem pSh_f {fh : Nat → Int32} {st a b d : Nat} (h : fh a - nI (d * st) ≤ fh b) : pSh fh st a b d = false := by simp [pSh, h]
/-- the i-th square toward the sun shades q -/
def pSi (fh : Nat → Int32) (q hr i : Nat) : Bool := pSh fh (pSt hr) (pT (hr / 3) q (i + 1)) q (i + 1)
def pDk (fh : Nat → Int32) (q hr : Nat) : Bool := an (pSi fh q hr) (pR (hr / 3) q)
def pDi (sd q f : Nat) : Nat := fd (fun i => decide (pT sd q (i + 1) = f)) (pR sd q)
theorem pSi_t {fh : Nat → Int32} {q hz i : Nat} (h : ¬ fh (pT (hz / 3) q (i + 1)) - nI ((i + 1) * pSt hz) ≤ fh q) : pSi fh q hz i = true := pSh_t h
theorem pSi_f {fh : Nat → Int32} {q hz i : Nat} (h : fh (pT (hz / 3) q (i + 1)) - nI ((i + 1) * pSt hz) ≤ fh q) : pSi fh q hz i = false := pSh_f h
/-- behind a square, away from the sun -/
theorem pB_ok : ∀ sd, sd < 4 → ∀ q, q < 36 → ∀ d, d < 5 - pR sd q + 1 → nI q - nI d * pStep sd = nI (pT ((sd + 2) % 4) q d) ∧ pT ((sd + 2) % 4) q d < 36 := by decide +kernel
def pSw (fh : Nat → Int32) (st sd q : Nat) : Nat → Int32
  | 0 => 0
  | i + 1 => (if pSw fh st sd q i < fh (pT sd q (pR sd q - i)) then fh (pT sd q (pR sd q - i)) else pSw fh st sd q i) - nI st
def pDs (fh : Nat → Int32) (q hz : Nat) : Bool := !decide (pSw fh (pSt hz) (hz / 3) q (pR (hz / 3) q) ≤ fh q)
def pTs (fo fh : Nat → Int32) (pl q hz i : Nat) : Bool := decide (fo (pT (hz / 3) q (i + 1)) = nI pl) && pSi fh q hz i
def pTn (fo fh : Nat → Int32) (pl q hz : Nat) : Nat := cn (pTs fo fh pl q hz) (pR (hz / 3) q)
def pBi (fh : Nat → Int32) (q hz i : Nat) : Bool := pSh fh (pSt hz) q (pT ((hz / 3 + 2) % 4) q (i + 1)) (i + 1)
def pBn (fh : Nat → Int32) (q hz : Nat) : Nat := cn (pBi fh q hz) (5 - pR (hz / 3) q)
def pMk (fh : Nat → Int32) (q : Nat) : Int32 := om (fun k => if pDk fh q k then (1 : Int32) <<< (nI k &&& 31) else 0) 12
def pDn (fh : Nat → Int32) (hz : Nat) : Nat := cn (fun k => pDk fh k hz) 36
/-- a player's towers, their heights, the dark ones, the pay, the rivals in their shade -/
def pOw (fo : Nat → Int32) (pl : Nat) : Nat := cn (fun k => decide (fo k = nI pl)) 36
def pHs (fo fh : Nat → Int32) (pl : Nat) : Int32 := sm (fun k => if fo k = nI pl then fh k else 0) 36
def pOd (fo fh : Nat → Int32) (hz pl : Nat) : Nat := cn (fun k => decide (fo k = nI pl) && pDk fh k hz) 36
def pPy (fo fh fc : Nat → Int32) (hz pl : Nat) : Int32 := sm (fun k => if fo k = nI pl ∧ pDk fh k hz = false then fc k else 0) 36
def pRv (fo fh : Nat → Int32) (hz pl : Nat) : Nat := cn (fun k => decide (fo k = nI (1 - pl)) && decide (0 < pTn fo fh pl k hz)) 36
def pCt (fc : Nat → Int32) : Int32 := sm fc 36
def pRe (fo fh : Nat → Int32) (hz mv q : Nat) : Nat := if fo q = nI (1 - mv) then 1 else if fh q = 9 then 2 else if pDk fh q hz then 3 else 0
theorem pTn_le {fo fh : Nat → Int32} {pl q hz : Nat} (hq : q < 36) (hhz : hz < 12) : pTn fo fh pl q hz ≤ 5 := Nat.le_trans (cn_le _ _) (pR_le _ (by omega) q hq)
theorem nI_le0 {x : Nat} (h : x < 2 ^ 31) : nI x ≤ 0 ↔ ¬ 0 < x := by
  rw [show (0 : Int32) = nI 0 from rfl, nI_leI h (by decide)]; omega
theorem nI_gt0 {x : Nat} (h : x < 2 ^ 31) : 0 < nI x ↔ 0 < x := by
  rw [show (0 : Int32) = nI 0 from rfl, nI_ltI (by decide) h]
/-- texts -/
def pLd (m : Int32) : Int32 := if m = 61 then 48 else 49
def pFt (fx : Nat → Int32) (i : Nat) : Bool :=
  if i % 5 = 0 then decide (97 ≤ fx i) && decide (fx i ≤ 102)
  else if i % 5 = 1 then decide (49 ≤ fx i) && decide (fx i ≤ 54)
  else if i % 5 = 2 then (decide (fx i = 43) || (decide (fx i = 45) || decide (fx i = 61)))
  else if i % 5 = 3 then decide (pLd (fx (i - 1)) ≤ fx i) && decide (fx i ≤ 57)
  else decide (fx i = 59)
def pEr (fx : Nat → Int32) (ln : Nat) : Nat := if fd (fun i => !pFt fx i) ln = 0 then ln else fd (fun i => !pFt fx i) ln - 1
theorem pEr_le (fx : Nat → Int32) (ln : Nat) : pEr fx ln ≤ ln := by
  unfold pEr
  split
  · exact Nat.le_refl _
  · have := fd_pos (P := fun i => !pFt fx i) (N := ln) (by omega)
    omega
def pWh (fx : Nat → Int32) (ln : Nat) : Bool := decide (ln % 5 = 4) && decide (pEr fx ln = ln)
def pSqI (fx : Nat → Int32) (e : Nat) : Int32 := ((fx (e * 5) - 97) * 6 + fx (e * 5 + 1)) - 49
/-- the reference's words -/
def pBs (sd q : Nat) : Int32 := if 0 < pR sd q then nI (pT sd q 1) else -1
def pKs (sd q i : Nat) : Int32 := if i < pR sd q then nI (pT sd q (i + 1)) else -1
theorem pT_0 (sd q : Nat) : pT sd q 0 = q := by unfold pT; split <;> rfl
theorem pBs_T : ∀ sd, sd < 4 → ∀ q, q < 36 → ∀ i, i < pR sd q + 1 → pBs sd (pT sd q i) = pKs sd q i := by decide +kernel
theorem pBk : ∀ sd, sd < 4 → ∀ q, q < 36 → ∀ i, i < pR sd q → pBs ((sd + 2) % 4) (pT sd q (i + 1)) = nI (pT sd q i) := by decide +kernel
theorem pDi_T : ∀ sd, sd < 4 → ∀ q, q < 36 → ∀ i, i < pR sd q → pDi sd q (pT sd q (i + 1)) = i + 1 := by decide +kernel
theorem pT_q : ∀ sd, sd < 4 → ∀ q, q < 36 → ∀ d, d < pR sd q + 1 → (pT sd q d = q ↔ d = 0) := by decide +kernel
theorem pT_lt {sd q d : Nat} (h1 : sd < 4) (h2 : q < 36) (h3 : d < pR sd q + 1) : pT sd q d < 36 := (pT_ok sd h1 q h2 d h3).2
theorem pKs_at {sd q i : Nat} (h : i < pR sd q) : pKs sd q i = nI (pT sd q (i + 1)) := if_pos h
theorem pKs_ge {sd q i : Nat} (h1 : sd < 4) (h2 : q < 36) : 0 ≤ pKs sd q i ↔ i < pR sd q := by
  by_cases h : i < pR sd q
  · have h3 := pT_lt h1 h2 (show i + 1 < pR sd q + 1 by omega)
    simp only [pKs, h, if_true, iff_true]
    exact nI_pos' (by omega)
  · simp only [pKs, h, if_false, iff_false]; decide
theorem pKs_lt {sd q i : Nat} (h1 : sd < 4) (h2 : q < 36) : pKs sd q i < 0 ↔ ¬ i < pR sd q := by
  rw [← pKs_ge h1 h2, Int32.not_le]
theorem pDi_le {sd q f : Nat} (h1 : sd < 4) (h2 : q < 36) : pDi sd q f ≤ 5 := by
  by_cases h : 0 < pDi sd q f
  · exact Nat.le_trans (fd_pos h).1 (pR_le sd h1 q h2)
  · omega
def pShM (gs : Nat → Int32) (P f q hz : Nat) : Bool := decide (0 < pDi (hz / 3) q f) && !decide (gs (P + 0 + f) - nI (pDi (hz / 3) q f * pSt hz) ≤ gs (P + 0 + q))
theorem pShM_eq {gs : Nat → Int32} {P q hz i : Nat} (hq : q < 36) (hhz : hz < 12) (hi : i < pR (hz / 3) q) : pShM gs P (pT (hz / 3) q (i + 1)) q hz = pSi (fun k => gs (P + 0 + k)) q hz i := by
  simp [pShM, pSi, pSh, pDi_T (hz / 3) (by omega) q hq i hi]
def pSn (fh : Nat → Int32) (q hz : Nat) : Nat := cn (pSi fh q hz) (pR (hz / 3) q)
theorem pSn_le {fh : Nat → Int32} {q hz : Nat} (hq : q < 36) (hhz : hz < 12) : pSn fh q hz ≤ 5 := Nat.le_trans (cn_le _ _) (pR_le _ (by omega) q hq)
theorem pSn_dk {fh : Nat → Int32} {q hz : Nat} (hq : q < 36) (hhz : hz < 12) : nI (pSn fh q hz) ≤ 0 ↔ pDk fh q hz = false := by
  have h1 := pSn_le (fh := fh) hq hhz
  rw [nI_le0 (by omega), pSn, cn_an, pDk]; simp
def pSB (gs : Nat → Int32) (q hz : Nat) : Nat := cn (fun k => !decide (gs (36 + q) ≤ 0) && pShM gs 0 q k hz) 36
def pPM (gs : Nat → Int32) (P hz pl : Nat) : Int32 := sm (fun k => if gs (P + 36 + k) = nI (pl + 1) ∧ pDk (fun j => gs (P + 0 + j)) k hz = false then gs (P + 72 + k) else 0) 36
def pRM (gs : Nat → Int32) (hz mv q : Nat) : Nat := if ¬ gs (36 + q) ≤ 0 ∧ ¬ gs (36 + q) = nI (mv + 1) then 1 else if gs (0 + q) = 9 then 2 else if pDk (fun k => gs (0 + 0 + k)) q hz then 3 else 0
def pTM (gs : Nat → Int32) (pl : Nat) : Nat := cn (fun k => decide (gs (36 + k) = nI (pl + 1))) 36
def pSqM (gs : Nat → Int32) (hz q wh : Nat) : Int32 := match wh with
  | 0 => gs (0 + q)
  | 1 => gs (36 + q) - 1
  | 2 => gs (72 + q)
  | 3 => zb (pDk (fun k => gs (0 + 0 + k)) q hz)
  | 4 => zb (pDs (fun k => gs (0 + k)) q hz)
  | 5 => nI (pSn (fun k => gs (0 + 0 + k)) q hz)
  | 6 => nI (pSB gs q hz)
  | _ => pMk (fun k => gs (0 + 0 + k)) q
def pISf (gs : Nat → Int32) (hz pl q k : Nat) : Bool := decide (gs (36 + k) = nI (pl + 1)) && pShM gs 0 k q hz
def pIS (gs : Nat → Int32) (hz pl q : Nat) : Bool := an (pISf gs hz pl q) 36
def pOTf (gs : Nat → Int32) (hz pl wh k : Nat) : Int32 := match wh with
  | 2 => if gs (36 + k) = nI (pl + 1) then gs (0 + k) else 0
  | 3 => zb (decide (gs (36 + k) = nI (pl + 1)) && pDk (fun k => gs (0 + 0 + k)) k hz)
  | _ => zb (decide (gs (36 + k) = nI (2 - pl)) && pIS gs hz pl k)
def pPlM (gs : Nat → Int32) (hz pl wh : Nat) : Int32 := match wh with
  | 0 => gs (112 + pl)
  | 1 => nI (pTM gs pl)
  | 4 => pPM gs 0 hz pl
  | w => sm (pOTf gs hz pl w) 36
def pCoM (gs : Nat → Int32) (kn hz wh : Nat) : Int32 := match wh with
  | 0 => gs 108
  | 1 => nI (hz / 3)
  | 2 => nI (pSt hz)
  | 3 => gs 109
  | 4 => gs 110
  | 5 => nI (pDn (fun k => gs (0 + 0 + k)) hz)
  | 6 => nI (pTM gs 0 + pTM gs 1)
  | 7 => sm (fun k => gs (72 + k)) 36
  | 8 => gs 111
  | _ => nI kn
def pLeM (gs : Nat → Int32) (hz f q : Nat) : Int32 := if pDi (hz / 3) q f = 0 ∨ ¬ gs (0 + q) + nI (pDi (hz / 3) q f * pSt hz) + 1 ≤ 9 then -1 else gs (0 + q) + nI (pDi (hz / 3) q f * pSt hz) + 1
def bd (d : Nat → Nat) : Nat → Nat
  | 0 => 0
  | n + 1 => if d (bd d n) < d n then n else bd d n
theorem bd_le (d : Nat → Nat) (n : Nat) : bd d n ≤ n := by
  induction n with
  | zero => exact Nat.le_refl _
  | succ n ih => simp only [bd]; split <;> omega
theorem bd_1 (d : Nat → Nat) : bd d 1 = 0 := by simp [bd]
theorem bd_congr {d d' : Nat → Nat} {n : Nat} (h : ∀ i, i < n → d i = d' i) : bd d n = bd d' n := by
  induction n with
  | zero => rfl
  | succ n ih =>
    have e1 := ih (fun i hi => h i (by omega))
    have h0 := bd_le d' n
    simp only [bd, e1, h n (by omega)]
    by_cases h2 : bd d' n < n + 1
    · rw [h _ h2]
    · omega
theorem pDn_le (fh : Nat → Int32) (hz : Nat) : pDn fh hz ≤ 36 := cn_le _ _
theorem pOw_le (fo : Nat → Int32) (pl : Nat) : pOw fo pl ≤ 36 := cn_le _ _
