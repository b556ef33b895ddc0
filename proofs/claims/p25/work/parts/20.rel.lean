/-! what the reference's row and the class's rows have in common -/
def RR (gs fh fo fc fs : Nat → Int32) (hz mv : Nat) (tu rf : Int32) : Prop := (∀ k, k < 36 → gs k = fh k ∧ gs (36 + k) = fo k + 1 ∧ gs (72 + k) = fc k) ∧ gs 108 = nI hz ∧ gs 109 = nI mv ∧ gs 110 = tu ∧ gs 111 = rf ∧ gs 112 = fs 0 ∧ gs 113 = fs 1
/-- without a tower no owner and no height; with one an owner and 1 to 9 -/
def II (fh fo : Nat → Int32) : Prop := ∀ k, k < 36 → (fo k = -1 ∧ fh k = 0) ∨ ((fo k = 0 ∨ fo k = 1) ∧ ∃ n, 1 ≤ n ∧ n ≤ 9 ∧ fh k = nI n)
theorem II_n {fh fo : Nat → Int32} (h : II fh fo) {k : Nat} (hk : k < 36) : ∃ n, n ≤ 9 ∧ fh k = nI n := by
  rcases h k hk with h | ⟨-, n, h1, h2, h3⟩
  · exact ⟨0, by omega, h.2⟩
  · exact ⟨n, h2, h3⟩
theorem ow1 {x : Int32} {n : Nat} : x + 1 = nI (n + 1) ↔ x = nI n := by
  rw [nI_succ]
  constructor
  · intro h
    have h2 : x + 1 - 1 = nI n + 1 - 1 := by rw [h]
    simpa using h2
  · intro h; rw [h]
theorem pSi_c {f g : Nat → Int32} (h : ∀ k, k < 36 → f k = g k) {q hz i : Nat} (hq : q < 36) (hhz : hz < 12) (hi : i < pR (hz / 3) q) : pSi f q hz i = pSi g q hz i := by
  simp only [pSi, pSh]
  rw [h q hq, h _ (pT_lt (by omega) hq (by omega))]
theorem pDk_c {f g : Nat → Int32} (h : ∀ k, k < 36 → f k = g k) {q hz : Nat} (hq : q < 36) (hhz : hz < 12) : pDk f q hz = pDk g q hz := an_congr fun _ hi => pSi_c h hq hhz hi
theorem pSn_c {f g : Nat → Int32} (h : ∀ k, k < 36 → f k = g k) {q hz : Nat} (hq : q < 36) (hhz : hz < 12) : pSn f q hz = pSn g q hz := cn_congr fun _ hi => pSi_c h hq hhz hi
theorem pSw_c {f g : Nat → Int32} (h : ∀ k, k < 36 → f k = g k) {sd q st : Nat} (hs : sd < 4) (hq : q < 36) : ∀ i, i ≤ pR sd q → pSw f st sd q i = pSw g st sd q i := by
  intro i
  induction i with
  | zero => intro _; rfl
  | succ i ih =>
    intro hi
    simp only [pSw]
    rw [ih (by omega), h _ (pT_lt hs hq (by omega))]
theorem pDs_c {f g : Nat → Int32} (h : ∀ k, k < 36 → f k = g k) {q hz : Nat} (hq : q < 36) (hhz : hz < 12) : pDs f q hz = pDs g q hz := by
  simp only [pDs]
  rw [pSw_c h (by omega) hq _ (Nat.le_refl _), h q hq]
theorem pMk_c {f g : Nat → Int32} (h : ∀ k, k < 36 → f k = g k) {q : Nat} (hq : q < 36) : pMk f q = pMk g q := om_congr fun i hi => by
  show (if pDk f q i then _ else _) = (if pDk g q i then _ else _)
  rw [pDk_c h hq hi]
theorem pDn_c {f g : Nat → Int32} (h : ∀ k, k < 36 → f k = g k) {hz : Nat} (hhz : hz < 12) : pDn f hz = pDn g hz := cn_congr fun i hi => pDk_c h hi hhz
theorem pPM_g {g fo fh fc : Nat → Int32} {P hz pl : Nat} (h : ∀ k, k < 36 → g (P + 0 + k) = fh k ∧ g (P + 36 + k) = fo k + 1 ∧ g (P + 72 + k) = fc k) (hhz : hz < 12) : pPM g P hz pl = pPy fo fh fc hz pl := sm_congr fun k hk => by
  obtain ⟨h1, h2, h3⟩ := h k hk
  show (if g (P + 36 + k) = nI (pl + 1) ∧ pDk (fun j => g (P + 0 + j)) k hz = false then g (P + 72 + k) else 0) = (if fo k = nI pl ∧ pDk fh k hz = false then fc k else 0)
  rw [h2, h3, pDk_c (g := fh) (fun j hj => (h j hj).1) hk hhz]
  simp only [ow1]
section REL
variable {gs fh fo fc fs : Nat → Int32} {hz mv : Nat} {tu rf : Int32}
theorem r_h (h : RR gs fh fo fc fs hz mv tu rf) : ∀ k, k < 36 → (fun k => gs (0 + 0 + k)) k = fh k := fun k hk => by
  show gs (0 + 0 + k) = fh k
  rw [show 0 + 0 + k = k by omega]; exact (h.1 k hk).1
theorem r_h0 (h : RR gs fh fo fc fs hz mv tu rf) : ∀ k, k < 36 → (fun k => gs (0 + k)) k = fh k := fun k hk => by
  show gs (0 + k) = fh k
  rw [show 0 + k = k by omega]; exact (h.1 k hk).1
theorem r_0 (h : RR gs fh fo fc fs hz mv tu rf) {k : Nat} (hk : k < 36) : gs (0 + k) = fh k := r_h0 h k hk
theorem r_Dk (h : RR gs fh fo fc fs hz mv tu rf) {q hu : Nat} (hq : q < 36) (hhu : hu < 12) : pDk (fun k => gs (0 + 0 + k)) q hu = pDk fh q hu := pDk_c (r_h h) hq hhu
theorem r_Ow (h : RR gs fh fo fc fs hz mv tu rf) (pl : Nat) : pTM gs pl = pOw fo pl := cn_congr fun k hk => by
  show decide (gs (36 + k) = nI (pl + 1)) = decide (fo k = nI pl)
  rw [(h.1 k hk).2.1, decide_eq_decide]; exact ow1
theorem r_Py (h : RR gs fh fo fc fs hz mv tu rf) (hhz : hz < 12) (pl : Nat) : pPM gs 0 hz pl = pPy fo fh fc hz pl := pPM_g (fun k hk => by
  have h1 := h.1 k hk
  rw [show 0 + 0 + k = k by omega, show 0 + 36 + k = 36 + k by omega, show 0 + 72 + k = 72 + k by omega]; exact h1) hhz
theorem r_Re (h : RR gs fh fo fc fs hz mv tu rf) (hi : II fh fo) (hhz : hz < 12) (hmv : mv < 2) {q : Nat} (hq : q < 36) : pRM gs hz mv q = pRe fo fh hz mv q := by
  have e1 : gs (36 + q) = fo q + 1 := (h.1 q hq).2.1
  have e2 := r_0 h hq
  have e3 := r_Dk h hq hhz
  have key : (¬ gs (36 + q) ≤ 0 ∧ ¬ gs (36 + q) = nI (mv + 1)) ↔ fo q = nI (1 - mv) := by
    rw [e1]
    rcases hi q hq with ⟨ho, -⟩ | ⟨ho | ho, -⟩ <;> rcases (show mv = 0 ∨ mv = 1 by omega) with rfl | rfl <;> rw [ho] <;> decide
  unfold pRM pRe
  rw [e2, e3]
  by_cases hk : fo q = nI (1 - mv)
  · rw [if_pos (key.mpr hk), if_pos hk]
  · rw [if_neg (fun z => hk (key.mp z)), if_neg hk]
theorem r_up {x : Int32} {k q : Nat} : upd fo q x k + 1 = upd (fun k => fo k + 1) q (x + 1) k := by
  simp only [upd]; split <;> rfl
theorem r_Rs (h : RR gs fh fo fc fs hz mv tu rf) {q : Nat} (hq : q < 36) : ∀ k, k < 36 → pRs gs 0 q (0 + 0 + k) = upd fh q (fh q + 1) k ∧ pRs gs 0 q (0 + 36 + k) = upd fo q (nI mv) k + 1 ∧ pRs gs 0 q (0 + 72 + k) = fc k := by
  intro k hk
  have h1 := h.1 k hk
  have h2 := h.1 q hq
  refine ⟨?_, ?_, ?_⟩
  · simp only [pRs, upd]
    by_cases hkq : k = q
    · subst hkq; rw [if_pos (by omega), if_pos rfl, show 0 + 0 + k = k by omega, h1.1]
    · rw [if_neg (by omega), if_neg (by omega), if_neg hkq, show 0 + 0 + k = k by omega]; exact h1.1
  · simp only [pRs, upd]
    by_cases hkq : k = q
    · subst hkq; rw [if_neg (by omega), if_pos (by omega), if_pos rfl, show 0 + 109 = 109 from rfl, h.2.2.1]
    · rw [if_neg (by omega), if_neg (by omega), if_neg hkq, show 0 + 36 + k = 36 + k by omega]; exact h1.2.1
  · rw [pRs_hi 0 hq (by omega), show 0 + 72 + k = 72 + k by omega]; exact h1.2.2
theorem r_RsC (h : RR gs fh fo fc fs hz mv tu rf) {q : Nat} (hq : q < 36) : ∀ k, k < 36 → pRs (pCo gs) 114 q (114 + 0 + k) = upd fh q (fh q + 1) k ∧ pRs (pCo gs) 114 q (114 + 36 + k) = upd fo q (nI mv) k + 1 ∧ pRs (pCo gs) 114 q (114 + 72 + k) = fc k := by
  intro k hk
  have h1 := h.1 k hk
  have h2 := h.1 q hq
  have a0 : ∀ j, j < 114 → pCo gs (114 + j) = gs j := fun j hj => pCo_hi hj
  refine ⟨?_, ?_, ?_⟩
  · simp only [pRs, upd]
    by_cases hkq : k = q
    · subst hkq; rw [if_pos (by omega), if_pos rfl, show 114 + 0 + k = 114 + k by omega, a0 k (by omega), h1.1]
    · rw [if_neg (by omega), if_neg (by omega), if_neg hkq, show 114 + 0 + k = 114 + k by omega, a0 k (by omega)]; exact h1.1
  · simp only [pRs, upd]
    by_cases hkq : k = q
    · subst hkq; rw [if_neg (by omega), if_pos (by omega), if_pos rfl, a0 109 (by omega), h.2.2.1]
    · rw [if_neg (by omega), if_neg (by omega), if_neg hkq, show 114 + 36 + k = 114 + (36 + k) by omega, a0 (36 + k) (by omega)]; exact h1.2.1
  · rw [pRs_hi 114 hq (by omega), show 114 + 72 + k = 114 + (72 + k) by omega, a0 (72 + k) (by omega)]; exact h1.2.2
theorem r_Ga (h : RR gs fh fo fc fs hz mv tu rf) (hi : II fh fo) (hhz : hz < 12) (hmv : mv < 2) {q : Nat} (hq : q < 36) : pGa gs hz mv q = cWo fo fh fc hz mv q := by
  unfold pGa cWo
  rw [r_Re h hi hhz hmv hq, pPM_g (r_RsC h hq) hhz, pPM_g (r_RsC h hq) hhz]
theorem RR_lo {g : Nat → Int32} (h : RR gs fh fo fc fs hz mv tu rf) (hg : ∀ k, k < 114 → g k = gs k) : RR g fh fo fc fs hz mv tu rf :=
  ⟨fun k hk => by rw [hg k (by omega), hg (36 + k) (by omega), hg (72 + k) (by omega)]; exact h.1 k hk, by rw [hg _ (by omega)]; exact h.2.1, by rw [hg _ (by omega)]; exact h.2.2.1, by rw [hg _ (by omega)]; exact h.2.2.2.1, by rw [hg _ (by omega)]; exact h.2.2.2.2.1, by rw [hg _ (by omega)]; exact h.2.2.2.2.2.1, by rw [hg _ (by omega)]; exact h.2.2.2.2.2.2⟩
/-- no tower, no shade -/
theorem no_sh {fh : Nat → Int32} {a b x : Nat} (h0 : fh a = 0) (hx : x ≤ 100) (hb : ∃ n, n ≤ 9 ∧ fh b = nI n) : fh a - nI x ≤ fh b := by
  obtain ⟨n, h1, h2⟩ := hb
  rw [h0, h2, Int32.le_iff_toInt_le, show (0 : Int32) = nI 0 from rfl, pk_sub_toInt (by omega) (by omega), nI_toInt (by omega)]
  omega
theorem pSn_T (hi : II fh fo) {q : Nat} (hq : q < 36) (hhz : hz < 12) : pSn fh q hz = pTn fo fh 0 q hz + pTn fo fh 1 q hz := by
  unfold pSn pTn
  have key : ∀ n, n ≤ pR (hz / 3) q → cn (pSi fh q hz) n = cn (pTs fo fh 0 q hz) n + cn (pTs fo fh 1 q hz) n := by
    intro n
    induction n with
    | zero => intro _; rfl
    | succ n ih =>
      intro hn
      have hT := pT_lt (show hz / 3 < 4 by omega) hq (show n + 1 < pR (hz / 3) q + 1 by omega)
      have hR := pR_le (hz / 3) (by omega) q hq
      have hS := pSt_le hz
      have p0 : pTs fo fh 0 q hz n = (decide (fo (pT (hz / 3) q (n + 1)) = nI 0) && pSi fh q hz n) := rfl
      have p1 : pTs fo fh 1 q hz n = (decide (fo (pT (hz / 3) q (n + 1)) = nI 1) && pSi fh q hz n) := rfl
      rcases hi _ hT with ⟨ho, hh0⟩ | ⟨ho, -⟩
      · have hm : (n + 1) * pSt hz ≤ 100 := Nat.le_trans (Nat.mul_le_mul (show n + 1 ≤ 5 by omega) hS) (by omega)
        have hs : pSi fh q hz n = false := pSi_f (no_sh hh0 hm (II_n hi hq))
        rw [hs, Bool.and_false] at p0 p1
        simp only [cn, ih (by omega), p0, p1, hs]; simp
      · rcases ho with ho | ho
        · rw [ho, show decide ((0 : Int32) = nI 0) = true by decide, Bool.true_and] at p0
          rw [ho, show decide ((0 : Int32) = nI 1) = false by decide, Bool.false_and] at p1
          simp only [cn, ih (by omega), p0, p1]
          cases pSi fh q hz n <;> simp <;> omega
        · rw [ho, show decide ((1 : Int32) = nI 0) = false by decide, Bool.false_and] at p0
          rw [ho, show decide ((1 : Int32) = nI 1) = true by decide, Bool.true_and] at p1
          simp only [cn, ih (by omega), p0, p1]
          cases pSi fh q hz n <;> simp <;> omega
  exact key _ (Nat.le_refl _)
end REL
