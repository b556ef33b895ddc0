/-! the squares behind, by their numbers; the answers of both sides -/
theorem cn_list (P : Nat → Bool) (n : Nat) : cn P n = (List.range n).countP P := by
  induction n with
  | zero => rfl
  | succ n ih => rw [List.range_succ, List.countP_append, cn, ih]; cases h : P n <;> simp [h]
theorem cnt_fm (D : Nat → Nat) (F : Nat → Nat → Bool) : ∀ l : List Nat, l.countP (fun k => decide (0 < D k) && F (D k) k) = (l.filterMap (fun k => if 0 < D k then some (D k, k) else none)).countP (fun p => F p.1 p.2)
  | [] => rfl
  | k :: l => by
    rw [List.filterMap_cons, List.countP_cons, cnt_fm D F l]
    by_cases h : 0 < D k
    · simp [h, List.countP_cons]
    · simp [h]
theorem cnt_mp (f : Nat → Nat × Nat) (G : Nat × Nat → Bool) : ∀ l : List Nat, (l.map f).countP G = l.countP (fun i => G (f i))
  | [] => rfl
  | k :: l => by rw [List.map_cons, List.countP_cons, List.countP_cons, cnt_mp f G l]
theorem cnt_rv {α : Type} (G : α → Bool) : ∀ l : List α, l.reverse.countP G = l.countP G
  | [] => rfl
  | k :: l => by rw [List.reverse_cons, List.countP_append, cnt_rv G l, List.countP_cons, List.countP_cons, List.countP_nil]; omega
theorem bh_list : ∀ sd, sd < 4 → ∀ q, q < 36 →
    ((List.range 36).filterMap (fun k => if 0 < pDi sd k q then some (pDi sd k q, k) else none) = (List.range (5 - pR sd q)).map (fun i => (i + 1, pT ((sd + 2) % 4) q (i + 1))) ∨
     (List.range 36).filterMap (fun k => if 0 < pDi sd k q then some (pDi sd k q, k) else none) = ((List.range (5 - pR sd q)).map (fun i => (i + 1, pT ((sd + 2) % 4) q (i + 1)))).reverse) := by decide +kernel
theorem bh_cn {sd q : Nat} (h1 : sd < 4) (h2 : q < 36) (F : Nat → Nat → Bool) : cn (fun k => decide (0 < pDi sd k q) && F (pDi sd k q) k) 36 = cn (fun i => F (i + 1) (pT ((sd + 2) % 4) q (i + 1))) (5 - pR sd q) := by
  rw [cn_list, cn_list, cnt_fm (fun k => pDi sd k q) F]
  rcases bh_list sd h1 q h2 with h | h
  · rw [h, cnt_mp]
  · rw [h, cnt_rv, cnt_mp]
theorem cn_0 {P : Nat → Bool} {n : Nat} (h : ∀ i, i < n → P i = false) : cn P n = 0 := by
  induction n with
  | zero => rfl
  | succ n ih => rw [cn_f (h n (by omega))]; exact ih (fun i hi => h i (by omega))
theorem sm_zb (P : Nat → Bool) (n : Nat) : sm (fun k => zb (P k)) n = nI (cn P n) := by
  induction n with
  | zero => rfl
  | succ n ih =>
    rw [sm, ih]
    cases h : P n
    · rw [cn_f h]; simp [zb]
    · rw [cn_t h, ← nI_1]; rfl
section REL2
variable {gs fh fo fc fs : Nat → Int32} {hz mv : Nat} {tu rf : Int32}
theorem r_SB (h : RR gs fh fo fc fs hz mv tu rf) (hi : II fh fo) (hhz : hz < 12) {q : Nat} (hq : q < 36) : pSB gs q hz = pBn fh q hz := by
  have h4 : hz / 3 < 4 := by omega
  have hS := pSt_le hz
  unfold pSB pBn
  have e1 : gs (36 + q) = fo q + 1 := (h.1 q hq).2.1
  rcases hi q hq with ⟨ho, hh0⟩ | ⟨ho, -⟩
  · rw [cn_0, cn_0]
    · intro i hi5
      have hR := pR_le _ h4 q hq
      have hB := (pB_ok (hz / 3) h4 q hq (i + 1) (by omega)).2
      have hm : (i + 1) * pSt hz ≤ 100 := Nat.le_trans (Nat.mul_le_mul (show i + 1 ≤ 5 by omega) hS) (by omega)
      exact pSh_f (no_sh hh0 hm (II_n hi hB))
    · intro k _
      rw [e1, ho]; rfl
  · have e2 : ∀ k, k < 36 → (!decide (gs (36 + q) ≤ 0) && pShM gs 0 q k hz) = (decide (0 < pDi (hz / 3) k q) && pSh fh (pSt hz) q k (pDi (hz / 3) k q)) := by
      intro k hk
      have e3 : (!decide (gs (36 + q) ≤ 0)) = true := by
        rw [e1]; rcases ho with ho | ho <;> rw [ho] <;> decide
      rw [e3, Bool.true_and]
      simp only [pShM, pSh]
      rw [show 0 + 0 + q = q by omega, show 0 + 0 + k = k by omega, (h.1 q hq).1, (h.1 k hk).1]
    rw [cn_congr e2]
    exact bh_cn h4 hq (fun d k => pSh fh (pSt hz) q k d)
theorem r_IS (h : RR gs fh fo fc fs hz mv tu rf) (hhz : hz < 12) {q pl : Nat} (hq : q < 36) : pIS gs hz pl q = decide (0 < pTn fo fh pl q hz) := by
  have h4 : hz / 3 < 4 := by omega
  rw [pTn, cn_an']
  rw [Bool.eq_iff_iff, pIS, an_iff, an_iff]
  have e2 : ∀ k, k < 36 → pISf gs hz pl q k = (decide (fo k = nI pl) && (decide (0 < pDi (hz / 3) q k) && pSh fh (pSt hz) k q (pDi (hz / 3) q k))) := by
    intro k hk
    simp only [pISf, pShM, pSh]
    rw [(h.1 k hk).2.1, show 0 + 0 + q = q by omega, show 0 + 0 + k = k by omega, (h.1 q hq).1, (h.1 k hk).1]
    simp only [ow1]
  constructor
  · rintro ⟨k, hk, h1⟩
    rw [e2 k hk, Bool.and_eq_true, Bool.and_eq_true, decide_eq_true_eq, decide_eq_true_eq] at h1
    obtain ⟨ha, hb, hc⟩ := h1
    have h5 := fd_pos (P := fun i => decide (pT (hz / 3) q (i + 1) = k)) (N := pR (hz / 3) q) hb
    have h6 : fd (fun i => decide (pT (hz / 3) q (i + 1) = k)) (pR (hz / 3) q) = pDi (hz / 3) q k := rfl
    rw [h6, decide_eq_true_eq, show pDi (hz / 3) q k - 1 + 1 = pDi (hz / 3) q k by omega] at h5
    refine ⟨pDi (hz / 3) q k - 1, by omega, ?_⟩
    simp only [pTs, pSi]
    rw [show pDi (hz / 3) q k - 1 + 1 = pDi (hz / 3) q k by omega, h5.2, hc]
    simp [ha]
  · rintro ⟨i, hi5, h1⟩
    have hT := pT_lt h4 hq (show i + 1 < pR (hz / 3) q + 1 by omega)
    refine ⟨pT (hz / 3) q (i + 1), hT, ?_⟩
    rw [e2 _ hT, pDi_T (hz / 3) h4 q hq i hi5]
    simp only [pTs, pSi] at h1
    simpa using h1
theorem r_Pl (h : RR gs fh fo fc fs hz mv tu rf) (hhz : hz < 12) {pl wh : Nat} (hpl : pl < 2) (hwh : wh < 6) : pPlM gs hz pl wh = cPl fh fo fc fs hz pl wh := by
  rcases (show wh = 0 ∨ wh = 1 ∨ wh = 2 ∨ wh = 3 ∨ wh = 4 ∨ wh = 5 by omega) with rfl | rfl | rfl | rfl | rfl | rfl
  · show gs (112 + pl) = fs pl
    rcases (show pl = 0 ∨ pl = 1 by omega) with rfl | rfl
    · exact h.2.2.2.2.2.1
    · exact h.2.2.2.2.2.2
  · show nI (pTM gs pl) = nI (pOw fo pl)
    rw [r_Ow h]
  · show sm (pOTf gs hz pl 2) 36 = pHs fo fh pl
    refine sm_congr fun k hk => ?_
    show (if gs (36 + k) = nI (pl + 1) then gs (0 + k) else 0) = (if fo k = nI pl then fh k else 0)
    rw [r_0 h hk, (h.1 k hk).2.1]
    simp only [ow1]
  · show sm (pOTf gs hz pl 3) 36 = nI (pOd fo fh hz pl)
    rw [pOd, ← sm_zb]
    refine sm_congr fun k hk => ?_
    show zb (decide (gs (36 + k) = nI (pl + 1)) && pDk (fun k => gs (0 + 0 + k)) k hz) = zb (decide (fo k = nI pl) && pDk fh k hz)
    rw [r_Dk h hk hhz, (h.1 k hk).2.1]
    simp only [ow1]
  · exact r_Py h hhz pl
  · show sm (pOTf gs hz pl 5) 36 = nI (pRv fo fh hz pl)
    rw [pRv, ← sm_zb]
    refine sm_congr fun k hk => ?_
    show zb (decide (gs (36 + k) = nI (2 - pl)) && pIS gs hz pl k) = zb (decide (fo k = nI (1 - pl)) && decide (0 < pTn fo fh pl k hz))
    rw [r_IS h hhz hk, (h.1 k hk).2.1, show 2 - pl = (1 - pl) + 1 by omega]
    simp only [ow1]
theorem r_Sq (h : RR gs fh fo fc fs hz mv tu rf) (hi : II fh fo) (hhz : hz < 12) {q wh : Nat} (hq : q < 36) (hwh : wh < 8) : pSqM gs hz q wh = cSq fh fo fc hz q wh := by
  rcases (show wh = 0 ∨ wh = 1 ∨ wh = 2 ∨ wh = 3 ∨ wh = 4 ∨ wh = 5 ∨ wh = 6 ∨ wh = 7 by omega) with rfl | rfl | rfl | rfl | rfl | rfl | rfl | rfl
  · exact r_0 h hq
  · show gs (36 + q) - 1 = fo q
    rw [(h.1 q hq).2.1]; simp
  · exact (h.1 q hq).2.2
  · show zb (pDk (fun k => gs (0 + 0 + k)) q hz) = zb (pDk fh q hz)
    rw [r_Dk h hq hhz]
  · show zb (pDs (fun k => gs (0 + k)) q hz) = zb (pDs fh q hz)
    rw [pDs_c (r_h0 h) hq hhz]
  · show nI (pSn (fun k => gs (0 + 0 + k)) q hz) = nI (pTn fo fh 0 q hz + pTn fo fh 1 q hz)
    rw [pSn_c (r_h h) hq hhz, pSn_T hi hq hhz]
  · show nI (pSB gs q hz) = nI (pBn fh q hz)
    rw [r_SB h hi hhz hq]
  · show pMk (fun k => gs (0 + 0 + k)) q = pMk fh q
    exact pMk_c (r_h h) hq
theorem r_Dn (h : RR gs fh fo fc fs hz mv tu rf) {hu : Nat} (hhu : hu < 12) : pDn (fun k => gs (0 + 0 + k)) hu = pDn fh hu := pDn_c (r_h h) hhu
theorem r_Co (h : RR gs fh fo fc fs hz mv tu rf) (hhz : hz < 12) {kn wh : Nat} (hwh : wh < 10) : pCoM gs kn hz wh = cCo fh fo fc hz mv tu rf kn wh := by
  rcases (show wh = 0 ∨ wh = 1 ∨ wh = 2 ∨ wh = 3 ∨ wh = 4 ∨ wh = 5 ∨ wh = 6 ∨ wh = 7 ∨ wh = 8 ∨ wh = 9 by omega) with rfl | rfl | rfl | rfl | rfl | rfl | rfl | rfl | rfl | rfl
  · show gs 108 = nI hz
    exact h.2.1
  · show nI (hz / 3) = nI (hz / 3)
    rfl
  · show nI (pSt hz) = nI (pSt hz)
    rfl
  · show gs 109 = nI mv
    exact h.2.2.1
  · show gs 110 = tu
    exact h.2.2.2.1
  · show nI (pDn (fun k => gs (0 + 0 + k)) hz) = nI (pDn fh hz)
    rw [r_Dn h hhz]
  · show nI (pTM gs 0 + pTM gs 1) = nI (pOw fo 0 + pOw fo 1)
    rw [r_Ow h, r_Ow h]
  · show sm (fun k => gs (72 + k)) 36 = pCt fc
    rw [pCt]
    exact sm_congr fun k hk => (h.1 k hk).2.2
  · show gs 111 = rf
    exact h.2.2.2.2.1
  · show nI kn = nI kn
    rfl
theorem r_Le (h : RR gs fh fo fc fs hz mv tu rf) {f q : Nat} (hq : q < 36) : pLeM gs hz f q = cLe fh hz f q := by
  unfold pLeM cLe
  rw [r_0 h hq]
theorem r_bd (h : RR gs fh fo fc fs hz mv tu rf) : bd (pDn (fun k => gs (0 + 0 + k))) 12 = bd (pDn fh) 12 := bd_congr fun _ hi => r_Dn h hi
theorem RR_B (h : RR gs fh fo fc fs hz mv tu rf) (n : Nat) : RR (pBw gs hz mv n) fh fo fc fs hz mv tu rf := RR_lo h fun _ hk => pBw_lo gs hz mv n hk
theorem r_be (h : RR gs fh fo fc fs hz mv tu rf) (hi : II fh fo) (hhz : hz < 12) (hmv : mv < 2) : be (fun k => pGa (pBw gs hz mv k) hz mv k) 36 = be (cWo fo fh fc hz mv) 36 := be_congr fun k hk => r_Ga (RR_B h k) hi hhz hmv hk
end REL2
