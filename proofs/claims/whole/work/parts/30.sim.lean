/-! both sides go on together: the state, the saved states, the slots -/
def CU (gs fh fo fc fs : Nat → Int32) (hz mv : Nat) (tu rf : Int32) : Prop := hz < 12 ∧ mv < 2 ∧ RR gs fh fo fc fs hz mv tu rf ∧ II fh fo
def SV (g f : Nat → Int32) : Prop := ∃ (fh fo fc fs : Nat → Int32) (hz mv : Nat) (tu rf : Int32), CU g fh fo fc fs hz mv tu rf ∧ ∀ k, k < 114 → f k = cG fh fo fc fs hz mv tu rf k
def ST (gp fn : Nat → Int32) (kn od sz6 : Nat) : Prop := kn = sz6 ∧ sz6 ≤ 6 ∧ od < 6 ∧ ∀ j, j < sz6 → SV (fun k => gp (114 * j + k)) (fun k => fn ((od + j) % 6 * 114 + k))
def SL (gl gk fl fk : Nat → Int32) : Prop := ∀ j, j < 2 → gk j = fk j ∧ (¬ fk j = 0 → SV (fun k => gl (114 * j + k)) (fun k => fl (j * 114 + k)))
section SIM
variable {gs gp gl gk fh fo fc fs fn fl fk fx g : Nat → Int32} {hz mv kn od sz6 : Nat} {tu rf : Int32}
theorem CU.ext (h : CU gs fh fo fc fs hz mv tu rf) {fh' fo' fc' fs' : Nat → Int32} {tu' rf' : Int32} (h1 : ∀ k, k < 36 → fh' k = fh k ∧ fo' k = fo k ∧ fc' k = fc k) (h2 : fs' 0 = fs 0 ∧ fs' 1 = fs 1) (h3 : tu' = tu) (h4 : rf' = rf) (h5 : ∀ k, k < 114 → g k = gs k) : CU g fh' fo' fc' fs' hz mv tu' rf' := by
  obtain ⟨a, b, c, d⟩ := h
  subst h3; subst h4
  refine ⟨a, b, RR_lo (gs := gs) ?_ h5, ?_⟩
  · obtain ⟨c1, c2, c3, c4, c5, c6, c7⟩ := c
    refine ⟨fun k hk => ?_, c2, c3, c4, c5, by rw [h2.1]; exact c6, by rw [h2.2]; exact c7⟩
    rw [(h1 k hk).1, (h1 k hk).2.1, (h1 k hk).2.2]
    exact c1 k hk
  · intro k hk
    rw [(h1 k hk).1, (h1 k hk).2.1]
    exact d k hk
theorem CU.lo (h : CU gs fh fo fc fs hz mv tu rf) (h5 : ∀ k, k < 114 → g k = gs k) : CU g fh fo fc fs hz mv tu rf := h.ext (fun _ _ => ⟨rfl, rfl, rfl⟩) ⟨rfl, rfl⟩ rfl rfl h5
theorem SV.lo {f f' : Nat → Int32} (h : SV gs f) (h1 : ∀ k, k < 114 → g k = gs k) (h2 : ∀ k, k < 114 → f' k = f k) : SV g f' := by
  obtain ⟨fh, fo, fc, fs, hz, mv, tu, rf, a, b⟩ := h
  exact ⟨fh, fo, fc, fs, hz, mv, tu, rf, a.lo h1, fun k hk => by rw [h2 k hk, b k hk]⟩
theorem CU.sv (h : CU gs fh fo fc fs hz mv tu rf) : SV gs (cG fh fo fc fs hz mv tu rf) := ⟨fh, fo, fc, fs, hz, mv, tu, rf, h, fun _ _ => rfl⟩
theorem ST_push (h : CU gs fh fo fc fs hz mv tu rf) (hs : ST gp fn kn od sz6) : ST (pSv gs gp kn) (va_cpy (cG fh fo fc fs hz mv tu rf) fn 0 ((od + sz6) % 6 * 114) 114) (pKn kn + 1) (pRo od sz6) (pRz sz6) := by
  obtain ⟨rfl, h6, ho, hv⟩ := hs
  by_cases hk6 : kn = 6
  · subst hk6
    have e1 : pRo od 6 = (od + 1) % 6 := by rw [pRo, if_neg (by omega)]
    have e2 : pRz 6 = 6 := by rw [pRz, if_neg (by omega)]
    refine ⟨by rw [e2]; rfl, by rw [e2]; omega, by rw [e1]; omega, fun j hj => ?_⟩
    rw [e2] at hj
    rw [e1]
    have e3 : pKn 6 = 5 := by rw [pKn, if_pos rfl]
    by_cases h5 : j = 5
    · subst h5
      refine h.sv.lo (fun k hk => ?_) (fun k hk => ?_)
      · simp only [pSv, e3]
        rw [cp_in (by omega)]
        exact congrArg gs (by omega)
      · rw [show ((od + 1) % 6 + 5) % 6 = (od + 6) % 6 by omega, cp_in (by omega)]
        exact congrArg (cG fh fo fc fs hz mv tu rf) (by omega)
    · refine (hv (j + 1) (by omega)).lo (fun k hk => ?_) (fun k hk => ?_)
      · simp only [pSv, e3, if_true]
        rw [cp_out (by omega), cp_in (by omega)]
        exact congrArg gp (by omega)
      · rw [show ((od + 1) % 6 + j) % 6 = (od + (j + 1)) % 6 by omega]
        rw [cp_out (by omega)]
  · have e1 : pRo od kn = od := by rw [pRo, if_pos (by omega)]
    have e2 : pRz kn = kn + 1 := by rw [pRz, if_pos (by omega)]
    have e3 : pKn kn = kn := by rw [pKn, if_neg hk6]
    refine ⟨by rw [e2, e3], by rw [e2]; omega, by rw [e1]; exact ho, fun j hj => ?_⟩
    rw [e2] at hj
    rw [e1]
    by_cases h5 : j = kn
    · subst h5
      refine h.sv.lo (fun k hk => ?_) (fun k hk => ?_)
      · simp only [pSv, e3]
        rw [cp_in (by omega)]
        exact congrArg gs (by omega)
      · rw [cp_in (by omega)]
        exact congrArg (cG fh fo fc fs hz mv tu rf) (by omega)
    · refine (hv j (by omega)).lo (fun k hk => ?_) (fun k hk => ?_)
      · simp only [pSv, e3, if_neg hk6]
        rw [cp_out (by omega)]
      · rw [cp_out (by omega)]
theorem SV_rd {A B : Nat} (h : SV (fun k => gl (A + k)) (fun k => fl (B + k))) : ∃ hz2 mv2 : Nat, fl (B + 108 + 2) = nI hz2 ∧ fl (B + 108 + 2 + 1) = nI mv2 ∧ CU (va_cpy gl gs A 0 114) (va_cpy fl fh B 0 36) (va_cpy fl fo (B + 36) 0 36) (va_cpy fl fc (B + 72) 0 36) (va_cpy fl fs (B + 108) 0 2) hz2 mv2 (fl (B + 108 + 2 + 2)) (fl (B + 108 + 2 + 3)) := by
  obtain ⟨fh0, fo0, fc0, fs0, hz2, mv2, tu0, rf0, a, b⟩ := h
  have b' : ∀ k, k < 114 → fl (B + k) = cG fh0 fo0 fc0 fs0 hz2 mv2 tu0 rf0 k := b
  refine ⟨hz2, mv2, (b' 110 (by omega)).trans rfl, (b' 111 (by omega)).trans rfl, a.ext (fun k hk => ⟨?_, ?_, ?_⟩) ⟨?_, ?_⟩ ((b' 112 (by omega)).trans rfl) ((b' 113 (by omega)).trans rfl) (fun k hk => ?_)⟩
  · rw [cp_in (by omega), show B + (k - 0) = B + k by omega, b' k (by omega), cG, if_pos hk]
  · rw [cp_in (by omega), show B + 36 + (k - 0) = B + (36 + k) by omega, b' _ (by omega), cG, if_neg (by omega), if_pos (by omega)]; congr 1; omega
  · rw [cp_in (by omega), show B + 72 + (k - 0) = B + (72 + k) by omega, b' _ (by omega), cG, if_neg (by omega), if_neg (by omega), if_pos (by omega)]; congr 1; omega
  · rw [cp_in (by omega)]; exact (b' 108 (by omega)).trans rfl
  · rw [cp_in (by omega)]; exact (b' 109 (by omega)).trans rfl
  · rw [cp_in (by omega)]; exact congrArg gl (by omega)
theorem CU_en (h : CU gs fh fo fc fs hz mv tu rf) : CU (pEn gs hz mv) fh fo fc (pEs fs (pPy fo fh fc hz) 2) ((hz + 1) % 12) (1 - mv) (tu + 1) rf := by
  obtain ⟨a, b, c, d⟩ := h
  have p0 := r_Py c a 0
  have p1 := r_Py c a 1
  obtain ⟨c1, c2, c3, c4, c5, c6, c7⟩ := c
  refine ⟨by omega, by omega, ⟨fun k hk => ?_, ?_, ?_, ?_, ?_, ?_, ?_⟩, d⟩
  · simp only [pEn, upd]
    repeat rw [if_neg (by omega)]
    exact c1 k hk
  · simp [pEn, upd]
  · simp [pEn, upd]
  · simp [pEn, upd, c4]
  · simp [pEn, upd, c5]
  · simp [pEn, upd, c6, pEs, p0]
  · simp [pEn, upd, c7, pEs, p1]
theorem CU_rs (h : CU gs fh fo fc fs hz mv tu rf) {q : Nat} (hq : q < 36) (hre : pRe fo fh hz mv q = 0) : CU (pRs gs 0 q) (upd fh q (fh q + 1)) (upd fo q (nI mv)) fc fs hz mv tu rf := by
  obtain ⟨a, b, c, d⟩ := h
  have e := r_Rs c hq
  obtain ⟨c1, c2, c3, c4, c5, c6, c7⟩ := c
  have hi : ∀ k, 108 ≤ k → pRs gs 0 q k = gs k := fun k hk => pRs_hi 0 hq (by omega)
  refine ⟨a, b, ⟨fun k hk => ?_, by rw [hi _ (by omega)]; exact c2, by rw [hi _ (by omega)]; exact c3, by rw [hi _ (by omega)]; exact c4, by rw [hi _ (by omega)]; exact c5, by rw [hi _ (by omega)]; exact c6, by rw [hi _ (by omega)]; exact c7⟩, fun k hk => ?_⟩
  · have e9 := e k hk
    simp only [Nat.zero_add] at e9
    exact e9
  · by_cases hkq : k = q
    · subst hkq
      simp only [upd, if_true]
      have hm : nI mv = 0 ∨ nI mv = 1 := by
        rcases (show mv = 0 ∨ mv = 1 by omega) with h1 | h1
        · rw [h1]; exact Or.inl rfl
        · rw [h1]; exact Or.inr rfl
      refine Or.inr ⟨hm, ?_⟩
      rcases d k hk with ⟨_, h0⟩ | ⟨_, n, n1, n2, h0⟩
      · exact ⟨1, by omega, by omega, by rw [h0]; rfl⟩
      · have h9 : ¬ fh k = 9 := fun h9 => by
          unfold pRe at hre
          by_cases ho : fo k = nI (1 - mv)
          · rw [if_pos ho] at hre; omega
          · rw [if_neg ho, if_pos h9] at hre; omega
        have h8 : n ≠ 9 := fun h8 => h9 (by rw [h0, h8]; rfl)
        exact ⟨n + 1, by omega, by omega, by rw [h0]; exact nI_add n 1⟩
    · simp only [upd, if_neg hkq]
      exact d k hk
theorem CU_rf (h : CU gs fh fo fc fs hz mv tu rf) : CU (upd gs 111 (gs 111 + 1)) fh fo fc fs hz mv tu (rf + 1) := by
  obtain ⟨a, b, ⟨c1, c2, c3, c4, c5, c6, c7⟩, d⟩ := h
  refine ⟨a, b, ⟨fun k hk => ?_, ?_, ?_, ?_, ?_, ?_, ?_⟩, d⟩
  · simp only [upd]; repeat rw [if_neg (by omega)]
    exact c1 k hk
  all_goals simp [upd, *]
theorem CU_cr (h : CU gs fh fo fc fs hz mv tu rf) {q : Nat} (hq : q < 36) (v : Int32) : CU (upd gs (72 + q) v) fh fo (upd fc q v) fs hz mv tu rf := by
  obtain ⟨a, b, ⟨c1, c2, c3, c4, c5, c6, c7⟩, d⟩ := h
  refine ⟨a, b, ⟨fun k hk => ⟨?_, ?_, ?_⟩, ?_, ?_, ?_, ?_, ?_, ?_⟩, d⟩
  · simp only [upd]; rw [if_neg (by omega)]; exact (c1 k hk).1
  · simp only [upd]; rw [if_neg (by omega)]; exact (c1 k hk).2.1
  · simp only [upd]
    by_cases hk2 : k = q
    · subst hk2; rw [if_pos rfl, if_pos rfl]
    · rw [if_neg hk2, if_neg (by omega)]; exact (c1 k hk).2.2
  all_goals (simp only [upd]; rw [if_neg (by omega)]; assumption)
theorem CU_pt (h : CU gs fh fo fc fs hz mv tu rf) {q : Nat} (hq : q < 36) {o t : Int32} (ho : (o = -1 ∧ t = 0) ∨ ((o = 0 ∨ o = 1) ∧ ∃ n, 1 ≤ n ∧ n ≤ 9 ∧ t = nI n)) {o' : Int32} (ho' : o' = o + 1) : CU (upd (upd gs (36 + q) o') (0 + q) t) (upd fh q t) (upd fo q o) fc fs hz mv tu rf := by
  obtain ⟨a, b, ⟨c1, c2, c3, c4, c5, c6, c7⟩, d⟩ := h
  subst ho'
  refine ⟨a, b, ⟨fun k hk => ⟨?_, ?_, ?_⟩, ?_, ?_, ?_, ?_, ?_, ?_⟩, fun k hk => ?_⟩
  · simp only [upd]
    by_cases hk2 : k = q
    · subst hk2; rw [if_pos (by omega), if_pos rfl]
    · rw [if_neg (by omega), if_neg (by omega), if_neg hk2]; exact (c1 k hk).1
  · simp only [upd]
    by_cases hk2 : k = q
    · subst hk2; rw [if_neg (by omega), if_pos (by omega), if_pos rfl]
    · rw [if_neg (by omega), if_neg (by omega), if_neg hk2]; exact (c1 k hk).2.1
  · simp only [upd]; rw [if_neg (by omega), if_neg (by omega)]; exact (c1 k hk).2.2
  · simp only [upd]; rw [if_neg (by omega), if_neg (by omega)]; assumption
  · simp only [upd]; rw [if_neg (by omega), if_neg (by omega)]; assumption
  · simp only [upd]; rw [if_neg (by omega), if_neg (by omega)]; assumption
  · simp only [upd]; rw [if_neg (by omega), if_neg (by omega)]; assumption
  · simp only [upd]; rw [if_neg (by omega), if_neg (by omega)]; assumption
  · simp only [upd]; rw [if_neg (by omega), if_neg (by omega)]; assumption
  · simp only [upd]
    by_cases hk2 : k = q
    · subst hk2; rw [if_pos rfl, if_pos rfl]; exact ho
    · rw [if_neg hk2, if_neg hk2]; exact d k hk
theorem upd_sw (f : Nat → Int32) {i j : Nat} (h : i ≠ j) (x y : Int32) : upd (upd f i x) j y = upd (upd f j y) i x := by
  funext k; simp only [upd]
  by_cases h1 : k = j
  · subst h1; rw [if_pos rfl, if_neg (fun e => h e.symm), if_pos rfl]
  · rw [if_neg h1]
    by_cases h2 : k = i
    · rw [if_pos h2, if_pos h2]
    · rw [if_neg h2, if_neg h2, if_neg h1]
theorem CU_te (h : CU gs fh fo fc fs hz mv tu rf) {q : Nat} (hq : q < 36) : CU (upd (upd gs (0 + q) 0) (36 + q) 0) (upd fh q 0) (upd fo q (-1)) fc fs hz mv tu rf := by
  rw [upd_sw gs (by omega)]
  exact CU_pt h hq (Or.inl ⟨rfl, rfl⟩) rfl
theorem CU_hr (h : CU gs fh fo fc fs hz mv tu rf) {hu : Nat} (hhu : hu < 12) : CU (upd gs 108 (nI hu)) fh fo fc fs hu mv tu rf := by
  obtain ⟨a, b, ⟨c1, c2, c3, c4, c5, c6, c7⟩, d⟩ := h
  refine ⟨hhu, b, ⟨fun k hk => ?_, ?_, ?_, ?_, ?_, ?_, ?_⟩, d⟩
  · simp only [upd]; repeat rw [if_neg (by omega)]
    exact c1 k hk
  all_goals simp [upd, *]
theorem CU_ld {ln : Nat} (h : CU gs fh fo fc fs hz mv tu rf) (hw : pWh fx ln = true) : ∀ n, n ≤ (ln + 1) / 5 → CU (pLs gs fx n) (cLo cEh fh fx n) (cLo cEo fo fx n) (cLo cEc fc fx n) fs hz mv tu rf := by
  intro n
  induction n with
  | zero => intro _; exact h
  | succ n ih =>
    intro hn
    have h0 := ih (by omega)
    have hw1 := (pWh_1 hw).1
    obtain ⟨-, -, hq⟩ := sq_e (e := n) hw (by omega)
    have f2 := ft_2 (pWh_ft hw (i := n * 5 + 2) (by omega))
    obtain ⟨v, v1, v2, v3⟩ := ft_3 (pWh_ft hw (i := n * 5 + 3) (by omega))
    simp only [pLs, cLo, pLe, cEh, cEo, cEc]
    by_cases h6 : fx (n * 5 + 2) = 61
    · simp only [if_pos h6]
      exact CU_cr h0 hq _
    · simp only [if_neg h6]
      refine CU_pt h0 hq (Or.inr ⟨?_, v, v2 h6, v1, v3⟩) ?_
      · by_cases h4 : fx (n * 5 + 2) = 43
        · rw [if_pos h4]; exact Or.inl rfl
        · rw [if_neg h4]; exact Or.inr rfl
      · by_cases h4 : fx (n * 5 + 2) = 43
        · rw [if_pos h4, if_pos h4]; rfl
        · rw [if_neg h4, if_neg h4]; rfl
theorem SL_keep (h : CU gs fh fo fc fs hz mv tu rf) (hs : SL gl gk fl fk) {sl : Nat} (hsl : sl < 2) : SL (va_cpy gs gl 0 (114 * sl) 114) (upd gk sl 1) (va_cpy (cG fh fo fc fs hz mv tu rf) fl 0 (sl * 114) 114) (upd fk sl 1) := by
  intro j hj
  obtain ⟨h1, h2⟩ := hs j hj
  by_cases hjs : j = sl
  · subst hjs
    refine ⟨by simp [upd], fun _ => h.sv.lo (fun k hk => ?_) (fun k hk => ?_)⟩
    · rw [cp_in (by omega)]; exact congrArg gs (by omega)
    · rw [cp_in (by omega)]; exact congrArg (cG fh fo fc fs hz mv tu rf) (by omega)
  · simp only [upd, if_neg hjs]
    refine ⟨h1, fun hf => (h2 hf).lo (fun k hk => ?_) (fun k hk => ?_)⟩
    · rw [cp_out (by omega)]
    · rw [cp_out (by omega)]
theorem CU_st : CU (pI1 36) (fun _ => (0 : Int32)) (pIn (-1) 36) (pIn 1 36) (fun _ => (0 : Int32)) 0 0 0 0 := by
  refine ⟨by omega, by omega, ⟨fun k hk => ?_, ?_, ?_, ?_, ?_, ?_, ?_⟩, fun k hk => Or.inl ?_⟩
  · exact ⟨by simp only [pI1]; rw [if_neg (by omega)], by simp only [pI1, pIn]; rw [if_neg (by omega), if_pos hk]; rfl, by simp only [pI1, pIn]; rw [if_pos (by omega), if_pos hk]⟩
  · rfl
  · rfl
  · rfl
  · rfl
  · rfl
  · rfl
  · exact ⟨by simp only [pIn]; rw [if_pos hk], rfl⟩
theorem ST_st (f g : Nat → Int32) : ST f g 0 0 0 := ⟨rfl, by omega, by omega, fun j hj => absurd hj (by omega)⟩
theorem SL_st (f g : Nat → Int32) : SL f (fun _ => 0) g (fun _ => 0) := fun j _ => ⟨rfl, fun h => absurd rfl h⟩
theorem ow2 (h : CU gs fh fo fc fs hz mv tu rf) : nI (pTM gs 0 + pTM gs 1) = nI (pOw fo 0 + pOw fo 1) := by rw [r_Ow h.2.2.1, r_Ow h.2.2.1]
end SIM
