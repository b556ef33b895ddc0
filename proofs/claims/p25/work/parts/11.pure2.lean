/-! rows that are copied, saved, raised -/
theorem cp_0 (f g : Nat → Int32) (sp dp : Nat) : va_cpy f g sp dp 0 = g := by
  funext k; simp only [va_cpy]; rw [if_neg (by omega)]
theorem cp_s (f g : Nat → Int32) (dp i : Nat) : upd (va_cpy f g 0 dp i) (dp + i) (f i) = va_cpy f g 0 dp (i + 1) := by
  funext k
  simp only [upd, va_cpy]
  by_cases h : k = dp + i
  · subst h; rw [if_pos rfl, if_pos (by omega)]; congr 1; omega
  · rw [if_neg h]
    by_cases h2 : dp ≤ k ∧ k < dp + i
    · rw [if_pos h2, if_pos (by omega)]
    · rw [if_neg h2, if_neg (by omega)]
/-- back to the row's begin -/
theorem cp_b (f g : Nat → Int32) (sp i : Nat) : upd (va_cpy f g sp 0 i) i (f (sp + i)) = va_cpy f g sp 0 (i + 1) := by
  funext k
  simp only [upd, va_cpy]
  by_cases h : k = i
  · subst h; rw [if_pos rfl, if_pos (by omega)]; congr 1
  · rw [if_neg h]
    by_cases h2 : 0 ≤ k ∧ k < 0 + i
    · rw [if_pos h2, if_pos (by omega)]
    · rw [if_neg h2, if_neg (by omega)]
theorem cp_out {f g : Nat → Int32} {sp dp n j : Nat} (h : j < dp ∨ dp + n ≤ j) : va_cpy f g sp dp n j = g j := by
  simp only [va_cpy]; rw [if_neg (by omega)]
theorem cp_in {f g : Nat → Int32} {sp dp n j : Nat} (h : dp ≤ j ∧ j < dp + n) : va_cpy f g sp dp n j = f (sp + (j - dp)) := by
  simp only [va_cpy]; rw [if_pos h]
def pKn (kn : Nat) : Nat := if kn = 6 then 5 else kn
def pSv (gs gp : Nat → Int32) (kn : Nat) : Nat → Int32 := va_cpy gs (if kn = 6 then va_cpy gp gp 114 0 570 else gp) 0 (114 * pKn kn) 114
theorem pKn_lt {kn : Nat} (h : kn < 7) : pKn kn < 6 := by unfold pKn; split <;> omega
def pCo (gs : Nat → Int32) : Nat → Int32 := va_cpy gs gs 0 114 114
def pRs (gs : Nat → Int32) (P q : Nat) : Nat → Int32 := upd (upd gs (P + 36 + q) (gs (P + 109) + 1)) (P + 0 + q) (gs (P + 0 + q) + 1)
theorem pRs_hi {gs : Nat → Int32} {q k : Nat} (P : Nat) (hq : q < 36) (h : P + 72 ≤ k) : pRs gs P q k = gs k := by
  simp only [pRs, upd]; rw [if_neg (by omega), if_neg (by omega)]
theorem pRs_lo {gs : Nat → Int32} {q k : Nat} (P : Nat) (h : k < P) : pRs gs P q k = gs k := by
  simp only [pRs, upd]; rw [if_neg (by omega), if_neg (by omega)]
theorem pCo_lo {gs : Nat → Int32} {k : Nat} (h : k < 114) : pCo gs k = gs k := cp_out (by omega)
theorem pCo_hi {gs : Nat → Int32} {k : Nat} (h : k < 114) : pCo gs (114 + k) = gs k := by
  rw [pCo, cp_in (by omega)]; congr 1; omega
def pEn (gs : Nat → Int32) (hz mv : Nat) : Nat → Int32 := upd (upd (upd (upd (upd gs 112 (gs 112 + pPM gs 0 hz 0)) 113 (gs 113 + pPM gs 0 hz 1)) 108 (nI ((hz + 1) % 12))) 109 (nI (1 - mv))) 110 (gs 110 + 1)
theorem sq_ok : ∀ q, q < 36 → (decide (0 ≤ nI q) && decide (nI q ≤ 35)) = true := by decide +kernel
theorem in_ok {n : Nat} (lo hi : Nat) (h1 : lo ≤ n) (h2 : n ≤ hi) (h3 : hi < 2 ^ 31) : (decide (nI lo ≤ nI n) && decide (nI n ≤ nI hi)) = true := by
  rw [Bool.and_eq_true, decide_eq_true_iff, decide_eq_true_iff, nI_leI (by omega) (by omega), nI_leI (by omega) h3]; exact ⟨h1, h2⟩
