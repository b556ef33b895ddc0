/-! what holds between the game's looks -/
theorem upd_at (f : Nat → Int32) (k : Nat) (x : Int32) : upd f k x k = x := by simp [upd]
theorem upd_ne {f : Nat → Int32} {k j : Nat} {x : Int32} (h : ¬ j = k) : upd f k x j = f j := by simp [upd, h]
theorem upd_upd (f : Nat → Int32) (k : Nat) (x y : Int32) : upd (upd f k x) k y = upd f k y := by
  funext j
  by_cases h : j = k
  · simp [upd, h]
  · simp [upd, h]
theorem zb_e1 {b : Bool} : zb b = 1 ↔ b = true := by cases b <;> decide
theorem zb_ca {a b : Bool} (h : a = b) : zb a = zb b := by rw [h]
/-- sums of small numbers -/
def sn (f : Nat → Nat) : Nat → Nat
  | 0 => 0
  | n + 1 => sn f n + f n
theorem sm_nI (f : Nat → Nat) : ∀ n, sm (fun k => nI (f k)) n = nI (sn f n)
  | 0 => rfl
  | n + 1 => by rw [sm, sm_nI f n, nI_add, sn]
theorem sn_cn (m : Nat → Nat) (P : Nat → Nat → Bool) (g : Nat → Nat → Nat × Nat × Nat) (G : Nat × Nat × Nat → Bool) (h : ∀ q i, P q i = G (g q i)) : ∀ n, sn (fun q => cn (P q) (m q)) n = ((List.range n).flatMap (fun q => (List.range (m q)).map (g q))).countP G
  | 0 => rfl
  | n + 1 => by
    rw [sn, sn_cn m P g G h n, List.range_succ, List.flatMap_append, List.countP_append, List.flatMap_singleton, List.countP_map, cn_list]
    rw [show P n = G ∘ g n from funext (h n)]
theorem pr_perm : ∀ sd, sd < 4 → ((List.range 36).flatMap (fun q => (List.range (pR sd q)).map (fun i => (pT sd q (i + 1), q, i + 1)))).isPerm ((List.range 36).flatMap (fun q => (List.range (5 - pR sd q)).map (fun i => (q, pT ((sd + 2) % 4) q (i + 1), i + 1)))) = true := by decide +kernel
/-- who shades and who is shaded are the same pairs -/
theorem sum_eq (fh : Nat → Int32) {hz : Nat} (hhz : hz < 12) : sm (fun k => nI (pSn fh k hz)) 36 = sm (fun k => nI (pBn fh k hz)) 36 := by
  rw [sm_nI, sm_nI]
  refine congrArg nI ?_
  have h1 := sn_cn (fun q => pR (hz / 3) q) (fun q i => pSi fh q hz i) (fun q i => (pT (hz / 3) q (i + 1), q, i + 1)) (fun z => pSh fh (pSt hz) z.1 z.2.1 z.2.2) (fun _ _ => rfl) 36
  have h2 := sn_cn (fun q => 5 - pR (hz / 3) q) (fun q i => pBi fh q hz i) (fun q i => (q, pT ((hz / 3 + 2) % 4) q (i + 1), i + 1)) (fun z => pSh fh (pSt hz) z.1 z.2.1 z.2.2) (fun _ _ => rfl) 36
  exact h1.trans ((List.Perm.countP_eq _ (List.isPerm_iff.mp (pr_perm (hz / 3) (by omega)))).trans h2.symm)
theorem sn_dk {fh : Nat → Int32} {q hz : Nat} : 0 < pSn fh q hz ↔ pDk fh q hz = true := by unfold pSn pDk; exact cn_an _ _
/-- the sweep along the row -/
theorem i_subn {w : Int32} {st : Nat} (hs : st ≤ 3) (h1 : -100 ≤ w.toInt) (h2 : w.toInt ≤ 100) : (w - nI st).toInt = w.toInt - st := by
  rw [Int32.toInt_sub, nI_toInt (by omega)]
  exact Int.bmod_eq_of_le (by omega) (by omega)
theorem sw_s {fh : Nat → Int32} {st sd q : Nat} (hst : st ≤ 3) (hR : pR sd q ≤ 5) (hT : ∀ d, d ≤ pR sd q → ∃ n, n ≤ 9 ∧ fh (pT sd q d) = nI n) :
    ∀ i, i ≤ pR sd q → (-((3 * i : Nat) : Int) ≤ (pSw fh st sd q i).toInt ∧ (pSw fh st sd q i).toInt ≤ 9) ∧ ∀ y : Nat, ((y : Int) < (pSw fh st sd q i).toInt ↔ ∃ d, 1 ≤ d ∧ d ≤ i ∧ ((y + d * st : Nat) : Int) < (fh (pT sd q (pR sd q - (i - d)))).toInt) := by
  intro i
  induction i with
  | zero =>
    intro _
    have e0 : (pSw fh st sd q 0).toInt = 0 := rfl
    rw [e0]
    exact ⟨⟨by omega, by omega⟩, fun y => ⟨fun h => absurd h (by omega), fun ⟨d, h1, h2, _⟩ => absurd h1 (by omega)⟩⟩
  | succ i ih =>
    intro hi
    obtain ⟨⟨l1, l2⟩, ih2⟩ := ih (by omega)
    obtain ⟨n, hn9, hn⟩ := hT (pR sd q - i) (by omega)
    have tn : (fh (pT sd q (pR sd q - i))).toInt = n := by rw [hn, nI_toInt (by omega)]
    have hM : ∃ X : Int32, pSw fh st sd q (i + 1) = X - nI st ∧ (pSw fh st sd q i).toInt ≤ X.toInt ∧ (n : Int) ≤ X.toInt ∧ (X.toInt = (pSw fh st sd q i).toInt ∨ X.toInt = n) := by
      refine ⟨_, rfl, ?_⟩
      by_cases hc : pSw fh st sd q i < fh (pT sd q (pR sd q - i))
      · rw [if_pos hc]
        rw [Int32.lt_iff_toInt_lt, tn] at hc
        rw [tn]
        exact ⟨by omega, by omega, Or.inr rfl⟩
      · rw [if_neg hc]
        rw [Int32.lt_iff_toInt_lt, tn] at hc
        exact ⟨by omega, by omega, Or.inl rfl⟩
    obtain ⟨X, eX, x1, x2, x3⟩ := hM
    have eS : (pSw fh st sd q (i + 1)).toInt = X.toInt - st := by rw [eX]; exact i_subn hst (by omega) (by omega)
    rw [eS]
    refine ⟨⟨by omega, by omega⟩, fun y => ⟨fun h => ?_, ?_⟩⟩
    · rcases (show ((y + st : Nat) : Int) < (pSw fh st sd q i).toInt ∨ ((y + st : Nat) : Int) < n by omega) with h1 | h1
      · obtain ⟨d, a1, a2, a3⟩ := (ih2 (y + st)).mp h1
        refine ⟨d + 1, by omega, by omega, ?_⟩
        rw [show i + 1 - (d + 1) = i - d by omega, Nat.succ_mul, show y + (d * st + st) = y + st + d * st by omega]
        exact a3
      · refine ⟨1, by omega, by omega, ?_⟩
        rw [show i + 1 - 1 = i by omega, tn, Nat.one_mul]; exact h1
    · rintro ⟨d, a1, a2, a3⟩
      rcases (show d = 1 ∨ ∃ d', d = d' + 1 ∧ 1 ≤ d' by
        rcases (show d = 1 ∨ 1 < d by omega) with h | h
        · exact Or.inl h
        · exact Or.inr ⟨d - 1, by omega, by omega⟩) with rfl | ⟨d', rfl, h1⟩
      · rw [show i + 1 - 1 = i by omega, tn, Nat.one_mul] at a3; omega
      · rw [show i + 1 - (d' + 1) = i - d' by omega, Nat.succ_mul, show y + (d' * st + st) = y + st + d' * st by omega] at a3
        have h2 := (ih2 (y + st)).mpr ⟨d', h1, by omega, a3⟩
        omega
theorem ds_dk {fh fo : Nat → Int32} {hz q : Nat} (hi : II fh fo) (hq : q < 36) (hhz : hz < 12) : pDs fh q hz = pDk fh q hz := by
  have h4 : hz / 3 < 4 := by omega
  have hR := pR_le (hz / 3) h4 q hq
  have hS := pSt_le hz
  obtain ⟨hn, hn9, ehn⟩ := II_n hi hq
  have hT : ∀ d, d ≤ pR (hz / 3) q → ∃ n, n ≤ 9 ∧ fh (pT (hz / 3) q d) = nI n := fun d hd => II_n hi (pT_lt h4 hq (by omega))
  have hs := (sw_s hS hR hT (pR (hz / 3) q) (Nat.le_refl _)).2 hn
  have e1 : pDs fh q hz = true ↔ (hn : Int) < (pSw fh (pSt hz) (hz / 3) q (pR (hz / 3) q)).toInt := by
    unfold pDs
    rw [Bool.not_eq_true', decide_eq_false_iff_not, ehn, Int32.le_iff_toInt_le, nI_toInt (by omega)]; omega
  rw [Bool.eq_iff_iff, e1, hs, pDk, an_iff]
  constructor
  · rintro ⟨d, a1, a2, a3⟩
    rw [show pR (hz / 3) q - (pR (hz / 3) q - d) = d by omega] at a3
    obtain ⟨d', rfl⟩ : ∃ d', d = d' + 1 := ⟨d - 1, by omega⟩
    obtain ⟨n, n9, en⟩ := hT (d' + 1) a2
    have hm : (d' + 1) * pSt hz ≤ 15 := Nat.le_trans (Nat.mul_le_mul (show d' + 1 ≤ 5 by omega) hS) (by omega)
    rw [en, nI_toInt (by omega)] at a3
    refine ⟨d', by omega, pSi_t ?_⟩
    rw [en, ehn, Int32.le_iff_toInt_le, pk_sub_toInt (by omega) (by omega), nI_toInt (by omega)]
    generalize (d' + 1) * pSt hz = mm at *
    omega
  · rintro ⟨i, a1, a2⟩
    have a3 : ¬ fh (pT (hz / 3) q (i + 1)) - nI ((i + 1) * pSt hz) ≤ fh q := fun z => by rw [pSi_f z] at a2; cases a2
    obtain ⟨n, n9, en⟩ := hT (i + 1) (by omega)
    have hm : (i + 1) * pSt hz ≤ 15 := Nat.le_trans (Nat.mul_le_mul (show i + 1 ≤ 5 by omega) hS) (by omega)
    rw [en, ehn, Int32.le_iff_toInt_le, pk_sub_toInt (by omega) (by omega), nI_toInt (by omega)] at a3
    refine ⟨i + 1, by omega, by omega, ?_⟩
    rw [show pR (hz / 3) q - (pR (hz / 3) q - (i + 1)) = i + 1 by omega, en, nI_toInt (by omega)]
    generalize (i + 1) * pSt hz = mm at *
    omega
/-- a bit of the mask of dark hours -/
theorem sr_or (a b c : Int32) : (((a ||| b) >>> c) &&& 1) = ((a >>> c) &&& 1) ||| ((b >>> c) &&& 1) := by
  rw [Int32.shiftRight_or]
  exact Int32.toBitVec_inj.1 (BitVec.and_or_distrib_right)
theorem one_bit : ∀ k, k < 12 → ∀ h, h < 12 → ((((1 : Int32) <<< (nI k &&& 31)) >>> (nI h &&& 31)) &&& 1) = zb (decide (h = k)) := by decide +kernel
theorem nil_bit : ∀ h, h < 12 → (((0 : Int32) >>> (nI h &&& 31)) &&& 1) = 0 := by decide +kernel
theorem zb_or (a b : Bool) : zb a ||| zb b = zb (a || b) := by cases a <;> cases b <;> decide
theorem zb_or0 (a : Bool) : zb a ||| 0 = zb a := by cases a <;> decide
theorem om_bit (P : Nat → Bool) {h : Nat} (hh : h < 12) : ∀ n, n ≤ 12 → ((om (fun k => if P k then (1 : Int32) <<< (nI k &&& 31) else 0) n >>> (nI h &&& 31)) &&& 1) = zb (decide (h < n) && P h)
  | 0 => fun _ => (nil_bit h hh).trans (by simp [zb])
  | n + 1 => fun hn => by
    rw [om, sr_or, om_bit P hh n (by omega)]
    cases hP : P n with
    | true =>
      rw [if_pos rfl, one_bit n (by omega) h hh, zb_or]
      refine zb_ca ?_
      rcases (show h < n ∨ h = n ∨ n < h by omega) with h1 | h1 | h1
      · rw [decide_eq_true h1, decide_eq_true (show h < n + 1 by omega), decide_eq_false (show ¬ h = n by omega), Bool.or_false]
      · subst h1; simp [hP]
      · rw [decide_eq_false (show ¬ h < n by omega), decide_eq_false (show ¬ h < n + 1 by omega), decide_eq_false (show ¬ h = n by omega)]; rfl
    | false =>
      rw [if_neg (fun z => by cases z), nil_bit h hh, zb_or0]
      refine zb_ca ?_
      rcases (show h < n ∨ h = n ∨ n < h by omega) with h1 | h1 | h1
      · rw [decide_eq_true h1, decide_eq_true (show h < n + 1 by omega)]
      · subst h1; simp [hP]
      · rw [decide_eq_false (show ¬ h < n by omega), decide_eq_false (show ¬ h < n + 1 by omega)]
theorem mk_bit (fh : Nat → Int32) (q : Nat) {h : Nat} (hh : h < 12) : ((pMk fh q >>> (nI h &&& 31)) &&& 1) = zb (pDk fh q h) := by
  rw [pMk, om_bit (fun k => pDk fh q k) hh 12 (Nat.le_refl _), decide_eq_true hh, Bool.true_and]
/-- a square's owner and height -/
theorem II_w {fh fo : Nat → Int32} (hi : II fh fo) {k : Nat} (hk : k < 36) : ∃ n, n ≤ 9 ∧ fh k = nI n ∧ (fo k = -1 ↔ n = 0) ∧ ¬ 2 ≤ fo k ∧ (fo k < 0 ↔ fo k = -1) ∧ (fo k = -1 ∨ fo k = 0 ∨ fo k = 1) := by
  rcases hi k hk with ⟨ho, hh⟩ | ⟨ho | ho, n, h1, h2, h3⟩
  · exact ⟨0, by omega, hh, by rw [ho]; decide, by rw [ho]; decide, by rw [ho]; decide, Or.inl ho⟩
  · exact ⟨n, h2, h3, by rw [ho]; exact iff_of_false (by decide) (by omega), by rw [ho]; decide, by rw [ho]; decide, Or.inr (Or.inl ho)⟩
  · exact ⟨n, h2, h3, by rw [ho]; exact iff_of_false (by decide) (by omega), by rw [ho]; decide, by rw [ho]; decide, Or.inr (Or.inr ho)⟩
theorem ow_x {x : Int32} {mv : Nat} (hx : x = -1 ∨ x = 0 ∨ x = 1) (hm : mv < 2) : x = nI (1 - mv) ↔ (¬ x = -1 ∧ ¬ x = nI mv) := by
  rcases hx with rfl | rfl | rfl <;> rcases (show mv = 0 ∨ mv = 1 by omega) with rfl | rfl <;> decide
theorem pBn_0 {fh fo : Nat → Int32} {hz q : Nat} (hi : II fh fo) (hq : q < 36) (hhz : hz < 12) (h0 : fh q = 0) : pBn fh q hz = 0 := by
  have h4 : hz / 3 < 4 := by omega
  have hS := pSt_le hz
  unfold pBn
  refine cn_0 (fun i hi5 => ?_)
  have hR := pR_le _ h4 q hq
  have hB := (pB_ok (hz / 3) h4 q hq (i + 1) (by omega)).2
  have hm : (i + 1) * pSt hz ≤ 100 := Nat.le_trans (Nat.mul_le_mul (show i + 1 ≤ 5 by omega) hS) (by omega)
  exact pSh_f (no_sh h0 hm (II_n hi hB))
theorem ow_tw {fh fo : Nat → Int32} (hi : II fh fo) : cn (fun k => !decide (fh k = 0)) 36 = pOw fo 0 + pOw fo 1 := by
  have key : ∀ n, n ≤ 36 → cn (fun k => !decide (fh k = 0)) n = cn (fun k => decide (fo k = nI 0)) n + cn (fun k => decide (fo k = nI 1)) n := by
    intro n
    induction n with
    | zero => intro _; rfl
    | succ n ih =>
      intro hn
      have p1 : (decide (fo n = nI 0), decide (fo n = nI 1), !decide (fh n = 0)) = (false, false, false) ∨ (decide (fo n = nI 0), decide (fo n = nI 1), !decide (fh n = 0)) = (true, false, true) ∨ (decide (fo n = nI 0), decide (fo n = nI 1), !decide (fh n = 0)) = (false, true, true) := by
        rcases hi n (by omega) with ⟨ho, hh⟩ | ⟨ho | ho, m, h1, h2, h3⟩
        · rw [ho, hh]; exact Or.inl (by decide)
        · have h4 : (!decide (nI m = 0)) = true := by rw [decide_eq_false (nI_ne0 (by omega) (by omega))]; rfl
          rw [ho, h3, h4]; exact Or.inr (Or.inl (by decide))
        · have h4 : (!decide (nI m = 0)) = true := by rw [decide_eq_false (nI_ne0 (by omega) (by omega))]; rfl
          rw [ho, h3, h4]; exact Or.inr (Or.inr (by decide))
      simp only [Prod.mk.injEq] at p1
      have e0 := ih (by omega)
      rcases p1 with ⟨a1, a2, a3⟩ | ⟨a1, a2, a3⟩ | ⟨a1, a2, a3⟩
      · rw [cn_f (P := fun k => !decide (fh k = 0)) a3, cn_f (P := fun k => decide (fo k = nI 0)) a1, cn_f (P := fun k => decide (fo k = nI 1)) a2]; exact e0
      · rw [cn_t (P := fun k => !decide (fh k = 0)) a3, cn_t (P := fun k => decide (fo k = nI 0)) a1, cn_f (P := fun k => decide (fo k = nI 1)) a2]; omega
      · rw [cn_t (P := fun k => !decide (fh k = 0)) a3, cn_f (P := fun k => decide (fo k = nI 0)) a1, cn_t (P := fun k => decide (fo k = nI 1)) a2]; omega
  exact key 36 (Nat.le_refl _)
theorem cn_mono {P P' : Nat → Bool} {n : Nat} (h : ∀ i, i < n → P i = true → P' i = true) : cn P n ≤ cn P' n := by
  induction n with
  | zero => exact Nat.le_refl _
  | succ n ih =>
    have h1 := ih (fun i hi => h i (by omega))
    cases hp : P n with
    | false => rw [cn_f hp]; simp only [cn]; omega
    | true => rw [cn_t hp, cn_t (h n (by omega) hp)]; omega
theorem tn_dk {fo fh : Nat → Int32} {pl k hz : Nat} (h : 0 < pTn fo fh pl k hz) : pDk fh k hz = true := by
  obtain ⟨i, h1, h2⟩ := an_iff.mp ((cn_an _ _).mp h)
  simp only [pTs, Bool.and_eq_true] at h2
  exact an_t h2.2 h1
theorem rv_le (fo fh : Nat → Int32) (hz pl : Nat) : pRv fo fh hz pl ≤ cn (fun k => decide (fo k = nI (1 - pl)) && pDk fh k hz) 36 := by
  refine cn_mono (fun i _ h => ?_)
  simp only [Bool.and_eq_true, decide_eq_true_eq] at h ⊢
  exact ⟨h.1, tn_dk h.2⟩
theorem pEs_2 (fs v : Nat → Int32) : ∀ k, k < 2 → pEs fs v 2 k = fs k + v k := by
  intro k hk
  rcases (show k = 0 ∨ k = 1 by omega) with rfl | rfl <;> simp [pEs, upd]
theorem pEs_s (fs v : Nat → Int32) {k : Nat} (hk : k < 2) : pEs fs v 2 k - fs k = v k := by
  rw [pEs_2 fs v k hk, Int32.add_comm, Int32.add_sub_cancel]
/-- crowds are 0 to 9 -/
def CC (fc : Nat → Int32) : Prop := ∀ k, k < 36 → ∃ n, n ≤ 9 ∧ fc k = nI n
theorem sm_b {f : Nat → Int32} {N : Nat} (h : ∀ k, k < N → ∃ n, n ≤ 9 ∧ f k = nI n) : ∃ n, n ≤ 9 * N ∧ sm f N = nI n := by
  induction N with
  | zero => exact ⟨0, by omega, rfl⟩
  | succ N ih =>
    obtain ⟨a, h1, h2⟩ := ih (fun k hk => h k (by omega))
    obtain ⟨b, h3, h4⟩ := h N (by omega)
    exact ⟨a + b, by omega, by rw [sm, h2, h4, nI_add]⟩
theorem py_n {fo fh fc : Nat → Int32} (hC : CC fc) (hz pl : Nat) : ∃ n, n ≤ 324 ∧ pPy fo fh fc hz pl = nI n := by
  unfold pPy
  obtain ⟨n, h1, h2⟩ := sm_b (N := 36) (f := fun k => if fo k = nI pl ∧ pDk fh k hz = false then fc k else 0) (fun k hk => by
    obtain ⟨n, h1, h2⟩ := hC k hk
    by_cases hc : fo k = nI pl ∧ pDk fh k hz = false
    · exact ⟨n, h1, by rw [if_pos hc]; exact h2⟩
    · exact ⟨0, by omega, by rw [if_neg hc]; rfl⟩)
  exact ⟨n, by omega, h2⟩
theorem wo_ne {fo fh fc : Nat → Int32} (hC : CC fc) (hz mv q : Nat) : cWo fo fh fc hz mv q = -999 ↔ ¬ pRe fo fh hz mv q = 0 := by
  unfold cWo
  by_cases h : pRe fo fh hz mv q = 0
  · rw [if_pos h]
    refine iff_of_false (fun z => ?_) (fun z => z h)
    obtain ⟨a, a1, a2⟩ := py_n (fo := upd fo q (nI mv)) (fh := upd fh q (fh q + 1)) hC hz mv
    obtain ⟨b, b1, b2⟩ := py_n (fo := upd fo q (nI mv)) (fh := upd fh q (fh q + 1)) hC hz (1 - mv)
    rw [a2, b2] at z
    have z2 := congrArg Int32.toInt z
    rw [pk_sub_toInt (by omega) (by omega), show ((-999 : Int32)).toInt = -999 by decide] at z2
    omega
  · rw [if_neg h]; exact iff_of_true rfl h
/-- the hours, as the law goes -/
def bm (d : Nat → Nat) : Nat → Nat
  | 0 => 0
  | n + 1 => if bm d n < d n then d n else bm d n
def bh (d : Nat → Nat) : Nat → Nat
  | 0 => 0
  | n + 1 => if bm d n < d n then n else bh d n
theorem bh_bd (d : Nat → Nat) : ∀ n, bh d n = bd d n ∧ (0 < n → bm d n = d (bd d n))
  | 0 => ⟨rfl, fun h => absurd h (by omega)⟩
  | 1 => by
    refine ⟨?_, fun _ => ?_⟩
    · rw [bd_1]
      show (if 0 < d 0 then 0 else 0) = 0
      by_cases h0 : 0 < d 0
      · rw [if_pos h0]
      · rw [if_neg h0]
    · rw [bd_1]
      show (if 0 < d 0 then d 0 else 0) = d 0
      by_cases h0 : 0 < d 0
      · rw [if_pos h0]
      · rw [if_neg h0]; omega
  | n + 2 => by
    obtain ⟨h1, h2⟩ := bh_bd d (n + 1)
    have h3 := h2 (by omega)
    have e1 : bh d (n + 2) = if bm d (n + 1) < d (n + 1) then n + 1 else bh d (n + 1) := rfl
    have e2 : bd d (n + 2) = if d (bd d (n + 1)) < d (n + 1) then n + 1 else bd d (n + 1) := rfl
    have e3 : bm d (n + 2) = if bm d (n + 1) < d (n + 1) then d (n + 1) else bm d (n + 1) := rfl
    rw [e1, e2, e3, h1, h3]
    by_cases hc : d (bd d (n + 1)) < d (n + 1)
    · rw [if_pos hc, if_pos hc]; exact ⟨rfl, fun _ => rfl⟩
    · rw [if_neg hc, if_neg hc]; exact ⟨rfl, fun _ => rfl⟩
theorem bm_le {d : Nat → Nat} {M : Nat} (h : ∀ k, d k ≤ M) : ∀ n, bm d n ≤ M
  | 0 => Nat.zero_le _
  | n + 1 => by rw [bm]; split; exact h n; exact bm_le h n
theorem bh_le (d : Nat → Nat) : ∀ n, bh d n ≤ n
  | 0 => Nat.zero_le _
  | n + 1 => by have := bh_le d n; rw [bh]; split <;> omega
def pHi (hz i : Nat) : Nat := if i = 0 then hz else i - 1
theorem pHi_s (hz i : Nat) : pHi hz (i + 1) = i := by simp [pHi]
theorem pRo_lt {od n : Nat} (h : od < 6) : pRo od n < 6 := by unfold pRo; split <;> omega
theorem pRz_lt {n : Nat} (h : n < 7) : pRz n < 7 := by unfold pRz; split <;> omega
theorem be_cs (v : Nat → Int32) : ∀ n, be v n = -1 ∨ ∃ j, j < n ∧ be v n = nI j
  | 0 => Or.inl rfl
  | n + 1 => by
    rw [be]
    split
    · rcases be_cs v n with h | ⟨j, h1, h2⟩
      · exact Or.inl h
      · exact Or.inr ⟨j, by omega, h2⟩
    · exact Or.inr ⟨n, by omega, rfl⟩
/-- a number's low part -/
def lw (v : Int32) (n : Nat) : Nat := (v &&& 2147483647).toNatClampNeg % n
theorem lw_nn (v : Int32) : ¬ (v &&& 2147483647) < 0 := by
  rw [Int32.lt_iff_toInt_lt, ← Int32.toInt_toBitVec, Int32.toInt_zero]
  have h : (v &&& 2147483647).toBitVec.msb = false := by
    rw [Int32.toBitVec_and, BitVec.msb_and, show (2147483647 : Int32).toBitVec.msb = false by decide, Bool.and_false]
  have := BitVec.toInt_nonneg_of_msb_false h
  omega
theorem lw_ok (v : Int32) {n : Nat} (h0 : 0 < n) (h1 : n < 100) : (v &&& 2147483647) - (v &&& 2147483647) / nI n * nI n = nI (lw v n) := by
  obtain ⟨j, hj, ej⟩ := nI_of (lw_nn v)
  rw [lw, ej, nI_clamp hj]
  exact pk_rem hj h0 (by omega)
theorem lw_lt (v : Int32) {n : Nat} (h0 : 0 < n) : lw v n < n := Nat.mod_lt _ h0
