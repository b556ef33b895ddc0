/-! what the class's looks answer; the bits of a share; the digest -/
def cSq (fh fo fc : Nat → Int32) (hz q wh : Nat) : Int32 := match wh with
  | 0 => fh q
  | 1 => fo q
  | 2 => fc q
  | 3 => zb (pDk fh q hz)
  | 4 => zb (pDs fh q hz)
  | 5 => nI (pTn fo fh 0 q hz + pTn fo fh 1 q hz)
  | 6 => nI (pBn fh q hz)
  | _ => pMk fh q
def cPl (fh fo fc fs : Nat → Int32) (hz pl wh : Nat) : Int32 := match wh with
  | 0 => fs pl
  | 1 => nI (pOw fo pl)
  | 2 => pHs fo fh pl
  | 3 => nI (pOd fo fh hz pl)
  | 4 => pPy fo fh fc hz pl
  | _ => nI (pRv fo fh hz pl)
def cCo (fh fo fc : Nat → Int32) (hz mv : Nat) (tu rf : Int32) (kn wh : Nat) : Int32 := match wh with
  | 0 => nI hz
  | 1 => nI (hz / 3)
  | 2 => nI (pSt hz)
  | 3 => nI mv
  | 4 => tu
  | 5 => nI (pDn fh hz)
  | 6 => nI (pOw fo 0 + pOw fo 1)
  | 7 => pCt fc
  | 8 => rf
  | _ => nI kn
def cLe (fh : Nat → Int32) (hz f q : Nat) : Int32 := if pDi (hz / 3) q f = 0 ∨ ¬ fh q + nI (pDi (hz / 3) q f * pSt hz) + 1 ≤ 9 then -1 else fh q + nI (pDi (hz / 3) q f * pSt hz) + 1
def fr (n : Nat) : Nat → UInt64
  | 0 => pFq n
  | i + 1 => FP.dmul (fr n i) 4611686018427387904
def kb (n : Nat) : Nat := if 36 ≤ n then 0 else if 18 ≤ n then 1 else if 9 ≤ n then 2 else if 5 ≤ n then 3 else if 3 ≤ n then 4 else if 2 ≤ n then 5 else 6
theorem kb_le (n : Nat) : kb n ≤ 6 := by unfold kb; repeat (first | split | omega)
theorem fr_0 : ∀ n, n < 37 → (0 < Op.cmpValue (FP.dcmp (pFq n) 0) CmpOp.g ↔ ¬ n = 0) := by decide +kernel
theorem fr_z : (0 : Int64) = (pFq 0).toInt64 := by decide +kernel
theorem fr_c : ∀ n, n < 37 → 0 < n → ∀ i, i < kb n + 1 → (0 ≤ Op.cmpValue (FP.dcmp (fr n i) 4607182418800017408) CmpOp.g ↔ ¬ i < kb n) := by decide +kernel
theorem fr_n : ∀ n, n < 37 → 0 < n → ∀ i, i < kb n → (fr n (i + 1)) &&& 0x7fffffffffffffff ≤ 0x7ff0000000000000 := by decide +kernel
theorem fr_s : ∀ n, n < 37 → 0 < n → (FP.dsub (fr n (kb n)) 4607182418800017408) &&& 0x7fffffffffffffff ≤ 0x7ff0000000000000 := by decide +kernel
theorem fr_m : ∀ n, n < 37 → 0 < n → (FP.dmul (FP.dsub (fr n (kb n)) 4607182418800017408) 4841369599423283200) &&& 0x7fffffffffffffff ≤ 0x7ff0000000000000 := by decide +kernel
theorem fr_e : ∀ n, n < 37 → 0 < n → (((lN (1023 - kb n)) <<< ((52 : Int32).toInt64 &&& 63)) ||| (FP.d2l (FP.dmul (FP.dsub (fr n (kb n)) 4607182418800017408) 4841369599423283200))) = (pFq n).toInt64 := by decide +kernel
theorem fr_l : ∀ i, i < 7 → (lg_cmp (lN (1023 - i)) 1 ≤ 0 ↔ False) := by decide +kernel
/-- all squares into the hash -/
def cHs (sq : Nat → Nat → Int32) (wn wo : Nat → Int32) : Nat → Int64 → Int64
  | 0, h => h
  | n + 1, h => ((31 * ((31 * (hf (sq n) 8 (cHs sq wn wo n h))) + (wn n).toInt64)) + (wo n).toInt64)
def cHp (pl : Nat → Nat → Int32) : Nat → Int64 → Int64
  | 0, h => h
  | n + 1, h => hf (pl n) 6 (cHp pl n h)
def hs1 (h : Int64) (v : Int32) : Int64 := (31 * h) + v.toInt64
def hs2 (h : Int64) (v : Int64) : Int64 := (31 * h) + v
/-- a kept slot as a number -/
def kb1 (x : Int32) : Int32 := if x = 0 then 0 else 1
def cDg (fh fo fc fs : Nat → Int32) (hz mv : Nat) (tu rf : Int32) (kn : Nat) (fk fx : Nat → Int32) (ln : Nat) : Int64 :=
  hf fx ln (hs1 (hf (fun k => kb1 (fk k)) 2 (hs2 (hs1 (hs1 (hs1 (hs1 (hs1 (hs1 (cHp (cPl fh fo fc fs hz) 2 (cHs (cSq fh fo fc hz) (fun q => nI (pRe fo fh hz mv q)) (cWo fo fh fc hz mv) 36 (hf (cCo fh fo fc hz mv tu rf kn) 10 3631)))
    (be (cWo fo fh fc hz mv) 36)) (cLe fh hz 0 5)) (cLe fh hz 5 0)) (cLe fh hz 30 0)) (cLe fh hz 0 30)) (nI (bd (pDn fh) 12))) (pFq (pDn fh hz)).toInt64)) (nI ln))
