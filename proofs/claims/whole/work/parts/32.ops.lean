/-! a state taken back; the digest by the slots' marks -/
theorem ST_pop {gp fn : Nat → Int32} {kn od sz6 : Nat} (h : ST gp fn kn od sz6) (h0 : 0 < sz6) : ST gp fn (kn - 1) od (sz6 - 1) := by
  obtain ⟨h1, h2, h3, h4⟩ := h
  exact ⟨by rw [h1], by omega, h3, fun j hj => h4 j (by omega)⟩
theorem cDg_gk {fh fo fc fs fk gk fx : Nat → Int32} {hz mv kn : Nat} {tu rf : Int32} (h : ∀ j, j < 2 → fk j = gk j) (ln u : Nat) : cDg fh fo fc fs hz mv tu rf kn fk fx ln = cDg fh fo fc fs hz mv tu rf kn gk fx ln := by
  unfold cDg
  rw [hf_congr (v := fun k => kb1 (fk k)) (w := fun k => kb1 (gk k)) _ (fun i hi => by show kb1 (fk i) = kb1 (gk i); rw [h i hi])]
