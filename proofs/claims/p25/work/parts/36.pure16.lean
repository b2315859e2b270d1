/-! PURE: sending on both sides -/
/-- no room for an append of writer w -/
def Full (A : NS) (w : Nat) : Prop := 200 ≤ A.2 0 ∨ A.1 19 w ≤ cnt (fun a => decide (A.1 5 a = 0 ∧ A.1 2 a = w)) (A.2 0) + cnt (fun a => decide (A.1 5 a = 1 ∧ A.1 2 a = w)) (A.2 0)
theorem cnt_comm {A : NS} {w q n : Nat} : cnt (fun a => decide (A.1 2 a = w ∧ A.1 5 a = q)) n = cnt (fun a => decide (A.1 5 a = q ∧ A.1 2 a = w)) n :=
  cnt_congr fun a _ => by simp only [and_comm]
theorem w_sendC_full {σ : SS} {A : NS} (h : RC σ A) (b : Bd A) {w z v : Nat} (hw : w < 4) (hz : z < 8) (hv : v ≤ 99) (hf : Full A w) : f_X3_send σ (nI w) (nI z) (nI v) = some (-3, σ) := by
  have hn := b.1
  have c0 := cnt_le (fun a => decide (A.1 5 a = 0 ∧ A.1 2 a = w)) (A.2 0)
  have c1 := cnt_le (fun a => decide (A.1 5 a = 1 ∧ A.1 2 a = w)) (A.2 0)
  have a0 : f_X0_ofWriter σ (nI w) 0 = _ := w_ofWriterC h b (w := w) (q := 0) (by omega) (by decide)
  have a1 : f_X0_ofWriter σ (nI w) 1 = _ := w_ofWriterC h b (w := w) (q := 1) (by omega) (by decide)
  rw [cnt_comm] at a0 a1
  have hv2 : ¬ (99 : Int32) < nI v := nI_nlt (a := 99) hv (by decide)
  have g : (nI (A.2 0) < (200 : Int32)) ↔ A.2 0 < 200 := nI_ltI (b := 200) (by omega) (by decide)
  unfold f_X3_send
  rw [w_isWriter hw, oR_some, if_neg (by decide), w_isZone hz, oR_some, if_neg (by decide), w_isFrom (nI_pos (by omega)) hv2, oR_some, if_neg (by decide), a0, oR_some, a1, oR_some, oA_at hw (by decide), h.wr (by decide) (by decide) hw, nI_add, if_leN (b.2.1 19 w) (by omega), h.n0]
  simp only [g]
  rcases hf with hf | hf
  · rw [if_neg (show ¬ A.2 0 < 200 by omega)]
    split <;> rfl
  · rw [if_pos hf]
theorem w_sendC {σ : SS} {A : NS} {P Q : Nat → Bool} (h : RC σ A) (b : Bd A) (lv : LV σ (A.2 0) P) {w z v : Nat} (hw : w < 4) (hz : z < 8) (hv : v ≤ 99) (hf : ¬ Full A w) (hl : ((List.range (A.2 0)).filter P).length < 33) (hQ : ∀ a, a < A.2 0 → Q a = P a) (hQn : Q (A.2 0) = true) :
    ∃ τ, f_X3_send σ (nI w) (nI z) (nI v) = some (nI (A.2 0), τ) ∧ RC τ (aAdd A w z v) ∧ LV τ (A.2 0 + 1) Q := by
  have hn := b.1
  have c0 := cnt_le (fun a => decide (A.1 5 a = 0 ∧ A.1 2 a = w)) (A.2 0)
  have c1 := cnt_le (fun a => decide (A.1 5 a = 1 ∧ A.1 2 a = w)) (A.2 0)
  have a0 : f_X0_ofWriter σ (nI w) 0 = _ := w_ofWriterC h b (w := w) (q := 0) (by omega) (by decide)
  have a1 : f_X0_ofWriter σ (nI w) 1 = _ := w_ofWriterC h b (w := w) (q := 1) (by omega) (by decide)
  rw [cnt_comm] at a0 a1
  have hv2 : ¬ (99 : Int32) < nI v := nI_nlt (a := 99) hv (by decide)
  have g : (nI (A.2 0) < (200 : Int32)) ↔ A.2 0 < 200 := nI_ltI (b := 200) (by omega) (by decide)
  have f1 : ¬ 200 ≤ A.2 0 := fun x => hf (Or.inl x)
  have f2 : ¬ A.1 19 w ≤ cnt (fun a => decide (A.1 5 a = 0 ∧ A.1 2 a = w)) (A.2 0) + cnt (fun a => decide (A.1 5 a = 1 ∧ A.1 2 a = w)) (A.2 0) := fun x => hf (Or.inr x)
  obtain ⟨τ, t1, t2, t3⟩ := w_addC h b lv (w := w) (z := z) (v := v) (by omega) hl hQ hQn
  have hm : ¬ nI (A.2 0) = -1 := fun x => nI_pos (n := A.2 0) (by omega) (by rw [x]; decide)
  unfold f_X3_send
  rw [w_isWriter hw, oR_some, if_neg (by decide), w_isZone hz, oR_some, if_neg (by decide), w_isFrom (nI_pos (by omega)) hv2, oR_some, if_neg (by decide), a0, oR_some, a1, oR_some, oA_at hw (by decide), h.wr (by decide) (by decide) hw, nI_add, if_leN (b.2.1 19 w) (by omega), h.n0, if_neg f2]
  simp only [g]
  rw [if_pos (show A.2 0 < 200 by omega), t1, oW_some, if_neg hm]
  exact ⟨τ, rfl, t2, t3⟩
