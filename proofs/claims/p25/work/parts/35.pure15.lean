/-! PURE: bounds of arguments on both sides -/
theorem w_isFrom_no {p lo hi : Int32} (h : p < lo ∨ hi < p) : f_X5_isFrom p lo hi = some 0 := by
  unfold f_X5_isFrom
  by_cases e : p < lo
  · rw [if_pos e]; rfl
  · rw [if_neg e, if_pos (h.resolve_left e)]; rfl
theorem w_isFrom {p lo hi : Int32} (h1 : ¬ p < lo) (h2 : ¬ hi < p) : f_X5_isFrom p lo hi = some 1 := by
  unfold f_X5_isFrom
  rw [if_neg h1, if_neg h2]; rfl
theorem w_in_no {p lo hi : Int32} (h : p < lo ∨ hi < p) : f_X6_in p lo hi = some 0 := by
  unfold f_X6_in
  by_cases e : p < lo
  · rw [if_pos e]; rfl
  · rw [if_neg e, if_pos (h.resolve_left e)]; rfl
theorem w_in {p lo hi : Int32} (h1 : ¬ p < lo) (h2 : ¬ hi < p) : f_X6_in p lo hi = some 1 := by
  unfold f_X6_in
  rw [if_neg h1, if_neg h2]; rfl
theorem w_isWriter {w : Nat} (hw : w < 4) : f_X5_isWriter (nI w) = some 1 := by
  unfold f_X5_isWriter
  have h4 : ¬ (4 : Int32) ≤ nI w := nI_ge hw (by decide)
  rw [if_neg (nI_pos (by omega)), if_neg h4]
  rfl
theorem w_isWriter_no {p : Int32} (hp : p < 0 ∨ 4 ≤ p) : f_X5_isWriter p = some 0 := by
  unfold f_X5_isWriter
  by_cases h : p < 0
  · rw [if_pos h]; rfl
  · rw [if_neg h, if_pos (hp.resolve_left h)]; rfl
theorem w_isZoneM {z : Nat} (hz : z < 8) : f_X6_isZone (nI z) = some 1 := by
  have h7 : ¬ (7 : Int32) < nI z := nI_nlt (a := 7) (by omega) (by decide)
  unfold f_X6_isZone
  rw [w_in (nI_pos (by omega)) h7, oR_some]; rfl
theorem w_isZoneM_no {p : Int32} (hp : p < 0 ∨ 7 < p) : f_X6_isZone p = some 0 := by
  unfold f_X6_isZone
  rw [w_in_no hp, oR_some]; rfl
theorem w_isWriterM {w : Nat} (hw : w < 4) : f_X6_isWriter (nI w) = some 1 := by
  have h3 : ¬ (3 : Int32) < nI w := nI_nlt (a := 3) (by omega) (by decide)
  unfold f_X6_isWriter
  rw [w_in (nI_pos (by omega)) h3, oR_some]; rfl
theorem w_isWriterM_no {p : Int32} (hp : p < 0 ∨ 3 < p) : f_X6_isWriter p = some 0 := by
  unfold f_X6_isWriter
  rw [w_in_no hp, oR_some]; rfl
/-- an int is one of 0 .. n-1, or none -/
theorem int_cases (p : Int32) (n : Nat) (hn : n < 2 ^ 31) : (∃ z, z < n ∧ p = nI z) ∨ p < 0 ∨ nI n ≤ p := by
  by_cases h : p < 0
  · exact Or.inr (Or.inl h)
  · obtain ⟨j, hj, rfl⟩ := nI_of h
    by_cases e : j < n
    · exact Or.inl ⟨j, e, rfl⟩
    · exact Or.inr (Or.inr (nI_le (by omega) hj))
theorem w_room {σ : MS} {A : NS} (h : RM (σ.1 1) A) (b : Bd A) {w : Nat} (hw : w < 4) : f_X6_isRoom σ (nI w) = some (if 200 ≤ A.2 0 ∨ A.1 19 w ≤ cnt (fun a => decide (A.1 5 a = 0 ∧ A.1 2 a = w)) (A.2 0) + cnt (fun a => decide (A.1 5 a = 1 ∧ A.1 2 a = w)) (A.2 0) then 0 else 1) := by
  have hn := b.1
  have c0 := cnt_le (fun a => decide (A.1 5 a = 0 ∧ A.1 2 a = w)) (A.2 0)
  have c1 := cnt_le (fun a => decide (A.1 5 a = 1 ∧ A.1 2 a = w)) (A.2 0)
  have a0 : f_X6_appendsOf σ 0 (nI w) = _ := w_appendsOf h b (q := 0) (w := w) (by decide) (by omega)
  have a1 : f_X6_appendsOf σ 1 (nI w) = _ := w_appendsOf h b (q := 1) (w := w) (by decide) (by omega)
  have o0 : f_X6_ofWriter (nI w) 0 = some (nI (186 + 2 * w)) := w_ofWriter w 0
  have l0 : 186 + 2 * w < 2204 := by omega
  have g : ((200 : Int32) ≤ nI (A.2 0)) ↔ 200 ≤ A.2 0 := nI_leI (a := 200) (by decide) (by omega)
  unfold f_X6_isRoom
  rw [oA_lit 5 5 rfl (by decide) (by decide), h.n0, a0, oR_some, a1, oR_some, o0, oR_some, oA_at l0 (by decide), (h.2.2.2.1 w hw).1, nI_add, if_leN (b.2.1 19 w) (by omega)]
  simp only [g]
  generalize cnt (fun a => decide (A.1 5 a = 0 ∧ A.1 2 a = w)) (A.2 0) + cnt (fun a => decide (A.1 5 a = 1 ∧ A.1 2 a = w)) (A.2 0) = X
  by_cases e : 200 ≤ A.2 0
  · simp [e, oB0]
  · by_cases e2 : A.1 19 w ≤ X
    · simp [e2, oB0]
    · simp [e, e2, oB1]
