/-! PURE: an earlier append of the same writer that is neither told nor failed -/
def Ahead (A : NS) (a : Nat) : Prop := ∃ b, b < a ∧ A.1 2 b = A.1 2 a ∧ (A.1 5 b = 0 ∨ A.1 5 b = 1)
theorem w_isAhead {σ : SS} {A : NS} {P : Nat → Bool} (h : RC σ A) (b : Bd A) (lv : LV σ (A.2 0) P) {a : Nat} (ha : a < A.2 0) (hP : ∀ c, c < A.2 0 → A.1 5 c = 0 ∨ A.1 5 c = 1 → P c = true) :
    (Ahead A a → f_X0_isAhead σ (nI a) = some 1) ∧ (¬ Ahead A a → f_X0_isAhead σ (nI a) = some 0) := by
  have hn := b.1
  have hl := lv.2.1
  have key : f_X0_isAhead σ (nI a) = scan (fun c => decide (a ≤ c)) (fun c => decide (A.1 2 c = A.1 2 a ∧ (A.1 5 c = 0 ∨ A.1 5 c = 1))) (some 0) (some 1) ((List.range (A.2 0)).filter P) := by
    unfold f_X0_isAhead
    have L := loop_scan ((List.range (A.2 0)).filter P) (fun m i => f_X0_isAhead_L2 σ (nI a) (oB 0) m i) (fun c => decide (a ≤ c)) (fun c => decide (A.1 2 c = A.1 2 a ∧ (A.1 5 c = 0 ∨ A.1 5 c = 1))) (some 0) (some 1) (fun m => ?_) (fun m i hi => ?_) FU (by show _ < 20000; omega)
    · exact L
    · show f_X0_isAhead_L2 σ (nI a) (oB 0) (m + 1) (nI _) = _
      rw [f_X0_isAhead_L2, lv.len, if_pos (nI_le (Nat.le_refl _) (by omega))]; rfl
    · obtain ⟨hc, hp⟩ := live_lt hi
      show f_X0_isAhead_L2 σ (nI a) (oB 0) (m + 1) (nI i) = _
      rw [f_X0_isAhead_L2, lv.len, if_neg (nI_ge hi (by omega)), oA_at (show i < 33 by omega) (by decide), lv.2.2 i hi]
      simp only [oJ_to, oA_at (n := 33) (show i < 33 by omega) (by decide), lv.2.2 i hi]
      generalize ((List.range (A.2 0)).filter P)[i] = c at hc hp
      rw [if_leN (by omega) (by omega), oA_at (show c < 201 by omega) (by decide), oA_at (show a < 201 by omega) (by decide), h.ap (by decide) (by decide) hc, h.ap (by decide) (by decide) ha, w_isLive h b hc, oR_some, nI_1, if_eqN (b.2.1 2 c) (b.2.1 2 a), oB0, oB1]
      by_cases e1 : a ≤ c
      · simp [e1]
      · by_cases e2 : A.1 2 c = A.1 2 a
        · by_cases e3 : A.1 5 c = 0 ∨ A.1 5 c = 1
          · simp [e1, e2, e3]
          · simp [e1, e2, e3]
        · simp [e1, e2]
  have hpw : ((List.range (A.2 0)).filter P).Pairwise (· < ·) := List.Pairwise.filter _ List.pairwise_lt_range
  constructor
  · rintro ⟨c, hc, h2, h3⟩
    rw [key]
    exact scan_upto _ hpw ⟨c, List.mem_filter.2 ⟨List.mem_range.2 (by omega), hP c (by omega) h3⟩, hc, decide_eq_true ⟨h2, h3⟩⟩
  · intro hno
    rw [key]
    exact scan_none _ fun c _ hlt hQ => hno ⟨c, hlt, of_decide_eq_true hQ⟩
