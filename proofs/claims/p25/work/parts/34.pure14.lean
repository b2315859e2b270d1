/-! PURE: the reference resets and finishes a zone -/
theorem w_sweep {σ : MS} {z : Nat} (hz : z < 8) : ∃ τ, f_X6_sweep σ (nI z) = some τ ∧ τ.2 = σ.2 ∧ (∀ j, j ≠ 1 → τ.1 j = σ.1 j) ∧ (∀ i, ¬ (10 + 22 * z + 6 ≤ i ∧ i < 10 + 22 * z + 22) → τ.1 1 i = σ.1 1 i) ∧ ∀ q, q < 16 → τ.1 1 (10 + 22 * z + (6 + q)) = -5 := by
  unfold f_X6_sweep
  have L := loop_to (B := Unit) 16 (fun m i (c : MS) => f_X6_sweep_L2 (nI z) (fun sx29 => some sx29) m i c) (fun c => some c) (fun _ b => b)
    (fun i _ c => c.2 = σ.2 ∧ (∀ j, j ≠ 1 → c.1 j = σ.1 j) ∧ (∀ x, ¬ (10 + 22 * z + 6 ≤ x ∧ x < 10 + 22 * z + 6 + i) → c.1 1 x = σ.1 1 x) ∧ ∀ q, q < i → c.1 1 (10 + 22 * z + (6 + q)) = -5) (fun m _ c hR => ?_) (fun m i _ c hi hR => ?_) σ () FU ⟨rfl, fun _ _ => rfl, fun _ _ => rfl, fun _ h => absurd h (Nat.not_lt_zero _)⟩ (by decide)
  · obtain ⟨c, ⟨h1, h2, h3, h4⟩, e⟩ := L
    exact ⟨c, e, h1, h2, fun i hi => h3 i (by omega), h4⟩
  · show f_X6_sweep_L2 (nI z) (fun sx29 => some sx29) (m + 1) (nI 16) c = _
    rw [f_X6_sweep_L2, if_pos (by decide)]
  · obtain ⟨h1, h2, h3, h4⟩ := hR
    have h16 : ¬ (16 : Int32) ≤ nI i := nI_ge hi (by decide)
    have e6 : f_X6_of (nI z) (6 + nI i) = some (nI (10 + 22 * z + (6 + i))) := by
      rw [show (6 : Int32) = nI 6 from rfl, nI_add]
      exact w_of z (6 + i)
    have l6 : 10 + 22 * z + (6 + i) < 2204 := by omega
    show ∃ c' : MS, _ ∧ f_X6_sweep_L2 (nI z) (fun sx29 => some sx29) (m + 1) (nI i) c = f_X6_sweep_L2 (nI z) (fun sx29 => some sx29) m (nI (i + 1)) c'
    rw [f_X6_sweep_L2, if_neg h16, e6, oR_some, oS_at l6 (by decide), nI_1]
    refine ⟨sA c 1 (upd (c.1 1) (10 + 22 * z + (6 + i)) (-5)), ⟨h1, fun j hj => by rw [sA_ne hj]; exact h2 j hj, fun x hx => ?_, fun q hq => ?_⟩, rfl⟩
    · rw [sA_eq, upd_ne (by omega)]
      exact h3 x (by omega)
    · rw [sA_eq]
      by_cases e : q = i
      · subst e
        rw [upd_eq]
      · rw [upd_ne (by omega)]
        exact h4 q (by omega)
theorem w_resets {σ : MS} {A : NS} (h : RM (σ.1 1) A) (b : Bd A) {z : Nat} (hz : z < 8) {ρ : Int32} (hρ : f_X6_readable σ (nI z) = some ρ) (hin : ∀ a, a < A.2 0 → A.1 5 a = 2 → A.1 3 a = z → A.1 9 a ≤ A.1 17 z) :
    ∃ τ, f_X6_resets σ (nI z) = some (ρ, τ) ∧ RM (τ.1 1) (aReset A z) ∧ τ.2 = σ.2 ∧ ∀ j, j ≠ 1 → τ.1 j = σ.1 j := by
  obtain ⟨s, f1, f2, f3, f4⟩ := w_failAll h b (z := z) (q := 1) (r := 2) (by omega) (by decide)
  have f1 : f_X6_failAll σ (nI z) 1 2 = _ := f1
  obtain ⟨t, g1, g2, g3, g4, g5⟩ := w_sweep (σ := s) hz
  have n0 : (aFailAll A z 1 2).2 0 = A.2 0 := by unfold aFailAll; rw [aFailTo_2]
  have o0 : f_X6_of (nI z) 0 = some (nI (10 + 22 * z)) := w_of z 0
  have o3 : f_X6_of (nI z) 3 = some (nI (10 + 22 * z + 3)) := w_of z 3
  have o4 : f_X6_of (nI z) 4 = some (nI (10 + 22 * z + 4)) := w_of z 4
  have l0 : 10 + 22 * z < 2204 := by omega
  have l3 : 10 + 22 * z + 3 < 2204 := by omega
  have l4 : 10 + 22 * z + 4 < 2204 := by omega
  have a17 : (aFailAll A z 1 2).1 17 z = A.1 17 z := by unfold aFailAll; rw [aFailTo_1 (by decide), if_neg (by omega)]
  have a3 : ∀ a, (aFailAll A z 1 2).1 3 a = A.1 3 a := fun a => by unfold aFailAll; rw [aFailTo_1 (by decide), if_neg (by omega)]
  have a9 : ∀ a, (aFailAll A z 1 2).1 9 a = A.1 9 a := fun a => by unfold aFailAll; rw [aFailTo_1 (by decide), if_neg (by omega)]
  have a5 : ∀ a, (aFailAll A z 1 2).1 5 a = 2 → A.1 5 a = 2 := fun a => by
    unfold aFailAll
    rw [aFailTo_1 (by decide)]
    split
    · simp
    · exact id
  have e4 : (sA (sA t 1 (upd (t.1 1) (10 + 22 * z) 0)) 1 (upd ((sA t 1 (upd (t.1 1) (10 + 22 * z) 0)).1 1) (10 + 22 * z + 3) 0)).1 1 (10 + 22 * z + 4) = nI (A.1 17 z) := by
    rw [sA_eq, upd_ne (by omega), sA_eq, upd_ne (by omega), g4 _ (by omega), f2.zn (k := 4) hz (by decide)]
    exact congrArg nI a17
  unfold f_X6_resets
  rw [hρ, oR_some, f1, oW_some, g1, oV_some, o0, oR_some, oS_at l0 (by decide), o3, oR_some, oS_at l3 (by decide), o4, oR_some, oA_at l4 (by decide), oS_at l4 (by decide), e4, nI_1]
  refine ⟨_, rfl, ?_, g2.trans f3, fun j hj => by rw [sA_ne hj, sA_ne hj, sA_ne hj, g3 j hj, f4 j hj]⟩
  simp only [sA_eq]
  unfold aReset
  refine RM_clear f2 hz (by rw [n0]; exact b.1) (fun a ha hp h3 => ?_) (fun i hi => ?_) ?_ ?_ ?_ ?_ ?_ ?_ (fun q hq => ?_)
  · rw [n0] at ha
    rw [a17, a9]
    rw [a3] at h3
    exact hin a ha (a5 a hp) h3
  · rw [upd_ne (by omega), upd_ne (by omega), upd_ne (by omega), g4 _ (by omega)]
  · rw [upd_ne (by omega), upd_ne (by omega), upd_eq]
  · rw [upd_ne (by omega), upd_ne (by omega), upd_ne (by omega), g4 _ (by omega)]
  · rw [upd_ne (by omega), upd_ne (by omega), upd_ne (by omega), g4 _ (by omega)]
  · rw [upd_ne (by omega), upd_eq]
  · rw [upd_eq, a17]
  · rw [upd_ne (by omega), upd_ne (by omega), upd_ne (by omega), g4 _ (by omega)]
  · rw [upd_ne (by omega), upd_ne (by omega), upd_ne (by omega)]
    exact g5 q hq
theorem w_finishes {σ : MS} {A : NS} (h : RM (σ.1 1) A) (b : Bd A) {z : Nat} (hz : z < 8) :
    ∃ τ, f_X6_finishes σ (nI z) = some (nI (cnt (fun a => decide (A.1 3 a = z ∧ A.1 5 a = 0)) (A.2 0)), τ) ∧ RM (τ.1 1) (aFinish A z) ∧ τ.2 = σ.2 ∧ ∀ j, j ≠ 1 → τ.1 j = σ.1 j := by
  have o0 : f_X6_of (nI z) 0 = some (nI (10 + 22 * z)) := w_of z 0
  have l0 : 10 + 22 * z < 2204 := by omega
  have h' : RM ((sA σ 1 (upd (σ.1 1) (10 + 22 * z) 3)).1 1) (setA A 13 z 3) := by
    rw [sA_eq]
    exact RM_zone h b (k := 0) (v := 3) hz (by decide)
  have b' : Bd (setA A 13 z 3) := ⟨b.1, fun m a => by
    show (if m = 13 ∧ a = z then 3 else A.1 m a) < _
    split
    · decide
    · exact b.2.1 m a, b.2.2⟩
  obtain ⟨s, f1, f2, f3, f4⟩ := w_failAll h' b' (z := z) (q := 0) (r := 3) (by omega) (by decide)
  have f1 : f_X6_failAll (sA σ 1 (upd (σ.1 1) (10 + 22 * z) 3)) (nI z) 0 3 = _ := f1
  unfold f_X6_finishes
  rw [o0, oR_some, oS_at l0 (by decide), f1, oW_some]
  exact ⟨s, rfl, f2, f3, fun j hj => by rw [f4 j hj, sA_ne hj]⟩
