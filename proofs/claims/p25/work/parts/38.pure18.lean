/-! PURE: closing a zone on both sides (the reference behind its taking note of the state before) -/
def aClose (A : NS) (z : Nat) : NS := setA A 13 z 2
theorem Bd_setA {A : NS} (b : Bd A) {m a v : Nat} (hv : v < 2 ^ 31) : Bd (setA A m a v) :=
  ⟨b.1, fun j i => by
    show (if j = m ∧ i = a then v else A.1 j i) < _
    split
    · exact hv
    · exact b.2.1 j i, b.2.2⟩
theorem w_shut {σ : SS} {A : NS} {P : Nat → Bool} (h : RC σ A) (b : Bd A) (lv : LV σ (A.2 0) P) {z : Nat} (hz : z < 8) (hP : ∀ a, a < A.2 0 → A.1 5 a = 1 → P a = true) (h1 : A.1 13 z = 1) (h0 : cnt (fun a => decide (A.1 3 a = z ∧ A.1 5 a = 1)) (A.2 0) = 0) :
    ∃ τ, f_X3_shut σ (nI z) = some (nI (cnt (fun y => decide ((aClose A z).1 13 y = 1)) 8), τ) ∧ RC τ (aClose A z) ∧ LV τ (A.2 0) P := by
  have hl : f_X0_liveInZone σ (nI z) 1 = _ := w_liveInZone h b lv (z := z) (q := 1) (by omega) (by decide) hP
  have h' : RC (sA σ 13 (upd (σ.1 13) z 2)) (setA A 13 z 2) := RC_zone h (m := 13) (z := z) (v := 2) (by decide) (by decide)
  have hi : f_X4_inPhase (sA σ 13 (upd (σ.1 13) z 2)) 1 = _ := w_inPhase h' (q := 1) (by decide) (fun y _ => (Bd_setA b (by decide)).2.1 13 y)
  unfold f_X3_shut
  rw [w_isZone hz, oR_some, if_neg (by decide), oA_at hz (by decide), h.zn (by decide) (by decide) hz, h1, if_pos (show nI 1 = 1 from rfl), hl, oR_some, h0, if_pos (show nI 0 ≤ 0 by decide), oS_at hz (by decide), hi, oR_some]
  exact ⟨_, rfl, h', lv.same rfl (by rw [sA_ne (by decide)])⟩
theorem w_shut_no {σ : SS} {A : NS} {P : Nat → Bool} (h : RC σ A) (b : Bd A) (lv : LV σ (A.2 0) P) {z : Nat} (hz : z < 8) (hP : ∀ a, a < A.2 0 → A.1 5 a = 1 → P a = true) (h1 : ¬ (A.1 13 z = 1 ∧ cnt (fun a => decide (A.1 3 a = z ∧ A.1 5 a = 1)) (A.2 0) = 0)) : f_X3_shut σ (nI z) = some (-4, σ) := by
  have hn := b.1
  have hl : f_X0_liveInZone σ (nI z) 1 = _ := w_liveInZone h b lv (z := z) (q := 1) (by omega) (by decide) hP
  have g1 : (nI (A.1 13 z) = 1) ↔ A.1 13 z = 1 := nI_eq (b := 1) (b.2.1 13 z) (by decide)
  have hc := cnt_le (fun a => decide (A.1 3 a = z ∧ A.1 5 a = 1)) (A.2 0)
  have g2 : (nI (cnt (fun a => decide (A.1 3 a = z ∧ A.1 5 a = 1)) (A.2 0)) ≤ 0) ↔ cnt (fun a => decide (A.1 3 a = z ∧ A.1 5 a = 1)) (A.2 0) ≤ 0 := nI_leI (b := 0) (by omega) (by decide)
  unfold f_X3_shut
  rw [w_isZone hz, oR_some, if_neg (by decide), oA_at hz (by decide), h.zn (by decide) (by decide) hz, hl, oR_some]
  by_cases e : A.1 13 z = 1
  · rw [if_pos (g1.2 e), if_neg (fun x => h1 ⟨e, Nat.le_zero.1 (g2.1 x)⟩)]
  · rw [if_neg (fun x => e (g1.1 x))]
