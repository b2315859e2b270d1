/-! PURE: the class wipes and fills a zone -/
def aReset (A : NS) (z : Nat) : NS := aClear (aFailAll A z 1 2) z
def aFinish (A : NS) (z : Nat) : NS := aFailAll (setA A 13 z 3) z 0 3
theorem w_isZone {z : Nat} (hz : z < 8) : f_X5_isZone (nI z) = some 1 := by
  unfold f_X5_isZone
  have h8 : ¬ (8 : Int32) ≤ nI z := nI_ge hz (by decide)
  rw [if_neg (nI_pos (by omega)), if_neg h8]
  rfl
theorem w_isZone_no {p : Int32} (hp : p < 0 ∨ 8 ≤ p) : f_X5_isZone p = some 0 := by
  unfold f_X5_isZone
  by_cases h : p < 0
  · rw [if_pos h]; rfl
  · rw [if_neg h, if_pos (hp.resolve_left h)]; rfl
theorem w_clear {σ : SS} {A : NS} (h : RC σ A) {z : Nat} (hz : z < 8) : ∃ τ, f_X4_clear σ (nI z) = some τ ∧ RC τ (aClear A z) ∧ τ.2 = σ.2 ∧ τ.1 11 = σ.1 11 := by
  unfold f_X4_clear
  rw [oS_at hz (by decide), oS_at hz (by decide), oA_at hz (by decide), oS_at hz (by decide)]
  have e : (sA (sA σ 13 (upd (σ.1 13) z 0)) 16 (upd ((sA σ 13 (upd (σ.1 13) z 0)).1 16) z 0)).1 17 z = nI (A.1 17 z) := by
    rw [sA_ne (by decide), sA_ne (by decide)]
    exact h.zn (by decide) (by decide) hz
  rw [e, nI_1]
  refine ⟨_, rfl, ?_, rfl, by rw [sA_ne (by decide), sA_ne (by decide), sA_ne (by decide)]⟩
  exact RC_zone (RC_zone (RC_zone h (m := 13) (z := z) (v := 0) (by decide) (by decide)) (m := 16) (z := z) (v := 0) (by decide) (by decide)) (by decide) (by decide)
theorem LV.same {σ τ : SS} {n : Nat} {P : Nat → Bool} (h : LV σ n P) (e2 : τ.2 2 = σ.2 2) (e11 : τ.1 11 = σ.1 11) : LV τ n P := ⟨by rw [e2]; exact h.1, h.2.1, fun i hi => by rw [e11]; exact h.2.2 i hi⟩
theorem Bd_failAll {A : NS} (b : Bd A) {z q r : Nat} (hq : q < 2) (hr : r < 2 ^ 31) : Bd (aFailAll A z q r) := by
  refine ⟨by unfold aFailAll; rw [aFailTo_2]; exact b.1, fun m a => ?_, fun k => by unfold aFailAll; rw [aFailTo_2]; exact b.2.2 k⟩
  unfold aFailAll
  rw [aFailTo_1 (by omega)]
  split
  · split
    · decide
    · exact hr
  · exact b.2.1 m a
theorem w_wipe {σ : SS} {A : NS} {P : Nat → Bool} (h : RC σ A) (b : Bd A) (lv : LV σ (A.2 0) P) {z : Nat} (hz : z < 8) (hP : ∀ a, a < A.2 0 → A.1 5 a = 1 → P a = true) (h0 : A.1 13 z ≠ 0) :
    ∃ τ, f_X3_wipe σ (nI z) = some (nI (cnt (fun a => decide (A.1 5 a = 2 ∧ A.1 3 a = z ∧ A.1 9 a = A.1 17 z)) (A.2 0)), τ) ∧ RC τ (aReset A z) ∧ LV τ (A.2 0) (fun a => decide ((aFailAll A z 1 2).1 5 a = 0 ∨ (aFailAll A z 1 2).1 5 a = 1) && P a) := by
  obtain ⟨τ, f1, f2, f3⟩ := w_failInZone h b lv (z := z) (q := 1) (r := 2) (by omega) (by decide) (by decide) hP
  obtain ⟨υ, g1, g2, g3, g4⟩ := w_clear f2 hz
  have hph := h.zn (m := 13) (by decide) (by decide) hz
  have g0 : ¬ nI (A.1 13 z) = 0 := fun x => h0 ((nI_eq0 (b.2.1 13 z)).1 x)
  have ht := w_toldInGen h b (z := z) (g := A.1 17 z) (by omega) (b.2.1 17 z)
  have f1 : f_X0_failInZone σ (nI z) 1 2 = _ := f1
  unfold f_X3_wipe
  rw [w_isZone hz, oR_some, if_neg (by decide), oA_at hz (by decide), hph, if_neg g0, oA_at hz (by decide), h.zn (m := 17) (by decide) (by decide) hz, ht, oR_some, f1, oW_some, g1, oV_some]
  exact ⟨υ, rfl, g2, f3.same (by rw [g3]) g4⟩
theorem w_fill {σ : SS} {A : NS} {P : Nat → Bool} (h : RC σ A) (b : Bd A) (lv : LV σ (A.2 0) P) {z : Nat} (hz : z < 8) (hP : ∀ a, a < A.2 0 → A.1 5 a = 0 → P a = true) (h0 : A.1 13 z ≠ 0) (h3 : A.1 13 z ≠ 3) :
    ∃ τ, f_X3_fill σ (nI z) = some (nI (cnt (fun a => decide (A.1 3 a = z ∧ A.1 5 a = 0)) (A.2 0)), τ) ∧ RC τ (aFinish A z) ∧ LV τ (A.2 0) (fun a => decide ((aFinish A z).1 5 a = 0 ∨ (aFinish A z).1 5 a = 1) && P a) := by
  have hph := h.zn (m := 13) (by decide) (by decide) hz
  have g0 : ¬ nI (A.1 13 z) = 0 := fun x => h0 ((nI_eq0 (b.2.1 13 z)).1 x)
  have g3 : ¬ nI (A.1 13 z) = 3 := fun x => h3 ((nI_eq (b := 3) (b.2.1 13 z) (by decide)).1 x)
  have h' : RC (sA σ 13 (upd (σ.1 13) z 3)) (setA A 13 z 3) := RC_zone h (m := 13) (z := z) (v := 3) (by decide) (by decide)
  have b' : Bd (setA A 13 z 3) := ⟨b.1, fun m a => by
    show (if m = 13 ∧ a = z then 3 else A.1 m a) < _
    split
    · decide
    · exact b.2.1 m a, b.2.2⟩
  obtain ⟨τ, f1, f2, f3⟩ := w_failInZone h' b' (P := P) (lv.same rfl (by rw [sA_ne (by decide)])) (z := z) (q := 0) (r := 3) (by omega) (by decide) (by decide) (fun a ha e => hP a ha (by rw [setA_nm (by decide)] at e; exact e))
  have f1 : f_X0_failInZone (sA σ 13 (upd (σ.1 13) z 3)) (nI z) 0 3 = _ := f1
  unfold f_X3_fill
  rw [w_isZone hz, oR_some, if_neg (by decide), oA_at hz (by decide), hph, if_neg g0, oA_at hz (by decide), hph, if_neg g3, oS_at hz (by decide), f1, oW_some]
  exact ⟨τ, rfl, f2, f3⟩
