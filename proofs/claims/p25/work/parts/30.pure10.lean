/-! PURE: all appends of a zone in a phase fail -/
def stF (z q r : Nat) (A : NS) (a : Nat) : NS := if A.1 3 a = z ∧ A.1 5 a = q then aFail A a r else A
def aFailTo (A : NS) (z q r : Nat) : Nat → NS
  | 0 => A
  | n + 1 => stF z q r (aFailTo A z q r n) n
def aFailAll (A : NS) (z q r : Nat) : NS := aFailTo A z q r (A.2 0)
theorem aFail_2 {A : NS} {a r : Nat} : (aFail A a r).2 = A.2 := rfl
theorem aFailTo_2 {A : NS} {z q r : Nat} : ∀ n, (aFailTo A z q r n).2 = A.2
  | 0 => rfl
  | n + 1 => by
    show (stF z q r (aFailTo A z q r n) n).2 = _
    unfold stF
    split
    · rw [aFail_2, aFailTo_2 n]
    · exact aFailTo_2 n
/-- what they are then -/
theorem aFailTo_1 {A : NS} {z q r : Nat} (hq : q ≠ 3) : ∀ n m a, (aFailTo A z q r n).1 m a = if (a < n ∧ A.1 3 a = z ∧ A.1 5 a = q) ∧ (m = 5 ∨ m = 8) then (if m = 5 then 3 else r) else A.1 m a
  | 0, m, a => by rw [if_neg (by omega)]; rfl
  | n + 1, m, a => by
    have ih := aFailTo_1 (A := A) (z := z) (r := r) hq n
    have h3 : (aFailTo A z q r n).1 3 n = A.1 3 n := by rw [ih, if_neg (by omega)]
    have h5 : (aFailTo A z q r n).1 5 n = A.1 5 n := by rw [ih, if_neg (by omega)]
    show (stF z q r (aFailTo A z q r n) n).1 m a = _
    unfold stF
    rw [h3, h5]
    by_cases e : A.1 3 n = z ∧ A.1 5 n = q
    · rw [if_pos e]
      unfold aFail
      by_cases ea : a = n
      · subst ea
        by_cases e8 : m = 8
        · subst e8
          rw [setA_eq, if_pos ⟨⟨Nat.lt_succ_self _, e⟩, Or.inr rfl⟩, if_neg (by decide)]
        · rw [setA_nm e8]
          by_cases e5 : m = 5
          · subst e5
            rw [setA_eq, if_pos ⟨⟨Nat.lt_succ_self _, e⟩, Or.inl rfl⟩, if_pos rfl]
          · rw [setA_nm e5, ih, if_neg (by omega), if_neg (by omega)]
      · rw [setA_na ea, setA_na ea, ih]
        by_cases e2 : (a < n ∧ A.1 3 a = z ∧ A.1 5 a = q) ∧ (m = 5 ∨ m = 8)
        · have E2 : (a < n + 1 ∧ A.1 3 a = z ∧ A.1 5 a = q) ∧ (m = 5 ∨ m = 8) := ⟨⟨by omega, e2.1.2⟩, e2.2⟩
          rw [if_pos e2, if_pos E2]
        · rw [if_neg e2, if_neg (by omega)]
    · rw [if_neg e, ih]
      by_cases e2 : (a < n ∧ A.1 3 a = z ∧ A.1 5 a = q) ∧ (m = 5 ∨ m = 8)
      · have E2 : (a < n + 1 ∧ A.1 3 a = z ∧ A.1 5 a = q) ∧ (m = 5 ∨ m = 8) := ⟨⟨by omega, e2.1.2⟩, e2.2⟩
        rw [if_pos e2, if_pos E2]
      · rw [if_neg e2, if_neg fun x => ?_]
        by_cases ea : a = n
        · subst ea
          exact e x.1.2
        · exact e2 ⟨⟨by omega, x.1.2⟩, x.2⟩
theorem w_fail {σ : MS} {A : NS} (h : RM (σ.1 1) A) {a r : Nat} (ha : a < A.2 0) (hn : A.2 0 ≤ 201) (hp : A.1 5 a ≠ 2) : ∃ τ, f_X6_fail σ (nI a) (nI r) = some τ ∧ RM (τ.1 1) (aFail A a r) ∧ τ.2 = σ.2 ∧ ∀ j, j ≠ 1 → τ.1 j = σ.1 j := by
  have e3 : f_X6_ofAppend (nI a) 3 = some (nI (194 + 9 * a + 3)) := w_ofAppend a 3
  have e6 : f_X6_ofAppend (nI a) 6 = some (nI (194 + 9 * a + 6)) := w_ofAppend a 6
  have e4 : f_X6_ofAppend (nI a) 4 = some (nI (194 + 9 * a + 4)) := w_ofAppend a 4
  have l3 : 194 + 9 * a + 3 < 2204 := by omega
  have l6 : 194 + 9 * a + 6 < 2204 := by omega
  have l4 : 194 + 9 * a + 4 < 2204 := by omega
  unfold f_X6_fail
  rw [e3, oR_some, oS_at l3 (by decide), e6, oR_some, oS_at l6 (by decide), e4, oR_some, oS_at l4 (by decide)]
  refine ⟨_, rfl, ?_, rfl, fun j hj => by rw [sA_ne hj, sA_ne hj, sA_ne hj]⟩
  rw [sA_eq, sA_eq, sA_eq]
  exact RM_fail h ha hn hp
theorem w_failAll {σ : MS} {A : NS} (h : RM (σ.1 1) A) (b : Bd A) {z q r : Nat} (hz : z < 2 ^ 31) (hq : q < 2) : ∃ τ, f_X6_failAll σ (nI z) (nI q) (nI r) = some (nI (cnt (fun a => decide (A.1 3 a = z ∧ A.1 5 a = q)) (A.2 0)), τ) ∧ RM (τ.1 1) (aFailAll A z q r) ∧ τ.2 = σ.2 ∧ ∀ j, j ≠ 1 → τ.1 j = σ.1 j := by
  have hn := b.1
  unfold f_X6_failAll
  have L := loop_to (B := Unit) (A.2 0) (fun m i (c : Int32 × MS) => f_X6_failAll_L6 (nI z) (nI q) (nI r) (fun w s => some (w, s)) m c.1 i c.2) (fun c => some (c.1, c.2)) (fun _ b => b)
    (fun i _ c => c.1 = nI (cnt (fun a => decide (A.1 3 a = z ∧ A.1 5 a = q)) i) ∧ RM (c.2.1 1) (aFailTo A z q r i) ∧ c.2.2 = σ.2 ∧ ∀ j, j ≠ 1 → c.2.1 j = σ.1 j) (fun m _ c hR => ?_) (fun m i _ c hi hR => ?_) (nI 0, σ) () FU ⟨rfl, h, rfl, fun _ _ => rfl⟩ (by show A.2 0 < 20000; omega)
  · obtain ⟨c, hR, e⟩ := L
    refine ⟨c.2, ?_, hR.2⟩
    have e : f_X6_failAll_L6 (nI z) (nI q) (nI r) (fun w s => some (w, s)) FU (nI 0) (nI 0) σ = some (c.1, c.2) := e
    rw [← hR.1]
    exact e
  · have e5 := hR.2.1.n0
    rw [aFailTo_2] at e5
    show f_X6_failAll_L6 (nI z) (nI q) (nI r) (fun w s => some (w, s)) (m + 1) c.1 (nI (A.2 0)) c.2 = _
    rw [f_X6_failAll_L6, oA_lit 5 5 rfl (by decide) (by decide), e5, if_pos (nI_le (Nat.le_refl _) (by omega))]
  · obtain ⟨h1, h2, h3, h4⟩ := hR
    have e5 := h2.n0
    rw [aFailTo_2] at e5
    have hi2 : i < (aFailTo A z q r i).2 0 := by rw [aFailTo_2]; exact hi
    have p3 : (aFailTo A z q r i).1 3 i = A.1 3 i := by rw [aFailTo_1 (by omega), if_neg (by omega)]
    have p5 : (aFailTo A z q r i).1 5 i = A.1 5 i := by rw [aFailTo_1 (by omega), if_neg (by omega)]
    have a3 : c.2.1 1 (194 + 9 * i + 3) = nI (A.1 5 i) := by rw [← p5]; exact h2.ap (k := 3) hi2 (by decide)
    have a1 : c.2.1 1 (194 + 9 * i + 1) = nI (A.1 3 i) := by rw [← p3]; exact h2.ap (k := 1) hi2 (by decide)
    have e3 : f_X6_ofAppend (nI i) 3 = some (nI (194 + 9 * i + 3)) := w_ofAppend i 3
    have e1 : f_X6_ofAppend (nI i) 1 = some (nI (194 + 9 * i + 1)) := w_ofAppend i 1
    have l3 : 194 + 9 * i + 3 < 2204 := by omega
    have l1 : 194 + 9 * i + 1 < 2204 := by omega
    obtain ⟨cc, s⟩ := c
    subst h1
    show ∃ c' : Int32 × MS, _ ∧ f_X6_failAll_L6 (nI z) (nI q) (nI r) (fun w s => some (w, s)) (m + 1) (nI (cnt _ i)) (nI i) s = f_X6_failAll_L6 (nI z) (nI q) (nI r) (fun w s => some (w, s)) m c'.1 (nI (i + 1)) c'.2
    rw [f_X6_failAll_L6, oA_lit 5 5 rfl (by decide) (by decide), e5, if_neg (nI_ge hi (by omega)), e1, oR_some, oA_at l1 (by decide), oJ_to, a1, e3, oR_some, oA_at l3 (by decide), a3, nI_1, nI_1, if_eqN (b.2.1 3 i) hz, if_eqN (b.2.1 5 i) (by omega)]
    have hst : aFailTo A z q r (i + 1) = if A.1 3 i = z ∧ A.1 5 i = q then aFail (aFailTo A z q r i) i r else aFailTo A z q r i := by
      show stF z q r (aFailTo A z q r i) i = _
      unfold stF
      rw [p3, p5]
    have hc : cnt (fun a => decide (A.1 3 a = z ∧ A.1 5 a = q)) (i + 1) = cnt (fun a => decide (A.1 3 a = z ∧ A.1 5 a = q)) i + (if decide (A.1 3 i = z ∧ A.1 5 i = q) = true then 1 else 0) := rfl
    rw [hst, hc]
    by_cases g1 : A.1 3 i = z
    · by_cases g2 : A.1 5 i = q
      · obtain ⟨τ, f1, f2, f3, f4⟩ := w_fail (r := r) h2 hi2 (by rw [aFailTo_2]; exact hn) (by rw [p5]; omega)
        have f1 : f_X6_fail s (nI i) (nI r) = some τ := f1
        have G : A.1 3 i = z ∧ A.1 5 i = q := ⟨g1, g2⟩
        have D : decide (A.1 3 i = z ∧ A.1 5 i = q) = true := decide_eq_true G
        rw [if_pos g1, if_pos g2, f1, oV_some, if_pos D, if_pos G]
        exact ⟨(_, τ), ⟨rfl, f2, f3.trans h3, fun j hj => (f4 j hj).trans (h4 j hj)⟩, rfl⟩
      · have G : ¬ (A.1 3 i = z ∧ A.1 5 i = q) := fun x => g2 x.2
        have D : ¬ decide (A.1 3 i = z ∧ A.1 5 i = q) = true := fun x => G (of_decide_eq_true x)
        rw [if_pos g1, if_neg g2, if_neg D, if_neg G]
        exact ⟨(_, s), ⟨rfl, h2, h3, h4⟩, rfl⟩
    · have G : ¬ (A.1 3 i = z ∧ A.1 5 i = q) := fun x => g1 x.1
      have D : ¬ decide (A.1 3 i = z ∧ A.1 5 i = q) = true := fun x => G (of_decide_eq_true x)
      rw [if_neg g1, if_neg D, if_neg G]
      exact ⟨(_, s), ⟨rfl, h2, h3, h4⟩, rfl⟩
