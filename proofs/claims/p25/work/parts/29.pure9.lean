/-! PURE: the reference's row: an append is told, is added; a zone is emptied -/
theorem RM_told {s : Nat → Int32} {A : NS} (h : RM s A) {a z p : Nat} (ha : a < A.2 0) (hn : A.2 0 ≤ 201) (hp : A.1 5 a = 1) (hz : A.1 3 a = z) (hz8 : z < 8) (hpl : A.1 6 a = p) (hp16 : p < 16) (hg : A.1 9 a = A.1 17 z) (ht : A.1 7 a = A.2 10) (htl : A.2 1 < 201) :
    RM (upd (upd (upd (upd (upd (upd s (194 + 9 * a + 3) 2) (194 + 9 * a + 5) (nI (A.2 10))) (194 + 9 * a + 7) (nI (A.1 17 z))) (10 + 22 * z + (6 + p)) (nI a)) (2003 + A.2 1) (nI a)) 9 (nI (A.2 1 + 1))) (aTold A a) := by
  obtain ⟨g1, g2, g3, g4, g5, g6, g7, g8⟩ := h
  unfold aTold
  have n0 : (setN (setA (setA A 5 a 2) 10 (A.2 1) a) 1 (A.2 1 + 1)).2 0 = A.2 0 := setN_ne (by decide)
  refine ⟨?_, fun y hy j hj => ?_, fun y hy hl => ?_, fun u hu => ?_, fun i hi j hj => ?_, fun i hi => ?_, fun j hj => ?_, fun y hy q hq => ?_⟩
  · simp (disch := omega) only [upd_ne, upd_eq, setN_ne, setN_eq, setA_2]
    obtain ⟨a0, a1, a2, a3, a4, a5, a6, a7, a8, a9⟩ := g1
    exact ⟨a0, a1, a2, a3, a4, a5, a6, a7, a8, trivial⟩
  · simp (disch := omega) only [upd_ne, setA_nm, setN_1]; exact g2 y hy j hj
  · simp (disch := omega) only [setA_nm, setN_1] at hl ⊢
    simp (disch := omega) only [upd_ne]; exact g3 y hy hl
  · simp (disch := omega) only [upd_ne, setA_nm, setN_1]; exact g4 u hu
  · rw [n0] at hi
    rw [setN_1]
    by_cases e : i = a ∧ j = 3
    · obtain ⟨rfl, rfl⟩ := e
      simp (disch := omega) only [upd_ne, upd_eq, setA_nm, setA_eq]; rfl
    · rw [upd_ne (by omega), upd_ne (by omega), upd_ne (by omega), upd_ne (by omega), upd_ne (by omega), upd_ne (by omega), setA_nm (by omega)]
      by_cases e2 : i = a
      · rw [setA_nm (by omega)]; exact g5 i hi j hj
      · rw [setA_na e2]; exact g5 i hi j hj
  · rw [n0] at hi
    have := g6 i hi
    by_cases e2 : i = a
    · subst e2
      simp (disch := omega) only [setN_1, setA_nm, setA_eq, upd_ne, upd_eq]
      rw [hp] at this
      refine ⟨this.1, by rw [if_pos trivial, ht], this.2.2.1, by rw [if_pos trivial, hg], fun x => absurd x (by decide)⟩
    · simp (disch := omega) only [setN_1, setA_nm, setA_na e2, upd_ne]; exact this
  · rw [setN_eq] at hj
    rw [setN_1]
    by_cases e : j = A.2 1
    · subst e
      rw [upd_ne (by omega), upd_eq, setA_eq]
    · rw [upd_ne (by omega), upd_ne (by omega), setA_na e, setA_nm (by decide), upd_ne (by omega), upd_ne (by omega), upd_ne (by omega), upd_ne (by omega)]
      exact g7 j (by omega)
  · have := g8 y hy q hq
    simp (disch := omega) only [n0, setN_1, setA_nm]
    by_cases e : y = z ∧ q = p
    · obtain ⟨rfl, rfl⟩ := e
      refine Or.inl ⟨a, ha, setA_eq, hz, hg, hpl, ?_⟩
      rw [upd_ne (by omega), upd_ne (by omega), upd_eq]
    · rw [upd_ne (by omega), upd_ne (by omega), upd_ne (by omega), upd_ne (by omega), upd_ne (by omega), upd_ne (by omega)]
      rcases this with ⟨i, h0, h1, h2, h3, h4, h5⟩ | ⟨h0, h1⟩
      · have e2 : i ≠ a := fun x => by rw [x, hp] at h1; omega
        refine Or.inl ⟨i, h0, ?_⟩
        rw [setA_na e2]
        exact ⟨h1, h2, h3, h4, h5⟩
      · refine Or.inr ⟨h0, fun i hi i1 i2 i3 => ?_⟩
        by_cases e2 : i = a
        · subst e2
          rw [hz] at i2
          rw [hpl]
          exact fun x => e ⟨i2.symm, x.symm⟩
        · rw [setA_na e2] at i1
          exact h1 i hi i1 i2 i3
theorem RM_add {s s' : Nat → Int32} {A : NS} (h : RM s A) {w z v : Nat} (hn : A.2 0 < 201) (hg : ∀ i, i ≠ 5 → ¬ (194 + 9 * A.2 0 ≤ i ∧ i < 194 + 9 * A.2 0 + 9) → s' i = s i)
    (e0 : s' (194 + 9 * A.2 0) = nI w) (e1 : s' (194 + 9 * A.2 0 + 1) = nI z) (e2 : s' (194 + 9 * A.2 0 + 2) = nI v) (e3 : s' (194 + 9 * A.2 0 + 3) = 0) (e4 : s' (194 + 9 * A.2 0 + 4) = -5) (e5 : s' (194 + 9 * A.2 0 + 5) = -5) (e6 : s' (194 + 9 * A.2 0 + 6) = -5) (e7 : s' (194 + 9 * A.2 0 + 7) = -5) (en : s' 5 = nI (A.2 0 + 1)) : RM s' (aAdd A w z v) := by
  obtain ⟨g1, g2, g3, g4, g5, g6, g7, g8⟩ := h
  unfold aAdd
  refine ⟨?_, fun y hy j hj => ?_, fun y hy hl => ?_, fun u hu => ?_, fun i hi j hj => ?_, fun i hi => ?_, fun j hj => ?_, fun y hy q hq => ?_⟩
  · simp (disch := omega) only [hg, en, setN_ne, setN_eq, setA_2]
    obtain ⟨a0, a1, a2, a3, a4, a5, a6, a7, a8, a9⟩ := g1
    exact ⟨a0, a1, a2, a3, a4, trivial, a6, a7, a8, a9⟩
  · rw [hg _ (by omega) (by omega)]
    simp (disch := omega) only [setA_nm, setN_1]; exact g2 y hy j hj
  · simp (disch := omega) only [setA_nm, setN_1] at hl ⊢
    rw [hg _ (by omega) (by omega)]; exact g3 y hy hl
  · rw [hg _ (by omega) (by omega), hg _ (by omega) (by omega)]
    simp (disch := omega) only [setA_nm, setN_1]; exact g4 u hu
  · rw [setN_eq] at hi
    rw [setN_1]
    by_cases e : i = A.2 0
    · subst e
      rcases (by omega : j = 0 ∨ j = 1 ∨ j = 2 ∨ j = 3) with e | e | e | e
      · subst e; simp (disch := decide) only [setA_nm, setA_eq]; exact e0
      · subst e; simp (disch := decide) only [setA_nm, setA_eq]; exact e1
      · subst e; simp (disch := decide) only [setA_nm, setA_eq]; exact e2
      · subst e; simp (disch := decide) only [setA_nm, setA_eq]; exact e3
    · simp only [setA_na e]
      rw [hg _ (by omega) (by omega)]
      exact g5 i (by omega) j hj
  · rw [setN_eq] at hi
    by_cases e : i = A.2 0
    · subst e
      have e9 : (setN (setA (setA (setA (setA A 2 (A.2 0) w) 3 (A.2 0) z) 4 (A.2 0) v) 5 (A.2 0) 0) 0 (A.2 0 + 1)).1 5 (A.2 0) = 0 := by rw [setN_1, setA_eq]
      simp only [e9]
      exact ⟨e4, e5, e6, e7, fun x => absurd x (by decide)⟩
    · simp (disch := omega) only [setN_1, setA_na e, hg]
      exact g6 i (by omega)
  · have hj : j < A.2 1 := by rw [setN_ne (by decide)] at hj; exact hj
    by_cases hj2 : j < 201
    · rw [hg _ (by omega) (by omega)]
      simp (disch := omega) only [setA_nm, setN_1]; exact g7 j hj
    · rw [hg _ (by omega) (by omega)]
      simp (disch := omega) only [setA_nm, setN_1]; exact g7 j hj
  · have := g8 y hy q hq
    rw [hg _ (by omega) (by omega), setN_eq]
    simp only [setN_1]
    rcases this with ⟨i, h0, h1, h2, h3, h4, h5⟩ | ⟨h0, h1⟩
    · have e : i ≠ A.2 0 := by omega
      refine Or.inl ⟨i, by omega, ?_⟩
      simp (disch := decide) only [setA_na e, setA_nm]
      exact ⟨h1, h2, h3, h4, h5⟩
    · refine Or.inr ⟨h0, fun i hi i1 i2 i3 => ?_⟩
      by_cases e : i = A.2 0
      · subst e
        rw [setA_eq] at i1
        omega
      · simp (disch := decide) only [setA_na e, setA_nm] at i1 i2 i3 ⊢
        exact h1 i (by omega) i1 i2 i3
/-- a zone is emptied -/
def aClear (A : NS) (z : Nat) : NS := setA (setA (setA A 13 z 0) 16 z 0) 17 z (A.1 17 z + 1)
theorem RM_clear {s s' : Nat → Int32} {A : NS} (h : RM s A) {z : Nat} (hz0 : z < 8) (hn : A.2 0 ≤ 201) (hin : ∀ a, a < A.2 0 → A.1 5 a = 2 → A.1 3 a = z → A.1 9 a ≤ A.1 17 z) (hg : ∀ i, ¬ (10 + 22 * z ≤ i ∧ i < 10 + 22 * z + 22) → s' i = s i)
    (e0 : s' (10 + 22 * z) = 0) (e1 : s' (10 + 22 * z + 1) = s (10 + 22 * z + 1)) (e2 : s' (10 + 22 * z + 2) = s (10 + 22 * z + 2)) (e3 : s' (10 + 22 * z + 3) = 0) (e4 : s' (10 + 22 * z + 4) = nI (A.1 17 z + 1)) (e5 : s' (10 + 22 * z + 5) = s (10 + 22 * z + 5)) (e6 : ∀ q, q < 16 → s' (10 + 22 * z + (6 + q)) = -5) : RM s' (aClear A z) := by
  obtain ⟨g1, g2, g3, g4, g5, g6, g7, g8⟩ := h
  unfold aClear
  refine ⟨?_, fun y hy j hj => ?_, fun y hy hl => ?_, fun u hu => ?_, fun i hi j hj => ?_, fun i hi => ?_, fun j hj => ?_, fun y hy q hq => ?_⟩
  · simp (disch := omega) only [hg, setA_2]; exact g1
  · by_cases e : y = z
    · subst e
      have := g2 y hy j hj
      rcases (by omega : j = 0 ∨ j = 1 ∨ j = 2 ∨ j = 3 ∨ j = 4) with e | e | e | e | e
      · subst e; simp (disch := decide) only [setA_nm, setA_eq]; exact e0
      · subst e; simp (disch := decide) only [setA_nm]; exact e1.trans this
      · subst e; simp (disch := decide) only [setA_nm]; exact e2.trans this
      · subst e; simp (disch := decide) only [setA_nm, setA_eq]; exact e3
      · subst e; simp (disch := decide) only [setA_eq]; exact e4
    · rw [hg _ (by omega)]
      simp only [setA_na e]; exact g2 y hy j hj
  · simp (disch := decide) only [setA_nm] at hl ⊢
    by_cases e : y = z
    · subst e
      rw [e5]; exact g3 y hy hl
    · rw [hg _ (by omega)]; exact g3 y hy hl
  · rw [hg _ (by omega), hg _ (by omega)]
    simp (disch := omega) only [setA_nm]; exact g4 u hu
  · have hi : i < A.2 0 := hi
    rw [hg _ (by omega)]
    simp (disch := omega) only [setA_nm]; exact g5 i hi j hj
  · have hi : i < A.2 0 := hi
    simp (disch := omega) only [setA_nm, hg]; exact g6 i hi
  · have hj : j < A.2 1 := hj
    rw [hg _ (by omega)]
    simp (disch := omega) only [setA_nm]; exact g7 j hj
  · have := g8 y hy q hq
    simp (disch := decide) only [setA_nm, setA_2]
    by_cases e : y = z
    · subst e
      refine Or.inr ⟨e6 q hq, fun i hi i1 i2 i3 => ?_⟩
      rw [setA_eq] at i3
      have := hin i hi i1 i2
      omega
    · rw [hg _ (by omega), setA_na e]
      exact this
