/-! PURE: the reference's row: an append fails, begins, is told, is added; a zone is emptied -/
theorem RM_fail {s : Nat → Int32} {A : NS} (h : RM s A) {a r : Nat} (ha : a < A.2 0) (hn : A.2 0 ≤ 201) (hp : A.1 5 a ≠ 2) : RM (upd (upd (upd s (194 + 9 * a + 3) 3) (194 + 9 * a + 6) (nI r)) (194 + 9 * a + 4) (-5)) (aFail A a r) := by
  obtain ⟨g1, g2, g3, g4, g5, g6, g7, g8⟩ := h
  unfold aFail
  refine ⟨?_, fun y hy j hj => ?_, fun y hy hl => ?_, fun u hu => ?_, fun i hi j hj => ?_, fun i hi => ?_, fun j hj => ?_, fun y hy q hq => ?_⟩
  · simp (disch := omega) only [upd_ne, setA_2]; exact g1
  · simp (disch := omega) only [upd_ne, setA_nm]; exact g2 y hy j hj
  · simp (disch := omega) only [setA_nm] at hl ⊢
    simp (disch := omega) only [upd_ne]; exact g3 y hy hl
  · simp (disch := omega) only [upd_ne, setA_nm]; exact g4 u hu
  · have hi : i < A.2 0 := hi
    by_cases e : i = a ∧ j = 3
    · obtain ⟨rfl, rfl⟩ := e
      rw [upd_ne (by omega), upd_ne (by omega), upd_eq, setA_nm (by decide), setA_eq]; rfl
    · rw [upd_ne (by omega), upd_ne (by omega), upd_ne (by omega), setA_nm (by omega)]
      by_cases e2 : i = a
      · rw [setA_nm (by omega)]; exact g5 i hi j hj
      · rw [setA_na e2]; exact g5 i hi j hj
  · have hi : i < A.2 0 := hi
    have := g6 i hi
    by_cases e2 : i = a
    · subst e2
      have e5 : (setA (setA A 5 i 3) 8 i r).1 5 i = 3 := by rw [setA_nm (by decide), setA_eq]
      rw [e5, setA_eq, upd_eq]
      simp (disch := omega) only [upd_ne, upd_eq]
      rw [if_neg hp] at this
      exact ⟨(if_neg (by decide)).symm, this.2.1, rfl, by rw [this.2.2.2.1, if_neg hp]; rfl, fun x => absurd x (by decide)⟩
    · simp (disch := omega) only [upd_ne, setA_na e2]; exact this
  · have hj : j < A.2 1 := hj
    simp (disch := omega) only [upd_ne, setA_nm]; exact g7 j hj
  · have := g8 y hy q hq
    rw [upd_ne (by omega), upd_ne (by omega), upd_ne (by omega)]
    rcases this with ⟨i, h0, h1, h2, h3, h4, h5⟩ | ⟨h0, h1⟩
    · have e2 : i ≠ a := fun x => hp (x ▸ h1)
      refine Or.inl ⟨i, h0, ?_⟩
      simp (disch := omega) only [setA_na e2, setA_nm]
      exact ⟨h1, h2, h3, h4, h5⟩
    · refine Or.inr ⟨h0, fun i hi i1 i2 i3 => ?_⟩
      have e2 : i ≠ a := by
        intro x
        subst x
        rw [setA_nm (by decide), setA_eq] at i1
        omega
      simp (disch := omega) only [setA_na e2, setA_nm] at i1 i2 i3 ⊢
      exact h1 i hi i1 i2 i3
theorem RM_begin {s : Nat → Int32} {A : NS} (h : RM s A) {a p t g : Nat} (ha : a < A.2 0) (hn : A.2 0 ≤ 201) (hp : A.1 5 a = 0) : RM (upd (upd (upd s (194 + 9 * a + 3) 1) (194 + 9 * a + 4) (nI p)) (194 + 9 * a + 8) (nI t)) (aBegin A a p t g) := by
  obtain ⟨g1, g2, g3, g4, g5, g6, g7, g8⟩ := h
  unfold aBegin
  refine ⟨?_, fun y hy j hj => ?_, fun y hy hl => ?_, fun u hu => ?_, fun i hi j hj => ?_, fun i hi => ?_, fun j hj => ?_, fun y hy q hq => ?_⟩
  · simp (disch := omega) only [upd_ne, setA_2]; exact g1
  · simp (disch := omega) only [upd_ne, setA_nm]; exact g2 y hy j hj
  · simp (disch := omega) only [setA_nm] at hl ⊢
    simp (disch := omega) only [upd_ne]; exact g3 y hy hl
  · simp (disch := omega) only [upd_ne, setA_nm]; exact g4 u hu
  · have hi : i < A.2 0 := hi
    by_cases e : i = a ∧ j = 3
    · obtain ⟨rfl, rfl⟩ := e
      rw [upd_ne (by omega), upd_ne (by omega), upd_eq, setA_nm (by decide), setA_nm (by decide), setA_nm (by decide), setA_eq]; rfl
    · rw [upd_ne (by omega), upd_ne (by omega), upd_ne (by omega), setA_nm (by omega), setA_nm (by omega), setA_nm (by omega)]
      by_cases e2 : i = a
      · rw [setA_nm (by omega)]; exact g5 i hi j hj
      · rw [setA_na e2]; exact g5 i hi j hj
  · have hi : i < A.2 0 := hi
    have := g6 i hi
    by_cases e2 : i = a
    · subst e2
      rw [hp] at this
      simp (disch := omega) only [setA_nm, setA_eq, upd_ne, upd_eq]
      exact ⟨(if_pos (Or.inl trivial)).symm, this.2.1, this.2.2.1, this.2.2.2.1, fun _ => trivial⟩
    · simp (disch := omega) only [upd_ne, setA_na e2]; exact this
  · have hj : j < A.2 1 := hj
    simp (disch := omega) only [upd_ne, setA_nm]; exact g7 j hj
  · have := g8 y hy q hq
    rw [upd_ne (by omega), upd_ne (by omega), upd_ne (by omega)]
    rcases this with ⟨i, h0, h1, h2, h3, h4, h5⟩ | ⟨h0, h1⟩
    · have e2 : i ≠ a := fun x => by rw [x, hp] at h1; omega
      refine Or.inl ⟨i, h0, ?_⟩
      simp (disch := omega) only [setA_na e2, setA_nm]
      exact ⟨h1, h2, h3, h4, h5⟩
    · refine Or.inr ⟨h0, fun i hi i1 i2 i3 => ?_⟩
      have e2 : i ≠ a := by
        intro x
        subst x
        simp (disch := decide) only [setA_nm, setA_eq] at i1
        omega
      simp (disch := omega) only [setA_na e2, setA_nm] at i1 i2 i3 ⊢
      exact h1 i hi i1 i2 i3
