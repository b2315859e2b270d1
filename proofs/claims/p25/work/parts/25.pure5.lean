/-! PURE: the class's State: an append begins, is told, is added -/
theorem oN_to {ST α : Type} {v : Int32} {w : Int32 → ST} {k : ST → Option α} : oN v w k = k (w v) := rfl
def aBegin (A : NS) (a p t g : Nat) : NS := setA (setA (setA (setA A 5 a 1) 6 a p) 7 a t) 9 a g
def aTold (A : NS) (a : Nat) : NS := setN (setA (setA A 5 a 2) 10 (A.2 1) a) 1 (A.2 1 + 1)
def aAdd (A : NS) (w z v : Nat) : NS := setN (setA (setA (setA (setA A 2 (A.2 0) w) 3 (A.2 0) z) 4 (A.2 0) v) 5 (A.2 0) 0) 0 (A.2 0 + 1)
theorem w_begin {σ : SS} {A : NS} (h : RC σ A) (b : Bd A) {a p t g : Nat} (ha : a < A.2 0) (hp0 : A.1 5 a ≠ 3) : ∃ τ, f_X0_begin σ (nI a) (nI p) (nI t) (nI g) = some τ ∧ RC τ (aBegin A a p t g) ∧ τ.2 = σ.2 ∧ ∀ j, j ≠ 5 → j ≠ 6 → j ≠ 7 → j ≠ 9 → τ.1 j = σ.1 j := by
  have hn := b.1
  have hl : a < 201 := by omega
  unfold f_X0_begin
  rw [oS_at hl (by decide), oS_at hl (by decide), oS_at hl (by decide), oS_at hl (by decide)]
  refine ⟨_, rfl, ?_, rfl, fun j e5 e6 e7 e9 => by rw [sA_ne e9, sA_ne e7, sA_ne e6, sA_ne e5]⟩
  obtain ⟨g1, g2, g3, g4, g5, g6, g7⟩ := h
  unfold aBegin
  refine ⟨g1, fun j j1 j2 i hi => ?_, fun i hi hp => ?_, fun i hi => ?_, fun k hk => ?_, fun j j1 j2 i hi => ?_, fun j j1 j2 i hi => ?_⟩
  · simp (disch := omega) only [sA_ne, setA_nm]
    by_cases e : j = 5
    · subst e
      rw [sA_eq]
      by_cases e2 : i = a
      · subst e2
        rw [upd_eq, setA_eq]; rfl
      · rw [upd_ne e2, setA_na e2]
        exact g2 5 j1 j2 i hi
    · rw [sA_ne e, setA_nm e]
      exact g2 j j1 j2 i hi
  · by_cases e2 : i = a
    · subst e2
      simp (disch := decide) only [sA_ne, sA_eq, setA_nm, setA_eq, upd_eq]
      exact ⟨trivial, trivial, trivial⟩
    · simp only [setA_na e2] at hp
      have := g3 i hi hp
      simp (disch := decide) only [sA_ne, sA_eq, setA_na e2, upd_ne e2]
      exact this
  · by_cases e2 : i = a
    · subst e2
      have := g4 i hi
      rw [if_neg hp0] at this
      simp (disch := decide) only [sA_ne, sA_eq, setA_nm, setA_eq, upd_eq]
      rw [this, if_neg (by decide)]
    · have := g4 i hi
      simp (disch := decide) only [sA_ne, setA_na e2]
      exact this
  · simp (disch := decide) only [sA_ne, setA_nm]
    exact g5 k hk
  · simp (disch := omega) only [sA_ne, setA_nm]
    exact g6 j j1 j2 i hi
  · simp (disch := omega) only [sA_ne, setA_nm]
    exact g7 j j1 j2 i hi
theorem w_markTold {σ : SS} {A : NS} (h : RC σ A) (b : Bd A) {a : Nat} (ha : a < A.2 0) (hp1 : A.1 5 a = 1) (ht : A.2 1 < 201) : ∃ τ, f_X0_markTold σ (nI a) = some τ ∧ RC τ (aTold A a) ∧ (∀ k, k ≠ 1 → τ.2 k = σ.2 k) ∧ ∀ j, j ≠ 5 → j ≠ 10 → τ.1 j = σ.1 j := by
  have hn := b.1
  have hl : a < 201 := by omega
  have e1 : σ.2 1 = nI (A.2 1) := h.1 1 (by decide) (by decide)
  have h201 : ¬ (201 : Int32) ≤ nI (A.2 1) := nI_ge ht (by decide)
  unfold f_X0_markTold
  rw [oS_at hl (by decide), sA_2, e1, if_neg h201, oS_at ht (by decide)]
  unfold oN
  rw [sA_2, sA_2, e1, nI_1]
  refine ⟨_, rfl, ?_, fun k hk => sN_ne hk, fun j e5 e10 => by rw [sN_1, sA_ne e10, sA_ne e5]⟩
  obtain ⟨g1, g2, g3, g4, g5, g6, g7⟩ := h
  unfold aTold
  refine ⟨fun j j1 j2 => ?_, fun j j1 j2 i hi => ?_, fun i hi hp => ?_, fun i hi => ?_, fun k hk => ?_, fun j j1 j2 i hi => ?_, fun j j1 j2 i hi => ?_⟩
  · by_cases e : j = 1
    · subst e
      rw [sN_eq, setN_eq]
    · rw [sN_ne e, setN_ne e]
      exact g1 j j1 j2
  · rw [sN_1, setN_1]
    simp (disch := omega) only [sA_ne, setA_nm]
    by_cases e : j = 5
    · subst e
      rw [sA_eq]
      by_cases e2 : i = a
      · subst e2
        rw [upd_eq, setA_eq]; rfl
      · rw [upd_ne e2, setA_na e2]
        exact g2 5 j1 j2 i hi
    · rw [sA_ne e, setA_nm e]
      exact g2 j j1 j2 i hi
  · have hq : A.1 5 i = 1 ∨ A.1 5 i = 2 := by
      by_cases e2 : i = a
      · subst e2; exact Or.inl hp1
      · rw [setN_1, setA_nm (by decide), setA_na e2] at hp
        exact hp
    have := g3 i hi hq
    simp (disch := decide) only [sN_1, setN_1, sA_ne, setA_nm]
    exact this
  · have := g4 i hi
    simp (disch := decide) only [sN_1, setN_1, sA_ne, setA_nm]
    by_cases e2 : i = a
    · subst e2
      rw [setA_eq, if_neg (by decide)]
      rw [hp1, if_neg (by decide)] at this
      exact this
    · rw [setA_na e2]
      exact this
  · rw [setN_eq] at hk
    rw [sN_1, setN_1, sA_eq]
    by_cases e : k = A.2 1
    · subst e
      rw [upd_eq, setA_eq]
    · rw [upd_ne e, setA_na e, sA_ne (by decide), setA_nm (by decide)]
      exact g5 k (by omega)
  · simp (disch := omega) only [sN_1, setN_1, sA_ne, setA_nm]
    exact g6 j j1 j2 i hi
  · simp (disch := omega) only [sN_1, setN_1, sA_ne, setA_nm]
    exact g7 j j1 j2 i hi
