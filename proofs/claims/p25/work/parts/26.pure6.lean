/-! PURE: the class's State: an append is added -/
theorem w_addC {σ : SS} {A : NS} {P Q : Nat → Bool} (h : RC σ A) (b : Bd A) (lv : LV σ (A.2 0) P) {w z v : Nat} (hn : A.2 0 < 201) (hl : ((List.range (A.2 0)).filter P).length < 33) (hQ : ∀ a, a < A.2 0 → Q a = P a) (hQn : Q (A.2 0) = true) :
    ∃ τ, f_X0_add σ (nI w) (nI z) (nI v) = some (nI (A.2 0), τ) ∧ RC τ (aAdd A w z v) ∧ LV τ (A.2 0 + 1) Q := by
  have e0 := h.n0
  have h201 : ¬ (201 : Int32) ≤ nI (A.2 0) := nI_ge hn (by decide)
  have hlen := lv.len
  generalize hL : ((List.range (A.2 0)).filter P).length = L at hl hlen
  have h33 : nI L < (33 : Int32) := nI_lt (b := 33) hl (by decide)
  have hs : ∀ {α : Type} {f : Nat → Int32} {x : Int32} {w : (Nat → Int32) → SS} {k : SS → Option α}, oS 201 f (nI (A.2 0)) x w k = k (w (upd f (A.2 0) x)) := fun {_ _ _ _ _} => oS_at hn (by decide)
  unfold f_X0_add
  rw [e0, if_neg h201, hlen, if_pos h33, oN_to, hs, hs, hs, hs, hs, hs, hs, hs]
  simp (disch := decide) only [sN_ne, sA_2, hlen]
  rw [oS_at hl (by decide), oN_to]
  simp (disch := decide) only [sN_ne, sA_2, hlen, nI_1]
  refine ⟨_, rfl, ?_, ?_, ?_, ?_⟩
  · obtain ⟨g1, g2, g3, g4, g5, g6, g7⟩ := h
    unfold aAdd
    refine ⟨fun j j1 j2 => ?_, fun j j1 j2 i hi => ?_, fun i hi hp => ?_, fun i hi => ?_, fun k hk => ?_, fun j j1 j2 i hi => ?_, fun j j1 j2 i hi => ?_⟩
    · rw [sN_ne j2]
      by_cases e : j = 0
      · subst e
        rw [setN_eq]
        simp only [sA_2, sN_eq]
      · rw [setN_ne e]
        simp only [sA_2]
        rw [sN_ne e]
        exact g1 j j1 j2
    · rw [setN_eq] at hi
      rw [sN_1, setN_1]
      simp (disch := omega) only [sA_ne, sN_1]
      by_cases e2 : i = A.2 0
      · subst e2
        rcases (by omega : j = 2 ∨ j = 3 ∨ j = 4 ∨ j = 5) with e | e | e | e
        · subst e; simp (disch := decide) only [sA_ne, sA_eq, sN_1, upd_eq, setA_nm, setA_eq]
        · subst e; simp (disch := decide) only [sA_ne, sA_eq, sN_1, upd_eq, setA_nm, setA_eq]
        · subst e; simp (disch := decide) only [sA_ne, sA_eq, sN_1, upd_eq, setA_nm, setA_eq]
        · subst e; simp (disch := decide) only [sA_ne, sA_eq, sN_1, upd_eq, setA_nm, setA_eq]; rfl
      · have := g2 j j1 j2 i (by omega)
        rcases (by omega : j = 2 ∨ j = 3 ∨ j = 4 ∨ j = 5) with e | e | e | e
        all_goals subst e; simp (disch := decide) only [sA_ne, sA_eq, sN_1, upd_ne e2, setA_na e2]; exact this
    · rw [setN_eq] at hi
      rw [setN_1] at hp
      by_cases e2 : i = A.2 0
      · subst e2
        rw [setA_eq] at hp
        omega
      · simp only [setA_na e2] at hp
        have := g3 i (by omega) hp
        simp (disch := decide) only [sA_ne, sA_eq, sN_1, setN_1, upd_ne e2, setA_na e2]
        exact this
    · rw [setN_eq] at hi
      rw [setN_1]
      by_cases e2 : i = A.2 0
      · subst e2
        rw [setA_eq, if_neg (by decide)]
        simp (disch := decide) only [sA_ne, sA_eq, sN_1, upd_eq]
      · have := g4 i (by omega)
        simp (disch := decide) only [sA_ne, sA_eq, sN_1, setN_1, upd_ne e2, setA_na e2]
        exact this
    · have := g5 k (by rw [setN_ne (by decide)] at hk; exact hk)
      simp (disch := decide) only [sA_ne, sN_1, setN_1, setA_nm]
      exact this
    · have := g6 j j1 j2 i hi
      simp (disch := omega) only [sA_ne, sN_1, setN_1, setA_nm]
      exact this
    · have := g7 j j1 j2 i hi
      simp (disch := omega) only [sA_ne, sN_1, setN_1, setA_nm]
      exact this
  all_goals
    have hf : (List.range (A.2 0)).filter Q = (List.range (A.2 0)).filter P := List.filter_congr fun a ha => hQ a (List.mem_range.1 ha)
    have hq : (List.range (A.2 0 + 1)).filter Q = (List.range (A.2 0)).filter P ++ [A.2 0] := by
      rw [List.range_succ, List.filter_append, hf]
      simp [hQn]
  · rw [hq, List.length_append, hL]
    simp only [sN_eq]; rfl
  · rw [hq, List.length_append, hL]
    simp; omega
  · intro i hi
    have hi2 : i < L + 1 := by rw [hq, List.length_append, hL] at hi; exact hi
    have key : ∀ (l : List Nat) (h : i < l.length), l = (List.range (A.2 0)).filter P ++ [A.2 0] → upd (σ.1 11) L (nI (A.2 0)) i = nI l[i] := by
      intro l h e
      subst e
      by_cases e2 : i = L
      · subst e2
        rw [upd_eq, List.getElem_append_right (by omega)]
        simp [hL]
      · rw [upd_ne e2, List.getElem_append_left (by omega)]
        exact lv.2.2 i (by omega)
    simp (disch := decide) only [sA_ne, sA_eq, sN_1]
    exact key _ hi hq
