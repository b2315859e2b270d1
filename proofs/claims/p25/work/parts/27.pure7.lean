/-! PURE: the reference's row follows the abstract changes -/
theorem RM_num {s : Nat → Int32} {A : NS} (h : RM s A) {i k v : Nat} (hik : i = 0 ∧ k = 10 ∨ i = 1 ∧ k = 4 ∨ i = 2 ∧ k = 5 ∨ i = 3 ∧ k = 8 ∨ i = 4 ∧ k = 9 ∨ i = 6 ∧ k = 6 ∨ i = 7 ∧ k = 7 ∨ i = 8 ∧ k = 3) : RM (upd s i (nI v)) (setN A k v) := by
  obtain ⟨g1, g2, g3, g4, g5, g6, g7, g8⟩ := h
  have k0 : k ≠ 0 := by omega
  have k1 : k ≠ 1 := by omega
  have hi : i < 10 := by omega
  have n0 : (setN A k v).2 0 = A.2 0 := setN_ne (Ne.symm k0)
  have n1 : (setN A k v).2 1 = A.2 1 := setN_ne (Ne.symm k1)
  refine ⟨?_, fun z hz j hj => ?_, fun z hz hl => ?_, fun w hw => ?_, fun a ha j hj => ?_, fun a ha => ?_, fun j hj => ?_, fun z hz q hq => ?_⟩
  · obtain ⟨a0, a1, a2, a3, a4, a5, a6, a7, a8, a9⟩ := g1
    rcases hik with ⟨rfl, rfl⟩ | ⟨rfl, rfl⟩ | ⟨rfl, rfl⟩ | ⟨rfl, rfl⟩ | ⟨rfl, rfl⟩ | ⟨rfl, rfl⟩ | ⟨rfl, rfl⟩ | ⟨rfl, rfl⟩
    all_goals
      simp (disch := decide) only [upd_eq, upd_ne, setN_eq, setN_ne]
      refine ⟨?_, ?_, ?_, ?_, ?_, ?_, ?_, ?_, ?_, ?_⟩ <;> first | exact trivial | rfl | assumption
  · rw [upd_ne (by omega)]; exact g2 z hz j hj
  · rw [upd_ne (by omega)]; exact g3 z hz hl
  · rw [upd_ne (by omega), upd_ne (by omega)]; exact g4 w hw
  · rw [n0] at ha
    rw [upd_ne (by omega)]; exact g5 a ha j hj
  · rw [n0] at ha
    rw [upd_ne (by omega), upd_ne (by omega), upd_ne (by omega), upd_ne (by omega), upd_ne (by omega)]; exact g6 a ha
  · rw [n1] at hj
    rw [upd_ne (by omega)]; exact g7 j hj
  · rw [upd_ne (by omega), n0]; exact g8 z hz q hq
theorem RM_zone {s : Nat → Int32} {A : NS} (h : RM s A) (b : Bd A) {z k v : Nat} (hz0 : z < 8) (hk : k < 4) : RM (upd s (10 + 22 * z + k) (nI v)) (setA A (13 + k) z v) := by
  obtain ⟨g1, g2, g3, g4, g5, g6, g7, g8⟩ := h
  refine ⟨?_, fun y hy j hj => ?_, fun y hy hl => ?_, fun w hw => ?_, fun a ha j hj => ?_, fun a ha => ?_, fun j hj => ?_, fun y hy q hq => ?_⟩
  · simp (disch := omega) only [upd_ne, setA_2]; exact g1
  · by_cases e : y = z ∧ j = k
    · obtain ⟨rfl, rfl⟩ := e
      rw [upd_eq, setA_eq]
    · rw [upd_ne (by omega)]
      by_cases e2 : y = z
      · rw [setA_nm (by omega)]; exact g2 y hy j hj
      · rw [setA_na e2]; exact g2 y hy j hj
  · rw [setA_nm (by omega)] at hl ⊢
    rw [upd_ne (by omega)]; exact g3 y hy hl
  · rw [upd_ne (by omega), upd_ne (by omega), setA_nm (by omega), setA_nm (by omega)]; exact g4 w hw
  · have ha : a < A.2 0 := ha
    rw [upd_ne (by omega), setA_nm (by omega)]; exact g5 a ha j hj
  · have ha : a < A.2 0 := ha
    simp (disch := omega) only [upd_ne, setA_nm]; exact g6 a ha
  · have hj : j < A.2 1 := hj
    rw [upd_ne (by omega), setA_nm (by omega)]; exact g7 j hj
  · simp (disch := omega) only [upd_ne, setA_nm, setA_2]; exact g8 y hy q hq
theorem RM_latest {s : Nat → Int32} {A : NS} (h : RM s A) {z v : Nat} (hz0 : z < 8) : RM (upd s (10 + 22 * z + 5) (nI v)) (setA A 18 z (v + 1)) := by
  obtain ⟨g1, g2, g3, g4, g5, g6, g7, g8⟩ := h
  refine ⟨?_, fun y hy j hj => ?_, fun y hy hl => ?_, fun w hw => ?_, fun a ha j hj => ?_, fun a ha => ?_, fun j hj => ?_, fun y hy q hq => ?_⟩
  · simp (disch := omega) only [upd_ne, setA_2]; exact g1
  · rw [upd_ne (by omega), setA_nm (by omega)]; exact g2 y hy j hj
  · by_cases e : y = z
    · subst e
      rw [upd_eq, setA_eq]; rfl
    · rw [setA_na e] at hl ⊢
      rw [upd_ne (by omega)]; exact g3 y hy hl
  · rw [upd_ne (by omega), upd_ne (by omega), setA_nm (by omega), setA_nm (by omega)]; exact g4 w hw
  · have ha : a < A.2 0 := ha
    rw [upd_ne (by omega), setA_nm (by omega)]; exact g5 a ha j hj
  · have ha : a < A.2 0 := ha
    simp (disch := omega) only [upd_ne, setA_nm]; exact g6 a ha
  · have hj : j < A.2 1 := hj
    rw [upd_ne (by omega), setA_nm (by omega)]; exact g7 j hj
  · simp (disch := omega) only [upd_ne, setA_nm, setA_2]; exact g8 y hy q hq
theorem RM_wr {s : Nat → Int32} {A : NS} (h : RM s A) {w k v : Nat} (hw0 : w < 4) (hk : k < 2) : RM (upd s (186 + 2 * w + k) (nI v)) (setA A (19 + k) w v) := by
  obtain ⟨g1, g2, g3, g4, g5, g6, g7, g8⟩ := h
  refine ⟨?_, fun y hy j hj => ?_, fun y hy hl => ?_, fun u hu => ?_, fun a ha j hj => ?_, fun a ha => ?_, fun j hj => ?_, fun y hy q hq => ?_⟩
  · simp (disch := omega) only [upd_ne, setA_2]; exact g1
  · rw [upd_ne (by omega), setA_nm (by omega)]; exact g2 y hy j hj
  · rw [setA_nm (by omega)] at hl ⊢
    rw [upd_ne (by omega)]; exact g3 y hy hl
  · have := g4 u hu
    by_cases e : u = w
    · subst e
      rcases (by omega : k = 0 ∨ k = 1) with e | e
      · subst e
        rw [show 186 + 2 * u + 0 = 186 + 2 * u from rfl, upd_eq, upd_ne (by omega), setA_eq, setA_nm (by decide)]
        exact ⟨rfl, this.2⟩
      · subst e
        rw [upd_eq, upd_ne (by omega), setA_eq, setA_nm (by decide)]
        exact ⟨this.1, rfl⟩
    · rw [upd_ne (by omega), upd_ne (by omega), setA_na e, setA_na e]; exact this
  · have ha : a < A.2 0 := ha
    rw [upd_ne (by omega), setA_nm (by omega)]; exact g5 a ha j hj
  · have ha : a < A.2 0 := ha
    simp (disch := omega) only [upd_ne, setA_nm]; exact g6 a ha
  · have hj : j < A.2 1 := hj
    rw [upd_ne (by omega), setA_nm (by omega)]; exact g7 j hj
  · simp (disch := omega) only [upd_ne, setA_nm, setA_2]; exact g8 y hy q hq
