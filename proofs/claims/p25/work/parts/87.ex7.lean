/-! PURE (p25): the zones are as the law asks, all of them -/
theorem nI_0r {x : Nat} : nI x + (0 : Int32) = nI x := nI_add x 0
theorem w_z12 {c : CS} {A : NS} {o k : Nat} {H : Nat → NS} (h : Tq c A o k H) {K : Int32 → Int32 → Int32 → Int32 → Option Int32} : ∀ d i m, i + d = 8 → d < m →
    f_L_areZonesSo_L12 c K m (nI (cnt (fun z => decide (A.1 13 z = 1)) i)) (nI (cnt (fun z => decide (A.1 13 z = 1 ∨ A.1 13 z = 2)) i)) (nI (psum (fun z => cnt (fun a => decide (A.1 3 a = z ∧ A.1 5 a = 1)) (A.2 0)) i)) (nI (psum (fun z => cnt (fun a => decide (A.1 3 a = z ∧ A.1 5 a = 0)) (A.2 0)) i)) (nI i) =
    K (nI (cnt (fun z => decide (A.1 13 z = 1)) 8)) (nI (cnt (fun z => decide (A.1 13 z = 1 ∨ A.1 13 z = 2)) 8)) (nI (psum (fun z => cnt (fun a => decide (A.1 3 a = z ∧ A.1 5 a = 1)) (A.2 0)) 8)) (nI (psum (fun z => cnt (fun a => decide (A.1 3 a = z ∧ A.1 5 a = 0)) (A.2 0)) 8)) := by
  have I := h.2.1.1
  have bd := I.b
  intro d
  induction d with
  | zero =>
    intro i m hi hm
    obtain ⟨m, rfl⟩ : ∃ q, m = q + 1 := ⟨m - 1, by omega⟩
    have e : i = 8 := by omega
    subst e
    rw [f_L_areZonesSo_L12, if_pos (show (8 : Int32) ≤ nI 8 by decide)]
  | succ d ih =>
    intro i m hi hm
    obtain ⟨m, rfl⟩ : ∃ q, m = q + 1 := ⟨m - 1, by omega⟩
    have hz : i < 8 := by omega
    have ih := ih (i + 1) m (by omega) (by omega)
    have Z := I.z i hz
    unfold ivZ1 at Z
    have X := h.2.2.1.1.2.2 i hz
    have hp := cnt_place I hz
    have hrb := cnt_rb I hz
    have b16 := bd.2.1 16 i
    have hle := lead_le (P := rbP A i) (A.1 16 i)
    have hA : ¬ nI (A.1 14 i) < nI (A.1 16 i) := nI_nlt (by omega) (by omega)
    have hE : nI (cnt (rbP A i) (A.1 16 i)) + nI (cnt (fun a => decide (A.1 3 a = i ∧ A.1 5 a = 1)) (A.2 0)) = nI (A.1 16 i) := by
      rw [nI_add, hrb]
      exact congrArg nI hp
    have hF : nI (cnt (rbP A i) (A.1 16 i)) = nI (cnt (rdb A i) (A.2 0)) := congrArg nI hrb
    have h10 : ¬ (1 : Int32) = 0 := by decide
    have h01 : ¬ (0 : Int32) = 1 := by decide
    have hm1 : ¬ (0 : Int32) ≤ -1 := by decide
    have hrd := q_read0 h hz (q := A.1 16 i) b16 (Nat.le_refl _)
    rw [f_L_areZonesSo_L12, if_neg (show ¬ (8 : Int32) ≤ nI i from nI_ge (b := 8) hz (by decide)), q_zone0 h hz, oR_some, q_zone3 h hz, oR_some, w_z46' h hz]
    simp only [oJ_to, q_zone6 h hz, q_zone7 h hz, q_zone1 h hz, q_zone5 h hz, q_zone8 h hz, oR_some, hrd, if_neg hA, if_pos hE, if_pos hF, if_neg h10, if_true]
    have L : (if (0 : Int32) ≤ e9 (rbP A i) (A.1 16 i) then e9 (rbP A i) (A.1 16 i) else nI (A.1 16 i)) = nI (lead (rbP A i) (A.1 16 i)) ∧ True := by
      refine ⟨?_, trivial⟩
      unfold e9
      by_cases l : lead (rbP A i) (A.1 16 i) = A.1 16 i
      · rw [if_pos l, if_neg hm1, l]
      · rw [if_neg l, if_pos (nI_pos' (by omega))]
    have p3 : psum (fun z => cnt (fun a => decide (A.1 3 a = z ∧ A.1 5 a = 1)) (A.2 0)) (i + 1) = psum (fun z => cnt (fun a => decide (A.1 3 a = z ∧ A.1 5 a = 1)) (A.2 0)) i + cnt (fun a => decide (A.1 3 a = i ∧ A.1 5 a = 1)) (A.2 0) := rfl
    have p4 : psum (fun z => cnt (fun a => decide (A.1 3 a = z ∧ A.1 5 a = 0)) (A.2 0)) (i + 1) = psum (fun z => cnt (fun a => decide (A.1 3 a = z ∧ A.1 5 a = 0)) (A.2 0)) i + cnt (fun a => decide (A.1 3 a = i ∧ A.1 5 a = 0)) (A.2 0) := rfl
    have p1 : cnt (fun z => decide (A.1 13 z = 1)) (i + 1) = cnt (fun z => decide (A.1 13 z = 1)) i + (if decide (A.1 13 i = 1) = true then 1 else 0) := rfl
    have p2 : cnt (fun z => decide (A.1 13 z = 1 ∨ A.1 13 z = 2)) (i + 1) = cnt (fun z => decide (A.1 13 z = 1 ∨ A.1 13 z = 2)) i + (if decide (A.1 13 i = 1 ∨ A.1 13 i = 2) = true then 1 else 0) := rfl
    rw [p1, p2, p3, p4] at ih
    have hl : (0 : Int32) ≤ e9 (rbP A i) (A.1 16 i) ∧ e9 (rbP A i) (A.1 16 i) = nI (lead (rbP A i) (A.1 16 i)) ∨ ¬ (0 : Int32) ≤ e9 (rbP A i) (A.1 16 i) ∧ nI (A.1 16 i) = nI (lead (rbP A i) (A.1 16 i)) := by
      by_cases q : (0 : Int32) ≤ e9 (rbP A i) (A.1 16 i)
      · have := L.1
        rw [if_pos q] at this
        exact Or.inl ⟨q, this⟩
      · have := L.1
        rw [if_neg q] at this
        exact Or.inr ⟨q, this⟩
    have s1 : nI 1 = (1 : Int32) := rfl
    have s2 : nI 2 = (2 : Int32) := rfl
    have s0 : nI 0 = (0 : Int32) := rfl
    have s3 : nI 3 = (3 : Int32) := rfl
    have h12 : ¬ (1 : Int32) = 2 := by decide
    have h20 : ¬ (2 : Int32) = 0 := by decide
    have h21 : ¬ (2 : Int32) = 1 := by decide
    have h02 : ¬ (0 : Int32) = 2 := by decide
    have h30 : ¬ (3 : Int32) = 0 := by decide
    have h31 : ¬ (3 : Int32) = 1 := by decide
    have h32 : ¬ (3 : Int32) = 2 := by decide
    rcases (by omega : A.1 13 i = 0 ∨ A.1 13 i = 1 ∨ A.1 13 i = 2 ∨ A.1 13 i = 3) with e | e | e | e
    · have e16 : nI (A.1 16 i) = 0 := by rw [Z.2.2.2.2.2.1 e]; rfl
      rw [e] at ih
      simp only [e, s0, if_neg h01, if_neg h02, if_true, if_pos e16]
      rcases hl with ⟨q1, q2⟩ | ⟨q1, q2⟩
      · simp only [if_pos q1, if_pos q2.symm]
        rw [nI_0r, nI_0r, nI_add, nI_add, nI_1]
        exact ih
      · simp only [if_neg q1, if_pos q2.symm]
        rw [nI_0r, nI_0r, nI_add, nI_add, nI_1]
        exact ih
    · have e16 : ¬ nI (A.1 16 i) = 0 := nI_ne0 (by have := X.2 (by omega); omega) b16
      rw [e] at ih
      simp only [e, s1, if_neg h10, if_neg h12, if_true, if_neg e16]
      rcases hl with ⟨q1, q2⟩ | ⟨q1, q2⟩
      · simp only [if_pos q1, if_pos q2.symm]
        rw [nI_1, nI_1, nI_add, nI_add, nI_1]
        exact ih
      · simp only [if_neg q1, if_pos q2.symm]
        rw [nI_1, nI_1, nI_add, nI_add, nI_1]
        exact ih
    · have e16 : ¬ nI (A.1 16 i) = 0 := nI_ne0 (by have := X.2 (by omega); omega) b16
      have w0 : nI (cnt (fun a => decide (A.1 3 a = i ∧ A.1 5 a = 1)) (A.2 0)) ≤ 0 := by
        rw [show cnt (fun a => decide (A.1 3 a = i ∧ A.1 5 a = 1)) (A.2 0) = 0 from X.1 e]
        decide
      rw [e] at ih
      simp only [e, s2, if_neg h20, if_neg h21, if_true, if_neg e16, if_pos w0]
      rcases hl with ⟨q1, q2⟩ | ⟨q1, q2⟩
      · simp only [if_pos q1, if_pos q2.symm]
        rw [nI_0r, nI_1, nI_add, nI_add, nI_1]
        exact ih
      · simp only [if_neg q1, if_pos q2.symm]
        rw [nI_0r, nI_1, nI_add, nI_add, nI_1]
        exact ih
    · have e16 : ¬ nI (A.1 16 i) = 0 := nI_ne0 (by have := X.2 (by omega); omega) b16
      rw [e] at ih
      simp only [e, s3, if_neg h30, if_neg h31, if_neg h32, if_true, if_neg e16]
      rcases hl with ⟨q1, q2⟩ | ⟨q1, q2⟩
      · simp only [if_pos q1, if_pos q2.symm]
        rw [nI_0r, nI_0r, nI_add, nI_add, nI_1]
        exact ih
      · simp only [if_neg q1, if_pos q2.symm]
        rw [nI_0r, nI_0r, nI_add, nI_add, nI_1]
        exact ih
theorem w_zonesSo {c : CS} {A : NS} {o k : Nat} {H : Nat → NS} (h : Tq c A o k H) : f_L_areZonesSo c = some 1 := by
  have I := h.2.1.1
  have bd := I.b
  have X := h.2.2.1.1
  have w1 : psum (fun z => cnt (fun a => decide (A.1 3 a = z ∧ A.1 5 a = 1)) (A.2 0)) 8 = atW A := psum_zone I 1
  have w0 := psum_zone I 0
  unfold f_L_areZonesSo
  refine (w_z12 h 8 0 FU (by decide) (by decide)).trans ?_
  rw [q_count5 h, oR_some, if_pos (show nI (cnt (fun z => decide (A.1 13 z = 1)) 8) = nI (nOpen A) from rfl), q_count6 h, oR_some, if_pos (show nI (cnt (fun z => decide (A.1 13 z = 1 ∨ A.1 13 z = 2)) 8) = nI (nUse A) from rfl),
    q_count1 h, oR_some, if_neg (show ¬ nI (A.2 4) < nI (cnt (fun z => decide (A.1 13 z = 1)) 8) from nI_nlt X.1 (bd.2.2 4)), q_count2 h, oR_some, if_neg (show ¬ nI (A.2 5) < nI (cnt (fun z => decide (A.1 13 z = 1 ∨ A.1 13 z = 2)) 8) from nI_nlt X.2.1 (bd.2.2 5)),
    q_count9 h, oR_some, w1, if_pos rfl, q_count8 h, oR_some, w0, if_pos rfl]
  rfl
