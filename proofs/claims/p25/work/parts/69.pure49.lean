/-! PURE: appended, writer, told, count -/
theorem isApp (c : CS) (m : MS) {A : NS} (h : RC (c.1 0) A) (hm : RM (m.1 1) A) (I : Iv A) (p : Int32) : (∃ a, a < A.2 0 ∧ p = nI a ∧ f_X0_isNumber (c.1 0) p = some 1 ∧ f_X6_isAppend m p = some 1) ∨ (f_X0_isNumber (c.1 0) p = some 0 ∧ f_X6_isAppend m p = some 0) := by
  have hn := I.a.1
  unfold f_X0_isNumber f_X6_isAppend
  rw [h.n0, oL5, hm.n0]
  rcases int_cases p (A.2 0) (by omega) with ⟨a, ha, rfl⟩ | hp | hp
  · refine Or.inl ⟨a, ha, rfl, ?_, ?_⟩
    · rw [if_neg (nI_pos (by omega)), if_neg (nI_ge ha (by omega)), oB1]
    · rw [show nI (A.2 0) - 1 = nI (A.2 0 - 1) by obtain ⟨q, e⟩ : ∃ q, A.2 0 = q + 1 := ⟨A.2 0 - 1, by omega⟩; rw [e, nI_pred]; rfl, w_in (nI_pos (by omega)) (nI_nlt (by omega) (by omega)), oR_some, oB1]
  · refine Or.inr ⟨?_, ?_⟩
    · rw [if_pos hp, oB0]
    · rw [w_in_no (Or.inl hp), oR_some, oB0]
  · have h0 : ¬ p < 0 := fun x => by
      have := Int32.lt_of_lt_of_le x (nI_pos' (n := A.2 0) (by omega))
      exact absurd (Int32.lt_of_lt_of_le this hp) Int32.lt_irrefl
    refine Or.inr ⟨?_, ?_⟩
    · rw [if_neg h0, if_pos hp, oB0]
    · rw [w_in_no (Or.inr ?_), oR_some, oB0]
      by_cases e : A.2 0 = 0
      · rw [e] at hp ⊢
        rw [Int32.le_iff_toInt_le] at hp
        rw [Int32.lt_iff_toInt_lt]
        have e0 : (nI 0).toInt = 0 := by decide
        have e1 : (nI 0 - 1).toInt = -1 := by decide
        rw [e0] at hp
        rw [e1]
        omega
      · obtain ⟨q, e⟩ : ∃ q, A.2 0 = q + 1 := ⟨A.2 0 - 1, by omega⟩
        rw [e] at hp ⊢
        rw [nI_pred]
        exact lt_of_nI (by omega) hp
theorem call_appended {c : CS} {m : MS} (h : TopE c m) (p1 p2 : Int32) : ∃ r, f_X5_appended c p1 p2 = some r ∧ f_X6_appended m p1 p2 = some r := by
  obtain ⟨A, o, k, H, b, S, L, t, hT⟩ := h
  have hcr := hT.1
  have hrm := hT.2.1
  have I := hT.2.2.1.1
  have bd := I.b
  have hn := I.a.1
  unfold f_X5_appended
  rcases isApp c m hcr.1 hrm I p1 with ⟨a, ha, rfl, e1, e2⟩ | ⟨e1, e2⟩
  · have ha2 : a < 201 := by omega
    have a5 : (c.1 0).1 5 a = nI (A.1 5 a) := hcr.1.ap (by decide) (by decide) ha
    have s3 : m.1 1 (194 + 9 * a + 3) = nI (A.1 5 a) := hrm.ap (k := 3) ha (by decide)
    have g2 : (nI (A.1 5 a) = 2) ↔ A.1 5 a = 2 := nI_eq (b := 2) (bd.2.1 5 a) (by decide)
    obtain ⟨m4, m5, m6, m7, _⟩ := hrm.2.2.2.2.2.1 a ha
    have c8 := hcr.1.2.2.2.1 a ha
    rcases range_cases p2 0 7 (by decide) (by decide) with ⟨w, _, hw, rfl, _, q2⟩ | ⟨hp, _, q2⟩
    · have q2 : f_X6_in (nI w) 0 7 = some 1 := q2
      have lw : 194 + 9 * a + w < 2204 := by omega
      have fin : ∀ r, f_X0_tellAppend (c.1 0) (nI a) (nI w) = some r → f_X6_appended m (nI a) (nI w) = some r → ∃ r, oR (f_X0_tellAppend (c.1 0) (nI a) (nI w)) (fun r9 => some r9) = some r ∧ f_X6_appended m (nI a) (nI w) = some r := fun r x y => ⟨r, by rw [x, oR_some], y⟩
      rcases (by omega : w = 0 ∨ w = 1 ∨ w = 2 ∨ w = 3 ∨ w = 4 ∨ w = 5 ∨ w = 6 ∨ w = 7) with e | e | e | e | e | e | e | e
      · subst e
        have x : m.1 1 (194 + 9 * a + 0) = (c.1 0).1 2 a := (hrm.ap (k := 0) ha (by decide)).trans (hcr.1.ap (by decide) (by decide) ha).symm
        refine fin ((c.1 0).1 2 a) ?_ ?_
        · skip
          unfold f_X0_tellAppend
          rw [e1, oR_some, if_neg (show ¬ (1 : Int32) = 0 by decide), oA_at ha2 (by decide), a5]
          simp only [oJ_to, oA_at ha2 (by decide : (201 : Nat) < 2 ^ 31)]
          by_cases y : A.1 5 a = 2
          · rw [if_pos (g2.2 y)]; rfl
          · rw [if_neg (fun z => y (g2.1 z))]; rfl
        · skip
          unfold f_X6_appended
          rw [e2, oR_some, if_neg (show ¬ (1 : Int32) = 0 by decide), q2, oR_some, if_neg (show ¬ (1 : Int32) = 0 by decide), rA3, oA_b (by omega), s3]
          simp only [oJ_to, w_ofAppend, oR_some]
          rw [oA_b lw]
          rw [if_neg (show ¬ nI 0 = 4 by decide), if_neg (show ¬ nI 0 = 4 by decide), x]
          split <;> rfl
      · subst e
        have x : m.1 1 (194 + 9 * a + 1) = (c.1 0).1 3 a := (hrm.ap (k := 1) ha (by decide)).trans (hcr.1.ap (by decide) (by decide) ha).symm
        refine fin ((c.1 0).1 3 a) ?_ ?_
        · skip
          unfold f_X0_tellAppend
          rw [e1, oR_some, if_neg (show ¬ (1 : Int32) = 0 by decide), oA_at ha2 (by decide), a5]
          simp only [oJ_to, oA_at ha2 (by decide : (201 : Nat) < 2 ^ 31)]
          by_cases y : A.1 5 a = 2
          · rw [if_pos (g2.2 y)]; rfl
          · rw [if_neg (fun z => y (g2.1 z))]; rfl
        · skip
          unfold f_X6_appended
          rw [e2, oR_some, if_neg (show ¬ (1 : Int32) = 0 by decide), q2, oR_some, if_neg (show ¬ (1 : Int32) = 0 by decide), rA3, oA_b (by omega), s3]
          simp only [oJ_to, w_ofAppend, oR_some]
          rw [oA_b lw]
          rw [if_neg (show ¬ nI 1 = 4 by decide), if_neg (show ¬ nI 1 = 4 by decide), x]
          split <;> rfl
      · subst e
        have x : m.1 1 (194 + 9 * a + 2) = (c.1 0).1 4 a := (hrm.ap (k := 2) ha (by decide)).trans (hcr.1.ap (by decide) (by decide) ha).symm
        refine fin ((c.1 0).1 4 a) ?_ ?_
        · skip
          unfold f_X0_tellAppend
          rw [e1, oR_some, if_neg (show ¬ (1 : Int32) = 0 by decide), oA_at ha2 (by decide), a5]
          simp only [oJ_to, oA_at ha2 (by decide : (201 : Nat) < 2 ^ 31)]
          by_cases y : A.1 5 a = 2
          · rw [if_pos (g2.2 y)]; rfl
          · rw [if_neg (fun z => y (g2.1 z))]; rfl
        · skip
          unfold f_X6_appended
          rw [e2, oR_some, if_neg (show ¬ (1 : Int32) = 0 by decide), q2, oR_some, if_neg (show ¬ (1 : Int32) = 0 by decide), rA3, oA_b (by omega), s3]
          simp only [oJ_to, w_ofAppend, oR_some]
          rw [oA_b lw]
          rw [if_neg (show ¬ nI 2 = 4 by decide), if_neg (show ¬ nI 2 = 4 by decide), x]
          split <;> rfl
      · subst e
        have x : m.1 1 (194 + 9 * a + 3) = (c.1 0).1 5 a := (hrm.ap (k := 3) ha (by decide)).trans (hcr.1.ap (by decide) (by decide) ha).symm
        refine fin (nI (A.1 5 a)) ?_ ?_
        · skip
          unfold f_X0_tellAppend
          rw [e1, oR_some, if_neg (show ¬ (1 : Int32) = 0 by decide), oA_at ha2 (by decide), a5]
          simp only [oJ_to, oA_at ha2 (by decide : (201 : Nat) < 2 ^ 31)]
          by_cases y : A.1 5 a = 2
          · rw [if_pos (g2.2 y)]; exact congrArg some a5
          · rw [if_neg (fun z => y (g2.1 z))]; exact congrArg some a5
        · skip
          unfold f_X6_appended
          rw [e2, oR_some, if_neg (show ¬ (1 : Int32) = 0 by decide), q2, oR_some, if_neg (show ¬ (1 : Int32) = 0 by decide), rA3, oA_b (by omega), s3]
          simp only [oJ_to, w_ofAppend, oR_some]
          rw [oA_b lw]
          rw [if_neg (show ¬ nI 3 = 4 by decide), if_neg (show ¬ nI 3 = 4 by decide), s3]
          split <;> rfl
      · subst e
        by_cases y : A.1 5 a = 2
        · refine fin (nI (A.1 6 a)) ?_ ?_
          · skip
            unfold f_X0_tellAppend
            rw [e1, oR_some, if_neg (show ¬ (1 : Int32) = 0 by decide), oA_at ha2 (by decide), a5]
            simp only [oJ_to, oA_at ha2 (by decide : (201 : Nat) < 2 ^ 31)]
            rw [if_pos (g2.2 y)]
            show some ((c.1 0).1 6 a) = _
            rw [(hcr.1.2.2.1 a ha (Or.inr y)).1]
          · skip
            unfold f_X6_appended
            rw [e2, oR_some, if_neg (show ¬ (1 : Int32) = 0 by decide), q2, oR_some, if_neg (show ¬ (1 : Int32) = 0 by decide), rA3, oA_b (by omega), s3]
            simp only [oJ_to, w_ofAppend, oR_some]
            rw [oA_b lw]
            rw [if_pos (g2.2 y), if_pos (show nI 4 = 4 from rfl), if_neg (show ¬ (1 : Int32) = 0 by decide), m4, if_pos (Or.inr y)]
        · refine fin (-5) ?_ ?_
          · skip
            unfold f_X0_tellAppend
            rw [e1, oR_some, if_neg (show ¬ (1 : Int32) = 0 by decide), oA_at ha2 (by decide), a5]
            simp only [oJ_to, oA_at ha2 (by decide : (201 : Nat) < 2 ^ 31)]
            rw [if_neg (fun z => y (g2.1 z))]; rfl
          · skip
            unfold f_X6_appended
            rw [e2, oR_some, if_neg (show ¬ (1 : Int32) = 0 by decide), q2, oR_some, if_neg (show ¬ (1 : Int32) = 0 by decide), rA3, oA_b (by omega), s3]
            simp only [oJ_to, w_ofAppend, oR_some]
            rw [oA_b lw]
            rw [if_neg (fun z => y (g2.1 z)), if_pos (show nI 4 = 4 from rfl), if_pos trivial]
      · subst e
        by_cases y : A.1 5 a = 2
        · refine fin (nI (A.1 7 a)) ?_ ?_
          · skip
            unfold f_X0_tellAppend
            rw [e1, oR_some, if_neg (show ¬ (1 : Int32) = 0 by decide), oA_at ha2 (by decide), a5]
            simp only [oJ_to, oA_at ha2 (by decide : (201 : Nat) < 2 ^ 31)]
            rw [if_pos (g2.2 y)]
            show some ((c.1 0).1 7 a) = _
            rw [(hcr.1.2.2.1 a ha (Or.inr y)).2.1]
          · skip
            unfold f_X6_appended
            rw [e2, oR_some, if_neg (show ¬ (1 : Int32) = 0 by decide), q2, oR_some, if_neg (show ¬ (1 : Int32) = 0 by decide), rA3, oA_b (by omega), s3]
            simp only [oJ_to, w_ofAppend, oR_some]
            rw [oA_b lw]
            rw [if_pos (g2.2 y), if_neg (show ¬ nI 5 = 4 by decide), m5, if_pos y]
        · refine fin (-5) ?_ ?_
          · skip
            unfold f_X0_tellAppend
            rw [e1, oR_some, if_neg (show ¬ (1 : Int32) = 0 by decide), oA_at ha2 (by decide), a5]
            simp only [oJ_to, oA_at ha2 (by decide : (201 : Nat) < 2 ^ 31)]
            rw [if_neg (fun z => y (g2.1 z))]; rfl
          · skip
            unfold f_X6_appended
            rw [e2, oR_some, if_neg (show ¬ (1 : Int32) = 0 by decide), q2, oR_some, if_neg (show ¬ (1 : Int32) = 0 by decide), rA3, oA_b (by omega), s3]
            simp only [oJ_to, w_ofAppend, oR_some]
            rw [oA_b lw]
            rw [if_neg (fun z => y (g2.1 z)), if_neg (show ¬ nI 5 = 4 by decide), m5, if_neg y]
      · subst e
        refine fin ((c.1 0).1 8 a) ?_ ?_
        · skip
          unfold f_X0_tellAppend
          rw [e1, oR_some, if_neg (show ¬ (1 : Int32) = 0 by decide), oA_at ha2 (by decide), a5]
          simp only [oJ_to, oA_at ha2 (by decide : (201 : Nat) < 2 ^ 31)]
          by_cases y : A.1 5 a = 2
          · rw [if_pos (g2.2 y)]; rfl
          · rw [if_neg (fun z => y (g2.1 z))]; rfl
        · skip
          unfold f_X6_appended
          rw [e2, oR_some, if_neg (show ¬ (1 : Int32) = 0 by decide), q2, oR_some, if_neg (show ¬ (1 : Int32) = 0 by decide), rA3, oA_b (by omega), s3]
          simp only [oJ_to, w_ofAppend, oR_some]
          rw [oA_b lw]
          rw [if_neg (show ¬ nI 6 = 4 by decide), if_neg (show ¬ nI 6 = 4 by decide), m6, c8]
          split <;> rfl
      · subst e
        by_cases y : A.1 5 a = 2
        · refine fin (nI (A.1 9 a)) ?_ ?_
          · skip
            unfold f_X0_tellAppend
            rw [e1, oR_some, if_neg (show ¬ (1 : Int32) = 0 by decide), oA_at ha2 (by decide), a5]
            simp only [oJ_to, oA_at ha2 (by decide : (201 : Nat) < 2 ^ 31)]
            rw [if_pos (g2.2 y)]
            show some ((c.1 0).1 9 a) = _
            rw [(hcr.1.2.2.1 a ha (Or.inr y)).2.2]
          · skip
            unfold f_X6_appended
            rw [e2, oR_some, if_neg (show ¬ (1 : Int32) = 0 by decide), q2, oR_some, if_neg (show ¬ (1 : Int32) = 0 by decide), rA3, oA_b (by omega), s3]
            simp only [oJ_to, w_ofAppend, oR_some]
            rw [oA_b lw]
            rw [if_pos (g2.2 y), if_neg (show ¬ nI 7 = 4 by decide), m7, if_pos y]
        · refine fin (-5) ?_ ?_
          · skip
            unfold f_X0_tellAppend
            rw [e1, oR_some, if_neg (show ¬ (1 : Int32) = 0 by decide), oA_at ha2 (by decide), a5]
            simp only [oJ_to, oA_at ha2 (by decide : (201 : Nat) < 2 ^ 31)]
            rw [if_neg (fun z => y (g2.1 z))]; rfl
          · skip
            unfold f_X6_appended
            rw [e2, oR_some, if_neg (show ¬ (1 : Int32) = 0 by decide), q2, oR_some, if_neg (show ¬ (1 : Int32) = 0 by decide), rA3, oA_b (by omega), s3]
            simp only [oJ_to, w_ofAppend, oR_some]
            rw [oA_b lw]
            rw [if_neg (fun z => y (g2.1 z)), if_neg (show ¬ nI 7 = 4 by decide), m7, if_neg y]
    · have q2 : f_X6_in p2 0 7 = some 0 := q2
      have ne : ∀ j : Nat, j ≤ 7 → ¬ p2 = nI j := by
        intro j hj x
        rw [x] at hp
        rcases hp with hp | hp
        · exact nI_pos (n := j) (by omega) hp
        · exact nI_nlt (b := j) (a := 7) hj (by decide) hp
      have n0 : ¬ p2 = 0 := ne 0 (by decide)
      have n1 : ¬ p2 = 1 := ne 1 (by decide)
      have n2 : ¬ p2 = 2 := ne 2 (by decide)
      have n3 : ¬ p2 = 3 := ne 3 (by decide)
      have n4 : ¬ p2 = 4 := ne 4 (by decide)
      have n5 : ¬ p2 = 5 := ne 5 (by decide)
      have n6 : ¬ p2 = 6 := ne 6 (by decide)
      have n7 : ¬ p2 = 7 := ne 7 (by decide)
      unfold f_X0_tellAppend f_X6_appended
      rw [e1, oR_some, if_neg (show ¬ (1 : Int32) = 0 by decide), oA_at ha2 (by decide), a5, e2, oR_some, if_neg (show ¬ (1 : Int32) = 0 by decide), q2, oR_some, if_pos rfl]
      simp only [oJ_to, if_neg n0, if_neg n1, if_neg n2, if_neg n3, if_neg n4, if_neg n5, if_neg n6, if_neg n7]
      refine ⟨-2, ?_, rfl⟩
      split <;> rfl
  · unfold f_X0_tellAppend f_X6_appended
    rw [e1, oR_some, if_pos rfl, oR_some, e2, oR_some, if_pos rfl]
    exact ⟨_, rfl, rfl⟩
theorem w_both {c : CS} {m : MS} {A : NS} (h : RC (c.1 0) A) (hm : RM (m.1 1) A) (I : Iv A) {w q : Nat} (hw : w < 4) (hq : q < 4) : ∃ r, f_X0_ofWriter (c.1 0) (nI w) (nI q) = some r ∧ f_X6_appendsOf m (nI q) (nI w) = some r := by
  rw [w_ofWriterC h I.b (by omega) (by omega), w_appendsOf hm I.b (by omega) (by omega), cnt_comm]
  exact ⟨_, rfl, rfl⟩
theorem call_writer {c : CS} {m : MS} (h : TopE c m) (p1 p2 : Int32) : ∃ r, f_X5_writer c p1 p2 = some r ∧ f_X6_writer m p1 p2 = some r := by
  obtain ⟨A, o, k, H, b, S, L, t, hT⟩ := h
  have hcr := hT.1
  have hrm := hT.2.1
  have I := hT.2.2.1.1
  unfold f_X5_writer f_X3_tellWriter f_X6_writer
  rcases writer_cases p1 with ⟨w, hw, rfl⟩ | ⟨e1, e2⟩
  · obtain ⟨u0, u1⟩ := hrm.2.2.2.1 w hw
    rw [w_isWriter hw, oR_some, if_neg (show ¬ (1 : Int32) = 0 by decide), w_isWriterM hw, oR_some, if_neg (show ¬ (1 : Int32) = 0 by decide), oJ_to (κ := Option Int32)]
    by_cases q0 : p2 = 0
    · rw [if_pos q0, if_pos q0, oA_at hw (by decide), hcr.1.wr (by decide) (by decide) hw, oR_some, rW0, oA_b (by omega), u0]
      exact ⟨_, rfl, rfl⟩
    rw [if_neg q0, if_neg q0]
    by_cases q1 : p2 = 1
    · subst q1
      obtain ⟨r, r1, r2⟩ := w_both hcr.1 hrm I hw (q := 0) (by decide)
      have r1 : f_X0_ofWriter (c.1 0) (nI w) 0 = some r := r1
      have r2 : f_X6_appendsOf m (1 - 1) (nI w) = some r := r2
      rw [if_pos rfl, if_pos rfl, r1, oR_some, oR_some, r2, oR_some]
      exact ⟨_, rfl, rfl⟩
    rw [if_neg q1, if_neg q1]
    by_cases q2 : p2 = 2
    · subst q2
      obtain ⟨r, r1, r2⟩ := w_both hcr.1 hrm I hw (q := 1) (by decide)
      have r1 : f_X0_ofWriter (c.1 0) (nI w) 1 = some r := r1
      have r2 : f_X6_appendsOf m (2 - 1) (nI w) = some r := r2
      rw [if_pos rfl, if_pos rfl, r1, oR_some, oR_some, r2, oR_some]
      exact ⟨_, rfl, rfl⟩
    rw [if_neg q2, if_neg q2]
    by_cases q3 : p2 = 3
    · subst q3
      obtain ⟨r, r1, r2⟩ := w_both hcr.1 hrm I hw (q := 2) (by decide)
      have r1 : f_X0_ofWriter (c.1 0) (nI w) 2 = some r := r1
      have r2 : f_X6_appendsOf m (3 - 1) (nI w) = some r := r2
      rw [if_pos rfl, if_pos rfl, r1, oR_some, oR_some, r2, oR_some]
      exact ⟨_, rfl, rfl⟩
    rw [if_neg q3, if_neg q3]
    by_cases q4 : p2 = 4
    · subst q4
      obtain ⟨r, r1, r2⟩ := w_both hcr.1 hrm I hw (q := 3) (by decide)
      have r1 : f_X0_ofWriter (c.1 0) (nI w) 3 = some r := r1
      have r2 : f_X6_appendsOf m (4 - 1) (nI w) = some r := r2
      rw [if_pos rfl, if_pos rfl, r1, oR_some, oR_some, r2, oR_some]
      exact ⟨_, rfl, rfl⟩
    rw [if_neg q4, if_neg q4]
    by_cases q5 : p2 = 5
    · rw [if_pos q5, if_pos q5, oA_at hw (by decide), hcr.1.wr (by decide) (by decide) hw, oR_some, rW1, oA_b (by omega), u1]
      exact ⟨_, rfl, rfl⟩
    rw [if_neg q5, if_neg q5]
    exact ⟨-2, rfl, rfl⟩
  · rw [e1, oR_some, if_pos rfl, oR_some, e2, oR_some, if_pos rfl]
    exact ⟨_, rfl, rfl⟩
theorem call_told {c : CS} {m : MS} (h : TopE c m) (p1 : Int32) : ∃ r, f_X5_told c p1 = some r ∧ f_X6_told m p1 = some r := by
  obtain ⟨A, o, k, H, b, S, L, t, hT⟩ := h
  have hcr := hT.1
  have hrm := hT.2.1
  have I := hT.2.2.1.1
  have ht := I.told
  have s9 : m.1 1 9 = nI (A.2 1) := hrm.lit.2.2.2.2.2.2.2.2.2
  unfold f_X5_told f_X0_toldAt f_X6_told
  rw [oL9, s9, hcr.1.1 1 (by decide) (by decide)]
  rcases int_cases p1 (A.2 1) (by omega) with ⟨q, hq, rfl⟩ | hp | hp
  · have e := hrm.2.2.2.2.2.2.1 q hq
    rw [if_pos (nI_pos' (by omega)), if_neg (nI_ge hq (by omega)), oA_at (show q < 201 by omega) (by decide), hcr.1.2.2.2.2.1 q hq, oR_some, if_pos (nI_pos' (by omega)), if_neg (nI_ge hq (by omega)), n2003, oA_b (by omega), e]
    exact ⟨_, rfl, rfl⟩
  · rw [if_neg (Int32.not_le.2 hp), oR_some, if_neg (Int32.not_le.2 hp)]
    exact ⟨_, rfl, rfl⟩
  · have h0 : (0 : Int32) ≤ p1 := Int32.le_trans (nI_pos' (n := A.2 1) (by omega)) hp
    rw [if_pos h0, if_pos hp, oR_some, if_pos h0, if_pos hp]
    exact ⟨_, rfl, rfl⟩
theorem cnt_part {A : NS} : ∀ n, (∀ a, a < n → A.1 5 a ≤ 3) → cnt (liveP A) n + cnt (fun a => decide (A.1 5 a = 2)) n + cnt (fun a => decide (A.1 5 a = 3)) n = n
  | 0, _ => rfl
  | n + 1, h => by
    have ih := cnt_part (A := A) n fun a ha => h a (by omega)
    have hf := h n (by omega)
    simp only [cnt]
    generalize cnt (liveP A) n = u at ih ⊢
    generalize cnt (fun a => decide (A.1 5 a = 2)) n = v at ih ⊢
    generalize cnt (fun a => decide (A.1 5 a = 3)) n = w at ih ⊢
    unfold liveP
    rcases (by omega : A.1 5 n = 0 ∨ A.1 5 n = 1 ∨ A.1 5 n = 2 ∨ A.1 5 n = 3) with x | x | x | x <;> simp [x] <;> omega
theorem call_count {c : CS} {m : MS} (h : TopE c m) (p1 : Int32) : ∃ r, f_X5_count c p1 = some r ∧ f_X6_count m p1 = some r := by
  obtain ⟨A, o, k, H, b, S, L, t, hT⟩ := h
  have hcr := hT.1
  have hrm := hT.2.1
  have I := hT.2.2.1.1
  have bd := I.b
  have hn := I.a.1
  have hcl : ((List.range (A.2 0)).filter (liveP A)).length = cnt (liveP A) (A.2 0) := by
    have := countP_filter_range (fun _ => true) (liveP A) (A.2 0)
    have ft : (List.range (A.2 0)).filter (fun _ => true) = List.range (A.2 0) := List.filter_eq_self.2 fun _ _ => rfl
    rw [ft] at this
    rw [← List.countP_eq_length_filter, this]
    rfl
  obtain ⟨m0, m1, m2, m3, m4, m5, m6, m7, m8, m9⟩ := hrm.lit
  have kc := hT.2.2.2.1.2.1
  have km := hT.2.2.2.2.1.1
  have lc := hT.2.2.2.2.2.2.1
  have lm := hT.2.2.2.2.2.2.2.1
  have hop : f_X4_inPhase (c.1 0) 1 = some (nI (nOpen A)) := w_inPhase hcr.1 (q := 1) (by decide) (fun z _ => bd.2.1 13 z)
  have huse : f_X4_inUse (c.1 0) = some (nI (nUse A)) := w_inUse hcr.1 bd
  have hz0 : f_X6_zones m 0 = some (nI (nOpen A)) := by
    have := w_zones hrm bd (p := 0) (by decide)
    rw [show cnt (fun z => decide (A.1 13 z = 1 ∨ 0 ≠ 0 ∧ A.1 13 z = 2)) 8 = nOpen A from cnt_congr fun z _ => by simp] at this
    exact this
  have hz1 : f_X6_zones m 1 = some (nI (nUse A)) := by
    have := w_zones hrm bd (p := 1) (by decide)
    rw [show cnt (fun z => decide (A.1 13 z = 1 ∨ 1 ≠ 0 ∧ A.1 13 z = 2)) 8 = nUse A from cnt_congr fun z _ => by simp] at this
    exact this
  have l0 : f_X0_liveIn (c.1 0) 0 = some (nI (cnt (fun a => decide (A.1 5 a = 0)) (A.2 0))) := w_liveIn hcr.1 bd hcr.2 (q := 0) (by decide) (fun c _ hx => decide_eq_true (Or.inl hx))
  have l1 : f_X0_liveIn (c.1 0) 1 = some (nI (cnt (fun a => decide (A.1 5 a = 1)) (A.2 0))) := w_liveIn hcr.1 bd hcr.2 (q := 1) (by decide) (fun c _ hx => decide_eq_true (Or.inr hx))
  have a0 : f_X6_appends m (8 - 8) (-1) = some (nI (cnt (fun a => decide (A.1 5 a = 0)) (A.2 0))) := w_appN hrm I (q := 0) (by decide)
  have a1 : f_X6_appends m (9 - 8) (-1) = some (nI (cnt (fun a => decide (A.1 5 a = 1)) (A.2 0))) := w_appN hrm I (q := 1) (by decide)
  have a2 : f_X6_appends m (10 - 8) (-1) = some (nI (cnt (fun a => decide (A.1 5 a = 2)) (A.2 0))) := w_appN hrm I (q := 2) (by decide)
  have a3 : f_X6_appends m (11 - 8) (-1) = some (nI (cnt (fun a => decide (A.1 5 a = 3)) (A.2 0))) := w_appN hrm I (q := 3) (by decide)
  have n (k : Nat) (h1 : k < 11) (h2 : k ≠ 2) : (c.1 0).2 k = nI (A.2 k) := hcr.1.1 k h1 h2
  unfold f_X5_count f_X6_count f_X3_tellNumber
  simp only [oJ_to]
  by_cases p14 : p1 = 14
  · subst p14
    rw [if_pos rfl, kc]
    refine ⟨_, rfl, ?_⟩
    rw [← km]; rfl
  rw [if_neg p14]
  by_cases p15 : p1 = 15
  · subst p15
    rw [if_pos rfl, lc]
    refine ⟨_, rfl, ?_⟩
    rw [← lm]; rfl
  rw [if_neg p15]
  by_cases q0 : p1 = 0
  · subst q0
    rw [if_pos rfl, if_pos rfl, oL0, m0, n 10 (by decide) (by decide)]
    exact ⟨_, rfl, rfl⟩
  rw [if_neg q0, if_neg q0]
  by_cases q1 : p1 = 1
  · subst q1
    rw [if_pos rfl, if_pos rfl, oL1, m1, n 4 (by decide) (by decide)]
    exact ⟨_, rfl, rfl⟩
  rw [if_neg q1, if_neg q1]
  by_cases q2 : p1 = 2
  · subst q2
    rw [if_pos rfl, if_pos rfl, oL2, m2, n 5 (by decide) (by decide)]
    exact ⟨_, rfl, rfl⟩
  rw [if_neg q2, if_neg q2]
  by_cases q3 : p1 = 3
  · subst q3
    rw [if_pos rfl, if_pos rfl, oL3, m3, n 8 (by decide) (by decide)]
    exact ⟨_, rfl, rfl⟩
  rw [if_neg q3, if_neg q3]
  by_cases q4 : p1 = 4
  · subst q4
    rw [if_pos rfl, if_pos rfl, oL4, m4, n 9 (by decide) (by decide)]
    exact ⟨_, rfl, rfl⟩
  rw [if_neg q4, if_neg q4]
  by_cases q5 : p1 = 5
  · subst q5
    rw [if_pos rfl, if_pos rfl, hop, oR_some, oR_some, if_neg (show ¬ (5 : Int32) = 6 by decide), hz0, oR_some]
    exact ⟨_, rfl, rfl⟩
  rw [if_neg q5, if_neg q5]
  by_cases q6 : p1 = 6
  · subst q6
    simp only [if_true]
    rw [huse, oR_some, oR_some, hz1, oR_some]
    exact ⟨_, rfl, rfl⟩
  rw [if_neg q6, if_neg q6]
  by_cases q7 : p1 = 7
  · subst q7
    rw [if_pos rfl, if_pos rfl, oL5, m5, hcr.1.n0]
    exact ⟨_, rfl, rfl⟩
  rw [if_neg q7, if_neg q7]
  by_cases q8 : p1 = 8
  · subst q8
    rw [if_pos rfl, if_pos rfl, l0, oR_some, oR_some, a0, oR_some]
    exact ⟨_, rfl, rfl⟩
  rw [if_neg q8, if_neg q8]
  by_cases q9 : p1 = 9
  · subst q9
    rw [if_pos rfl, if_pos rfl, l1, oR_some, oR_some, a1, oR_some]
    exact ⟨_, rfl, rfl⟩
  rw [if_neg q9, if_neg q9]
  by_cases q10 : p1 = 10
  · subst q10
    rw [if_pos rfl, if_pos rfl, a2, oR_some, oR_some, n 1 (by decide) (by decide), I.t.1]
    exact ⟨_, rfl, rfl⟩
  rw [if_neg q10, if_neg q10]
  by_cases q11 : p1 = 11
  · subst q11
    have hp := cnt_part (A := A) (A.2 0) fun a ha => (I.a.2 a ha).2.2.2
    have e1 := I.t.1
    rw [if_pos rfl, if_pos rfl, a3, oR_some, oR_some, hcr.1.n0, n 1 (by decide) (by decide), hcr.2.len, hcl, pk_sub (by omega), pk_sub (by omega)]
    refine ⟨_, rfl, ?_⟩
    rw [show A.2 0 - A.2 1 - cnt (liveP A) (A.2 0) = cnt (fun a => decide (A.1 5 a = 3)) (A.2 0) by omega]
  rw [if_neg q11, if_neg q11]
  by_cases q12 : p1 = 12
  · subst q12
    rw [if_pos rfl, if_pos rfl, oL7, m7, n 7 (by decide) (by decide)]
    exact ⟨_, rfl, rfl⟩
  rw [if_neg q12, if_neg q12]
  by_cases q13 : p1 = 13
  · subst q13
    rw [if_pos rfl, if_pos rfl, oL6, m6, n 6 (by decide) (by decide)]
    exact ⟨_, rfl, rfl⟩
  rw [if_neg q13, if_neg q13, if_neg p14, if_neg p15]
  exact ⟨-2, rfl, rfl⟩
