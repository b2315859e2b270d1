/-! PURE (p25): the appends are as the law asks -/
theorem cnt_ph {A : NS} {w : Nat} : ∀ n, (∀ a, a < n → A.1 5 a ≤ 3) → cnt (fun a => decide (A.1 2 a = w ∧ A.1 5 a = 0)) n + cnt (fun a => decide (A.1 2 a = w ∧ A.1 5 a = 1)) n + cnt (fun a => decide (A.1 2 a = w ∧ A.1 5 a = 2)) n + cnt (fun a => decide (A.1 2 a = w ∧ A.1 5 a = 3)) n = cnt (fun a => decide (A.1 2 a = w) && true) n := by
  intro n
  induction n with
  | zero => intro _; rfl
  | succ n ih =>
    intro h
    have ih := ih fun a ha => h a (by omega)
    have hf := h n (by omega)
    simp only [cnt]
    generalize cnt (fun a => decide (A.1 2 a = w ∧ A.1 5 a = 0)) n = u0 at ih ⊢
    generalize cnt (fun a => decide (A.1 2 a = w ∧ A.1 5 a = 1)) n = u1 at ih ⊢
    generalize cnt (fun a => decide (A.1 2 a = w ∧ A.1 5 a = 2)) n = u2 at ih ⊢
    generalize cnt (fun a => decide (A.1 2 a = w ∧ A.1 5 a = 3)) n = u3 at ih ⊢
    generalize cnt (fun a => decide (A.1 2 a = w) && true) n = u4 at ih ⊢
    by_cases e : A.1 2 n = w
    · rcases (by omega : A.1 5 n = 0 ∨ A.1 5 n = 1 ∨ A.1 5 n = 2 ∨ A.1 5 n = 3) with x | x | x | x <;> simp [x, e] <;> omega
    · simp [e]
      omega
theorem cnt_ph4 {A : NS} : ∀ n, (∀ a, a < n → A.1 5 a ≤ 3) → cnt (fun a => decide (A.1 5 a = 0)) n + cnt (fun a => decide (A.1 5 a = 1)) n + cnt (fun a => decide (A.1 5 a = 2)) n + cnt (fun a => decide (A.1 5 a = 3)) n = n := by
  intro n
  induction n with
  | zero => intro _; rfl
  | succ n ih =>
    intro h
    have ih := ih fun a ha => h a (by omega)
    have hf := h n (by omega)
    simp only [cnt]
    generalize cnt (fun a => decide (A.1 5 a = 0)) n = u0 at ih ⊢
    generalize cnt (fun a => decide (A.1 5 a = 1)) n = u1 at ih ⊢
    generalize cnt (fun a => decide (A.1 5 a = 2)) n = u2 at ih ⊢
    generalize cnt (fun a => decide (A.1 5 a = 3)) n = u3 at ih ⊢
    rcases (by omega : A.1 5 n = 0 ∨ A.1 5 n = 1 ∨ A.1 5 n = 2 ∨ A.1 5 n = 3) with x | x | x | x <;> simp [x] <;> omega
theorem w_a14 {c : CS} {A : NS} {o k : Nat} {H : Nat → NS} (h : Tq c A o k H) {K : Int32 → Int32 → Option Int32} : ∀ d i m, i + d = A.2 0 → d < m →
    f_L_areAppendsSo_L14 c (nI (A.2 0)) K m (nI (cnt (fun a => decide (A.1 5 a = 2)) i)) (nI (cnt (fun a => decide (A.1 5 a = 3)) i)) (nI i) = K (nI (cnt (fun a => decide (A.1 5 a = 2)) (A.2 0))) (nI (cnt (fun a => decide (A.1 5 a = 3)) (A.2 0))) := by
  have I := h.2.1.1
  have bd := I.b
  have hn := I.a.1
  intro d
  induction d with
  | zero =>
    intro i m hi hm
    obtain ⟨m, rfl⟩ : ∃ q, m = q + 1 := ⟨m - 1, by omega⟩
    have e : i = A.2 0 := by omega
    rw [f_L_areAppendsSo_L14, if_pos (nI_le (by omega) (by omega)), e]
  | succ d ih =>
    intro i m hi hm
    obtain ⟨m, rfl⟩ : ∃ q, m = q + 1 := ⟨m - 1, by omega⟩
    have ha : i < A.2 0 := by omega
    have ih := ih (i + 1) m (by omega) (by omega)
    obtain ⟨i2, i3, i4, i5⟩ := I.a.2 i ha
    have p2 : cnt (fun a => decide (A.1 5 a = 2)) (i + 1) = cnt (fun a => decide (A.1 5 a = 2)) i + (if decide (A.1 5 i = 2) = true then 1 else 0) := rfl
    have p3 : cnt (fun a => decide (A.1 5 a = 3)) (i + 1) = cnt (fun a => decide (A.1 5 a = 3)) i + (if decide (A.1 5 i = 3) = true then 1 else 0) := rfl
    rw [p2, p3] at ih
    rw [f_L_areAppendsSo_L14, if_neg (nI_ge ha (by omega)), q_app3 h ha, oR_some, q_app1 h ha, oR_some]
    have s0 : nI 0 = (0 : Int32) := rfl
    have s1 : nI 1 = (1 : Int32) := rfl
    have s2 : nI 2 = (2 : Int32) := rfl
    have s3 : nI 3 = (3 : Int32) := rfl
    have h10 : ¬ (1 : Int32) = 0 := by decide
    have h01 : ¬ (0 : Int32) = 1 := by decide
    have h02 : ¬ (0 : Int32) = 2 := by decide
    have h03 : ¬ (0 : Int32) = 3 := by decide
    have h12 : ¬ (1 : Int32) = 2 := by decide
    have h13 : ¬ (1 : Int32) = 3 := by decide
    have h23 : ¬ (2 : Int32) = 3 := by decide
    have h32 : ¬ (3 : Int32) = 2 := by decide
    have e6 := q_app6 h ha
    rcases (by omega : A.1 5 i = 0 ∨ A.1 5 i = 1 ∨ A.1 5 i = 2 ∨ A.1 5 i = 3) with e | e | e | e
    · rw [if_neg (by omega)] at e6
      rw [q_app4n h ha (by omega), oR_some]
      rw [e] at ih ⊢
      simp only [oJ_to, e6, oR_some, s0, if_neg h02, if_neg h03, if_neg h01, if_true]
      rw [nI_0r, nI_0r, nI_1]
      exact ih
    · rw [if_neg (by omega)] at e6
      rw [q_app4n h ha (by omega), oR_some]
      rw [e] at ih ⊢
      simp only [oJ_to, e6, oR_some, s1, if_neg h12, if_neg h13, if_neg h01, if_true]
      rw [nI_0r, nI_0r, nI_1]
      exact ih
    · rw [if_neg (by omega)] at e6
      have r5 : ¬ nI (A.1 6 i) = -5 := nI_ne5 (bd.2.1 6 i)
      have e7 := q_app7 h ha e
      have e2 := q_app2 h ha
      have z4 := q_zone4 h i3
      rw [q_app4 h ha e, oR_some]
      have er : A.1 9 i = A.1 17 (A.1 3 i) → f_X5_read c (nI (A.1 3 i)) (nI (A.1 6 i)) = some (nI (A.1 4 i)) := fun g => by
        have := q_read1 h i3 (q := A.1 6 i) (a := i) (bd.2.1 6 i) ha (decide_eq_true ⟨Or.inr e, rfl, g, rfl⟩)
        rw [if_neg (by omega)] at this
        exact this
      rw [e] at ih ⊢
      simp only [oJ_to, e6, e7, e2, z4, oR_some, s2, if_neg h23, if_neg r5, if_neg h10, if_neg h01, if_true]
      by_cases g : A.1 9 i = A.1 17 (A.1 3 i)
      · rw [if_pos (congrArg nI g), er g, oR_some, if_pos rfl, nI_0r, nI_1, nI_1]
        exact ih
      · rw [if_neg (fun x => g ((nI_eq (bd.2.1 9 i) (bd.2.1 17 _)).1 x)), nI_0r, nI_1, nI_1]
        exact ih
    · have r8 : ¬ nI (A.1 8 i) = -5 := nI_ne5 (bd.2.1 8 i)
      rw [if_pos e] at e6
      rw [q_app4n h ha (by omega), oR_some]
      rw [e] at ih ⊢
      simp only [oJ_to, e6, oR_some, s3, if_neg h32, if_neg r8, if_neg h10, if_neg h01, if_true]
      rw [nI_0r, nI_1, nI_1]
      exact ih
def tkA (A : NS) (i : Nat) : Nat := if i = 0 then 0 else A.1 7 (A.1 10 (i - 1))
theorem w_a191 {c : CS} {A : NS} {o k : Nat} {H : Nat → NS} (h : Tq c A o k H) {K : Option Int32} : ∀ d i m, i + d = A.2 1 → d < m →
    f_L_areAppendsSo_L191 c (nI (A.2 1)) K m (nI (tkA A i)) (nI i) = K := by
  have I := h.2.1.1
  have bd := I.b
  have ht := I.told
  have hn := I.a.1
  obtain ⟨l1, l2⟩ := h.2.2.1.2
  intro d
  induction d with
  | zero =>
    intro i m hi hm
    obtain ⟨m, rfl⟩ : ∃ q, m = q + 1 := ⟨m - 1, by omega⟩
    rw [f_L_areAppendsSo_L191, if_pos (nI_le (by omega) (by omega))]
  | succ d ih =>
    intro i m hi hm
    obtain ⟨m, rfl⟩ : ∃ q, m = q + 1 := ⟨m - 1, by omega⟩
    have hq : i < A.2 1 := by omega
    obtain ⟨g1, g2, g3⟩ := l1 i hq
    have ih := ih (i + 1) m (by omega) (by omega)
    have e5 := q_app5 h g1 g2
    have hle : tkA A i ≤ A.1 7 (A.1 10 i) := by
      unfold tkA
      split
      · exact Nat.zero_le _
      · exact l2 (i - 1) i (by omega) hq
    rw [f_L_areAppendsSo_L191, if_neg (nI_ge hq (by omega)), q_told h hq, oR_some, if_neg (nI_pos (by omega)), e5, oR_some, if_pos (nI_le hle (bd.2.1 7 _)), oR_some, nI_1]
    exact ih
theorem w_a245 {c : CS} {A : NS} {o k : Nat} {H : Nat → NS} (h : Tq c A o k H) {K : Int32 → Option Int32} : ∀ d i m, i + d = 4 → d < m →
    f_L_areAppendsSo_L245 c K m (nI (psum (fun w => cnt (fun a => decide (A.1 2 a = w) && true) (A.2 0)) i)) (nI i) = K (nI (psum (fun w => cnt (fun a => decide (A.1 2 a = w) && true) (A.2 0)) 4)) := by
  have I := h.2.1.1
  intro d
  induction d with
  | zero =>
    intro i m hi hm
    obtain ⟨m, rfl⟩ : ∃ q, m = q + 1 := ⟨m - 1, by omega⟩
    have e : i = 4 := by omega
    subst e
    rw [f_L_areAppendsSo_L245, if_pos (show (4 : Int32) ≤ nI 4 by decide)]
  | succ d ih =>
    intro i m hi hm
    obtain ⟨m, rfl⟩ : ∃ q, m = q + 1 := ⟨m - 1, by omega⟩
    have hw : i < 4 := by omega
    have ih := ih (i + 1) m (by omega) (by omega)
    have p := cnt_ph (A := A) (w := i) (A.2 0) fun a ha => (I.a.2 a ha).2.2.2
    rw [f_L_areAppendsSo_L245, if_neg (show ¬ (4 : Int32) ≤ nI i from nI_ge (b := 4) hw (by decide)), q_wr1 h hw, oR_some, q_wr2 h hw, oR_some, q_wr3 h hw, oR_some, q_wr4 h hw, oR_some, nI_add, nI_add, nI_add, nI_add, nI_1, p]
    exact ih
theorem w_appsSo {c : CS} {A : NS} {o k : Nat} {H : Nat → NS} (h : Tq c A o k H) : f_L_areAppendsSo c = some 1 := by
  have I := h.2.1.1
  have hn := I.a.1
  have ht := I.told
  have t1 := I.t.1
  have hs : psum (fun w => cnt (fun a => decide (A.1 2 a = w) && true) (A.2 0)) 4 = A.2 0 := by
    rw [psum_cnt (f := A.1 2) (P := fun _ => true) (K := 4) (A.2 0) fun a ha => (I.a.2 a ha).1, cnt_all]
  have p4 := cnt_ph4 (A := A) (A.2 0) fun a ha => (I.a.2 a ha).2.2.2
  unfold f_L_areAppendsSo
  rw [q_count7 h, oR_some]
  refine (w_a14 h (A.2 0) 0 FU (by omega) (by show _ < 20000; omega)).trans ?_
  rw [← t1]
  refine (w_a191 h (A.2 1) 0 FU (by omega) (by show _ < 20000; omega)).trans ?_
  refine (w_a245 h 4 0 FU (by decide) (by decide)).trans ?_
  rw [hs, if_pos rfl, q_count10 h, oR_some, if_pos rfl, q_count11 h, oR_some, if_pos rfl, q_count8 h, oR_some, q_count9 h, oR_some, nI_add, nI_add, nI_add, if_pos (congrArg nI (show cnt (fun a => decide (A.1 5 a = 0)) (A.2 0) + atW A + A.2 1 + cnt (fun a => decide (A.1 5 a = 3)) (A.2 0) = A.2 0 by rw [t1]; exact p4)), q_told_end h, oR_some, if_pos rfl]
  rfl
