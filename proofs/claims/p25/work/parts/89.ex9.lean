/-! PURE (p25): forecasts come true -/
def fcP (A : NS) (a : Nat) : Option Nat → Int32
  | none => -5
  | some n => nI ((aTicks A n).1 6 a)
theorem q_toldIn_no {c : CS} {A : NS} {o k : Nat} {H : Nat → NS} (h : Tq c A o k H) {a : Nat} (ha : a < A.2 0) (hp : ¬ A.1 5 a ≤ 1) : f_X5_toldIn c (nI a) = some (-4, c) := by
  have d : ¬ decide (A.1 5 a = 0 ∨ A.1 5 a = 1) = true := fun x => by
    have := of_decide_eq_true x
    omega
  unfold f_X5_toldIn
  rw [q_num h ha, oR_some, if_neg (show ¬ (1 : Int32) = 0 by decide), w_isLive h.1.1 h.2.1.1.b ha, oR_some, if_neg d, if_pos rfl]
theorem q_toldIn {c : CS} {A : NS} {o k : Nat} {H : Nat → NS} (h : Tq c A o k H) {a : Nat} (ha : a < A.2 0) (hp : A.1 5 a ≤ 1) : ∃ c', f_X5_toldIn c (nI a) = some (fcI (fcA a 999 0 A), c') ∧ Tq c' A o k H := by
  have d : decide (A.1 5 a = 0 ∨ A.1 5 a = 1) = true := decide_eq_true (by omega)
  obtain ⟨hkc, ρ, f1, f2⟩ := w_draftS h.2.2.2.1 h.1 h.2.1.1
  obtain ⟨σ', u1, _⟩ := w_fcast f2 h.2.1.1 ha hp h.2.1.2.2.2
  unfold f_X5_toldIn
  rw [q_num h ha, oR_some, if_neg (show ¬ (1 : Int32) = 0 by decide), w_isLive h.1.1 h.2.1.1.b ha, oR_some, if_pos d, if_neg (show ¬ (1 : Int32) = 0 by decide), f1, oV_some, hkc, cS_eq, u1, oW_some]
  exact ⟨_, rfl, Tq_free h (fun j hj => (cS_ne hj).trans (cS_ne hj)) rfl⟩
/-- what a forecast says -/
theorem fc_facts {σ : SS} {A : NS} (hc : CR σ A) (I : Iv A) {a n : Nat} (ha : a < A.2 0) (hp : A.1 5 a ≤ 1) (ht : A.2 10 ≤ 9999) (hF : fcA a 999 0 A = some n) : 1 ≤ n ∧ n ≤ 999 ∧ (aTicks A n).1 5 a = 2 ∧ ∀ j, j < n → (aTicks A j).1 5 a ≤ 1 := by
  obtain ⟨σ', _, u2⟩ := w_fcast hc I ha hp ht
  obtain ⟨v1, v2, v3, v4, _⟩ := u2 n hF
  exact ⟨v1, v2, v3, v4⟩
theorem q_would {c : CS} {A : NS} {o k : Nat} {H : Nat → NS} (h : Tq c A o k H) {z : Nat} (hz : z < 8) :
    (∃ c', f_X5_would c (nI z) 0 = some (fcP (aAdd A 0 z 0) (A.2 0) (fcA (A.2 0) 999 0 (aAdd A 0 z 0)), c') ∧ Tq c' A o k H) ∧
    (∃ c', f_X5_would c (nI z) 1 = some (fcI (fcA (A.2 0) 999 0 (aAdd A 0 z 0)), c') ∧ Tq c' A o k H) ∧
    (∀ n, fcA (A.2 0) 999 0 (aAdd A 0 z 0) = some n → 1 ≤ n ∧ n ≤ 999 ∧ (aTicks (aAdd A 0 z 0) n).1 5 (A.2 0) = 2) := by
  have I := h.2.1.1
  have hn := h.2.1.2.1
  have hl := h.2.1.live
  obtain ⟨hkc, ρ, f1, f2⟩ := w_draftS h.2.2.2.1 h.1 I
  have I2 := Iv_add I (by omega) (w := 0) (z := z) (v := 0) (by decide) hz (by decide)
  obtain ⟨_, _, _, a5⟩ := aAdd_new (A := A) (w := 0) (z := z) (v := 0)
  have n2 : (aAdd A 0 z 0).2 0 = A.2 0 + 1 := by rw [aAdd_2, if_pos rfl]
  obtain ⟨ρ2, a1, a2, a3⟩ := w_addC (Q := liveP (aAdd A 0 z 0)) f2.1 I.b f2.2 (w := 0) (z := z) (v := 0) (by omega) (by omega) (fun a ha => by unfold liveP; rw [aAdd_old (Nat.ne_of_lt ha)]) (by unfold liveP; rw [a5]; rfl)
  have a1 : f_X0_add ρ 0 (nI z) 0 = some (nI (A.2 0), ρ2) := a1
  obtain ⟨σ', u1, u2⟩ := w_fcast (a := A.2 0) (A := aAdd A 0 z 0) ⟨a2, by rw [n2]; exact a3⟩ I2 (by omega) (by rw [a5]; decide) (by rw [aAdd_2, if_neg (by decide)]; exact h.2.1.2.2.2)
  have hne : ¬ nI (A.2 0) = -1 := fun x => by
    have := nI_pos (n := A.2 0) (by omega)
    rw [x] at this
    exact this (by decide)
  have fc : ∀ j, j ≠ 3 + (o + k) % 5 → (cS (cS (cS c (3 + (o + k) % 5) ρ) (3 + (o + k) % 5) ρ2) (3 + (o + k) % 5) σ').1 j = c.1 j := fun j hj => (cS_ne hj).trans ((cS_ne hj).trans (cS_ne hj))
  have T := Tq_free h fc rfl
  refine ⟨?_, ?_, fun n hF => ⟨(u2 n hF).1, (u2 n hF).2.1, (u2 n hF).2.2.1⟩⟩
  · unfold f_X5_would
    rw [w_isZone hz, oR_some, if_neg (show ¬ (1 : Int32) = 0 by decide), if_neg (show ¬ (0 : Int32) < 0 by decide), if_pos (show (0 : Int32) ≤ 1 by decide), f1, oV_some, hkc, cS_eq, a1, oW_some, if_neg hne, cS_eq, u1, oW_some, cS_eq]
    cases hF : fcA (A.2 0) 999 0 (aAdd A 0 z 0) with
    | none =>
      rw [if_pos (show fcI none = -5 from rfl)]
      exact ⟨_, rfl, T⟩
    | some n =>
      have hb := (Iv_ticks I2 n (by have := (u2 n hF).2.1; have := h.2.1.2.2.2; rw [aAdd_2, if_neg (by decide)]; omega)).1.b.2.1 6 (A.2 0)
      have h5 : ¬ fcI (some n) = -5 := nI_ne5 (by have := (u2 n hF).2.1; omega)
      rw [if_neg h5, if_pos rfl, oA_at (show A.2 0 < 201 by omega) (by decide), (u2 n hF).2.2.2.2]
      exact ⟨_, rfl, T⟩
  · unfold f_X5_would
    rw [w_isZone hz, oR_some, if_neg (show ¬ (1 : Int32) = 0 by decide), if_neg (show ¬ (1 : Int32) < 0 by decide), if_pos (show (1 : Int32) ≤ 1 by decide), f1, oV_some, hkc, cS_eq, a1, oW_some, if_neg hne, cS_eq, u1, oW_some, cS_eq]
    cases hF : fcA (A.2 0) 999 0 (aAdd A 0 z 0) with
    | none =>
      rw [if_pos (show fcI none = -5 from rfl)]
      exact ⟨_, rfl, T⟩
    | some n =>
      have h5 : ¬ fcI (some n) = -5 := nI_ne5 (by have := (u2 n hF).2.1; omega)
      rw [if_neg h5, if_neg (show ¬ (1 : Int32) = 0 by decide)]
      exact ⟨_, rfl, T⟩
theorem q_append {c : CS} {A : NS} {o k : Nat} {H : Nat → NS} (h : Tq c A o k H) {w z v : Nat} (hw : w < 4) (hz : z < 8) (hv : v ≤ 99) :
    (∃ c', f_X5_append c (nI w) (nI z) (nI v) = some (-3, c') ∧ Tq c' A o k H) ∨ (∃ c' o', f_X5_append c (nI w) (nI z) (nI v) = some (nI (A.2 0), c') ∧ Tq c' (aAdd A w z v) o' (pushK k) (pushH k H A)) := by
  have hA := h.2.1
  have hn := hA.2.1
  by_cases hf : Full A w
  · exact Or.inl (Tq_no h (act := fun s => f_X3_send s (nI w) (nI z) (nI v)) (w_sendC_full h.1.1 hA.1.b hw hz hv hf) (by decide) h.1)
  · obtain ⟨τ, f1, f2⟩ := cr_send h.1 hA hw hz hv hf
    exact Or.inr (Tq_yes h (act := fun s => f_X3_send s (nI w) (nI z) (nI v)) f1 (by omega) f2 (Rest_add hA hw hz hv hf) (Ex_add h.2.2.1).1)
theorem Tq_undoP {c : CS} {A B : NS} {o k : Nat} {H : Nat → NS} (h : Tq c B o (pushK k) (pushH k H A)) (hk : k ≤ 4) : ∃ r c', f_X5_undo c = some (r, c') ∧ Tq c' A o (pushK k - 1) (pushH k H A) := by
  obtain ⟨p1, p2⟩ := push_last (H := H) (A := A) hk
  obtain ⟨r, c', g1, g2⟩ := Tq_undo h p1
  rw [p2] at g2
  exact ⟨r, c', g1, g2⟩
theorem Tq_k {c : CS} {A : NS} {o k : Nat} {H : Nat → NS} (h : Tq c A o k H) : k ≤ 4 := h.2.2.2.1.2.2.2.1
theorem oB1s {s : CS} : ((oB 1).map (fun x => (x, s)) : Option (Int32 × CS)) = some (1, s) := rfl
/-- an append is told in as many ticks as are told, and not before -/
theorem w_toldSo {c : CS} {A : NS} {o k : Nat} {H : Nat → NS} (h : Tq c A o k H) {a : Nat} (ha : a < A.2 0) (hp : A.1 5 a ≤ 1) (ht : A.2 10 ≤ 9000) : ∃ c' o' k' H', f_L_isToldSo c (nI a) (fcI (fcA a 999 0 A)) = some (1, c') ∧ Tq c' A o' k' H' := by
  have I := h.2.1.1
  have hk := Tq_k h
  unfold f_L_isToldSo
  simp only [oJ_to]
  cases hF : fcA a 999 0 A with
  | none =>
    rw [if_pos (show fcI none < 1 by decide), if_neg (show ¬ (99 : Int32) < fcI none by decide), if_pos (show fcI none = -5 from rfl), oB1s]
    exact ⟨c, o, k, H, rfl, h⟩
  | some n =>
    obtain ⟨v1, v2, v3, v4⟩ := fc_facts h.1 I ha hp (by omega) hF
    rw [show fcI (some n) = nI n from rfl, if_neg (show ¬ nI n < 1 from nI_nlt (a := n) (b := 1) v1 (by omega))]
    by_cases c99 : n ≤ 99
    · obtain ⟨r1, x1, o1, _, g1, g2⟩ := Tq_pass h v1 c99 (by omega)
      obtain ⟨J, L, tT⟩ := Iv_ticks I n (by omega)
      have ha1 : a < (aTicks A n).2 0 := by rw [L.n0]; exact ha
      have q3 := q_app3 g2 ha1
      rw [v3] at q3
      have q5 := q_app5 g2 ha1 v3
      have q0 := q_count0 g2
      have t7 : (aTicks A n).1 7 a = A.2 10 + (n - 1) := by
        obtain ⟨E1, E2⟩ := ticks_ex h.2.2.1 I (n - 1) (by omega)
        obtain ⟨J1, L1, tT1⟩ := Iv_ticks I (n - 1) (by omega)
        have e : aTicks A n = aTick (aTicks A (n - 1)) := by
          have : n = (n - 1) + 1 := by omega
          rw [this, aTicks_s, Nat.add_sub_cancel]
        have q := (tick_ex E1 J1 (by omega)).2.2 a (by have := v4 (n - 1) (by omega); omega) (by rw [← e]; exact v3)
        rw [← e] at q
        omega
      rw [t7] at q5
      rw [tT, show A.2 10 + n = A.2 10 + (n - 1) + 1 by omega] at q0
      obtain ⟨r2, x2, g3, g4⟩ := Tq_undoP g2 hk
      rw [if_pos (show nI n ≤ 99 from nI_le (b := 99) c99 (by decide)), g1, oW_some, q3, oR_some, if_pos (show nI 2 = 2 from rfl), q5, oR_some, q0, oR_some, nI_pred, if_pos rfl, g3, oW_some]
      by_cases c1 : n = 1
      · rw [if_pos (show nI n ≤ 1 from nI_le (b := 1) (by omega) (by decide)), oB1s]
        exact ⟨x2, _, _, _, rfl, g4⟩
      · obtain ⟨r3, x3, o3, _, g5, g6⟩ := Tq_pass g4 (n := n - 1) (by omega) (by omega) (by omega)
        obtain ⟨J1, L1, tT1⟩ := Iv_ticks I (n - 1) (by omega)
        have ha3 : a < (aTicks A (n - 1)).2 0 := by rw [L1.n0]; exact ha
        have q3 := q_app3 g6 ha3
        have l1 := v4 (n - 1) (by omega)
        have hk2 := Tq_k g4
        obtain ⟨r4, x4, g7, g8⟩ := Tq_undoP g6 hk2
        have en : nI n - 1 = nI (n - 1) := by
          have : n = (n - 1) + 1 := by omega
          rw [this, nI_pred, Nat.add_sub_cancel]
        rw [if_neg (show ¬ nI n ≤ 1 from nI_ge (a := 1) (by omega) (by omega)), en, g5, oW_some, if_neg (show ¬ (1 : Int32) = 0 by decide), q3, oR_some, if_neg (show ¬ (2 : Int32) ≤ nI ((aTicks A (n - 1)).1 5 a) from nI_ge (b := 2) (by omega) (by decide)), g7, oW_some, oB1s]
        exact ⟨x4, _, _, _, rfl, g8⟩
    · rw [if_neg (show ¬ nI n ≤ 99 from nI_ge (a := 99) (by omega) (by omega)), if_pos (show (99 : Int32) < nI n from nI_lt (a := 99) (by omega) (by omega)), oB1s]
      exact ⟨c, o, k, H, rfl, h⟩
/-- what would be told of an append comes true -/
theorem w_wouldSo {c : CS} {A : NS} {o k : Nat} {H : Nat → NS} (h : Tq c A o k H) {w z : Nat} (hw : w < 4) (hz : z < 8) (ht : A.2 10 ≤ 9000) : ∃ c' o' k' H', f_L_isWouldSo c (nI w) (nI z) = some (1, c') ∧ Tq c' A o' k' H' := by
  have I := h.2.1.1
  have hn := h.2.1.2.1
  have hk := Tq_k h
  obtain ⟨⟨c1, e1, h1⟩, _, _⟩ := q_would h hz
  obtain ⟨_, ⟨c2, e2, h2⟩, fF⟩ := q_would h1 hz
  unfold f_L_isWouldSo
  rw [e1, oW_some, e2, oW_some]
  rcases q_append h2 hw hz (v := 7) (by decide) with ⟨c3, e3, h3⟩ | ⟨c3, o3, e3, h3⟩
  · have e3 : f_X5_append c2 (nI w) (nI z) 7 = some (-3, c3) := e3
    rw [e3, oW_some, if_neg (show ¬ (0 : Int32) ≤ -3 by decide), if_pos rfl, oB1s]
    exact ⟨c3, _, _, _, rfl, h3⟩
  · have e3 : f_X5_append c2 (nI w) (nI z) 7 = some (nI (A.2 0), c3) := e3
    obtain ⟨_, _, _, a5⟩ := aAdd_new (A := A) (w := w) (z := z) (v := 7)
    have n2 : (aAdd A w z 7).2 0 = A.2 0 + 1 := by rw [aAdd_2, if_pos rfl]
    have t10 : (aAdd A w z 7).2 10 = A.2 10 := by rw [aAdd_2, if_neg (by decide)]
    have P : prN (aAdd A 0 z 0) = prN (aAdd A w z 7) := pr_add
    obtain ⟨c4, e4, h4⟩ := q_toldIn h3 (a := A.2 0) (by omega) (by rw [a5]; decide)
    have eF : fcA (A.2 0) 999 0 (aAdd A w z 7) = fcA (A.2 0) 999 0 (aAdd A 0 z 0) := (pr_fc 999 0 _ _ P).symm
    rw [eF] at e4
    rw [e3, oW_some, if_pos (show (0 : Int32) ≤ nI (A.2 0) from nI_pos' (by omega))]
    simp only [oJ_to]
    obtain ⟨ru, cu, eu, hu⟩ := Tq_undoP h4 hk
    cases hF : fcA (A.2 0) 999 0 (aAdd A 0 z 0) with
    | none =>
      rw [hF] at e4
      rw [if_pos (show fcP (aAdd A 0 z 0) (A.2 0) none = -5 from rfl), if_pos (show fcI none = -5 from rfl), if_pos trivial, e4, oW_some, if_pos rfl, if_pos (show fcI none ≤ 0 by decide), eu, oW_some, oB1s]
      exact ⟨cu, _, _, _, rfl, hu⟩
    | some n =>
      obtain ⟨v1, v2, v3⟩ := fF n hF
      rw [hF] at e4
      have n6 : ¬ fcP (aAdd A 0 z 0) (A.2 0) (some n) = -5 := nI_ne5 ((Iv_ticks (Iv_add I (by omega) (w := 0) (z := z) (v := 0) (by decide) hz (by decide)) n (by rw [aAdd_2, if_neg (by decide)]; omega)).1.b.2.1 6 (A.2 0))
      have n5 : ¬ fcI (some n) = -5 := nI_ne5 (by omega)
      rw [if_neg n6, if_neg n5, if_pos trivial, e4, oW_some, if_pos rfl, if_neg (show ¬ fcI (some n) ≤ 0 from nI_ge (a := 0) (by omega) (by omega))]
      by_cases c99 : n ≤ 99
      · obtain ⟨r5, c5, o5, _, g1, g2⟩ := Tq_pass h4 v1 c99 (by rw [t10]; omega)
        have hk1 : pushK k ≤ 4 := by unfold pushK; split <;> omega
        obtain ⟨J, L, _⟩ := Iv_ticks h4.2.1.1 n (by rw [t10]; omega)
        have PT := pr_ticks P n
        have b5 : (aTicks (aAdd A w z 7) n).1 5 (A.2 0) = 2 := by rw [← pr_eq PT (m := 5) (by decide)]; exact v3
        have b6 : (aTicks (aAdd A w z 7) n).1 6 (A.2 0) = (aTicks (aAdd A 0 z 0) n).1 6 (A.2 0) := by rw [pr_eq PT (m := 6) (by decide)]
        have q4 := q_app4 g2 (a := A.2 0) (by rw [L.n0]; omega) b5
        rw [b6] at q4
        obtain ⟨r6, c6, g3, g4⟩ := Tq_undoP g2 hk1
        obtain ⟨p1, p2⟩ := push_two (H := H) (A := A) (B := aAdd A w z 7) hk
        obtain ⟨r7, c7, g5, g6⟩ := Tq_undo g4 p1
        rw [p2] at g6
        have g1 : f_X5_pass c4 (fcI (some n)) = some (nI r5, c5) := g1
        rw [if_neg (show ¬ (99 : Int32) < fcI (some n) from nI_nlt (b := n) (a := 99) c99 (by decide)), g1, oW_some, if_neg (show ¬ (1 : Int32) = 0 by decide), q4, oR_some, if_pos (show nI ((aTicks (aAdd A 0 z 0) n).1 6 (A.2 0)) = fcP (aAdd A 0 z 0) (A.2 0) (some n) from rfl), g3, oW_some, g5, oW_some, oB1s]
        exact ⟨c7, _, _, _, rfl, g6⟩
      · rw [if_pos (show (99 : Int32) < fcI (some n) from nI_lt (a := 99) (by omega) (by omega)), eu, oW_some, oB1s]
        exact ⟨cu, _, _, _, rfl, hu⟩
