/-! PURE: all orders are done -/
theorem w_behind {c : CS} {L : Nat} {t : Nat → Nat} (h : TC c L t) {q : Nat} (hq : q ≤ L) (hend : q = L ∨ cr t L q = 59) : ∀ d i m, i + d = q → d < m → (∀ j, i ≤ j → j < q → cr t L j ≠ 59) → f_X2_behindOrder_L2 c (fun w2_27 => some w2_27) m (nI i) = some (nI q) := by
  obtain ⟨h1, h2, h3⟩ := h
  intro d
  induction d with
  | zero =>
    intro i m hi hm _
    obtain ⟨m, rfl⟩ : ∃ x, m = x + 1 := ⟨m - 1, by omega⟩
    have e : i = q := by omega
    subst e
    rw [f_X2_behindOrder_L2, h1]
    by_cases eL : L ≤ i
    · rw [if_pos (nI_le eL (by omega))]
    · have hi2 : i < L := by omega
      have ht : t i = 59 := by
        rcases hend with x | x
        · omega
        · unfold cr at x; rw [if_pos hi2] at x; exact x
      rw [if_neg (nI_ge hi2 (by omega)), oA_at (show i < 60 by omega) (by decide), (h3 i hi2).1, ht, if_pos (show nI 59 = 59 from rfl)]
  | succ d ih =>
    intro i m hi hm hne
    obtain ⟨m, rfl⟩ : ∃ x, m = x + 1 := ⟨m - 1, by omega⟩
    have hi2 : i < L := by omega
    have ht : t i ≠ 59 := by
      have := hne i (Nat.le_refl _) (by omega)
      unfold cr at this
      rw [if_pos hi2] at this
      exact this
    rw [f_X2_behindOrder_L2, h1, if_neg (nI_ge hi2 (by omega)), oA_at (show i < 60 by omega) (by decide), (h3 i hi2).1, if_neg (show ¬ nI (t i) = 59 from fun x => ht ((nl 59 (h3 i hi2).2 (by decide)).1 x)), nI_1]
    exact ih (i + 1) m (by omega) (by omega) (fun j h1 h2 => hne j (by omega) h2)
theorem St.fr {σ τ : MS} {x : Nat × Bool} (h : St σ x) (g : InT σ τ) : St τ x := ⟨(g.2 5 (by decide) (by decide)).trans h.1, (g.2 6 (by decide) (by decide)).trans h.2⟩
theorem w_exec {o k : Nat} {H : Nat → NS} {A0 : NS} {L : Nat} {t : Nat → Nat} (I0 : Iv A0) : ∀ n p v m1 m2 (c : CS) (σ : MS) (A : NS), (prs (cr t L) L n p).1 = true → p ≤ L → v ≤ p → L + 2 - p < m1 → L + 1 - p < m2 → TC c L t → HC c o k H → CR (c.1 0) A → CR (c.1 (3 + (o + k) % 5)) A0 → RM (σ.1 1) A → Rest A → TM σ L t → St σ (p, false) →
    (∃ N c' σ' B, N ≤ 100 ∧ f_X5_follow_L34 (fun w3_100 sx100 => oW (f_X1_settle sx100 w3_100) (fun t => t) (fun r105 s105 => some (r105, s105))) m1 (nI p) (nI v) c = oW (f_X1_settle c' (nI N)) (fun t => t) (fun r105 s105 => some (r105, s105)) ∧ f_X6_go_L19 1 (fun w2_120 sx120 => some (w2_120, sx120)) m2 (nI v) 1 σ = some (nI N, σ') ∧ HC c' o k H ∧ CR (c'.1 0) B ∧ CR (c'.1 (3 + (o + k) % 5)) A0 ∧ RM (σ'.1 1) B ∧ Rest B ∧ FG σ σ' ∧ σ'.2 7 = 0 ∧ FrC c c') ∨
    (∃ r c' σ' N, r < 0 ∧ f_X5_follow_L34 (fun w3_100 sx100 => oW (f_X1_settle sx100 w3_100) (fun t => t) (fun r105 s105 => some (r105, s105))) m1 (nI p) (nI v) c = some (r, c') ∧ f_X6_go_L19 1 (fun w2_120 sx120 => some (w2_120, sx120)) m2 (nI v) 1 σ = some (N, σ') ∧ σ'.2 7 = r ∧ HC c' o k H ∧ CR (c'.1 0) A0 ∧ FG σ σ' ∧ FrC c c') := by
  intro n
  induction n with
  | zero =>
    intro p v m1 m2 c σ A hg
    exact Bool.noConfusion hg
  | succ n ih =>
    intro p v m1 m2 c σ A hg hp hv hm1 hm2 hT hH hC hD hR hA hM hS
    obtain ⟨m1, rfl⟩ : ∃ x, m1 = x + 2 := ⟨m1 - 2, by omega⟩
    obtain ⟨m2, rfl⟩ : ∃ x, m2 = x + 2 := ⟨m2 - 2, by omega⟩
    have hL60 := hT.2.1
    rw [prs_s] at hg
    have hok : (oOrd (cr t L) p).1 = true := by
      by_cases x : (oOrd (cr t L) p).1 = true
      · exact x
      · rw [if_neg x] at hg; exact Bool.noConfusion hg
    rw [if_pos hok] at hg
    have hend : (oOrd (cr t L) p).2 = L ∨ cr t L (oOrd (cr t L) p).2 = 59 := by
      have := (F1x hM hok hp).2.2.1
      by_cases x : L ≤ (oOrd (cr t L) p).2
      · exact Or.inl (by omega)
      · rw [if_neg x] at hg
        by_cases y : cr t L (oOrd (cr t L) p).2 = 59
        · exact Or.inr y
        · rw [if_neg y] at hg; exact Bool.noConfusion hg
    obtain ⟨_, hq2, hqL, hne⟩ := F1x hM hok hp
    obtain ⟨τ, f1, f2, f3, f4⟩ := w_order hM hS (by omega)
    have hRτ : RM (τ.1 1) A := by rw [f2.1 1 (by decide)]; exact hR
    obtain ⟨r, c1, r', σ1, d1, d2, d3, d4, d5, d6⟩ := w_do hC hRτ hA hT (f2.tm hM) (by omega) hok hend (f4 hok)
    have hB := w_behind (c := c1) (by unfold TC; rw [d5]; exact hT) hqL hend ((oOrd (cr t L) p).2 - p) p FU (by omega) (by show _ < 20000; omega) hne
    have hB : f_X2_behindOrder c1 (nI p) = some (nI (oOrd (cr t L) p).2) := hB
    have T1 : TC c1 L t := by unfold TC; rw [d5]; exact hT
    have H1 : HC c1 o k H := ⟨by rw [d5]; exact hH.1, by rw [d5]; exact hH.2.1, hH.2.2.1, hH.2.2.2.1, fun i hi => by rw [d4 _ (by omega)]; exact hH.2.2.2.2 i hi⟩
    have D1 : CR (c1.1 (3 + (o + k) % 5)) A0 := by rw [d4 _ (by omega)]; exact hD
    have C1 : FrC c c1 := ⟨d4 2 (by decide), by rw [d5], by rw [d5], by rw [d5]⟩
    have G1 : FG σ σ1 := FG.trans f2.f0.g d3.g
    have n1 : ¬ (1 : Int32) = 0 := by decide
    have S1 : St σ1 ((oOrd (cr t L) p).2, false) := by
      rw [hok] at f3
      exact St.fr f3 d3
    rw [f_X5_follow_L34, if_neg (show ¬ (60 : Int32) ≤ nI v from nI_ge (b := 60) (by omega) (by decide)), hT.1, if_neg (nI_ge (show p < L by omega) (by omega)), d1, oW_some, hB, f_X6_go_L19, if_neg n1, f1, oV_some, d2]
    simp only [oJ_to, oR_some, oW_some, nI_1]
    rw [if_neg n1]
    have stop : ∀ (x : Int32) (ρ : MS), f_X6_go_L19 1 (fun w2_120 sx120 => some (w2_120, sx120)) (m2 + 1) x 0 ρ = some (x, ρ) := fun x ρ => by
      rw [f_X6_go_L19, if_pos rfl]
    rcases d6 with ⟨e1, e2, e3⟩ | ⟨e1, e2, B, e3, e4, e5⟩
    · -- an error
      have e0 : ¬ (0 : Int32) ≤ r := Int32.not_le.2 e1
      obtain ⟨c2, b1, b2, b3, b4⟩ := w_takeBack H1 D1 I0
      refine Or.inr ⟨r, c2, sN σ1 7 r, nI (v + 1), e1, ?_, ?_, sN_eq, b2, b3, FG.trans G1 FQ.n7.g, FrC.trans C1 b4⟩
      · rw [if_neg e0, if_neg e2, b1, oV_some]
      · have r0 : ¬ r = 0 := fun x => by rw [x] at e1; exact absurd e1 (by decide)
        rw [e3, if_neg e0, oN_to, sN_eq, if_neg r0, stop]
        simp
    · -- it was done
      have done : (if 0 ≤ r then f_X5_follow_L34 (fun w3_100 sx100 => oW (f_X1_settle sx100 w3_100) (fun t => t) (fun r105 s105 => some (r105, s105))) (m1 + 1) (nI ((oOrd (cr t L) p).2 + 1)) (nI (v + 1)) c1 else if r = -5 then f_X5_follow_L34 (fun w3_100 sx100 => oW (f_X1_settle sx100 w3_100) (fun t => t) (fun r105 s105 => some (r105, s105))) (m1 + 1) (nI ((oOrd (cr t L) p).2 + 1)) (nI (v + 1)) c1 else oV (f_X1_takeDraftBack c1) (fun t => t) (fun s77 => some (r, s77))) = f_X5_follow_L34 (fun w3_100 sx100 => oW (f_X1_settle sx100 w3_100) (fun t => t) (fun r105 s105 => some (r105, s105))) (m1 + 1) (nI ((oOrd (cr t L) p).2 + 1)) (nI (v + 1)) c1 := by
        by_cases x : 0 ≤ r
        · rw [if_pos x]
        · rw [if_neg x, if_pos (e1.resolve_left x)]
      have g2 : (sN σ1 7 0).2 2 = nI L := (FG.trans G1 FQ.n7.g).2 2 (by decide) (by decide) (by decide) (by decide) (by decide) |>.trans hM.1
      have g5 : (sN σ1 7 0).2 5 = nI (oOrd (cr t L) p).2 := (sN_ne (by decide)).trans S1.1
      have g6 : (sN σ1 7 0).2 6 = 0 := (sN_ne (by decide)).trans S1.2
      have g7 : (sN σ1 7 0).2 7 = 0 := sN_eq
      rw [done, if_pos e2, oN_to, if_pos g6, if_pos g7, g2, g5]
      by_cases eL : L ≤ (oOrd (cr t L) p).2
      · rw [if_pos (nI_le eL (by omega)), if_pos trivial, stop]
        refine Or.inl ⟨v + 1, c1, sN σ1 7 0, B, by omega, ?_, rfl, H1, e3, D1, e4, e5, FG.trans G1 FQ.n7.g, g7, C1⟩
        rw [f_X5_follow_L34, T1.1]
        by_cases x : (60 : Int32) ≤ nI (v + 1)
        · rw [if_pos x]
        · rw [if_neg x, if_pos (nI_le (by omega) (by omega))]
      · rw [if_neg (nI_ge (by omega) (by omega)), if_neg n1]
        have e9 := hend.resolve_left (by omega)
        have TM1 : TM (sN σ1 7 0) L t := (FG.trans G1 FQ.n7.g).tm hM
        obtain ⟨ρ, u1, u2, u3, u4, u5⟩ := w_sgn 59 59 TM1 (show St (sN σ1 7 0) ((oOrd (cr t L) p).2, false) from ⟨g5, g6⟩) (show (oOrd (cr t L) p).2 ≤ 100 by omega) (by decide) (by decide)
        have u1 : f_X6_sign (sN σ1 7 0) 59 59 = some (_, ρ) := u1
        rw [sgS_y (e59.2 e9)] at u2
        have r6 : ρ.2 6 = 0 := u2.2
        rw [u1, oW_some, if_pos r6]
        rw [if_neg eL, if_pos e9] at hg
        have GG : FG σ ρ := FG.trans (FG.trans G1 FQ.n7.g) u3.f0.g
        rcases ih ((oOrd (cr t L) p).2 + 1) (v + 1) (m1 + 1) (m2 + 1) c1 ρ B hg (by omega) (by omega) (by omega) (by omega) T1 H1 e3 D1 (by rw [u4]; exact e4) e5 u5 u2 with ⟨N, c', σ', B', w0, w1, w2, w3, w4, w5, w6, w7, w8, w9, w10⟩ | ⟨r2, c', σ', N, w0, w1, w2, w3, w4, w5, w6, w7⟩
        · exact Or.inl ⟨N, c', σ', B', w0, w1, w2, w3, w4, w5, w6, w7, FG.trans GG w8, w9, FrC.trans C1 w10⟩
        · exact Or.inr ⟨r2, c', σ', N, w0, w1, w2, w3, w4, w5, FG.trans GG w6, FrC.trans C1 w7⟩
