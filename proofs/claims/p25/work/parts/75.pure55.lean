/-! PURE: the faults of a text, on both sides -/
def prs (c : Nat → Nat) (L : Nat) : Nat → Nat → Bool × Nat
  | 0, p => (false, p)
  | n + 1, p => if (oOrd c p).1 = true then (if L ≤ (oOrd c p).2 then (true, L) else if c (oOrd c p).2 = 59 then prs c L n ((oOrd c p).2 + 1) else (false, (oOrd c p).2)) else (false, (oOrd c p).2)
theorem prs_s {c : Nat → Nat} {L n p : Nat} : prs c L (n + 1) p = if (oOrd c p).1 = true then (if L ≤ (oOrd c p).2 then (true, L) else if c (oOrd c p).2 = 59 then prs c L n ((oOrd c p).2 + 1) else (false, (oOrd c p).2)) else (false, (oOrd c p).2) := rfl
theorem fa_prs {c : CS} {L : Nat} {t : Nat → Nat} (h : TC c L t) : ∀ n p m, p ≤ L → L - p < n → L - p < m → f_X2_fault_L4 c (kFa c) m (nI 0) (nI p) = (if (prs (cr t L) L n p).1 = true then some (-1) else some (nI (prs (cr t L) L n p).2)) ∧ ((prs (cr t L) L n p).1 = false → (prs (cr t L) L n p).2 ≤ L) := by
  intro n
  induction n with
  | zero =>
    intro p m _ h1 _
    exact absurd h1 (Nat.not_lt_zero _)
  | succ n ih =>
    intro p m hp hn hm
    obtain ⟨F1, F2⟩ := fa_ord h hp
    rw [prs_s]
    generalize hq : (oOrd (cr t L) p).2 = q at F1 F2 ⊢
    by_cases e : (oOrd (cr t L) p).1 = true
    · rw [if_pos e]
      obtain ⟨s, hs, h2, hL, hne, hf⟩ := F1 e
      obtain ⟨m', rfl⟩ : ∃ x, m = x + 1 + (q - p) := ⟨m - 1 - (q - p), by omega⟩
      obtain ⟨E1, E2, E3⟩ := fa_end h hs hL (m := m')
      rw [hf]
      by_cases eL : L ≤ q
      · rw [if_pos eL, E1 (by omega)]
        exact ⟨(if_pos rfl).symm, fun x => Bool.noConfusion x⟩
      · rw [if_neg eL]
        by_cases e59 : cr t L q = 59
        · rw [if_pos e59, E2 (by omega) e59]
          exact ih (q + 1) m' (by omega) (by omega) (by omega)
        · rw [if_neg e59, E3 (by omega) e59]
          exact ⟨(if_neg Bool.false_ne_true).symm, fun _ => hL⟩
    · rw [if_neg e]
      obtain ⟨h2, hL, hf⟩ := F2 (by simpa using e)
      obtain ⟨m', rfl⟩ : ∃ x, m = x + 1 + (q - p) := ⟨m - 1 - (q - p), by omega⟩
      rw [hf]
      exact ⟨(if_neg Bool.false_ne_true).symm, fun _ => hL⟩
/-- what going through the text may change -/
def FG (σ τ : MS) : Prop := (∀ j, j ≠ 1 → j ≠ 6 → j ≠ 7 → τ.1 j = σ.1 j) ∧ ∀ k, k ≠ 3 → k ≠ 4 → k ≠ 5 → k ≠ 6 → k ≠ 7 → τ.2 k = σ.2 k
def FQ (σ τ : MS) : Prop := (∀ j, j ≠ 7 → τ.1 j = σ.1 j) ∧ ∀ k, k ≠ 5 → k ≠ 6 → k ≠ 7 → τ.2 k = σ.2 k
theorem FG.refl {σ : MS} : FG σ σ := ⟨fun _ _ _ _ => rfl, fun _ _ _ _ _ _ => rfl⟩
theorem FG.trans {σ τ ρ : MS} (h : FG σ τ) (g : FG τ ρ) : FG σ ρ := ⟨fun j a b c => (g.1 j a b c).trans (h.1 j a b c), fun k a b c d e => (g.2 k a b c d e).trans (h.2 k a b c d e)⟩
theorem FQ.refl {σ : MS} : FQ σ σ := ⟨fun _ _ => rfl, fun _ _ _ _ => rfl⟩
theorem FQ.trans {σ τ ρ : MS} (h : FQ σ τ) (g : FQ τ ρ) : FQ σ ρ := ⟨fun j a => (g.1 j a).trans (h.1 j a), fun k a b c => (g.2 k a b c).trans (h.2 k a b c)⟩
theorem FQ.g {σ τ : MS} (h : FQ σ τ) : FG σ τ := ⟨fun j _ _ c => h.1 j c, fun k _ _ c d e => h.2 k c d e⟩
theorem FO.f0 {σ τ : MS} (h : FO σ τ) : FQ σ τ := ⟨h.1, fun k a b _ => h.2 k a b⟩
theorem InT.g {σ τ : MS} (h : InT σ τ) : FG σ τ := ⟨fun j a b _ => h.1 j a b, fun k a b _ _ _ => h.2 k a b⟩
theorem FQ.n7 {σ : MS} {v : Int32} : FQ σ (sN σ 7 v) := ⟨fun _ _ => rfl, fun _ _ _ c => sN_ne c⟩
theorem FG.tm {σ τ : MS} {L : Nat} {t : Nat → Nat} (f : FG σ τ) (h : TM σ L t) : TM τ L t := ⟨by rw [f.2 2 (by decide) (by decide) (by decide) (by decide) (by decide)]; exact h.1, h.2.1, fun i hi => by rw [f.1 5 (by decide) (by decide) (by decide)]; exact h.2.2 i hi⟩
theorem e59 {c : Nat → Nat} {i : Nat} : (dg (c i) 59 59 = true) ↔ c i = 59 := by rw [dg_t]; omega
theorem F1x {σ : MS} {L : Nat} {t : Nat → Nat} {p : Nat} (h : TM σ L t) (e : (oOrd (cr t L) p).1 = true) (hp : p ≤ L) : True ∧ p + 2 ≤ (oOrd (cr t L) p).2 ∧ (oOrd (cr t L) p).2 ≤ L ∧ ∀ i, p ≤ i → i < (oOrd (cr t L) p).2 → cr t L i ≠ 59 := by
  have hc : TC ((fun _ => (fun _ _ => 0, fun _ => 0), fun i => nI (t i), fun k => if k = 3 then nI L else 0) : CS) L t := ⟨rfl, h.2.1, fun i hi => ⟨rfl, (h.2.2 i hi).2⟩⟩
  obtain ⟨s, _, h2, hL, hne, _⟩ := (fa_ord hc hp).1 e
  exact ⟨trivial, h2, hL, hne⟩
theorem go_prs {L : Nat} {t : Nat → Nat} : ∀ n p m (v : Nat) (σ : MS), TM σ L t → St σ (p, false) → p ≤ L → L - p < n → L - p + 1 < m →
    ∃ N τ, f_X6_go_L19 0 (fun w2_120 sx120 => some (w2_120, sx120)) m (nI v) 1 σ = some (N, τ) ∧ FQ σ τ ∧ ((prs (cr t L) L n p).1 = true → τ.2 6 = 0) ∧ ((prs (cr t L) L n p).1 = false → τ.2 6 = 1 ∧ τ.2 5 = nI (prs (cr t L) L n p).2) := by
  intro n
  induction n with
  | zero =>
    intro p m v σ _ _ _ h1 _
    exact absurd h1 (Nat.not_lt_zero _)
  | succ n ih =>
    intro p m v σ hT hs hp hn hm
    obtain ⟨m, rfl⟩ : ∃ q, m = q + 2 := ⟨m - 2, by omega⟩
    have hL60 := hT.2.1
    obtain ⟨τ, f1, f2, f3, f4⟩ := w_order hT hs (by omega)
    have n1 : ¬ (1 : Int32) = 0 := by decide
    have stop : ∀ (x : Int32) (ρ : MS), f_X6_go_L19 0 (fun w2_120 sx120 => some (w2_120, sx120)) (m + 1) x 0 ρ = some (x, ρ) := fun x ρ => by
      rw [f_X6_go_L19, if_pos rfl]
    have F := FQ.trans f2.f0 (FQ.n7 (v := 0))
    have g5 : (sN τ 7 0).2 5 = nI (oOrd (cr t L) p).2 := (sN_ne (by decide)).trans f3.1
    have g2 : (sN τ 7 0).2 2 = nI L := by rw [sN_ne (by decide), f2.2 2 (by decide) (by decide)]; exact hT.1
    rw [f_X6_go_L19, if_neg n1, f1, oV_some, prs_s]
    simp only [oJ_to]
    rw [if_pos trivial, if_pos (show (0 : Int32) ≤ 0 by decide), oN_to]
    by_cases e : (oOrd (cr t L) p).1 = true
    · have g6 : (sN τ 7 0).2 6 = 0 := by
        rw [sN_ne (by decide), f3.2, e]; rfl
      have g7 : (sN τ 7 0).2 7 = 0 := sN_eq
      obtain ⟨_, h2, hLe, _⟩ := F1x hT e hp
      rw [if_pos g6, if_pos g7, g2, g5, if_pos e]
      by_cases eL : L ≤ (oOrd (cr t L) p).2
      · rw [if_pos (nI_le eL (by omega)), if_pos trivial, stop, if_pos eL]
        exact ⟨_, _, rfl, F, fun _ => g6, fun x => absurd x (by simp)⟩
      · rw [if_neg (nI_ge (by omega) (by omega)), if_neg eL, if_neg n1]
        have S1 : St (sN τ 7 0) ((oOrd (cr t L) p).2, false) := ⟨g5, g6⟩
        have T1 : TM (sN τ 7 0) L t := F.g.tm hT
        obtain ⟨ρ, u1, u2, u3, u4, u5⟩ := w_sgn 59 59 T1 S1 (show (oOrd (cr t L) p).2 ≤ 100 by omega) (by decide) (by decide)
        have u1 : f_X6_sign (sN τ 7 0) 59 59 = some (_, ρ) := u1
        rw [u1, oW_some]
        by_cases e9 : cr t L (oOrd (cr t L) p).2 = 59
        · rw [sgS_y (e59.2 e9)] at u2
          have r6 : ρ.2 6 = 0 := u2.2
          rw [if_pos r6, if_pos e9, nI_1]
          obtain ⟨N, ω, w1, w2, w3, w4⟩ := ih ((oOrd (cr t L) p).2 + 1) (m + 1) (v + 1) ρ u5 u2 (by omega) (by omega) (by omega)
          exact ⟨N, ω, w1, (F.trans u3.f0).trans w2, w3, w4⟩
        · rw [sgS_n (fun x => e9 (e59.1 x))] at u2
          have r6 : ρ.2 6 = 1 := u2.2
          rw [if_neg (by rw [r6]; decide), if_neg e9, stop]
          exact ⟨_, _, rfl, F.trans u3.f0, fun x => absurd x (by simp), fun _ => ⟨r6, u2.1⟩⟩
    · have ef : (oOrd (cr t L) p).1 = false := by simpa using e
      have g6 : (sN τ 7 0).2 6 = 1 := by
        rw [sN_ne (by decide), f3.2, ef]; rfl
      rw [if_neg (by rw [g6]; decide), if_pos trivial, stop, if_neg e]
      exact ⟨_, _, rfl, F, fun x => absurd x (by simp), fun _ => ⟨g6, g5⟩⟩
