/-! PURE: the beginning -/
def nsI : NS := (fun m a => if m = 14 then 8 else if m = 15 then 2 + a % 3 else if m = 19 then 3 else 0, fun k => if k = 4 then 2 else if k = 5 then 4 else if k = 8 then 2 else 0)
theorem nsI_rest : Rest nsI := by
  have n0 : nsI.2 0 = 0 := rfl
  refine ⟨⟨⟨by decide, fun a ha => absurd ha (Nat.not_lt_zero a)⟩, ⟨fun a ha => absurd ha (Nat.not_lt_zero a), fun a ha => absurd ha (Nat.not_lt_zero a), fun a b ha => absurd ha (Nat.not_lt_zero a), fun z _ q hq => absurd hq (Nat.not_lt_zero q)⟩, fun z hz => ?_, ⟨by decide, by decide⟩, ⟨by decide, by decide, by decide, by decide, by decide, fun w _ => ?_⟩, ⟨rfl, fun w => Nat.le_refl 0, fun a ha => absurd ha (Nat.not_lt_zero a)⟩, ?_⟩, by decide, fun w _ => Nat.zero_le _, by decide⟩
  · have h15 : nsI.1 15 z = 2 + z % 3 := rfl
    unfold ivZ1
    rw [h15]
    refine ⟨Nat.zero_le 3, ⟨show 1 ≤ 8 by decide, show 8 ≤ 16 by decide⟩, ⟨by omega, by omega⟩, ?_, fun _ => ?_, fun _ => rfl, Nat.le_refl 0, fun h => ?_, fun h => absurd rfl h, Nat.le_refl 0⟩
    · show 0 ≤ 8; decide
    · show 0 < 8; decide
    · exact absurd (show (0 : Nat) = 1 from h) (by decide)
  · show 3 ≤ 8; decide
  · refine ⟨by decide, fun m a => ?_, fun k => ?_⟩
    · show (if m = 14 then 8 else if m = 15 then 2 + a % 3 else if m = 19 then 3 else 0) < 2 ^ 31
      split
      · decide
      · split
        · omega
        · split <;> decide
    · show (if k = 4 then 2 else if k = 5 then 4 else if k = 8 then 2 else 0) < 2 ^ 31
      split
      · decide
      · split
        · decide
        · split <;> decide
theorem nsI_CR : CR ss0 nsI := by
  refine ⟨⟨fun k hk h2 => ?_, fun m _ _ a ha => absurd ha (Nat.not_lt_zero a), fun a ha => absurd ha (Nat.not_lt_zero a), fun a ha => absurd ha (Nat.not_lt_zero a), fun k hk => absurd hk (Nat.not_lt_zero k), fun m h1 h2 z hz => ?_, fun m h1 h2 w hw => ?_⟩, rfl, Nat.zero_le _, fun i hi => absurd hi (Nat.not_lt_zero i)⟩
  · rcases (by omega : k = 0 ∨ k = 1 ∨ k = 3 ∨ k = 4 ∨ k = 5 ∨ k = 6 ∨ k = 7 ∨ k = 8 ∨ k = 9 ∨ k = 10) with e | e | e | e | e | e | e | e | e | e <;> subst e <;> rfl
  · rcases (by omega : m = 13 ∨ m = 14 ∨ m = 15 ∨ m = 16 ∨ m = 17 ∨ m = 18) with e | e | e | e | e | e <;> subst e
    · rcases (by omega : z = 0 ∨ z = 1 ∨ z = 2 ∨ z = 3 ∨ z = 4 ∨ z = 5 ∨ z = 6 ∨ z = 7) with e | e | e | e | e | e | e | e <;> subst e <;> rfl
    · rcases (by omega : z = 0 ∨ z = 1 ∨ z = 2 ∨ z = 3 ∨ z = 4 ∨ z = 5 ∨ z = 6 ∨ z = 7) with e | e | e | e | e | e | e | e <;> subst e <;> rfl
    · rcases (by omega : z = 0 ∨ z = 1 ∨ z = 2 ∨ z = 3 ∨ z = 4 ∨ z = 5 ∨ z = 6 ∨ z = 7) with e | e | e | e | e | e | e | e <;> subst e <;> rfl
    · rfl
    · rfl
    · rfl
  · rcases (by omega : m = 19 ∨ m = 20) with e | e <;> subst e
    · rcases (by omega : w = 0 ∨ w = 1 ∨ w = 2 ∨ w = 3) with e | e | e | e <;> subst e <;> rfl
    · rfl
theorem nsI_ex : Ex nsI := by
  refine ⟨⟨by decide, by decide, fun z _ => ⟨fun x => absurd (show (0 : Nat) = 2 from x) (by decide), fun x => absurd rfl x⟩⟩, fun k hk => absurd hk (Nat.not_lt_zero k), fun i j _ hj => absurd hj (Nat.not_lt_zero j)⟩
/-- the word of the law is true on every script -/
theorem law_word {L : Nat} {xs : Nat → Int32} (hL : L ≤ 260) : f_L_law L xs cs0 = some 1 := by
  have T : Tq cs0 nsI 0 0 (fun _ => nsI) := ⟨nsI_CR, nsI_rest, nsI_ex, ⟨rfl, rfl, by decide, by decide, fun i hi => absurd hi (Nat.not_lt_zero i)⟩, fun i hi => absurd hi (Nat.not_lt_zero i)⟩
  exact w_law10 hL 56 0 FU cs0 nsI 0 0 _ (by decide) (by decide) T (Nat.zero_le _)
