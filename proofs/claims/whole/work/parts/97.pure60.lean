/-! PURE: the beginning -/
def nsI : NS := (fun m a => if m = 14 then 8 else if m = 15 then 2 + a % 3 else if m = 19 then 3 else 0, fun k => if k = 4 then 2 else if k = 5 then 4 else if k = 8 then 2 else 0)
theorem nsI_rest : Rest nsI := by
  have n0 : nsI.2 0 = 0 := rfl
  refine ⟨⟨⟨by decide, fun a ha => absurd ha (Nat.not_lt_zero a)⟩, ⟨fun a ha => absurd ha (Nat.not_lt_zero a), fun a ha => absurd ha (Nat.not_lt_zero a), fun a b ha => absurd ha (Nat.not_lt_zero a), fun z _ q hq => absurd hq (Nat.not_lt_zero q)⟩, fun z hz => ?_, ⟨by decide, by decide⟩, ⟨by decide, by decide, by decide, by decide, by decide, fun w _ => ?_⟩, ⟨rfl, fun w => Nat.le_refl 0, fun a ha => absurd ha (Nat.not_lt_zero a)⟩, ?_⟩, by decide, fun w _ => Nat.zero_le _, by decide⟩
  · have h15 : nsI.1 15 z = 2 + z % 3 := rfl
    unfold ivZ1
    rw [h15]
    refine ⟨Nat.zero_le 3, ⟨show 1 ≤ 8 by decide, show 8 ≤ 16 by decide⟩, ⟨by omega, by omega⟩, ?_, fun _ => ?_, fun _ => rfl, Nat.le_refl 0, fun h => ?_, fun h => absurd rfl h, Nat.le_refl 0⟩
    · show 0 ≤ 8; decide
    · show 0 < 8; decide
    · exact absurd (show (0 : Nat) = 1 from h) (by decide)
  · show 3 ≤ 8; decide
  · refine ⟨by decide, fun m a => ?_, fun k => ?_⟩
    · show (if m = 14 then 8 else if m = 15 then 2 + a % 3 else if m = 19 then 3 else 0) < 2 ^ 31
      split
      · decide
      · split
        · omega
        · split <;> decide
    · show (if k = 4 then 2 else if k = 5 then 4 else if k = 8 then 2 else 0) < 2 ^ 31
      split
      · decide
      · split
        · decide
        · split <;> decide
theorem nsI_CR : CR ss0 nsI := by
  refine ⟨⟨fun k hk h2 => ?_, fun m _ _ a ha => absurd ha (Nat.not_lt_zero a), fun a ha => absurd ha (Nat.not_lt_zero a), fun a ha => absurd ha (Nat.not_lt_zero a), fun k hk => absurd hk (Nat.not_lt_zero k), fun m h1 h2 z hz => ?_, fun m h1 h2 w hw => ?_⟩, rfl, Nat.zero_le _, fun i hi => absurd hi (Nat.not_lt_zero i)⟩
  · rcases (by omega : k = 0 ∨ k = 1 ∨ k = 3 ∨ k = 4 ∨ k = 5 ∨ k = 6 ∨ k = 7 ∨ k = 8 ∨ k = 9 ∨ k = 10) with e | e | e | e | e | e | e | e | e | e <;> subst e <;> rfl
  · rcases (by omega : m = 13 ∨ m = 14 ∨ m = 15 ∨ m = 16 ∨ m = 17 ∨ m = 18) with e | e | e | e | e | e <;> subst e
    · rcases (by omega : z = 0 ∨ z = 1 ∨ z = 2 ∨ z = 3 ∨ z = 4 ∨ z = 5 ∨ z = 6 ∨ z = 7) with e | e | e | e | e | e | e | e <;> subst e <;> rfl
    · rcases (by omega : z = 0 ∨ z = 1 ∨ z = 2 ∨ z = 3 ∨ z = 4 ∨ z = 5 ∨ z = 6 ∨ z = 7) with e | e | e | e | e | e | e | e <;> subst e <;> rfl
    · rcases (by omega : z = 0 ∨ z = 1 ∨ z = 2 ∨ z = 3 ∨ z = 4 ∨ z = 5 ∨ z = 6 ∨ z = 7) with e | e | e | e | e | e | e | e <;> subst e <;> rfl
    · rfl
    · rfl
    · rfl
  · rcases (by omega : m = 19 ∨ m = 20) with e | e <;> subst e
    · rcases (by omega : w = 0 ∨ w = 1 ∨ w = 2 ∨ w = 3) with e | e | e | e <;> subst e <;> rfl
    · rfl
/-- what the reference's constructor has written of the zones -/
def zI (s s0 : Nat → Int32) (i : Nat) : Prop := (∀ z, z < i → s (10 + 22 * z + 1) = 8 ∧ s (10 + 22 * z + 2) = nI (2 + z % 3) ∧ ∀ q, q < 16 → s (10 + 22 * z + (6 + q)) = -5) ∧ (∀ z, z < i → s (10 + 22 * z) = s0 (10 + 22 * z) ∧ s (10 + 22 * z + 3) = s0 (10 + 22 * z + 3) ∧ s (10 + 22 * z + 4) = s0 (10 + 22 * z + 4)) ∧ ∀ j, ¬ (10 ≤ j ∧ j < 10 + 22 * i) → s j = s0 j
theorem init_zones {σ : MS} {K : MS → Option MS} : ∃ τ, f_X6_init_L87 K FU 0 σ = K τ ∧ zI (τ.1 1) (σ.1 1) 8 ∧ τ.2 = σ.2 ∧ ∀ j, j ≠ 1 → τ.1 j = σ.1 j := by
  obtain ⟨τ, hR, e⟩ := loop_to (B := Unit) 8 (fun m i (c : MS) => f_X6_init_L87 K m i c) K (fun _ b => b)
    (fun i _ c => zI (c.1 1) (σ.1 1) i ∧ c.2 = σ.2 ∧ ∀ j, j ≠ 1 → c.1 j = σ.1 j) (fun m _ c hR => by
      show f_X6_init_L87 K (m + 1) (nI 8) c = _
      rw [f_X6_init_L87, if_pos (by decide)]) (fun m i _ c hi hR => by
      obtain ⟨⟨z1, z2, z3⟩, h2, h3⟩ := hR
      show ∃ c' : MS, _ ∧ f_X6_init_L87 K (m + 1) (nI i) c = f_X6_init_L87 K m (nI (i + 1)) c'
      have e3 : nI i - nI i / 3 * 3 = nI (i % 3) := pk_rem (d := 3) (by omega) (by decide) (by decide)
      rw [f_X6_init_L87, if_neg (show ¬ (8 : Int32) ≤ nI i from nI_ge hi (by decide)), rZ1, oS_b (by omega), rZ2, oS_b (by omega), e3, show (2 : Int32) + nI (i % 3) = nI (2 + i % 3) from nI_add 2 _]
      obtain ⟨τ, f1, f2, f3, f4, f5⟩ := w_sweep (σ := sA (sA c 1 (upd (c.1 1) (10 + 22 * i + 1) 8)) 1 (upd ((sA c 1 (upd (c.1 1) (10 + 22 * i + 1) 8)).1 1) (10 + 22 * i + 2) (nI (2 + i % 3)))) hi
      rw [f1, oV_some, nI_1]
      have base : ∀ j, ¬ (10 + 22 * i + 6 ≤ j ∧ j < 10 + 22 * i + 22) → τ.1 1 j = upd (upd (c.1 1) (10 + 22 * i + 1) 8) (10 + 22 * i + 2) (nI (2 + i % 3)) j := fun j hj => by
        rw [f4 j hj, sA_eq, sA_eq]
      refine ⟨τ, ⟨⟨fun z hz => ?_, fun z hz => ?_, fun j hj => ?_⟩, f2.trans h2, fun j hj => by rw [f3 j hj, sA_ne hj, sA_ne hj]; exact h3 j hj⟩, rfl⟩
      · by_cases ez : z = i
        · subst ez
          refine ⟨?_, ?_, fun q hq => f5 q hq⟩
          · rw [base _ (by omega), upd_ne (by omega), upd_eq]
          · rw [base _ (by omega), upd_eq]
        · obtain ⟨y1, y2, y3⟩ := z1 z (by omega)
          refine ⟨?_, ?_, fun q hq => ?_⟩
          · rw [base _ (by omega), upd_ne (by omega), upd_ne (by omega)]; exact y1
          · rw [base _ (by omega), upd_ne (by omega), upd_ne (by omega)]; exact y2
          · rw [base _ (by omega), upd_ne (by omega), upd_ne (by omega)]; exact y3 q hq
      · by_cases ez : z = i
        · subst ez
          refine ⟨?_, ?_, ?_⟩
          · rw [base _ (by omega), upd_ne (by omega), upd_ne (by omega)]; exact z3 _ (by omega)
          · rw [base _ (by omega), upd_ne (by omega), upd_ne (by omega)]; exact z3 _ (by omega)
          · rw [base _ (by omega), upd_ne (by omega), upd_ne (by omega)]; exact z3 _ (by omega)
        · obtain ⟨y1, y2, y3⟩ := z2 z (by omega)
          refine ⟨?_, ?_, ?_⟩
          · rw [base _ (by omega), upd_ne (by omega), upd_ne (by omega)]; exact y1
          · rw [base _ (by omega), upd_ne (by omega), upd_ne (by omega)]; exact y2
          · rw [base _ (by omega), upd_ne (by omega), upd_ne (by omega)]; exact y3
      · rw [base _ (by omega), upd_ne (by omega), upd_ne (by omega)]; exact z3 j (by omega)) σ () FU ⟨⟨fun z hz => absurd hz (Nat.not_lt_zero z), fun z hz => absurd hz (Nat.not_lt_zero z), fun _ _ => rfl⟩, rfl, fun _ _ => rfl⟩ (by decide)
  exact ⟨τ, e, hR⟩
theorem init_writers {σ : MS} {K : MS → Option MS} : ∃ τ, f_X6_init_L133 K FU 0 σ = K τ ∧ (∀ w, w < 4 → τ.1 1 (186 + 2 * w) = 3) ∧ (∀ j, ¬ (186 ≤ j ∧ j < 194 ∧ j % 2 = 0) → τ.1 1 j = σ.1 1 j) ∧ τ.2 = σ.2 ∧ ∀ j, j ≠ 1 → τ.1 j = σ.1 j := by
  obtain ⟨τ, hR, e⟩ := loop_to (B := Unit) 4 (fun m i (c : MS) => f_X6_init_L133 K m i c) K (fun _ b => b)
    (fun i _ c => (∀ w, w < i → c.1 1 (186 + 2 * w) = 3) ∧ (∀ j, ¬ (186 ≤ j ∧ j < 194 ∧ j % 2 = 0) → c.1 1 j = σ.1 1 j) ∧ c.2 = σ.2 ∧ ∀ j, j ≠ 1 → c.1 j = σ.1 j) (fun m _ c hR => by
      show f_X6_init_L133 K (m + 1) (nI 4) c = _
      rw [f_X6_init_L133, if_pos (by decide)]) (fun m i _ c hi hR => by
      obtain ⟨h1, h2, h3, h4⟩ := hR
      show ∃ c' : MS, _ ∧ f_X6_init_L133 K (m + 1) (nI i) c = f_X6_init_L133 K m (nI (i + 1)) c'
      rw [f_X6_init_L133, if_neg (show ¬ (4 : Int32) ≤ nI i from nI_ge hi (by decide)), rW0, oS_b (by omega), nI_1]
      refine ⟨sA c 1 (upd (c.1 1) (186 + 2 * i) 3), ⟨fun w hw => ?_, fun j hj => ?_, h3, fun j hj => (sA_ne hj).trans (h4 j hj)⟩, rfl⟩
      · rw [sA_eq]
        by_cases ew : w = i
        · subst ew; rw [upd_eq]
        · rw [upd_ne (by omega)]; exact h1 w (by omega)
      · rw [sA_eq, upd_ne (by omega)]; exact h2 j hj) σ () FU ⟨fun w hw => absurd hw (Nat.not_lt_zero w), fun _ _ => rfl, rfl, fun _ _ => rfl⟩ (by decide)
  exact ⟨τ, e, hR⟩
theorem init_M : ∃ τ, f_X6_init ms00 = some τ ∧ RM (τ.1 1) nsI ∧ τ.2 = fun _ => 0 := by
  unfold f_X6_init
  rw [oM1, oM2, oM3]
  obtain ⟨τ, f1, ⟨z1, z2, z3⟩, f3, f4⟩ := init_zones (σ := sA (sA (sA ms00 1 (upd (ms00.1 1) 1 2)) 1 (upd ((sA ms00 1 (upd (ms00.1 1) 1 2)).1 1) 2 4)) 1 (upd ((sA (sA ms00 1 (upd (ms00.1 1) 1 2)) 1 (upd ((sA ms00 1 (upd (ms00.1 1) 1 2)).1 1) 2 4)).1 1) 3 2)) (K := fun sx131 => f_X6_init_L133 (fun sx155 => some sx155) FU 0 sx131)
  obtain ⟨ρ, g1, g2, g3, g4, g5⟩ := init_writers (σ := τ) (K := fun sx155 => some sx155)
  rw [f1, g1]
  simp only [sA_eq] at z2 z3
  have m0 : ∀ j, ms00.1 1 j = 0 := fun j => rfl
  have lo : ∀ j, j < 10 → ρ.1 1 j = upd (upd (upd (ms00.1 1) 1 2) 2 4) 3 2 j := fun j hj => by
    rw [g3 j (by omega), z3 j (by omega)]
  have hi : ∀ j, 186 ≤ j → ¬ (186 ≤ j ∧ j < 194 ∧ j % 2 = 0) → ρ.1 1 j = 0 := fun j hj hn => by
    rw [g3 j hn, z3 j (by omega), upd_ne (by omega), upd_ne (by omega), upd_ne (by omega)]; rfl
  refine ⟨ρ, rfl, ⟨?_, fun z hz k hk => ?_, fun z hz h => absurd rfl h, fun w hw => ?_, fun a ha => absurd ha (Nat.not_lt_zero a), fun a ha => absurd ha (Nat.not_lt_zero a), fun k hk => absurd hk (Nat.not_lt_zero k), fun z hz q hq => ?_⟩, ?_⟩
  · rw [lo 0 (by decide), lo 1 (by decide), lo 2 (by decide), lo 3 (by decide), lo 4 (by decide), lo 5 (by decide), lo 6 (by decide), lo 7 (by decide), lo 8 (by decide), lo 9 (by decide)]
    exact ⟨rfl, rfl, rfl, rfl, rfl, rfl, rfl, rfl, rfl, rfl⟩
  · obtain ⟨y1, y2, _⟩ := z1 z hz
    obtain ⟨x0, x3, x4⟩ := z2 z hz
    have nz : ∀ j, 10 ≤ j → upd (upd (upd (ms00.1 1) 1 2) 2 4) 3 2 j = 0 := fun j hj => by
      rw [upd_ne (by omega), upd_ne (by omega), upd_ne (by omega)]; rfl
    rw [g3 _ (by omega)]
    rcases (by omega : k = 0 ∨ k = 1 ∨ k = 2 ∨ k = 3 ∨ k = 4) with e | e | e | e | e <;> subst e
    · exact x0.trans (nz _ (by omega))
    · exact y1
    · exact y2
    · exact x3.trans (nz _ (by omega))
    · exact x4.trans (nz _ (by omega))
  · exact ⟨g2 w hw, hi _ (by omega) (by omega)⟩
  · obtain ⟨_, _, y3⟩ := z1 z hz
    refine Or.inr ⟨?_, fun a ha => absurd ha (Nat.not_lt_zero a)⟩
    rw [g3 _ (by omega)]
    exact y3 q hq
  · rw [g4, f3]; rfl
/-- the word of the law is true on every script -/
theorem law_word {L : Nat} {xs : Nat → Int32} (hL : L ≤ 2048) : ∃ τ, f_X6_init ms00 = some τ ∧ f_law L xs (cs0, τ) = some 1 := by
  obtain ⟨τ, h1, h2, h3⟩ := init_M
  refine ⟨τ, h1, ?_⟩
  have T : TopE cs0 τ := by
    refine ⟨nsI, 0, 0, fun _ => nsI, false, nsI, 0, fun _ => 0, nsI_CR, h2, nsI_rest, ⟨rfl, rfl, by decide, by decide, fun i hi => absurd hi (Nat.not_lt_zero i)⟩, ⟨by rw [h3]; rfl, by decide, fun i hi => absurd hi (Nat.not_lt_zero i)⟩, ?_, ⟨rfl, by rw [h3]; rfl, by decide, fun i hi => absurd hi (Nat.not_lt_zero i)⟩⟩
    unfold Sn
    rw [if_neg Bool.false_ne_true, h3]
    exact ⟨rfl, rfl⟩
  exact law_loop hL FU 0 cs0 τ T (by omega) (by show L + 4 < 0 + 4 * 20000; omega)
