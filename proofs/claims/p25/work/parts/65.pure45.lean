/-! PURE: blocks that can be read; cases of arguments -/
theorem cnt_inj {T : Nat → Bool} {g : Nat → Nat} {N : Nat} : ∀ (n : Nat) (Q : Nat → Bool), (∀ a, a < n → T a = true → g a < N) → (∀ q, q < N → (Q q = true ↔ ∃ a, a < n ∧ T a = true ∧ g a = q)) → (∀ a b, a < n → b < n → T a = true → T b = true → g a = g b → a = b) → cnt Q N = cnt T n
  | 0, Q, _, hQ, _ => cnt_zero.2 fun q hq => by
    by_cases e : Q q = true
    · obtain ⟨a, ha, _⟩ := (hQ q hq).1 e
      exact absurd ha (Nat.not_lt_zero a)
    · simpa using e
  | n + 1, Q, hg, hQ, hi => by
    show cnt Q N = cnt T n + _
    by_cases e : T n = true
    · rw [if_pos e]
      have hgn := hg n (by omega) e
      have ih := cnt_inj (T := T) (g := g) (N := N) n (fun q => Q q && !decide (q = g n)) (fun a ha => hg a (by omega)) (fun q hq => by
        simp only [Bool.and_eq_true, Bool.not_eq_true', decide_eq_false_iff_not]
        constructor
        · rintro ⟨h1, h2⟩
          obtain ⟨a, ha, ht, hga⟩ := (hQ q hq).1 h1
          have : a ≠ n := fun x => h2 (by rw [← hga, x])
          exact ⟨a, by omega, ht, hga⟩
        · rintro ⟨a, ha, ht, hga⟩
          refine ⟨(hQ q hq).2 ⟨a, by omega, ht, hga⟩, fun x => ?_⟩
          have := hi a n (by omega) (by omega) ht e (by rw [hga, x])
          omega) (fun a b ha hb => hi a b (by omega) (by omega))
      rw [← ih]
      refine cnt_one (a := g n) N hgn (by simp) ((hQ _ hgn).2 ⟨n, by omega, e, rfl⟩) fun q hq hne => by simp [hne]
    · rw [if_neg e]
      refine cnt_inj n Q (fun a ha => hg a (by omega)) (fun q hq => ?_) (fun a b ha hb => hi a b (by omega) (by omega))
      rw [hQ q hq]
      constructor
      · rintro ⟨a, ha, ht, hga⟩
        have : a ≠ n := fun x => e (x ▸ ht)
        exact ⟨a, by omega, ht, hga⟩
      · rintro ⟨a, ha, ht, hga⟩
        exact ⟨a, by omega, ht, hga⟩
def rdb (A : NS) (z a : Nat) : Bool := decide (A.1 5 a = 2 ∧ A.1 3 a = z ∧ A.1 9 a = A.1 17 z)
theorem nI_ne5 {a : Nat} (h : a < 2 ^ 31) : ¬ nI a = -5 := fun x => by
  have := nI_pos h
  rw [x] at this
  exact this (by decide)
theorem rd_place {A : NS} (I : Iv A) {z a : Nat} (ha : a < A.2 0) (h : rdb A z a = true) : A.1 6 a < A.1 16 z ∧ A.1 6 a < 16 := by
  obtain ⟨h1, h2, h3⟩ := of_decide_eq_true h
  have hz := (I.a.2 a ha).2.1
  have := (I.h.1 a ha (Or.inr h1)).2 (by rw [h2]; exact h3)
  rw [h2] at this hz
  have Z := I.z z hz
  have c1 := Z.2.1.2
  have c2 := Z.2.2.2.1
  exact ⟨this, by omega⟩
theorem rd_inj {A : NS} (I : Iv A) {z a b : Nat} (ha : a < A.2 0) (hb : b < A.2 0) (h : rdb A z a = true) (g : rdb A z b = true) (e : A.1 6 a = A.1 6 b) : a = b := by
  obtain ⟨h1, h2, h3⟩ := of_decide_eq_true h
  obtain ⟨g1, g2, g3⟩ := of_decide_eq_true g
  exact I.h.2.2.1 a b ha hb (Or.inr h1) (Or.inr g1) (h2.trans g2.symm) (h3.trans g3.symm) e
/-- the reference's block, told -/
theorem blk {s : Nat → Int32} {A : NS} (h : RM s A) (I : Iv A) {z q : Nat} (hz : z < 8) (hq : q < 16) : (s (10 + 22 * z + (6 + q)) = -5 ∧ ∀ a, a < A.2 0 → rdb A z a = true → A.1 6 a ≠ q) ∨ ∃ a, a < A.2 0 ∧ rdb A z a = true ∧ A.1 6 a = q ∧ s (10 + 22 * z + (6 + q)) = nI a := by
  rcases h.2.2.2.2.2.2.2 z hz q hq with ⟨a, ha, h1, h2, h3, h4, h5⟩ | ⟨h0, h1⟩
  · exact Or.inr ⟨a, ha, decide_eq_true ⟨h1, h2, h3⟩, h4, h5⟩
  · refine Or.inl ⟨h0, fun a ha hr => ?_⟩
    obtain ⟨r1, r2, r3⟩ := of_decide_eq_true hr
    exact h1 a ha r1 r2 r3
theorem w_readable {σ : MS} {A : NS} (h : RM (σ.1 1) A) (I : Iv A) {z : Nat} (hz : z < 8) : f_X6_readable σ (nI z) = some (nI (cnt (rdb A z) (A.2 0))) := by
  have hn := I.a.1
  rw [← cnt_inj (T := rdb A z) (g := A.1 6) (N := 16) (A.2 0) (fun q => decide (σ.1 1 (10 + 22 * z + (6 + q)) ≠ -5)) (fun a ha ht => (rd_place I ha ht).2) (fun q hq => ?_) (fun a b ha hb ht hs e => rd_inj I ha hb ht hs e)]
  · unfold f_X6_readable
    refine count_to 16 (fun m c i => f_X6_readable_L4 σ (nI z) (fun w => some w) m c i) (fun w => some w) _ (fun m c => ?_) (fun m i c hi => ?_) FU (by decide)
    · show f_X6_readable_L4 σ (nI z) (fun w => some w) (m + 1) c (nI 16) = _
      rw [f_X6_readable_L4, if_pos (by decide)]
    · show f_X6_readable_L4 σ (nI z) (fun w => some w) (m + 1) (nI c) (nI i) = _
      rw [f_X6_readable_L4, if_neg (show ¬ (16 : Int32) ≤ nI i from nI_ge (b := 16) hi (by decide)), rB, oA_b (by omega), oJ_to, nI_1]
      by_cases e : σ.1 1 (10 + 22 * z + (6 + i)) = -5
      · rw [if_pos e, if_neg (by simp [e])]
        dsimp only
        rw [show nI c + (0 : Int32) = nI (c + 0) from nI_add c 0]
      · rw [if_neg e, if_pos (by simp [e])]
        dsimp only
        rw [show nI c + (1 : Int32) = nI (c + 1) from nI_add c 1]
  · rw [decide_eq_true_iff]
    rcases blk h I hz hq with ⟨h0, h1⟩ | ⟨a, ha, h1, h2, h3⟩
    · refine ⟨fun x => absurd h0 x, ?_⟩
      rintro ⟨a, ha, ht, hg⟩
      exact absurd hg (h1 a ha ht)
    · refine ⟨fun _ => ⟨a, ha, h1, h2⟩, fun _ => ?_⟩
      rw [h3]
      exact nI_ne5 (by omega)
theorem lt_of_nI {p : Int32} {n : Nat} (hn : n + 1 < 2 ^ 31) (h : nI (n + 1) ≤ p) : nI n < p := by
  rw [Int32.le_iff_toInt_le, nI_toInt hn] at h
  rw [Int32.lt_iff_toInt_lt, nI_toInt (by omega)]
  omega
theorem zone_cases (p : Int32) : (∃ z, z < 8 ∧ p = nI z) ∨ (f_X5_isZone p = some 0 ∧ f_X6_isZone p = some 0) := by
  rcases int_cases p 8 (by decide) with h | h | h
  · exact Or.inl h
  · exact Or.inr ⟨w_isZone_no (Or.inl h), w_isZoneM_no (Or.inl h)⟩
  · exact Or.inr ⟨w_isZone_no (Or.inr h), w_isZoneM_no (Or.inr (lt_of_nI (n := 7) (by decide) h))⟩
theorem writer_cases (p : Int32) : (∃ z, z < 4 ∧ p = nI z) ∨ (f_X5_isWriter p = some 0 ∧ f_X6_isWriter p = some 0) := by
  rcases int_cases p 4 (by decide) with h | h | h
  · exact Or.inl h
  · exact Or.inr ⟨w_isWriter_no (Or.inl h), w_isWriterM_no (Or.inl h)⟩
  · exact Or.inr ⟨w_isWriter_no (Or.inr h), w_isWriterM_no (Or.inr (lt_of_nI (n := 3) (by decide) h))⟩
theorem range_cases (p : Int32) (lo hi : Nat) (hh : hi + 1 < 2 ^ 31) (hlh : lo ≤ hi) : (∃ v, lo ≤ v ∧ v ≤ hi ∧ p = nI v ∧ f_X5_isFrom p (nI lo) (nI hi) = some 1 ∧ f_X6_in p (nI lo) (nI hi) = some 1) ∨ ((p < nI lo ∨ nI hi < p) ∧ f_X5_isFrom p (nI lo) (nI hi) = some 0 ∧ f_X6_in p (nI lo) (nI hi) = some 0) := by
  have no : (p < nI lo ∨ nI hi < p) → ((p < nI lo ∨ nI hi < p) ∧ f_X5_isFrom p (nI lo) (nI hi) = some 0 ∧ f_X6_in p (nI lo) (nI hi) = some 0) := fun h => ⟨h, w_isFrom_no h, w_in_no h⟩
  rcases int_cases p (hi + 1) hh with ⟨v, hv, rfl⟩ | h | h
  · by_cases e : lo ≤ v
    · have h1 : ¬ nI v < nI lo := nI_nlt e (by omega)
      have h2 : ¬ nI hi < nI v := nI_nlt (by omega) (by omega)
      exact Or.inl ⟨v, e, by omega, rfl, w_isFrom h1 h2, w_in h1 h2⟩
    · exact Or.inr (no (Or.inl (nI_lt (by omega) (by omega))))
  · refine Or.inr (no (Or.inl ?_))
    rw [Int32.lt_iff_toInt_lt] at h ⊢
    rw [nI_toInt (by omega)]
    have : (0 : Int32).toInt = 0 := by decide
    omega
  · exact Or.inr (no (Or.inr (lt_of_nI hh h)))
