/-! PURE: forecasts -/
theorem w_ticksStuck {a : Nat} : ∀ (d k m : Nat) (v3 : Int32) (s : MS) (B : NS), k + d = 999 → d < m → RM (s.1 1) B → Iv B → Stuck B → a < B.2 0 → B.1 5 a ≤ 1 → B.2 10 + d ≤ 20000 →
    ∃ s', f_X6_ticksOf_L4 (nI a) (fun w2_46 sx46 => oR (f_X6_ofAppend (nI a) 3) (fun r52 => oA 2204 (sx46.1 1) r52 (fun x55 => if x55 = 2 then (some (w2_46, sx46)) else (some ((-5), sx46))))) m (nI k) v3 s = some (-5, s') ∧ InT s s' := by
  intro d
  induction d with
  | zero =>
    intro k m v3 s B hk hm hr I _ ha hp _
    obtain ⟨m, rfl⟩ : ∃ q, m = q + 1 := ⟨m - 1, by omega⟩
    have b := I.b
    have hn := I.a.1
    have a3 : s.1 1 (194 + 9 * a + 3) = nI (B.1 5 a) := hr.ap (k := 3) ha (by decide)
    rw [f_X6_ticksOf_L4, if_pos (show (999 : Int32) ≤ nI k from nI_le (a := 999) (by omega) (by omega)), rA3, oA_b (by omega), a3, if_neg (fun x => by have := (nI_eq (b := 2) (b.2.1 5 a) (by decide)).1 x; omega)]
    exact ⟨s, rfl, InT.refl⟩
  | succ d ih =>
    intro k m v3 s B hk hm hr I hS ha hp ht
    obtain ⟨m, rfl⟩ : ∃ q, m = q + 1 := ⟨m - 1, by omega⟩
    have b := I.b
    have hn := I.a.1
    have a3 : s.1 1 (194 + 9 * a + 3) = nI (B.1 5 a) := hr.ap (k := 3) ha (by decide)
    have n2 : ¬ (2 : Int32) ≤ nI (B.1 5 a) := fun x => by have := (nI_leI (a := 2) (by decide) (b.2.1 5 a)).1 x; omega
    rw [f_X6_ticksOf_L4, if_neg (show ¬ (999 : Int32) ≤ nI k from nI_ge (b := 999) (by omega) (by decide)), rA3, oA_b (by omega), a3, if_neg n2]
    by_cases e : v3 = 0
    · rw [if_pos e, rA3, oA_b (by omega), a3, if_neg (fun x => by have := (nI_eq (b := 2) (b.2.1 5 a) (by decide)).1 x; omega)]
      exact ⟨s, rfl, InT.refl⟩
    · obtain ⟨τ, f1, f2, f3, f4, f5, f6⟩ := w_tickM hr I (by omega)
      have hst := stuck_stays I hS
      rw [hst] at f2
      rw [if_neg e, f1, oW_some, nI_1]
      obtain ⟨s', g1, g2⟩ := ih (k + 1) m (τ.2 3) τ (setN B 10 (B.2 10 + 1)) (by omega) (by omega) f2 (Iv_time I (by omega)) (Stuck_num hS (Or.inr rfl)) ha hp (by rw [setN_eq]; omega)
      exact ⟨s', g1, InT.trans ⟨f5, f6⟩ g2⟩
theorem w_fc {a : Nat} : ∀ (d k m1 m2 : Nat) (v3 : Int32) (σ : SS) (s : MS) (A : NS), k + d = 999 → d < m1 → d < m2 → CR σ A → RM (s.1 1) A → Iv A → a < A.2 0 → A.1 5 a ≤ 1 → A.2 10 + d ≤ 20000 → v3 ≠ 0 →
    ∃ r σ' s', f_X3_ticksUntilTold_L2 (nI a) (fun sx61 => some ((-5), sx61)) m1 (nI (k + 1)) σ = some (r, σ') ∧ f_X6_ticksOf_L4 (nI a) (fun w2_46 sx46 => oR (f_X6_ofAppend (nI a) 3) (fun r52 => oA 2204 (sx46.1 1) r52 (fun x55 => if x55 = 2 then (some (w2_46, sx46)) else (some ((-5), sx46))))) m2 (nI k) v3 s = some (r, s') ∧
      InT s s' ∧ (r ≠ -5 → σ'.1 6 a = s'.1 1 (194 + 9 * a + 4)) := by
  intro d
  induction d with
  | zero =>
    intro k m1 m2 v3 σ s A hk h1 h2 hc hr I ha hp _ _
    obtain ⟨m1, rfl⟩ : ∃ q, m1 = q + 1 := ⟨m1 - 1, by omega⟩
    obtain ⟨m2, rfl⟩ : ∃ q, m2 = q + 1 := ⟨m2 - 1, by omega⟩
    have b := I.b
    have hn := I.a.1
    have a3 : s.1 1 (194 + 9 * a + 3) = nI (A.1 5 a) := hr.ap (k := 3) ha (by decide)
    refine ⟨-5, σ, s, ?_, ?_, InT.refl, fun x => absurd rfl x⟩
    · rw [f_X3_ticksUntilTold_L2, if_pos (show (999 : Int32) < nI (k + 1) from nI_lt (a := 999) (by omega) (by omega))]
    · rw [f_X6_ticksOf_L4, if_pos (show (999 : Int32) ≤ nI k from nI_le (a := 999) (by omega) (by omega)), rA3, oA_b (by omega), a3, if_neg (fun x => by have := (nI_eq (b := 2) (b.2.1 5 a) (by decide)).1 x; omega)]
  | succ d ih =>
    intro k m1 m2 v3 σ s A hk h1 h2 hc hr I ha hp ht hv
    obtain ⟨m1, rfl⟩ : ∃ q, m1 = q + 1 := ⟨m1 - 1, by omega⟩
    obtain ⟨m2, rfl⟩ : ∃ q, m2 = q + 2 := ⟨m2 - 2, by omega⟩
    have b := I.b
    have hn := I.a.1
    have a3 : s.1 1 (194 + 9 * a + 3) = nI (A.1 5 a) := hr.ap (k := 3) ha (by decide)
    have n2 : ¬ (2 : Int32) ≤ nI (A.1 5 a) := fun x => by have := (nI_leI (a := 2) (by decide) (b.2.1 5 a)).1 x; omega
    obtain ⟨τ, f1, f2, f3, f4, f5, f6⟩ := w_tickM hr I (by omega)
    obtain ⟨ρ, g1, g2, g3⟩ := w_tickC hc.1 I hc.2 (by omega)
    obtain ⟨J, LT⟩ := Iv_tick I (by omega)
    have bJ := J.b
    have haJ : a < (aTick A).2 0 := by rw [LT.n0]; exact ha
    have t3 : τ.1 1 (194 + 9 * a + 3) = nI ((aTick A).1 5 a) := f2.ap (k := 3) haJ (by decide)
    have r5 : ρ.1 5 a = nI ((aTick A).1 5 a) := g2.ap (by decide) (by decide) haJ
    have h53 := (J.a.2 a haJ).2.2.2
    have e2 : (nI ((aTick A).1 5 a) = 2) ↔ (aTick A).1 5 a = 2 := nI_eq (b := 2) (bJ.2.1 5 a) (by decide)
    have e3 : (nI ((aTick A).1 5 a) = 3) ↔ (aTick A).1 5 a = 3 := nI_eq (b := 3) (bJ.2.1 5 a) (by decide)
    have l2 : ((2 : Int32) ≤ nI ((aTick A).1 5 a)) ↔ 2 ≤ (aTick A).1 5 a := nI_leI (a := 2) (by decide) (bJ.2.1 5 a)
    have hl : f_X0_liveIn ρ 1 = some (nI (atW (aTick A))) := w_liveIn g2 bJ g3 (q := 1) (by decide) (fun c _ hx => decide_eq_true (Or.inr hx))
    have hw : atW (aTick A) ≤ (aTick A).2 0 := cnt_le _ _
    have hnJ := J.a.1
    -- the reference behind the tick, when the append has ended
    have ended : 2 ≤ (aTick A).1 5 a → f_X6_ticksOf_L4 (nI a) (fun w2_46 sx46 => oR (f_X6_ofAppend (nI a) 3) (fun r52 => oA 2204 (sx46.1 1) r52 (fun x55 => if x55 = 2 then (some (w2_46, sx46)) else (some ((-5), sx46))))) (m2 + 1) (nI (k + 1)) (τ.2 3) τ = if (aTick A).1 5 a = 2 then some (nI (k + 1), τ) else some (-5, τ) := by
      intro h2
      have K : (oR (f_X6_ofAppend (nI a) 3) (fun r52 => oA 2204 (τ.1 1) r52 (fun x55 => if x55 = 2 then (some (nI (k + 1), τ)) else (some ((-5), τ))))) = if (aTick A).1 5 a = 2 then some (nI (k + 1), τ) else some (-5, τ) := by
        rw [rA3, oA_b (by omega), t3]
        by_cases x : (aTick A).1 5 a = 2
        · rw [if_pos (e2.2 x), if_pos x]
        · rw [if_neg (fun y => x (e2.1 y)), if_neg x]
      rw [f_X6_ticksOf_L4]
      by_cases h9 : (999 : Int32) ≤ nI (k + 1)
      · rw [if_pos h9, K]
      · rw [if_neg h9, rA3, oA_b (by omega), t3, if_pos (l2.2 h2)]
        exact K
    rw [f_X3_ticksUntilTold_L2, f_X6_ticksOf_L4, if_neg (show ¬ (999 : Int32) < nI (k + 1) from nI_nlt (b := k + 1) (a := 999) (by omega) (by decide)), g1, oV_some, oA_at (show a < 201 by omega) (by decide), r5, if_neg (show ¬ (999 : Int32) ≤ nI k from nI_ge (b := 999) (by omega) (by decide)), rA3, oA_b (by omega), a3, if_neg n2, if_neg hv, f1, oW_some, nI_1, nI_1]
    by_cases q2 : (aTick A).1 5 a = 2
    · rw [if_pos (e2.2 q2), ended (by omega), if_pos q2]
      refine ⟨_, _, _, rfl, rfl, ⟨f5, f6⟩, fun _ => ?_⟩
      rw [(g2.2.2.1 a haJ (Or.inr q2)).1, (f2.2.2.2.2.2.1 a haJ).1, if_pos (Or.inr q2)]
    · rw [if_neg (fun x => q2 (e2.1 x)), oA_at (show a < 201 by omega) (by decide), r5]
      by_cases q3 : (aTick A).1 5 a = 3
      · rw [if_pos (e3.2 q3), ended (by omega), if_neg q2]
        exact ⟨_, _, _, rfl, rfl, ⟨f5, f6⟩, fun x => absurd rfl x⟩
      · rw [if_neg (fun x => q3 (e3.1 x)), hl, oR_some]
        by_cases q0 : atW (aTick A) = 0
        · rw [if_pos ((nI_eq0 (by omega)).2 q0)]
          obtain ⟨s', u1, u2⟩ := w_ticksStuck (a := a) d (k + 1) (m2 + 1) (τ.2 3) τ (aTick A) (by omega) (by omega) f2 J (stuck_tick I (by omega) q0) haJ (by omega) (by rw [aTick_10]; omega)
          rw [u1]
          exact ⟨_, _, _, rfl, rfl, InT.trans ⟨f5, f6⟩ u2, fun x => absurd rfl x⟩
        · rw [if_neg (fun x => q0 ((nI_eq0 (by omega)).1 x))]
          obtain ⟨r, σ', s', u1, u2, u3, u4⟩ := ih (k + 1) m1 (m2 + 1) (τ.2 3) ρ τ (aTick A) (by omega) (by omega) (by omega) ⟨g2, g3⟩ f2 J haJ (by omega) (by rw [aTick_10]; omega) (fun x => q0 (f4 x))
          exact ⟨r, σ', s', u1, u2, InT.trans ⟨f5, f6⟩ u3, u4⟩
theorem w_forecast {σ : SS} {s : MS} {A : NS} {a : Nat} (hc : CR σ A) (hr : RM (s.1 1) A) (I : Iv A) (ha : a < A.2 0) (hp : A.1 5 a ≤ 1) (ht : A.2 10 ≤ 9999) :
    ∃ r σ' s', f_X3_ticksUntilTold σ (nI a) = some (r, σ') ∧ f_X6_ticksOf s (nI a) = some (r, s') ∧ InT s s' ∧ (r ≠ -5 → σ'.1 6 a = s'.1 1 (194 + 9 * a + 4)) :=
  w_fc 999 0 FU FU 1 σ s A (by decide) (by decide) (by decide) hc hr I ha hp (by omega) (by decide)
