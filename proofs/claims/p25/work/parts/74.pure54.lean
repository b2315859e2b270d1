/-! PURE: the reference reads one order: all of it -/
def sgS (c : Nat → Nat) (lo hi : Nat) (x : Nat × Bool) : Nat × Bool := if x.2 = true then x else if dg (c x.1) lo hi = true then (x.1 + 1, false) else (x.1, true)
def St (σ : MS) (x : Nat × Bool) : Prop := σ.2 5 = nI x.1 ∧ σ.2 6 = (if x.2 = true then 1 else 0)
theorem w_sgn {σ : MS} {L : Nat} {t : Nat → Nat} {x : Nat × Bool} (lo hi : Nat) (h : TM σ L t) (hs : St σ x) (hp : x.1 ≤ 100) (hlo : lo < 65536) (hhi : hi < 65536) :
    ∃ τ, f_X6_sign σ (nI lo) (nI hi) = some (nI (cr t L x.1), τ) ∧ St τ (sgS (cr t L) lo hi x) ∧ FO σ τ ∧ τ.1 = σ.1 ∧ TM τ L t := by
  obtain ⟨h5, h6⟩ := hs
  obtain ⟨q, w⟩ := x
  have S := w_sign h h5 hp hlo hhi
  unfold sgS
  by_cases ew : w = true
  · subst ew
    obtain ⟨τ, a1, a2, a3, a4, a5⟩ := S.2 (Or.inl h6)
    exact ⟨τ, a1, ⟨a2, a3⟩, a4, a5, a4.tm h⟩
  · have ew : w = false := by simpa using ew
    subst ew
    have h6 : σ.2 6 = 0 := h6
    by_cases ed : dg (cr t L q) lo hi = true
    · obtain ⟨τ, a1, a2, a3, a4, a5⟩ := S.1 h6 ed
      refine ⟨τ, a1, ?_, a4, a5, a4.tm h⟩
      show St τ (if false = true then (q, false) else if dg (cr t L q) lo hi = true then (q + 1, false) else (q, true))
      rw [if_neg (by decide), if_pos ed]
      exact ⟨a2, a3⟩
    · obtain ⟨τ, a1, a2, a3, a4, a5⟩ := S.2 (Or.inr ⟨h6, by simpa using ed⟩)
      refine ⟨τ, a1, ?_, a4, a5, a4.tm h⟩
      show St τ (if false = true then (q, false) else if dg (cr t L q) lo hi = true then (q + 1, false) else (q, true))
      rw [if_neg (by decide), if_neg ed]
      exact ⟨a2, a3⟩
theorem sgS_y {c : Nat → Nat} {lo hi q : Nat} (h : dg (c q) lo hi = true) : sgS c lo hi (q, false) = (q + 1, false) := by
  show (if false = true then (q, false) else if dg (c q) lo hi = true then (q + 1, false) else (q, true)) = _
  rw [if_neg Bool.false_ne_true, if_pos h]
theorem sgS_n {c : Nat → Nat} {lo hi q : Nat} (h : ¬ dg (c q) lo hi = true) : sgS c lo hi (q, false) = (q, true) := by
  show (if false = true then (q, false) else if dg (c q) lo hi = true then (q + 1, false) else (q, true)) = _
  rw [if_neg Bool.false_ne_true, if_neg h]
theorem sgS_w {c : Nat → Nat} {lo hi q : Nat} : sgS c lo hi (q, true) = (q, true) := if_pos rfl
theorem sgS_le {c : Nat → Nat} {lo hi : Nat} {x : Nat × Bool} : (sgS c lo hi x).1 ≤ x.1 + 1 := by
  unfold sgS
  split
  · omega
  · split <;> simp
def ordV (c : Nat → Nat) (p : Nat) : Nat := if dg (c (p + 4)) 49 57 = true ∧ dg (c (p + 5)) 48 57 = true then 10 * (c (p + 4) - 48) + (c (p + 5) - 48) else c (p + 4) - 48
def TD (c : Nat → Nat) (p : Nat) (f : Nat → Int32) : Prop := (c p = 114 ∨ c p = 102 ∨ c p = 112 → f 0 = nI (c p) ∧ f 1 = nI (c (p + 1) - 48)) ∧ (¬ (c p = 114 ∨ c p = 102 ∨ c p = 112) → f 0 = 0 ∧ f 1 = nI (c p - 48) ∧ f 2 = nI (c (p + 2) - 48) ∧ f 3 = nI (ordV c p))
theorem sub48 {a : Nat} (h : 48 ≤ a) : nI a - 48 = nI (a - 48) := pk_sub (b := 48) h
/-- the five signs of an append -/
def sg5 (c : Nat → Nat) (p : Nat) : Nat × Bool := sgS c 48 57 (sgS c 61 61 (sgS c 48 55 (sgS c 62 62 (sgS c 48 51 (p, false)))))
theorem sg5_eq (c : Nat → Nat) (p : Nat) (h1 : ¬ (c p = 114 ∨ c p = 102)) (h2 : ¬ c p = 112) : ((sg5 c p).2 = true → oOrd c p = (false, (sg5 c p).1)) ∧ ((sg5 c p).2 = false → (sg5 c p).1 = p + 5 ∧ (oOrd c p).1 = true ∧ (oOrd c p).2 = (if dg (c (p + 4)) 49 57 = true ∧ dg (c (p + 5)) 48 57 = true then p + 6 else p + 5) ∧ dg (c p) 48 51 = true ∧ dg (c (p + 2)) 48 55 = true ∧ dg (c (p + 4)) 48 57 = true ∧ sgS c 48 51 (p, false) = (p + 1, false) ∧ sgS c 62 62 (sgS c 48 51 (p, false)) = (p + 2, false) ∧ sgS c 48 55 (sgS c 62 62 (sgS c 48 51 (p, false))) = (p + 3, false) ∧ sgS c 61 61 (sgS c 48 55 (sgS c 62 62 (sgS c 48 51 (p, false)))) = (p + 4, false)) := by
  have e62 : ∀ i, (dg (c i) 62 62 = true) ↔ c i = 62 := fun i => by rw [dg_t]; omega
  have e61 : ∀ i, (dg (c i) 61 61 = true) ↔ c i = 61 := fun i => by rw [dg_t]; omega
  unfold sg5 oOrd
  rw [if_neg h1, if_neg h2]
  by_cases b0 : dg (c p) 48 51 = true
  · have x1 : sgS c 48 51 (p, false) = (p + 1, false) := sgS_y b0
    rw [x1, if_pos b0]
    by_cases b1 : c (p + 1) = 62
    · have x2 : sgS c 62 62 (p + 1, false) = (p + 2, false) := sgS_y ((e62 _).2 b1)
      rw [x2, if_pos b1]
      by_cases b2 : dg (c (p + 2)) 48 55 = true
      · have x3 : sgS c 48 55 (p + 2, false) = (p + 3, false) := sgS_y b2
        rw [x3, if_pos b2]
        by_cases b3 : c (p + 3) = 61
        · have x4 : sgS c 61 61 (p + 3, false) = (p + 4, false) := sgS_y ((e61 _).2 b3)
          rw [x4, if_pos b3]
          by_cases b4 : dg (c (p + 4)) 48 57 = true
          · have x5 : sgS c 48 57 (p + 4, false) = (p + 5, false) := sgS_y b4
            rw [x5, if_pos b4]
            refine ⟨fun x => absurd x (by simp), fun _ => ⟨rfl, ?_, ?_, b0, b2, b4, rfl, rfl, rfl, rfl⟩⟩
            · split <;> rfl
            · split <;> rfl
          · have x5 : sgS c 48 57 (p + 4, false) = (p + 4, true) := sgS_n b4
            rw [x5, if_neg b4]
            exact ⟨fun _ => rfl, fun x => absurd x (by simp)⟩
        · have x4 : sgS c 61 61 (p + 3, false) = (p + 3, true) := sgS_n (fun x => b3 ((e61 _).1 x))
          have x5 : sgS c 48 57 (p + 3, true) = (p + 3, true) := if_pos rfl
          rw [x4, x5, if_neg b3]
          exact ⟨fun _ => rfl, fun x => absurd x (by simp)⟩
      · have x3 : sgS c 48 55 (p + 2, false) = (p + 2, true) := sgS_n b2
        have x4 : sgS c 61 61 (p + 2, true) = (p + 2, true) := if_pos rfl
        have x5 : sgS c 48 57 (p + 2, true) = (p + 2, true) := if_pos rfl
        rw [x3, x4, x5, if_neg b2]
        exact ⟨fun _ => rfl, fun x => absurd x (by simp)⟩
    · have x2 : sgS c 62 62 (p + 1, false) = (p + 1, true) := sgS_n (fun x => b1 ((e62 _).1 x))
      have x3 : sgS c 48 55 (p + 1, true) = (p + 1, true) := if_pos rfl
      have x4 : sgS c 61 61 (p + 1, true) = (p + 1, true) := if_pos rfl
      have x5 : sgS c 48 57 (p + 1, true) = (p + 1, true) := if_pos rfl
      rw [x2, x3, x4, x5, if_neg b1]
      exact ⟨fun _ => rfl, fun x => absurd x (by simp)⟩
  · have x1 : sgS c 48 51 (p, false) = (p, true) := sgS_n b0
    have x2 : sgS c 62 62 (p, true) = (p, true) := if_pos rfl
    have x3 : sgS c 48 55 (p, true) = (p, true) := if_pos rfl
    have x4 : sgS c 61 61 (p, true) = (p, true) := if_pos rfl
    have x5 : sgS c 48 57 (p, true) = (p, true) := if_pos rfl
    rw [x1, x2, x3, x4, x5, if_neg b0]
    exact ⟨fun _ => rfl, fun x => absurd x (by simp)⟩
theorem oS4 {ST α : Type} {f : Nat → Int32} {x : Int32} {w : (Nat → Int32) → ST} {k : ST → Option α} : oS 4 f 0 x w k = k (w (upd f 0 x)) ∧ oS 4 f 1 x w k = k (w (upd f 1 x)) ∧ oS 4 f 2 x w k = k (w (upd f 2 x)) ∧ oS 4 f 3 x w k = k (w (upd f 3 x)) :=
  ⟨oS_at (n := 4) (j := 0) (by decide) (by decide), oS_at (n := 4) (j := 1) (by decide) (by decide), oS_at (n := 4) (j := 2) (by decide) (by decide), oS_at (n := 4) (j := 3) (by decide) (by decide)⟩
theorem oA4 {α : Type} {f : Nat → Int32} {k : Int32 → Option α} : oA 4 f 0 k = k (f 0) ∧ oA 4 f 1 k = k (f 1) ∧ oA 4 f 2 k = k (f 2) ∧ oA 4 f 3 k = k (f 3) :=
  ⟨oA_at (n := 4) (j := 0) (by decide) (by decide), oA_at (n := 4) (j := 1) (by decide) (by decide), oA_at (n := 4) (j := 2) (by decide) (by decide), oA_at (n := 4) (j := 3) (by decide) (by decide)⟩
theorem St.sA {σ : MS} {x : Nat × Bool} {m : Nat} {f : Nat → Int32} (h : St σ x) : St (sA σ m f) x := h
theorem w_order {σ : MS} {L : Nat} {t : Nat → Nat} {p : Nat} (h : TM σ L t) (hs : St σ (p, false)) (hp : p ≤ 60) :
    ∃ τ, f_X6_order σ = some τ ∧ FO σ τ ∧ St τ ((oOrd (cr t L) p).2, !(oOrd (cr t L) p).1) ∧ ((oOrd (cr t L) p).1 = true → TD (cr t L) p (τ.1 7)) := by
  have cb : ∀ i, cr t L i < 65536 := cr_b fun i hi => (h.2.2 i hi).2
  have e : f_X6_order σ = ordK σ (nI (cr t L p)) := w_read1 h hs.1 (by omega) (K := ordK σ)
  have e114 : (nI (cr t L p) = 114) ↔ cr t L p = 114 := nl 114 (cb p) (by decide)
  have e102 : (nI (cr t L p) = 102) ↔ cr t L p = 102 := nl 102 (cb p) (by decide)
  have e112 : (nI (cr t L p) = 112) ↔ cr t L p = 112 := nl 112 (cb p) (by decide)
  have n1 : ¬ (1 : Int32) = 0 := by decide
  rw [e]
  unfold ordK
  simp only [oJ_to, e114, e102, e112, oS4]
  -- a letter and its number
  have letter : ∀ (x lo hi : Nat), cr t L p = x → x ≠ 0 → (x = 114 ∨ x = 102 ∨ x = 112) → 48 ≤ lo ∧ lo < 65536 → hi < 65536 → oOrd (cr t L) p = (if dg (cr t L (p + 1)) lo hi = true then (true, p + 2) else (false, p + 1)) →
      ∃ τ, oW (f_X6_sign σ (nI x) (nI x)) (fun t => t) (fun r61 s61 => oW (f_X6_sign (sA s61 7 (upd (s61.1 7) 0 r61)) (nI lo) (nI hi)) (fun t => t) (fun r s => some (sA s 7 (upd (s.1 7) 1 (r - 48))))) = some τ ∧ FO σ τ ∧ St τ ((oOrd (cr t L) p).2, !(oOrd (cr t L) p).1) ∧ ((oOrd (cr t L) p).1 = true → TD (cr t L) p (τ.1 7)) := by
    intro x lo hi hx hx0 hx3 hlo hhi ho
    have hx5 : x < 65536 := by omega
    obtain ⟨τ, a1, a2, a3, a4, a5⟩ := w_sgn x x h hs (by omega) hx5 hx5
    have sx : sgS (cr t L) x x (p, false) = (p + 1, false) := sgS_y (dg_t.2 (by omega))
    rw [sx] at a2
    rw [a1, oW_some]
    have TM1 : TM (sA τ 7 (upd (τ.1 7) 0 (nI (cr t L p)))) L t := FO.sA.tm a5
    obtain ⟨ρ, b1, b2, b3, b4, b5⟩ := w_sgn lo hi TM1 (St.sA a2) (show p + 1 ≤ 100 by omega) hlo.2 hhi
    rw [b1, oW_some]
    refine ⟨_, rfl, (a3.trans FO.sA).trans (b3.trans FO.sA), ?_, fun hok => ?_⟩
    · refine St.sA ?_
      rw [ho]
      by_cases ed : dg (cr t L (p + 1)) lo hi = true
      · rw [sgS_y ed] at b2
        rw [if_pos ed]
        exact b2
      · rw [sgS_n ed] at b2
        rw [if_neg ed]
        exact b2
    · rw [ho] at hok
      by_cases ed : dg (cr t L (p + 1)) lo hi = true
      · have := dg_t.1 ed
        refine ⟨fun _ => ?_, fun y => absurd (by rw [hx]; exact hx3) y⟩
        rw [sA_eq, upd_ne (by decide), upd_eq, b4, sA_eq, upd_eq]
        exact ⟨rfl, sub48 (show 48 ≤ cr t L (p + 1) by omega)⟩
      · rw [if_neg ed] at hok
        exact absurd hok (by simp)
  by_cases a1 : cr t L p = 114
  · rw [if_pos a1, if_neg n1]
    have ho : oOrd (cr t L) p = (if dg (cr t L (p + 1)) 48 55 = true then (true, p + 2) else (false, p + 1)) := by unfold oOrd; rw [if_pos (Or.inl a1)]
    have := letter 114 48 55 a1 (by decide) (Or.inl rfl) (by decide) (by decide) ho
    have n112 : ¬ cr t L p = 112 := by omega
    rw [a1] at *
    simp only [if_neg n112, if_neg n1]
    exact this
  rw [if_neg a1]
  by_cases a2 : cr t L p = 102
  · rw [if_pos a2, if_neg n1]
    have ho : oOrd (cr t L) p = (if dg (cr t L (p + 1)) 48 55 = true then (true, p + 2) else (false, p + 1)) := by unfold oOrd; rw [if_pos (Or.inr a2)]
    have := letter 102 48 55 a2 (by decide) (Or.inr (Or.inl rfl)) (by decide) (by decide) ho
    have n112 : ¬ cr t L p = 112 := by omega
    rw [a2] at *
    simp only [if_neg n112, if_neg n1]
    exact this
  rw [if_neg a2]
  by_cases a3 : cr t L p = 112
  · rw [if_pos a3, if_neg n1]
    have ho : oOrd (cr t L) p = (if dg (cr t L (p + 1)) 49 57 = true then (true, p + 2) else (false, p + 1)) := by unfold oOrd; rw [if_neg (by omega), if_pos a3]
    have := letter 112 49 57 a3 (by decide) (Or.inr (Or.inr rfl)) (by decide) (by decide) ho
    rw [a3] at *
    simp only [if_neg n1]
    exact this
  rw [if_neg a3, if_pos trivial]
  have T1 : TM (sA σ 7 (upd (σ.1 7) 0 0)) L t := FO.sA.tm h
  obtain ⟨τ1, u1, u2, u3, u4, u5⟩ := w_sgn 48 51 T1 (St.sA hs) (show p ≤ 100 by omega) (by decide) (by decide)
  have l1 := sgS_le (c := cr t L) (lo := 48) (hi := 51) (x := (p, false))
  have u1 : f_X6_sign (sA σ 7 (upd (σ.1 7) 0 0)) 48 51 = some (nI (cr t L p), τ1) := u1
  simp only [if_neg a3]
  rw [u1, oW_some]
  have T2 : TM (sA τ1 7 (upd (τ1.1 7) 1 (nI (cr t L p) - 48))) L t := FO.sA.tm u5
  obtain ⟨τ2, v1, v2, v3, v4, v5⟩ := w_sgn 62 62 T2 (St.sA u2) (show _ ≤ 100 by simp at l1; omega) (by decide) (by decide)
  have l2 := sgS_le (c := cr t L) (lo := 62) (hi := 62) (x := sgS (cr t L) 48 51 (p, false))
  have v1 : f_X6_sign (sA τ1 7 (upd (τ1.1 7) 1 (nI (cr t L p) - 48))) 62 62 = some (_, τ2) := v1
  simp only [if_true]
  rw [v1, oW_some]
  obtain ⟨τ3, w1, w2, w3, w4, w5⟩ := w_sgn 48 55 v5 v2 (show _ ≤ 100 by simp at l1; omega) (by decide) (by decide)
  have l3 := sgS_le (c := cr t L) (lo := 48) (hi := 55) (x := sgS (cr t L) 62 62 (sgS (cr t L) 48 51 (p, false)))
  have w1 : f_X6_sign τ2 48 55 = some (_, τ3) := w1
  rw [w1, oW_some]
  have T4 : TM (sA τ3 7 (upd (τ3.1 7) 2 (nI (cr t L (sgS (cr t L) 62 62 (sgS (cr t L) 48 51 (p, false))).1) - 48))) L t := FO.sA.tm w5
  obtain ⟨τ4, x1, x2, x3, x4, x5⟩ := w_sgn 61 61 T4 (St.sA w2) (show _ ≤ 100 by simp at l1; omega) (by decide) (by decide)
  have l4 := sgS_le (c := cr t L) (lo := 61) (hi := 61) (x := sgS (cr t L) 48 55 (sgS (cr t L) 62 62 (sgS (cr t L) 48 51 (p, false))))
  have x1 : f_X6_sign (sA τ3 7 (upd (τ3.1 7) 2 (nI (cr t L (sgS (cr t L) 62 62 (sgS (cr t L) 48 51 (p, false))).1) - 48))) 61 61 = some (_, τ4) := x1
  rw [x1, oW_some]
  obtain ⟨τ5, y1, y2, y3, y4, y5⟩ := w_sgn 48 57 x5 x2 (show _ ≤ 100 by simp at l1; omega) (by decide) (by decide)
  have y1 : f_X6_sign τ4 48 57 = some (_, τ5) := y1
  rw [y1, oW_some]
  have F5 : FO σ τ5 := (((((FO.sA.trans u3).trans FO.sA).trans v3).trans w3).trans FO.sA).trans (x3.trans y3)
  obtain ⟨z1, z2⟩ := sg5_eq (cr t L) p (by omega) a3
  have y2 : St τ5 (sg5 (cr t L) p) := y2
  by_cases ew : (sg5 (cr t L) p).2 = true
  · have o := z1 ew
    have y6 : τ5.2 6 = 1 := by rw [y2.2, if_pos ew]
    have y6' : ∀ f, (sA τ5 7 f).2 6 = 1 := fun f => y6
    rw [y6', if_neg n1]
    refine ⟨_, rfl, F5.trans FO.sA, ?_, fun hok => absurd hok (by rw [o]; simp)⟩
    rw [o]
    exact St.sA ⟨y2.1, y6⟩
  · obtain ⟨o5, o1, o2, d0, d2, d4, g1, g2, g3, g4⟩ := z2 (by simpa using ew)
    have y6 : τ5.2 6 = 0 := by rw [y2.2, if_neg ew]
    have y6' : ∀ f, (sA τ5 7 f).2 6 = 0 := fun f => y6
    have y25 : τ5.2 5 = nI (p + 5) := by rw [y2.1, o5]
    have r0 := dg_t.1 d0
    have r2 := dg_t.1 d2
    have r4 := dg_t.1 d4
    simp only [g4]
    have f1 : τ5.1 7 1 = nI (cr t L p - 48) := by
      rw [y4, x4, sA_eq, upd_ne (by decide), w4, v4, sA_eq, upd_eq]
      exact sub48 r0.1
    have f2 : τ5.1 7 2 = nI (cr t L (p + 2) - 48) := by
      rw [y4, x4, sA_eq, upd_eq, g2]
      exact sub48 r2.1
    have f0 : τ5.1 7 0 = 0 := by
      rw [y4, x4, sA_eq, upd_ne (by decide), w4, v4, sA_eq, upd_ne (by decide), u4, sA_eq, upd_eq]
    have e3 : nI (cr t L (p + 4)) - 48 = nI (cr t L (p + 4) - 48) := sub48 r4.1
    have b4 := cb (p + 4)
    rw [y6', if_pos rfl, oA4.2.2.2, sA_eq, upd_eq, e3]
    have T6 : TM (sA τ5 7 (upd (τ5.1 7) 3 (nI (cr t L (p + 4) - 48)))) L t := FO.sA.tm y5
    have S6 : St (sA τ5 7 (upd (τ5.1 7) 3 (nI (cr t L (p + 4) - 48)))) (p + 5, false) := ⟨y25, y6⟩
    have short : ¬ (dg (cr t L (p + 4)) 49 57 = true ∧ dg (cr t L (p + 5)) 48 57 = true) → FO σ (sA τ5 7 (upd (τ5.1 7) 3 (nI (cr t L (p + 4) - 48)))) ∧ St (sA τ5 7 (upd (τ5.1 7) 3 (nI (cr t L (p + 4) - 48)))) ((oOrd (cr t L) p).2, !(oOrd (cr t L) p).1) ∧ ((oOrd (cr t L) p).1 = true → TD (cr t L) p ((sA τ5 7 (upd (τ5.1 7) 3 (nI (cr t L (p + 4) - 48)))).1 7)) := by
      intro hn
      rw [if_neg hn] at o2
      refine ⟨F5.trans FO.sA, by rw [o1, o2]; exact S6, fun _ => ⟨fun x => absurd x (by omega), fun _ => ?_⟩⟩
      rw [sA_eq, upd_ne (by decide), upd_ne (by decide), upd_ne (by decide), upd_eq]
      unfold ordV
      rw [if_neg hn]
      exact ⟨f0, f1, f2, rfl⟩
    by_cases k4 : cr t L (p + 4) = 48
    · rw [if_pos (show nI (cr t L (p + 4) - 48) ≤ 0 by rw [k4]; decide)]
      exact ⟨_, rfl, short (fun x => by have := dg_t.1 x.1; omega)⟩
    · have k49 : dg (cr t L (p + 4)) 49 57 = true := dg_t.2 (by omega)
      rw [if_neg (nI_nle (by omega) (by omega))]
      have R := w_read1 T6 S6.1 (show p + 5 ≤ 100 by omega) (K := fun x217 => oR (f_X6_in x217 48 57) (fun r222 => if r222 = 0 then (some (sA τ5 7 (upd (τ5.1 7) 3 (nI (cr t L (p + 4) - 48))))) else (oA 4 (upd (τ5.1 7) 3 (nI (cr t L (p + 4) - 48))) 3 (fun x240 => oW (f_X6_sign (sA τ5 7 (upd (τ5.1 7) 3 (nI (cr t L (p + 4) - 48)))) 48 57) (fun t => t) (fun r247 s247 => some (sA s247 7 (upd (s247.1 7) 3 (((10 * x240) + r247) - 48))))))))
      have i0 : f_X6_in 0 48 57 = some 0 := inF (x := 0) (lo := 48) (hi := 57) (by decide) (by decide) (by decide)
      simp only [i0, oR_some, if_true] at R
      rw [R]
      have i5 : f_X6_in (nI (cr t L (p + 5))) 48 57 = some (if dg (cr t L (p + 5)) 48 57 = true then 1 else 0) := inF (cb _) (by decide) (by decide)
      rw [i5, oR_some]
      by_cases k5 : dg (cr t L (p + 5)) 48 57 = true
      · have r5 := dg_t.1 k5
        have b5 := cb (p + 5)
        rw [if_pos k5, if_neg n1, oA4.2.2.2, upd_eq]
        obtain ⟨τ6, q1, q2, q3, q4, q5⟩ := w_sgn 48 57 T6 S6 (show p + 5 ≤ 100 by omega) (by decide) (by decide)
        have q1 : f_X6_sign (sA τ5 7 (upd (τ5.1 7) 3 (nI (cr t L (p + 4) - 48)))) 48 57 = some (nI (cr t L (p + 5)), τ6) := q1
        have sx : sgS (cr t L) 48 57 (p + 5, false) = (p + 6, false) := sgS_y k5
        rw [sx] at q2
        rw [q1, oW_some]
        rw [if_pos ⟨k49, k5⟩] at o2
        have ev : (10 * nI (cr t L (p + 4) - 48) + nI (cr t L (p + 5))) - 48 = nI (10 * (cr t L (p + 4) - 48) + (cr t L (p + 5) - 48)) := by
          rw [show (10 : Int32) = nI 10 from rfl, pk_mul, nI_add, sub48 (by omega)]
          congr 1
          omega
        rw [ev]
        refine ⟨_, rfl, (F5.trans FO.sA).trans (q3.trans FO.sA), by rw [o1, o2]; exact St.sA q2, fun _ => ⟨fun x => absurd x (by omega), fun _ => ?_⟩⟩
        rw [sA_eq, upd_ne (by decide), upd_ne (by decide), upd_ne (by decide), upd_eq, q4, sA_eq, upd_ne (by decide), upd_ne (by decide), upd_ne (by decide)]
        unfold ordV
        rw [if_pos ⟨k49, k5⟩]
        exact ⟨f0, f1, f2, rfl⟩
      · rw [if_neg k5, if_pos rfl]
        exact ⟨_, rfl, short (fun x => k5 x.2)⟩
