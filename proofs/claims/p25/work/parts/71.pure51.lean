/-! PURE: orders in a text; the class's automaton -/
def cr (t : Nat → Nat) (L i : Nat) : Nat := if i < L then t i else 0
def dg (x lo hi : Nat) : Bool := decide (lo ≤ x ∧ x ≤ hi)
/-- one order from p: whether it is one, and its end, or its fault -/
def oOrd (c : Nat → Nat) (p : Nat) : Bool × Nat :=
  if c p = 114 ∨ c p = 102 then (if dg (c (p + 1)) 48 55 = true then (true, p + 2) else (false, p + 1))
  else if c p = 112 then (if dg (c (p + 1)) 49 57 = true then (true, p + 2) else (false, p + 1))
  else if dg (c p) 48 51 = true then
    (if c (p + 1) = 62 then
      (if dg (c (p + 2)) 48 55 = true then
        (if c (p + 3) = 61 then
          (if dg (c (p + 4)) 48 57 = true then
            (if dg (c (p + 4)) 49 57 = true ∧ dg (c (p + 5)) 48 57 = true then (true, p + 6) else (true, p + 5))
          else (false, p + 4))
        else (false, p + 3))
      else (false, p + 2))
    else (false, p + 1))
  else (false, p)
theorem dg_t {x lo hi : Nat} : dg x lo hi = true ↔ lo ≤ x ∧ x ≤ hi := decide_eq_true_iff
theorem cr_lt {t : Nat → Nat} {L i : Nat} (h : cr t L i ≠ 0) : i < L := by
  unfold cr at h
  by_cases e : i < L
  · exact e
  · rw [if_neg e] at h; exact absurd rfl h
theorem isF {x lo hi : Nat} (hx : x < 65536) (hl : lo < 65536) (hh : hi < 65536) : f_X5_isFrom (nI x) (nI lo) (nI hi) = some (if dg x lo hi = true then 1 else 0) := by
  by_cases e : dg x lo hi = true
  · rw [if_pos e]
    have := dg_t.1 e
    exact w_isFrom (nI_nlt (by omega) (by omega)) (nI_nlt (by omega) (by omega))
  · rw [if_neg e]
    refine w_isFrom_no ?_
    rw [dg_t] at e
    by_cases h : lo ≤ x
    · exact Or.inr (nI_lt (by omega) (by omega))
    · exact Or.inl (nI_lt (by omega) (by omega))
theorem inF {x lo hi : Nat} (hx : x < 65536) (hl : lo < 65536) (hh : hi < 65536) : f_X6_in (nI x) (nI lo) (nI hi) = some (if dg x lo hi = true then 1 else 0) := by
  by_cases e : dg x lo hi = true
  · rw [if_pos e]
    have := dg_t.1 e
    exact w_in (nI_nlt (by omega) (by omega)) (nI_nlt (by omega) (by omega))
  · rw [if_neg e]
    refine w_in_no ?_
    rw [dg_t] at e
    by_cases h : lo ≤ x
    · exact Or.inr (nI_lt (by omega) (by omega))
    · exact Or.inl (nI_lt (by omega) (by omega))
theorem nl {x : Nat} (n : Nat) (hx : x < 65536) (hn : n < 65536) : (nI x = nI n) ↔ x = n := nI_eq (by omega) (by omega)
/-- what may come behind, in numbers; 9 for nothing -/
def pbh (s x : Nat) : Nat :=
  if s = 0 then (if dg x 48 51 = true then 1 else if x = 114 then 6 else if x = 102 then 6 else if x = 112 then 7 else 9)
  else if s = 1 then (if x = 62 then 2 else 9) else if s = 2 then (if dg x 48 55 = true then 3 else 9) else if s = 3 then (if x = 61 then 4 else 9)
  else if s = 4 then (if x = 48 then 8 else if dg x 49 57 = true then 5 else 9) else if s = 5 then (if dg x 48 57 = true then 8 else if x = 59 then 0 else 9)
  else if s = 6 then (if dg x 48 55 = true then 8 else 9) else if s = 7 then (if dg x 49 57 = true then 8 else 9) else (if x = 59 then 0 else 9)
theorem w_pbh {s x : Nat} (hs : s < 9) (hx : x < 65536) : f_X2_placeBehind (nI s) (nI x) = some (if pbh s x = 9 then -1 else nI (pbh s x)) := by
  have f1 : f_X5_isFrom (nI x) 48 51 = some (if dg x 48 51 = true then 1 else 0) := isF hx (by decide) (by decide)
  have f2 : f_X5_isFrom (nI x) 48 55 = some (if dg x 48 55 = true then 1 else 0) := isF hx (by decide) (by decide)
  have f3 : f_X5_isFrom (nI x) 49 57 = some (if dg x 49 57 = true then 1 else 0) := isF hx (by decide) (by decide)
  have f4 : f_X5_isFrom (nI x) 48 57 = some (if dg x 48 57 = true then 1 else 0) := isF hx (by decide) (by decide)
  have e114 : (nI x = 114) ↔ x = 114 := nl 114 hx (by decide)
  have e102 : (nI x = 102) ↔ x = 102 := nl 102 hx (by decide)
  have e112 : (nI x = 112) ↔ x = 112 := nl 112 hx (by decide)
  have e62 : (nI x = 62) ↔ x = 62 := nl 62 hx (by decide)
  have e61 : (nI x = 61) ↔ x = 61 := nl 61 hx (by decide)
  have e48 : (nI x = 48) ↔ x = 48 := nl 48 hx (by decide)
  have e59 : (nI x = 59) ↔ x = 59 := nl 59 hx (by decide)
  have i0 : ¬ (1 : Int32) = 0 := by decide
  unfold f_X2_placeBehind f_X2_placeBehindFirst pbh
  rw [f1, f2, f3, f4]
  simp only [oR_some, e114, e102, e112, e62, e61, e48, e59]
  rcases (by omega : s = 0 ∨ s = 1 ∨ s = 2 ∨ s = 3 ∨ s = 4 ∨ s = 5 ∨ s = 6 ∨ s = 7 ∨ s = 8) with e | e | e | e | e | e | e | e | e <;> subst e
  · rw [if_pos (show nI 0 = 0 from rfl), if_pos (show (0 : Nat) = 0 from rfl)]
    by_cases d : dg x 48 51 = true
    · rw [if_pos d, if_pos d, if_neg i0]; rfl
    · rw [if_neg d, if_neg d, if_pos rfl]
      by_cases a : x = 114
      · rw [if_pos a, if_pos a]; rfl
      · rw [if_neg a, if_neg a]
        by_cases a : x = 102
        · rw [if_pos a, if_pos a]; rfl
        · rw [if_neg a, if_neg a]
          by_cases a : x = 112
          · rw [if_pos a, if_pos a]; rfl
          · rw [if_neg a, if_neg a]; rfl
  · show (if x = 62 then some (2 : Int32) else some (-1)) = some (if (if x = 62 then 2 else 9) = 9 then -1 else nI (if x = 62 then 2 else 9))
    by_cases a : x = 62
    · rw [if_pos a, if_pos a]; rfl
    · rw [if_neg a, if_neg a]; rfl
  · show (if (if dg x 48 55 = true then (1 : Int32) else 0) = 0 then some (-1 : Int32) else some 3) = some (if (if dg x 48 55 = true then 3 else 9) = 9 then -1 else nI (if dg x 48 55 = true then 3 else 9))
    by_cases d : dg x 48 55 = true
    · rw [if_pos d, if_pos d]; rfl
    · rw [if_neg d, if_neg d]; rfl
  · show (if x = 61 then some (4 : Int32) else some (-1)) = some (if (if x = 61 then 4 else 9) = 9 then -1 else nI (if x = 61 then 4 else 9))
    by_cases a : x = 61
    · rw [if_pos a, if_pos a]; rfl
    · rw [if_neg a, if_neg a]; rfl
  · show (if x = 48 then some (8 : Int32) else if (if dg x 49 57 = true then (1 : Int32) else 0) = 0 then some (-1) else some 5) = some (if (if x = 48 then 8 else if dg x 49 57 = true then 5 else 9) = 9 then -1 else nI (if x = 48 then 8 else if dg x 49 57 = true then 5 else 9))
    by_cases a : x = 48
    · rw [if_pos a, if_pos a]; rfl
    · rw [if_neg a, if_neg a]
      by_cases d : dg x 49 57 = true
      · rw [if_pos d, if_pos d]; rfl
      · rw [if_neg d, if_neg d]; rfl
  · show (if (if dg x 48 57 = true then (1 : Int32) else 0) = 0 then (if x = 59 then some (0 : Int32) else some (-1)) else some 8) = some (if (if dg x 48 57 = true then 8 else if x = 59 then 0 else 9) = 9 then -1 else nI (if dg x 48 57 = true then 8 else if x = 59 then 0 else 9))
    by_cases d : dg x 48 57 = true
    · rw [if_pos d, if_pos d]; rfl
    · rw [if_neg d, if_neg d, if_pos rfl]
      by_cases a : x = 59
      · rw [if_pos a, if_pos a]; rfl
      · rw [if_neg a, if_neg a]; rfl
  · show (if (if dg x 48 55 = true then (1 : Int32) else 0) = 0 then some (-1 : Int32) else some 8) = some (if (if dg x 48 55 = true then 8 else 9) = 9 then -1 else nI (if dg x 48 55 = true then 8 else 9))
    by_cases d : dg x 48 55 = true
    · rw [if_pos d, if_pos d]; rfl
    · rw [if_neg d, if_neg d]; rfl
  · show (if (if dg x 49 57 = true then (1 : Int32) else 0) = 0 then some (-1 : Int32) else some 8) = some (if (if dg x 49 57 = true then 8 else 9) = 9 then -1 else nI (if dg x 49 57 = true then 8 else 9))
    by_cases d : dg x 49 57 = true
    · rw [if_pos d, if_pos d]; rfl
    · rw [if_neg d, if_neg d]; rfl
  · show (if x = 59 then some (0 : Int32) else some (-1)) = some (if (if x = 59 then 0 else 9) = 9 then -1 else nI (if x = 59 then 0 else 9))
    by_cases a : x = 59
    · rw [if_pos a, if_pos a]; rfl
    · rw [if_neg a, if_neg a]; rfl
theorem pbh_le {s x : Nat} : pbh s x ≤ 9 := by
  unfold pbh
  repeat' split
  all_goals omega
/-- the class's text -/
def TC (c : CS) (L : Nat) (t : Nat → Nat) : Prop := c.2.2 3 = nI L ∧ L ≤ 60 ∧ ∀ i, i < L → c.2.1 i = nI (t i) ∧ t i < 65536
def kFa (c : CS) : Int32 → Option Int32 := fun w1_36 => if w1_36 = 8 then (some (-1)) else (if w1_36 = 5 then (some (-1)) else (some (c.2.2 3)))
theorem fa_go {c : CS} {L : Nat} {t : Nat → Nat} (h : TC c L t) {m s s' q : Nat} (hs : s < 9) (hq : q < L) (hp : pbh s (cr t L q) = s') (h9 : s' ≠ 9) : f_X2_fault_L4 c (kFa c) (m + 1) (nI s) (nI q) = f_X2_fault_L4 c (kFa c) m (nI s') (nI (q + 1)) := by
  obtain ⟨h1, h2, h3⟩ := h
  have hc : cr t L q = t q := if_pos hq
  rw [hc] at hp
  have hle := pbh_le (s := s) (x := t q)
  rw [f_X2_fault_L4, h1, if_neg (nI_ge hq (by omega)), oA_at (show q < 60 by omega) (by decide), (h3 q hq).1, w_pbh hs (h3 q hq).2, oR_some, hp, if_neg h9, nI_1]
  rw [hp] at hle
  rw [if_neg (fun x => by
    have := nI_pos (n := s') (by omega)
    rw [x] at this
    exact this (by decide))]
theorem fa_bad {c : CS} {L : Nat} {t : Nat → Nat} (h : TC c L t) {m s q : Nat} (hs : s < 9) (hq : q ≤ L) (hp : pbh s (cr t L q) = 9) (h5 : s ≠ 5) (h8 : s ≠ 8) : f_X2_fault_L4 c (kFa c) (m + 1) (nI s) (nI q) = some (nI q) := by
  obtain ⟨h1, h2, h3⟩ := h
  by_cases e : q = L
  · subst e
    rw [f_X2_fault_L4, h1, if_pos (nI_le (Nat.le_refl _) (by omega))]
    unfold kFa
    rw [if_neg (show ¬ nI s = 8 from fun x => h8 ((nl 8 (by omega) (by decide)).1 x)), if_neg (show ¬ nI s = 5 from fun x => h5 ((nl 5 (by omega) (by decide)).1 x)), h1]
  · have hq : q < L := by omega
    have hc : cr t L q = t q := if_pos hq
    rw [hc] at hp
    rw [f_X2_fault_L4, h1, if_neg (nI_ge hq (by omega)), oA_at (show q < 60 by omega) (by decide), (h3 q hq).1, w_pbh hs (h3 q hq).2, oR_some, hp, if_pos rfl, if_pos rfl]
/-- behind a whole order -/
theorem fa_end {c : CS} {L : Nat} {t : Nat → Nat} (h : TC c L t) {m s q : Nat} (hs : s = 8 ∨ s = 5 ∧ dg (cr t L q) 48 57 = false) (hq : q ≤ L) :
    (q = L → f_X2_fault_L4 c (kFa c) (m + 1) (nI s) (nI q) = some (-1)) ∧ (q < L → cr t L q = 59 → f_X2_fault_L4 c (kFa c) (m + 1) (nI s) (nI q) = f_X2_fault_L4 c (kFa c) m (nI 0) (nI (q + 1))) ∧ (q < L → cr t L q ≠ 59 → f_X2_fault_L4 c (kFa c) (m + 1) (nI s) (nI q) = some (nI q)) := by
  refine ⟨fun e => ?_, fun hq e => ?_, fun hq e => ?_⟩
  · subst e
    rw [f_X2_fault_L4, h.1, if_pos (nI_le (Nat.le_refl _) (by have := h.2.1; omega))]
    unfold kFa
    rcases hs with e | ⟨e, _⟩
    · subst e; rfl
    · subst e; rfl
  · refine fa_go h (by omega) hq ?_ (by decide)
    rw [e]
    rcases hs with e | ⟨e, _⟩ <;> subst e <;> rfl
  · have hp : pbh s (cr t L q) = 9 := by
      rcases hs with e1 | ⟨e1, e2⟩
      · subst e1
        show (if cr t L q = 59 then 0 else 9) = 9
        rw [if_neg e]
      · subst e1
        show (if dg (cr t L q) 48 57 = true then 8 else if cr t L q = 59 then 0 else 9) = 9
        rw [if_neg (by rw [e2]; decide), if_neg e]
    obtain ⟨h1, h2, h3⟩ := h
    have hc : cr t L q = t q := if_pos hq
    rw [hc] at hp
    rw [f_X2_fault_L4, h1, if_neg (nI_ge hq (by omega)), oA_at (show q < 60 by omega) (by decide), (h3 q hq).1, w_pbh (by omega) (h3 q hq).2, oR_some, hp, if_pos rfl, if_pos rfl]
