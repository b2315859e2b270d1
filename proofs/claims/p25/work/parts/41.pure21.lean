/-! PURE: what is due is told: the abstract step -/
def aheadB (A : NS) (a : Nat) : Bool := (List.range a).any fun b => decide (A.1 2 b = A.1 2 a ∧ (A.1 5 b = 0 ∨ A.1 5 b = 1))
theorem aheadB_iff {A : NS} {a : Nat} : aheadB A a = true ↔ Ahead A a := by
  unfold aheadB Ahead
  rw [List.any_eq_true]
  constructor
  · rintro ⟨b, hb, h⟩
    exact ⟨b, List.mem_range.1 hb, of_decide_eq_true h⟩
  · rintro ⟨b, hb, h⟩
    exact ⟨b, List.mem_range.2 hb, decide_eq_true h⟩
/-- one is told -/
def aTell1 (A : NS) (a : Nat) : NS := aTold (if aheadB A a = true then setA A 20 (A.1 2 a) (A.1 20 (A.1 2 a) + 1) else A) a
def stTell (A : NS) (a : Nat) : NS := if A.1 5 a = 1 ∧ A.1 7 a = A.2 10 then aTell1 A a else A
def aTellDue (A : NS) : NS := (List.range (A.2 0)).foldl stTell A
