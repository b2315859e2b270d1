/-! PURE: along the live list or along all; the class tells what is due -/
theorem foldl_pick {st : NS → Nat → NS} {P : Nat → Bool} {I : NS → Prop} {n : Nat} (hI : ∀ B a, I B → I (st B a)) (hst : ∀ B a, a < n → I B → ¬ P a = true → st B a = B) : ∀ (l : List Nat) (A : NS), (∀ a, a ∈ l → a < n) → I A → (l.filter P).foldl st A = l.foldl st A
  | [], _, _, _ => rfl
  | a :: l, A, hl, hA => by
    have ha : a < n := hl a (List.mem_cons_self ..)
    have hl' : ∀ x, x ∈ l → x < n := fun x hx => hl x (List.mem_cons_of_mem _ hx)
    by_cases e : P a = true
    · rw [List.filter_cons_of_pos e, List.foldl_cons, List.foldl_cons]
      exact foldl_pick hI hst l _ hl' (hI A a hA)
    · rw [List.filter_cons_of_neg e, List.foldl_cons, hst A a ha hA e]
      exact foldl_pick hI hst l A hl' hA
theorem stTell_I {A B : NS} {a : Nat} (h : ∀ i, B.1 5 i = 1 → A.1 5 i = 1) : ∀ i, (stTell B a).1 5 i = 1 → A.1 5 i = 1 := by
  intro i
  unfold stTell
  split
  · rw [aTell1_5]
    split
    · intro x; omega
    · exact h i
  · exact h i
theorem tellDue_pick {A : NS} {P : Nat → Bool} (hP : ∀ c, c < A.2 0 → A.1 5 c = 0 ∨ A.1 5 c = 1 → P c = true) : ((List.range (A.2 0)).filter P).foldl stTell A = aTellDue A := by
  refine foldl_pick (I := fun B => ∀ i, B.1 5 i = 1 → A.1 5 i = 1) (n := A.2 0) (fun B a h => stTell_I h) (fun B a ha h hp => ?_) _ A (fun a ha => List.mem_range.1 ha) (fun i => id)
  unfold stTell
  rw [if_neg fun x => hp (hP a ha (Or.inr (h a x.1)))]
