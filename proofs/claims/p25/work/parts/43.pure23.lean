/-! PURE: telling one -/
theorem aTell1_20 {A : NS} {a : Nat} : aTell1 A a = aTold (if aheadB A a = true then setA A 20 (A.1 2 a) (A.1 20 (A.1 2 a) + 1) else A) a := rfl
theorem aTell1_num {A : NS} {a k : Nat} (hk : k ≠ 1) : (aTell1 A a).2 k = A.2 k := by
  unfold aTell1 aTold
  rw [setN_ne hk]
  split <;> rfl
theorem aTell1_told {A : NS} {a : Nat} : (aTell1 A a).2 1 = A.2 1 + 1 := by
  unfold aTell1 aTold
  rw [setN_eq]
  split <;> rfl
theorem aTell1_1 {A : NS} {a m i : Nat} (h5 : m ≠ 5) (h10 : m ≠ 10) (h20 : m ≠ 20) : (aTell1 A a).1 m i = A.1 m i := by
  unfold aTell1 aTold
  rw [setN_1, setA_nm h10, setA_nm h5]
  split
  · rw [setA_nm h20]
  · rfl
theorem aTell1_5 {A : NS} {a i : Nat} : (aTell1 A a).1 5 i = if i = a then 2 else A.1 5 i := by
  unfold aTell1 aTold
  rw [setN_1, setA_nm (by decide)]
  by_cases e : i = a
  · subst e
    rw [setA_eq, if_pos rfl]
  · rw [setA_na e, if_neg e]
    split
    · rw [setA_nm (by decide)]
    · rfl
theorem aTell1_20w {A : NS} {a w : Nat} : (aTell1 A a).1 20 w ≤ A.1 20 w + 1 := by
  unfold aTell1 aTold
  rw [setN_1, setA_nm (by decide), setA_nm (by decide)]
  split
  · by_cases e : w = A.1 2 a
    · subst e
      rw [setA_eq]
      omega
    · rw [setA_na e]
      omega
  · omega
theorem TI_tell {A : NS} {a : Nat} (t : TI A) (ha : a < A.2 0) (hp : A.1 5 a = 1) : TI (aTell1 A a) := by
  refine ⟨?_, fun w => ?_, fun i hi => ?_⟩
  · rw [aTell1_told, aTell1_num (by decide), t.1]
    refine (cnt_one (a := a) (A.2 0) ha ?_ ?_ fun i _ hi => ?_).symm
    · rw [decide_eq_false_iff_not, hp]; decide
    · rw [aTell1_5, if_pos rfl]; rfl
    · rw [aTell1_5, if_neg hi]
  · rw [aTell1_told]
    have := t.2.1 w
    have := aTell1_20w (A := A) (a := a) (w := w)
    omega
  · rw [aTell1_1 (by decide) (by decide) (by decide)]
    exact t.2.2 i (by rw [aTell1_num (by decide)] at hi; exact hi)
