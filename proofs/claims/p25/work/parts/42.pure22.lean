/-! PURE: telling keeps what it needs -/
theorem cnt_one {P Q : Nat → Bool} {a : Nat} : ∀ n, a < n → P a = false → Q a = true → (∀ i, i < n → i ≠ a → Q i = P i) → cnt Q n = cnt P n + 1
  | 0, h, _, _, _ => absurd h (Nat.not_lt_zero _)
  | n + 1, h, hp, hq, he => by
    show cnt Q n + _ = cnt P n + _ + 1
    by_cases e : a = n
    · subst e
      rw [hp, hq, cnt_congr (P := Q) (Q := P) fun i hi => he i (by omega) (by omega)]
      simp
    · rw [cnt_one n (by omega) hp hq fun i hi => he i (by omega), he n (by omega) (fun x => e x.symm)]
      omega
/-- told ones are counted; a writer is told ahead no oftener than told -/
def TI (A : NS) : Prop := A.2 1 = cnt (fun a => decide (A.1 5 a = 2)) (A.2 0) ∧ (∀ w, A.1 20 w ≤ A.2 1) ∧ ∀ a, a < A.2 0 → A.1 2 a < 4
