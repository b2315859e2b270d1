/-! PURE: a loop that looks for one -/
def scan {γ : Type} (S Q : Nat → Bool) (x y : γ) : List Nat → γ
  | [] => x
  | a :: t => if S a = true then x else if Q a = true then y else scan S Q x y t
theorem loop_scan {γ : Type} (l : List Nat) (f : Nat → Int32 → γ) (S Q : Nat → Bool) (x y : γ) (hend : ∀ m, f (m + 1) (nI l.length) = x)
    (hstep : ∀ m i (h : i < l.length), f (m + 1) (nI i) = if S l[i] = true then x else if Q l[i] = true then y else f m (nI (i + 1))) : ∀ m, l.length < m → f m (nI 0) = scan S Q x y l := by
  have go : ∀ (d i m : Nat), i + d = l.length → d < m → f m (nI i) = scan S Q x y (l.drop i) := by
    intro d
    induction d with
    | zero =>
      intro i m hi hm
      obtain ⟨m, rfl⟩ : ∃ q, m = q + 1 := ⟨m - 1, by omega⟩
      rw [Nat.add_zero] at hi
      subst hi
      rw [List.drop_length]
      exact hend m
    | succ d ih =>
      intro i m hi hm
      obtain ⟨m, rfl⟩ : ∃ q, m = q + 1 := ⟨m - 1, by omega⟩
      have hlt : i < l.length := by omega
      rw [hstep m i hlt, ih (i + 1) m (by omega) (by omega), List.drop_eq_getElem_cons hlt]
      rfl
  intro m hm
  have := go l.length 0 m (by omega) hm
  rwa [List.drop_zero] at this
/-- along ascending numbers, stopping at p -/
theorem scan_upto {γ : Type} {Q : Nat → Bool} {x y : γ} {p : Nat} : ∀ (l : List Nat), l.Pairwise (· < ·) → (∃ a, a ∈ l ∧ a < p ∧ Q a = true) → scan (fun a => decide (p ≤ a)) Q x y l = y
  | [], _, ⟨_, h, _⟩ => absurd h (by simp)
  | b :: t, hp, ⟨a, h, hlt, hQ⟩ => by
    have hb : ∀ c, c ∈ t → b < c := (List.pairwise_cons.1 hp).1
    show (if decide (p ≤ b) = true then x else if Q b = true then y else scan _ Q x y t) = y
    rcases List.mem_cons.1 h with e | e
    · subst e
      rw [if_neg (by simp; omega), if_pos hQ]
    · have := hb a e
      rw [if_neg (by simp; omega)]
      split
      · rfl
      · exact scan_upto t (List.pairwise_cons.1 hp).2 ⟨a, e, hlt, hQ⟩
theorem scan_none {γ : Type} {Q : Nat → Bool} {x y : γ} {p : Nat} : ∀ (l : List Nat), (∀ a, a ∈ l → a < p → ¬ Q a = true) → scan (fun a => decide (p ≤ a)) Q x y l = x
  | [], _ => rfl
  | b :: t, h => by
    show (if decide (p ≤ b) = true then x else if Q b = true then y else scan _ Q x y t) = x
    split
    · rfl
    · rename_i hb
      rw [if_neg (h b (List.mem_cons_self ..) (by simp at hb; omega))]
      exact scan_none t fun a ha => h a (List.mem_cons_of_mem _ ha)
