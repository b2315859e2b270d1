/-! PURE (p25): the law's numbers; what it does -/
theorem w_low {v : Int32} {n : Nat} (h1 : 0 < n) (h2 : n < 2 ^ 31) : ∃ r, r < n ∧ f_L_low v (nI n) = some (nI r) := by
  obtain ⟨j, hj, e⟩ := pk_andE v (m := 2147483647) 31 (by decide)
  refine ⟨j % n, Nat.mod_lt _ h1, ?_⟩
  unfold f_L_low oD
  rw [if_neg (nI_ne0 h1 h2), e, pk_rem (by omega) h1 h2]
theorem w_cell {Ls : Nat} {xs : Nat → Int32} (hL : Ls ≤ 260) {e : Nat} (he : e < 56) : ∃ v, f_L_cell Ls xs (nI e) = some v := by
  unfold f_L_cell
  by_cases c : Int32.ofNat Ls ≤ nI e
  · exact ⟨_, if_pos c⟩
  · rw [if_neg c]
    by_cases h : e < Ls
    · rw [oA_at h (by omega)]
      exact ⟨_, rfl⟩
    · exact absurd (nI_le (a := Ls) (b := e) (by omega) (by omega)) c
theorem oW_id {x : Option (Int32 × CS)} : oW x (fun t => t) (fun r s => some (r, s)) = x := by cases x <;> rfl
theorem does_if {p : Prop} [Decidable p] {A : NS} {x y : Option (Int32 × CS)} (h1 : Does A x) (h2 : Does A y) : Does A (if p then x else y) := by split <;> assumption
theorem w_does {c : CS} {A : NS} {o k : Nat} {H : Nat → NS} (h : Tq c A o k H) (v : Int32) : Does A (f_L_does c v) := by
  unfold f_L_does
  simp only [oJ_to, oW_id]
  have ap : ∀ x : Int32, Does A (oR (f_L_low (v >>> (10 &&& 31)) 100) (fun r96 => f_X5_append c ((v >>> (4 &&& 31)) &&& 3) x r96)) := fun x => by
    obtain ⟨r, hr, e⟩ := w_low (v := v >>> (10 &&& 31)) (n := 100) (by decide) (by decide)
    have e : f_L_low (v >>> (10 &&& 31)) 100 = some (nI r) := e
    rw [e, oR_some]
    exact d_append h _ _ _
  have aa := does_if (p := ((v >>> (9 &&& 31)) &&& 1) = 0) (ap (((v >>> (6 &&& 31)) &&& 7) &&& 3)) (ap ((v >>> (6 &&& 31)) &&& 7))
  refine does_if aa (does_if aa (does_if aa (does_if aa (does_if aa (does_if aa (does_if (does_if (d_reset h _) (d_finish h _)) (does_if (d_close h _) (does_if ?_ (does_if (does_if ?_ (d_setWindow h _ _)) ?_)))))))))
  · obtain ⟨r, hr, e⟩ := w_low (v := v >>> (9 &&& 31)) (n := 9) (by decide) (by decide)
    have e : f_L_low (v >>> (9 &&& 31)) 9 = some (nI r) := e
    rw [e, oR_some]
    exact d_set h _ _
  · obtain ⟨r, hr, e⟩ := w_low (v := v >>> (9 &&& 31)) (n := 9) (by decide) (by decide)
    have e : f_L_low (v >>> (9 &&& 31)) 9 = some (nI r) := e
    rw [e, oR_some]
    exact does_if (d_setZone h _ _ _) (d_setZone h _ _ _)
  · obtain ⟨r, hr, e⟩ := w_low (v := v >>> (4 &&& 31)) (n := 4) (by decide) (by decide)
    have e : f_L_low (v >>> (4 &&& 31)) 4 = some (nI r) := e
    rw [e, oR_some, show (1 : Int32) + nI r = nI (1 + r) from nI_add 1 r]
    exact d_pass h (by omega) (by omega)
