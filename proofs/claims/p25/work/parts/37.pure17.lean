/-! PURE: the reference sends -/
theorem w_sendM {σ : MS} {A : NS} (h : RM (σ.1 1) A) (hn : A.2 0 < 201) (w z v : Nat) : ∃ τ, f_X6_send σ (nI w) (nI z) (nI v) = some (nI (A.2 0), τ) ∧ RM (τ.1 1) (aAdd A w z v) ∧ τ.2 = σ.2 ∧ ∀ j, j ≠ 1 → τ.1 j = σ.1 j := by
  have o : ∀ k, f_X6_ofAppend (nI (A.2 0)) (nI k) = some (nI (194 + 9 * A.2 0 + k)) := fun k => w_ofAppend _ k
  have o0 : f_X6_ofAppend (nI (A.2 0)) 0 = _ := o 0
  have o1 : f_X6_ofAppend (nI (A.2 0)) 1 = _ := o 1
  have o2 : f_X6_ofAppend (nI (A.2 0)) 2 = _ := o 2
  have o3 : f_X6_ofAppend (nI (A.2 0)) 3 = _ := o 3
  have o4 : f_X6_ofAppend (nI (A.2 0)) 4 = _ := o 4
  have o5 : f_X6_ofAppend (nI (A.2 0)) 5 = _ := o 5
  have o6 : f_X6_ofAppend (nI (A.2 0)) 6 = _ := o 6
  have o7 : f_X6_ofAppend (nI (A.2 0)) 7 = _ := o 7
  have o8 : f_X6_ofAppend (nI (A.2 0)) 8 = _ := o 8
  have hs : ∀ k, k < 9 → ∀ {α : Type} {f : Nat → Int32} {x : Int32} {w : (Nat → Int32) → MS} {q : MS → Option α}, oS 2204 f (nI (194 + 9 * A.2 0 + k)) x w q = q (w (upd f (194 + 9 * A.2 0 + k) x)) := fun k hk {_ _ _ _ _} => oS_at (by omega) (by decide)
  have h5 : ∀ {α : Type} {f : Nat → Int32} {x : Int32} {w : (Nat → Int32) → MS} {q : MS → Option α}, oS 2204 f 5 x w q = q (w (upd f 5 x)) := fun {_ _ _ _ _} => oS_at (j := 5) (by decide) (by decide)
  unfold f_X6_send
  rw [oA_lit 5 5 rfl (by decide) (by decide), h.n0, o0, oR_some, hs 0 (by decide), o1, oR_some, hs 1 (by decide), o2, oR_some, hs 2 (by decide), o3, oR_some, hs 3 (by decide), o4, oR_some, hs 4 (by decide), o5, oR_some, hs 5 (by decide), o6, oR_some, hs 6 (by decide), o7, oR_some, hs 7 (by decide), o8, oR_some, hs 8 (by decide), oA_lit 5 5 rfl (by decide) (by decide), h5]
  refine ⟨_, rfl, ?_, rfl, fun j hj => by rw [sA_ne hj, sA_ne hj, sA_ne hj, sA_ne hj, sA_ne hj, sA_ne hj, sA_ne hj, sA_ne hj, sA_ne hj, sA_ne hj]⟩
  simp only [sA_eq]
  refine RM_add h hn (fun i h1 h2 => ?_) ?_ ?_ ?_ ?_ ?_ ?_ ?_ ?_ ?_
  · simp (disch := omega) only [upd_ne]
  · simp (disch := omega) only [upd_ne, Nat.add_zero]; exact upd_eq
  · simp (disch := omega) only [upd_ne, upd_eq]
  · simp (disch := omega) only [upd_ne, upd_eq]
  · simp (disch := omega) only [upd_ne, upd_eq]
  · simp (disch := omega) only [upd_ne, upd_eq]
  · simp (disch := omega) only [upd_ne, upd_eq]
  · simp (disch := omega) only [upd_ne, upd_eq]
  · simp (disch := omega) only [upd_ne, upd_eq]
  · simp (disch := omega) only [upd_ne, upd_eq, h.n0, nI_1]
