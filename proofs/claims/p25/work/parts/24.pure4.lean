/-! PURE: the abstract state's changes; the class's State follows them -/
def setA (A : NS) (m a v : Nat) : NS := (fun j i => if j = m ∧ i = a then v else A.1 j i, A.2)
def setN (A : NS) (k v : Nat) : NS := (A.1, fun j => if j = k then v else A.2 j)
theorem sA_eq {T : Type} {σ : (Nat → Nat → Int32) × T} {m : Nat} {f : Nat → Int32} : (sA σ m f).1 m = f := if_pos rfl
theorem sA_ne {T : Type} {σ : (Nat → Nat → Int32) × T} {m j : Nat} {f : Nat → Int32} (h : j ≠ m) : (sA σ m f).1 j = σ.1 j := if_neg h
theorem sA_2 {T : Type} {σ : (Nat → Nat → Int32) × T} {m : Nat} {f : Nat → Int32} : (sA σ m f).2 = σ.2 := rfl
theorem sN_1 {T : Type} {σ : T × (Nat → Int32)} {k : Nat} {v : Int32} : (sN σ k v).1 = σ.1 := rfl
theorem upd_eq {f : Nat → Int32} {j : Nat} {x : Int32} : upd f j x j = x := if_pos rfl
theorem upd_ne {f : Nat → Int32} {j i : Nat} {x : Int32} (h : i ≠ j) : upd f j x i = f i := if_neg h
theorem sN_eq {T : Type} {σ : T × (Nat → Int32)} {k : Nat} {v : Int32} : (sN σ k v).2 k = v := if_pos rfl
theorem sN_ne {T : Type} {σ : T × (Nat → Int32)} {k j : Nat} {v : Int32} (h : j ≠ k) : (sN σ k v).2 j = σ.2 j := if_neg h
theorem setA_eq {A : NS} {m a v : Nat} : (setA A m a v).1 m a = v := if_pos ⟨rfl, rfl⟩
theorem setA_nm {A : NS} {m a v j i : Nat} (h : j ≠ m) : (setA A m a v).1 j i = A.1 j i := if_neg fun x => h x.1
theorem setA_na {A : NS} {m a v j i : Nat} (h : i ≠ a) : (setA A m a v).1 j i = A.1 j i := if_neg fun x => h x.2
theorem setA_2 {A : NS} {m a v k : Nat} : (setA A m a v).2 k = A.2 k := rfl
theorem setN_1 {A : NS} {k v m a : Nat} : (setN A k v).1 m a = A.1 m a := rfl
theorem setN_eq {A : NS} {k v : Nat} : (setN A k v).2 k = v := if_pos rfl
theorem setN_ne {A : NS} {k v j : Nat} (h : j ≠ k) : (setN A k v).2 j = A.2 j := if_neg h
theorem RC_num {σ : SS} {A : NS} (h : RC σ A) {k v : Nat} (h0 : k ≠ 0) (h1 : k ≠ 1) : RC (sN σ k (nI v)) (setN A k v) := by
  obtain ⟨g1, g2, g3, g4, g5, g6, g7⟩ := h
  refine ⟨fun j j1 j2 => ?_, ?_, ?_, ?_, ?_, g6, g7⟩
  · by_cases e : j = k
    · subst e
      rw [sN_eq, setN_eq]
    · rw [sN_ne e, setN_ne e]
      exact g1 j j1 j2
  · rw [setN_ne (Ne.symm h0)]; exact g2
  · rw [setN_ne (Ne.symm h0)]; exact g3
  · rw [setN_ne (Ne.symm h0)]; exact g4
  · rw [setN_ne (Ne.symm h1)]; exact g5
theorem RC_zone {σ : SS} {A : NS} (h : RC σ A) {m z v : Nat} (hm : 13 ≤ m) (hm2 : m < 21) : RC (sA σ m (upd (σ.1 m) z (nI v))) (setA A m z v) := by
  obtain ⟨g1, g2, g3, g4, g5, g6, g7⟩ := h
  refine ⟨g1, fun j j1 j2 a ha => ?_, fun a ha hp => ?_, fun a ha => ?_, fun k hk => ?_, fun j j1 j2 a ha => ?_, fun j j1 j2 a ha => ?_⟩
  · rw [sA_ne (by omega), setA_nm (by omega)]
    exact g2 j j1 j2 a ha
  · rw [setA_nm (by omega)] at hp
    rw [sA_ne (by omega), sA_ne (by omega), sA_ne (by omega), setA_nm (by omega), setA_nm (by omega), setA_nm (by omega)]
    exact g3 a ha hp
  · rw [sA_ne (by omega), setA_nm (by omega), setA_nm (by omega)]
    exact g4 a ha
  · rw [sA_ne (by omega), setA_nm (by omega)]
    exact g5 k hk
  · by_cases e : j = m
    · subst e
      rw [sA_eq]
      by_cases e2 : a = z
      · subst e2
        rw [upd_eq, setA_eq]
      · rw [upd_ne e2, setA_na e2]
        exact g6 j j1 j2 a ha
    · rw [sA_ne e, setA_nm e]
      exact g6 j j1 j2 a ha
  · by_cases e : j = m
    · subst e
      rw [sA_eq]
      by_cases e2 : a = z
      · subst e2
        rw [upd_eq, setA_eq]
      · rw [upd_ne e2, setA_na e2]
        exact g7 j j1 j2 a ha
    · rw [sA_ne e, setA_nm e]
      exact g7 j j1 j2 a ha
/-- an append fails -/
def aFail (A : NS) (a r : Nat) : NS := setA (setA A 5 a 3) 8 a r
theorem w_markFailed {σ : SS} {A : NS} (h : RC σ A) (b : Bd A) {a r : Nat} (ha : a < A.2 0) : ∃ τ, f_X0_markFailed σ (nI a) (nI r) = some τ ∧ RC τ (aFail A a r) ∧ τ.2 = σ.2 ∧ ∀ j, j ≠ 5 → j ≠ 8 → τ.1 j = σ.1 j := by
  have hn := b.1
  unfold f_X0_markFailed
  rw [oS_at (show a < 201 by omega) (by decide), oS_at (show a < 201 by omega) (by decide)]
  refine ⟨_, rfl, ?_, rfl, fun j e5 e8 => by rw [sA_ne e8, sA_ne e5]⟩
  obtain ⟨g1, g2, g3, g4, g5, g6, g7⟩ := h
  refine ⟨g1, fun j j1 j2 i hi => ?_, fun i hi hp => ?_, fun i hi => ?_, fun k hk => ?_, fun j j1 j2 i hi => ?_, fun j j1 j2 i hi => ?_⟩
  · rw [sA_ne (by omega)]
    unfold aFail
    rw [setA_nm (by omega)]
    by_cases e : j = 5
    · subst e
      rw [sA_eq]
      by_cases e2 : i = a
      · subst e2
        rw [upd_eq, setA_eq]; rfl
      · rw [upd_ne e2, setA_na e2]
        exact g2 5 j1 j2 i hi
    · rw [sA_ne e, setA_nm e]
      exact g2 j j1 j2 i hi
  · unfold aFail at hp ⊢
    rw [setA_nm (by omega)] at hp
    by_cases e2 : i = a
    · subst e2
      rw [setA_eq] at hp
      omega
    · rw [setA_na e2] at hp
      simp only [setA_na e2]
      rw [sA_ne (by omega), sA_ne (by omega), sA_ne (by omega), sA_ne (by omega), sA_ne (by omega), sA_ne (by omega)]
      exact g3 i hi hp
  · unfold aFail
    rw [sA_eq, sA_ne (by omega)]
    by_cases e2 : i = a
    · subst e2
      rw [upd_eq, setA_nm (by omega), setA_eq, if_pos rfl, setA_eq]
    · rw [upd_ne e2]
      simp only [setA_na e2]
      exact g4 i hi
  · unfold aFail
    rw [sA_ne (by omega), sA_ne (by omega), setA_nm (by omega), setA_nm (by omega)]
    exact g5 k hk
  · unfold aFail
    rw [sA_ne (by omega), sA_ne (by omega), setA_nm (by omega), setA_nm (by omega)]
    exact g6 j j1 j2 i hi
  · unfold aFail
    rw [sA_ne (by omega), sA_ne (by omega), setA_nm (by omega), setA_nm (by omega)]
    exact g7 j j1 j2 i hi
