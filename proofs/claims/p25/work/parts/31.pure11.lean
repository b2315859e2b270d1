/-! PURE: the class drops the ended from its live list -/
theorem w_isLive {σ : SS} {A : NS} (h : RC σ A) (b : Bd A) {a : Nat} (ha : a < A.2 0) : f_X0_isLive σ (nI a) = some (if decide (A.1 5 a = 0 ∨ A.1 5 a = 1) = true then 1 else 0) := by
  have hn := b.1
  have hl : a < 201 := by omega
  have g0 : (nI (A.1 5 a) = 0) ↔ A.1 5 a = 0 := nI_eq (b := 0) (b.2.1 5 a) (by decide)
  have g1 : (nI (A.1 5 a) = 1) ↔ A.1 5 a = 1 := nI_eq (b := 1) (b.2.1 5 a) (by decide)
  unfold f_X0_isLive
  rw [oA_at hl (by decide), oA_at hl (by decide), h.ap (by decide) (by decide) ha]
  simp only [g0, g1]
  by_cases e0 : A.1 5 a = 0
  · simp [e0, oB1]
  · by_cases e1 : A.1 5 a = 1
    · simp [e1, oB1]
    · simp [e0, e1, oB0]
/-- what a State's other parts are, its live list aside -/
def SameBut (σ τ : SS) : Prop := (∀ k, k ≠ 2 → τ.2 k = σ.2 k) ∧ ∀ j, j ≠ 11 → τ.1 j = σ.1 j
theorem SameBut.rc {σ τ : SS} {A : NS} (s : SameBut σ τ) (h : RC σ A) : RC τ A := by
  obtain ⟨g1, g2, g3, g4, g5, g6, g7⟩ := h
  refine ⟨fun j j1 j2 => by rw [s.1 j j2]; exact g1 j j1 j2, fun j j1 j2 i hi => by rw [s.2 j (by omega)]; exact g2 j j1 j2 i hi, fun i hi hp => by rw [s.2 6 (by decide), s.2 7 (by decide), s.2 9 (by decide)]; exact g3 i hi hp, fun i hi => by rw [s.2 8 (by decide)]; exact g4 i hi, fun k hk => by rw [s.2 10 (by decide)]; exact g5 k hk, fun j j1 j2 i hi => by rw [s.2 j (by omega)]; exact g6 j j1 j2 i hi, fun j j1 j2 i hi => by rw [s.2 j (by omega)]; exact g7 j j1 j2 i hi⟩
theorem w_dropEnded {σ : SS} {A : NS} {P : Nat → Bool} (h : RC σ A) (b : Bd A) (lv : LV σ (A.2 0) P) : ∃ τ, f_X0_dropEnded σ = some τ ∧ SameBut σ τ ∧ LV τ (A.2 0) (fun a => decide (A.1 5 a = 0 ∨ A.1 5 a = 1) && P a) := by
  have hn := b.1
  have hl := lv.2.1
  unfold f_X0_dropEnded
  generalize hK : (fun a => decide (A.1 5 a = 0 ∨ A.1 5 a = 1)) = K
  have hKa : ∀ a, decide (A.1 5 a = 0 ∨ A.1 5 a = 1) = K a := fun a => by rw [← hK]
  generalize hL : (List.range (A.2 0)).filter P = l at hl
  have hlt : ∀ i (hi : i < l.length), l[i] < A.2 0 := fun i hi => by subst hL; exact (live_lt hi).1
  have hat : ∀ i (hi : i < l.length), σ.1 11 i = nI l[i] := by subst hL; exact lv.2.2
  have hlen : σ.2 2 = nI l.length := by subst hL; exact lv.1
  have hT : ∀ i (hi : i < l.length), (l.take (i + 1)).filter K = (l.take i).filter K ++ (if K l[i] = true then [l[i]] else []) := fun i hi => by
    rw [List.take_succ, List.filter_append, List.getElem?_eq_getElem hi]
    congr 1
    by_cases e : K l[i] = true
    · simp [e]
    · simp [e]
  have hle : ∀ i, ((l.take i).filter K).length ≤ i := fun i => Nat.le_trans (List.length_filter_le _ _) (by rw [List.length_take]; omega)
  have L := loop_rel (B := Unit) l (fun m i (c : Int32 × SS) => f_X0_dropEnded_L4 (fun w1_46 sx46 => oN w1_46 (sN sx46 2) (fun s48 => some s48)) m c.1 i c.2) (fun c => some (sN c.2 2 c.1)) (fun _ b => b)
    (fun i _ c => c.1 = nI ((l.take i).filter K).length ∧ (c.2.2 = σ.2 ∧ ∀ j, j ≠ 11 → c.2.1 j = σ.1 j) ∧ (∀ j x, ((l.take i).filter K)[j]? = some x → c.2.1 11 j = nI x) ∧ ∀ j (hj : j < l.length), i ≤ j → c.2.1 11 j = nI l[j]) (fun m _ c hR => ?_) (fun m i _ c hi hR => ?_) (nI 0, σ) () FU
    ⟨rfl, ⟨rfl, fun _ _ => rfl⟩, fun j x hx => by simp at hx, fun j hj _ => hat j hj⟩ (by show _ < 20000; omega)
  · obtain ⟨⟨c, s⟩, ⟨h1, h2, h3, h4⟩, e⟩ := L
    refine ⟨sN s 2 c, e, ⟨fun k hk => by rw [sN_ne hk]; exact congrFun h2.1 k, fun j hj => by rw [sN_1]; exact h2.2 j hj⟩, ?_⟩
    have hF : (List.range (A.2 0)).filter (fun a => decide (A.1 5 a = 0 ∨ A.1 5 a = 1) && P a) = (l.take l.length).filter K := by
      simp only [hKa]
      rw [List.take_length, ← hL, List.filter_filter]
    unfold LV
    rw [hF, sN_eq, sN_1]
    exact ⟨h1, Nat.le_trans (hle _) hl, fun i hi => h3 i _ (List.getElem?_eq_getElem hi)⟩
  · obtain ⟨h1, h2, h3, h4⟩ := hR
    show f_X0_dropEnded_L4 (fun w1_46 sx46 => oN w1_46 (sN sx46 2) (fun s48 => some s48)) (m + 1) c.1 (nI l.length) c.2 = _
    rw [f_X0_dropEnded_L4, h2.1, hlen, if_pos (nI_le (Nat.le_refl _) (by omega)), oN_to]
  · obtain ⟨cc, s⟩ := c
    obtain ⟨h1, h2, h3, h4⟩ := hR
    have h1 : cc = nI ((l.take i).filter K).length := h1
    subst h1
    have hs2 : s.2 = σ.2 := h2.1
    have hsA : ∀ j, j ≠ 11 → s.1 j = σ.1 j := h2.2
    have rc : RC s A := SameBut.rc ⟨fun k _ => by rw [hs2], hsA⟩ h
    have e11 : s.1 11 i = nI l[i] := h4 i hi (Nat.le_refl _)
    have k33 : ((l.take i).filter K).length < 33 := Nat.lt_of_le_of_lt (hle i) (by omega)
    show ∃ c' : Int32 × SS, _ ∧ f_X0_dropEnded_L4 (fun w1_46 sx46 => oN w1_46 (sN sx46 2) (fun s48 => some s48)) (m + 1) (nI ((l.take i).filter K).length) (nI i) s = f_X0_dropEnded_L4 (fun w1_46 sx46 => oN w1_46 (sN sx46 2) (fun s48 => some s48)) m c'.1 (nI (i + 1)) c'.2
    rw [f_X0_dropEnded_L4, hs2, hlen, if_neg (nI_ge hi (by omega)), oA_at (show i < 33 by omega) (by decide), e11, w_isLive rc b (hlt i hi), oR_some, oJ_to, oA_at (show i < 33 by omega) (by decide), e11, oS_at k33 (by decide), nI_1, nI_1, hKa, hT i hi]
    by_cases e : K l[i] = true
    · simp only [if_pos e]
      rw [if_neg (show ¬ (1 : Int32) = 0 by decide)]
      refine ⟨(nI (((l.take i).filter K).length + 1), sA s 11 (upd (s.1 11) ((l.take i).filter K).length (nI l[i]))), ⟨?_, ⟨hs2, fun j hj => by rw [sA_ne hj]; exact hsA j hj⟩, fun j x hx => ?_, fun j hj hij => ?_⟩, rfl⟩
      · rw [List.length_append]; rfl
      · rw [sA_eq]
        by_cases ej : j = ((l.take i).filter K).length
        · subst ej
          rw [upd_eq]
          rw [List.getElem?_append_right (Nat.le_refl _), Nat.sub_self] at hx
          simp at hx
          rw [hx]
        · rw [upd_ne ej]
          by_cases ej2 : j < ((l.take i).filter K).length
          · rw [List.getElem?_append_left ej2] at hx
            exact h3 j x hx
          · rw [List.getElem?_append_right (by omega)] at hx
            rw [List.getElem?_eq_none (by simp; omega)] at hx
            cases hx
      · have := hle i
        rw [sA_eq, upd_ne (by omega)]
        exact h4 j hj (by omega)
    · simp only [if_neg e]
      rw [if_pos trivial, List.append_nil]
      exact ⟨(_, s), ⟨rfl, h2, h3, fun j hj hij => h4 j hj (by omega)⟩, rfl⟩
