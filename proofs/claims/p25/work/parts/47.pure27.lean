/-! PURE: the reference tells what is due -/
theorem w_tellL {σ : MS} {A : NS} (h : RM (σ.1 1) A) (I : Iv A) {a : Nat} (ha : a < A.2 0) {k : Int32 → Option MS} : f_X6_tell_L28 σ (nI a) (nI (A.1 2 a)) k FU 0 0 = k (if aheadB A a = true then 1 else 0) := by
  have hn := I.a.1
  have b := I.b
  obtain ⟨c, hc, e⟩ := loop_to (B := Unit) a (fun m i c => f_X6_tell_L28 σ (nI a) (nI (A.1 2 a)) k m c i) k (fun _ b => b)
    (fun i _ c => c = if (List.range i).any (fun b => decide (A.1 2 b = A.1 2 a ∧ (A.1 5 b = 0 ∨ A.1 5 b = 1))) = true then 1 else 0) (fun m _ c hR => by
      show f_X6_tell_L28 σ (nI a) (nI (A.1 2 a)) k (m + 1) c (nI a) = _
      rw [f_X6_tell_L28, if_pos (nI_le (Nat.le_refl _) (by omega))]) (fun m i _ c hi hR => by
      have a0 := h.ap (k := 0) (show i < A.2 0 by omega) (by decide)
      have a3 := h.ap (k := 3) (show i < A.2 0 by omega) (by decide)
      have l0 : 194 + 9 * i < 2204 := by omega
      have l3 : 194 + 9 * i + 3 < 2204 := by omega
      show ∃ c' : Int32, _ ∧ f_X6_tell_L28 σ (nI a) (nI (A.1 2 a)) k (m + 1) c (nI i) = f_X6_tell_L28 σ (nI a) (nI (A.1 2 a)) k m c' (nI (i + 1))
      rw [f_X6_tell_L28, if_neg (nI_ge hi (by omega)), List.range_succ, List.any_append, hR]
      simp only [oJ_to, nI_1]
      by_cases e0 : (List.range i).any (fun b => decide (A.1 2 b = A.1 2 a ∧ (A.1 5 b = 0 ∨ A.1 5 b = 1))) = true
      · rw [if_pos e0, if_neg (show ¬ (1 : Int32) = 0 by decide)]
        exact ⟨1, by rw [e0]; rfl, rfl⟩
      · rw [if_neg e0, if_pos rfl, rA0, oA_b l0, show σ.1 1 (194 + 9 * i) = nI (A.1 2 i) from a0, if_eqN (b.2.1 2 i) (b.2.1 2 a)]
        have e0' : (List.range i).any (fun b => decide (A.1 2 b = A.1 2 a ∧ (A.1 5 b = 0 ∨ A.1 5 b = 1))) = false := by simpa using e0
        rw [e0']
        by_cases e1 : A.1 2 i = A.1 2 a
        · rw [if_pos e1, rA3, oA_b l3, a3, show (2 : Int32) = nI 2 from rfl, if_leN (by decide) (b.2.1 5 i)]
          by_cases e2 : 2 ≤ A.1 5 i
          · rw [if_pos e2]
            refine ⟨0, ?_, rfl⟩
            rw [if_neg]
            simp [e1]; omega
          · rw [if_neg e2]
            refine ⟨1, ?_, rfl⟩
            rw [if_pos]
            simp [e1]; omega
        · rw [if_neg e1]
          refine ⟨0, ?_, rfl⟩
          rw [if_neg]
          simp [e1]) 0 () FU rfl (by show a < 20000; omega)
  have hc' : c = if aheadB A a = true then 1 else 0 := hc
  rw [← hc']
  exact e
theorem w_tell {σ : MS} {A : NS} (h : RM (σ.1 1) A) (I : Iv A) {a : Nat} (ha : a < A.2 0) (hp : A.1 5 a = 1) (ht : A.1 7 a = A.2 10) : ∃ τ, f_X6_tell σ (nI a) = some τ ∧ RM (τ.1 1) (aTell1 A a) ∧ τ.2 = σ.2 ∧ ∀ j, j ≠ 1 → τ.1 j = σ.1 j := by
  have hn := I.a.1
  have b := I.b
  have hz : A.1 3 a < 8 := (I.a.2 a ha).2.1
  have hw : A.1 2 a < 4 := (I.a.2 a ha).1
  have hg := I.h.2.1 a ha hp
  have hpl := (I.h.1 a ha (Or.inl hp)).2 hg
  have hZ := I.z _ hz
  have hZ2 := hZ.2.1.2
  have hZ3 := hZ.2.2.2.1
  have hp16 : A.1 6 a < 16 := by omega
  have htl := told_lt I ha (by rw [hp]; decide)
  have a0 : σ.1 1 (194 + 9 * a) = nI (A.1 2 a) := h.ap (k := 0) ha (by decide)
  have a1 : σ.1 1 (194 + 9 * a + 1) = nI (A.1 3 a) := h.ap (k := 1) ha (by decide)
  have a4 : σ.1 1 (194 + 9 * a + 4) = nI (A.1 6 a) := by rw [(h.2.2.2.2.2.1 a ha).1, if_pos (Or.inl hp)]
  have g4 : σ.1 1 (10 + 22 * A.1 3 a + 4) = nI (A.1 17 (A.1 3 a)) := h.zn hz (by decide)
  have w1 : σ.1 1 (186 + 2 * A.1 2 a + 1) = nI (A.1 20 (A.1 2 a)) := (h.2.2.2.1 _ hw).2
  have s0 := h.lit.1
  have s9 : σ.1 1 9 = nI (A.2 1) := h.lit.2.2.2.2.2.2.2.2.2
  unfold f_X6_tell
  rw [rA1, oA_b (by omega), a1, rA0, oA_b (by omega), a0, w_tellL h I ha, rW1, oA_b (by omega), w1]
  have key : ∀ t : Int32, RM (upd (σ.1 1) (186 + 2 * A.1 2 a + 1) (nI (A.1 20 (A.1 2 a)) + t)) (if aheadB A a = true then setA A 20 (A.1 2 a) (A.1 20 (A.1 2 a) + 1) else A) → ∃ τ, (oS 2204 (σ.1 1) (nI (186 + 2 * A.1 2 a + 1)) (nI (A.1 20 (A.1 2 a)) + t) (sA σ 1) (fun s104 => oR (f_X6_ofAppend (nI a) 3) (fun r111 => oS 2204 (s104.1 1) r111 2 (sA s104 1) (fun s115 => oR (f_X6_ofAppend (nI a) 5) (fun r122 => oA 2204 (s115.1 1) 0 (fun x130 => oS 2204 (s115.1 1) r122 x130 (sA s115 1) (fun s131 => oR (f_X6_ofAppend (nI a) 7) (fun r139 => oR (f_X6_of (nI (A.1 3 a)) 4) (fun r148 => oA 2204 (s131.1 1) r148 (fun x151 => oS 2204 (s131.1 1) r139 x151 (sA s131 1) (fun s152 => oR (f_X6_ofAppend (nI a) 4) (fun r166 => oA 2204 (s152.1 1) r166 (fun x169 => oR (f_X6_of (nI (A.1 3 a)) (6 + x169)) (fun r171 => oS 2204 (s152.1 1) r171 (nI a) (sA s152 1) (fun s175 => oA 2204 (s175.1 1) 9 (fun x189 => oS 2204 (s175.1 1) (2003 + x189) (nI a) (sA s175 1) (fun s192 => oA 2204 (s192.1 1) 9 (fun x200 => oS 2204 (s192.1 1) 9 (x200 + 1) (sA s192 1) (fun s203 => some s203))))))))))))))))))) = some τ ∧ RM (τ.1 1) (aTell1 A a) ∧ τ.2 = σ.2 ∧ ∀ j, j ≠ 1 → τ.1 j = σ.1 j := by
    intro t hRM
    rw [oS_b (by omega), rA3, oS_b (by omega), rA5, oL0, oS_b (by omega), rA7, rZ4, oA_b (by omega), oS_b (by omega), rA4, oA_b (by omega)]
    simp only [sA_eq]
    rw [upd_ne (i := 0) (by omega), upd_ne (i := 0) (by omega), s0]
    rw [upd_ne (i := 10 + 22 * A.1 3 a + 4) (by omega), upd_ne (i := 10 + 22 * A.1 3 a + 4) (by omega), upd_ne (i := 10 + 22 * A.1 3 a + 4) (by omega), g4]
    rw [upd_ne (i := 194 + 9 * a + 4) (by omega), upd_ne (i := 194 + 9 * a + 4) (by omega), upd_ne (i := 194 + 9 * a + 4) (by omega), upd_ne (i := 194 + 9 * a + 4) (by omega), a4, rB, oS_b (by omega), oL9]
    simp only [sA_eq]
    rw [upd_ne (i := 9) (by omega), upd_ne (i := 9) (by omega), upd_ne (i := 9) (by omega), upd_ne (i := 9) (by omega), upd_ne (i := 9) (by omega), s9, n2003, oS_b (by omega), oL9, oM9]
    simp only [sA_eq]
    rw [upd_ne (i := 9) (by omega), upd_ne (i := 9) (by omega), upd_ne (i := 9) (by omega), upd_ne (i := 9) (by omega), upd_ne (i := 9) (by omega), upd_ne (i := 9) (by omega), s9, nI_1]
    refine ⟨_, rfl, ?_, rfl, fun j hj => ?_⟩
    · rw [sA_eq]
      have R := RM_told hRM (a := a) (z := A.1 3 a) (p := A.1 6 a) (by split <;> exact ha) (by split <;> exact hn) (by split <;> first | exact hp | (rw [setA_nm (by decide)]; exact hp)) (by split <;> first | rfl | (rw [setA_nm (by decide)])) hz (by split <;> first | rfl | (rw [setA_nm (by decide)])) hp16 (by split <;> first | exact hg | (rw [setA_nm (by decide), setA_nm (by decide)]; exact hg)) (by split <;> first | exact ht | (rw [setA_nm (by decide)]; exact ht)) (by split <;> exact htl)
      have n1 : (if aheadB A a = true then setA A 20 (A.1 2 a) (A.1 20 (A.1 2 a) + 1) else A).2 1 = A.2 1 := by split <;> rfl
      have n10 : (if aheadB A a = true then setA A 20 (A.1 2 a) (A.1 20 (A.1 2 a) + 1) else A).2 10 = A.2 10 := by split <;> rfl
      have n17 : (if aheadB A a = true then setA A 20 (A.1 2 a) (A.1 20 (A.1 2 a) + 1) else A).1 17 (A.1 3 a) = A.1 17 (A.1 3 a) := by split <;> first | rfl | (rw [setA_nm (by decide)])
      rw [n1, n10, n17] at R
      exact R
    · rw [sA_ne hj, sA_ne hj, sA_ne hj, sA_ne hj, sA_ne hj, sA_ne hj, sA_ne hj]
  by_cases e : aheadB A a = true
  · have := key 1 (by rw [if_pos e, nI_1]; exact RM_wr (k := 1) h hw (by decide))
    rw [if_pos e]
    simp only [oJ_to]
    rw [if_neg (by decide)]
    exact this
  · have := key 0 (by rw [if_neg e, show nI (A.1 20 (A.1 2 a)) + (0 : Int32) = nI (A.1 20 (A.1 2 a)) from nI_add _ 0, upd_self w1]; exact h)
    rw [if_neg e]
    simp only [oJ_to]
    rw [if_pos trivial]
    exact this
