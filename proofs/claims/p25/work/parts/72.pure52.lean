/-! PURE: the automaton along one order -/
theorem cr_ne {t : Nat → Nat} {L i lo hi : Nat} (h : dg (cr t L i) lo hi = true) (hl : 0 < lo) : i < L := cr_lt (t := t) (by have := dg_t.1 h; omega)
theorem fa_ord {c : CS} {L : Nat} {t : Nat → Nat} (h : TC c L t) {p : Nat} (hp : p ≤ L) :
    ((oOrd (cr t L) p).1 = true → ∃ s, (s = 8 ∨ s = 5 ∧ dg (cr t L (oOrd (cr t L) p).2) 48 57 = false) ∧ p + 2 ≤ (oOrd (cr t L) p).2 ∧ (oOrd (cr t L) p).2 ≤ L ∧ (∀ i, p ≤ i → i < (oOrd (cr t L) p).2 → cr t L i ≠ 59) ∧ ∀ m, f_X2_fault_L4 c (kFa c) (m + ((oOrd (cr t L) p).2 - p)) (nI 0) (nI p) = f_X2_fault_L4 c (kFa c) m (nI s) (nI (oOrd (cr t L) p).2)) ∧
    ((oOrd (cr t L) p).1 = false → p ≤ (oOrd (cr t L) p).2 ∧ (oOrd (cr t L) p).2 ≤ L ∧ ∀ m, f_X2_fault_L4 c (kFa c) (m + 1 + ((oOrd (cr t L) p).2 - p)) (nI 0) (nI p) = some (nI (oOrd (cr t L) p).2)) := by
  generalize hcc : cr t L = cc
  have go : ∀ {m s q} (s' : Nat), s < 9 → q < L → pbh s (cc q) = s' → s' ≠ 9 → f_X2_fault_L4 c (kFa c) (m + 1) (nI s) (nI q) = f_X2_fault_L4 c (kFa c) m (nI s') (nI (q + 1)) := fun s' h1 h2 h3 h4 => fa_go h h1 h2 (by rw [hcc]; exact h3) h4
  have bad : ∀ {m s q}, s < 9 → q ≤ L → pbh s (cc q) = 9 → s ≠ 5 → s ≠ 8 → f_X2_fault_L4 c (kFa c) (m + 1) (nI s) (nI q) = some (nI q) := fun h1 h2 h3 h5 h8 => fa_bad h h1 h2 (by rw [hcc]; exact h3) h5 h8
  have lt0 : ∀ {i}, cc i ≠ 0 → i < L := fun {i} x => cr_lt (t := t) (L := L) (by rw [hcc]; exact x)
  have ltd : ∀ {i lo hi}, dg (cc i) lo hi = true → 0 < lo → i < L := fun {i lo hi} x y => cr_ne (t := t) (L := L) (by rw [hcc]; exact x) y
  unfold oOrd
  by_cases a1 : cc p = 114 ∨ cc p = 102
  · have hpL : p < L := lt0 (by omega)
    have s0 : pbh 0 (cc p) = 6 := by
      rcases a1 with e | e <;> rw [e] <;> rfl
    rw [if_pos a1]
    by_cases d : dg (cc (p + 1)) 48 55 = true
    · rw [if_pos d]
      have h1 := ltd d (by decide)
      refine ⟨fun _ => ⟨8, Or.inl rfl, Nat.le_refl _, h1, fun i i1 i2 => ?_, fun m => ?_⟩, fun x => absurd x (by simp)⟩
      · have := dg_t.1 d
        rcases (by simp at i2; omega : i = p ∨ i = p + 1) with e | e <;> subst e <;> omega
      · rw [show m + ((true, p + 2).2 - p) = m + 1 + 1 by simp, go 6 (by decide) hpL s0 (by decide), go 8 (by decide) h1 (by show (if dg (cc (p + 1)) 48 55 = true then 8 else 9) = 8; rw [if_pos d]) (by decide)]
    · rw [if_neg d]
      refine ⟨fun x => absurd x (by simp), fun _ => ⟨Nat.le_succ p, hpL, fun m => ?_⟩⟩
      rw [show m + 1 + ((false, p + 1).2 - p) = m + 1 + 1 by simp, go 6 (by decide) hpL s0 (by decide), bad (by decide) hpL (by show (if dg (cc (p + 1)) 48 55 = true then 8 else 9) = 9; rw [if_neg d]) (by decide) (by decide)]
  rw [if_neg a1]
  by_cases a2 : cc p = 112
  · have hpL : p < L := lt0 (by omega)
    have s0 : pbh 0 (cc p) = 7 := by rw [a2]; rfl
    rw [if_pos a2]
    by_cases d : dg (cc (p + 1)) 49 57 = true
    · rw [if_pos d]
      have h1 := ltd d (by decide)
      refine ⟨fun _ => ⟨8, Or.inl rfl, Nat.le_refl _, h1, fun i i1 i2 => ?_, fun m => ?_⟩, fun x => absurd x (by simp)⟩
      · have := dg_t.1 d
        rcases (by simp at i2; omega : i = p ∨ i = p + 1) with e | e <;> subst e <;> omega
      · rw [show m + ((true, p + 2).2 - p) = m + 1 + 1 by simp, go 7 (by decide) hpL s0 (by decide), go 8 (by decide) h1 (by show (if dg (cc (p + 1)) 49 57 = true then 8 else 9) = 8; rw [if_pos d]) (by decide)]
    · rw [if_neg d]
      refine ⟨fun x => absurd x (by simp), fun _ => ⟨Nat.le_succ p, hpL, fun m => ?_⟩⟩
      rw [show m + 1 + ((false, p + 1).2 - p) = m + 1 + 1 by simp, go 7 (by decide) hpL s0 (by decide), bad (by decide) hpL (by show (if dg (cc (p + 1)) 49 57 = true then 8 else 9) = 9; rw [if_neg d]) (by decide) (by decide)]
  rw [if_neg a2]
  by_cases b0 : dg (cc p) 48 51 = true
  · rw [if_pos b0]
    have h0 := ltd b0 (by decide)
    have s0 : pbh 0 (cc p) = 1 := if_pos b0
    by_cases b1 : cc (p + 1) = 62
    · rw [if_pos b1]
      have h1 := lt0 (i := p + 1) (by omega)
      have s1 : pbh 1 (cc (p + 1)) = 2 := if_pos b1
      by_cases b2 : dg (cc (p + 2)) 48 55 = true
      · rw [if_pos b2]
        have h2 := ltd b2 (by decide)
        have s2 : pbh 2 (cc (p + 2)) = 3 := if_pos b2
        by_cases b3 : cc (p + 3) = 61
        · rw [if_pos b3]
          have h3 := lt0 (i := p + 3) (by omega)
          have s3 : pbh 3 (cc (p + 3)) = 4 := if_pos b3
          by_cases b4 : dg (cc (p + 4)) 48 57 = true
          · rw [if_pos b4]
            have h4 := ltd b4 (by decide)
            have r0 := dg_t.1 b0
            have r2 := dg_t.1 b2
            have r4 := dg_t.1 b4
            by_cases b5 : dg (cc (p + 4)) 49 57 = true ∧ dg (cc (p + 5)) 48 57 = true
            · rw [if_pos b5]
              have h5 := ltd b5.2 (by decide)
              have r5 := dg_t.1 b5.2
              have r49 := dg_t.1 b5.1
              have s4 : pbh 4 (cc (p + 4)) = 5 := by
                show (if cc (p + 4) = 48 then 8 else if dg (cc (p + 4)) 49 57 = true then 5 else 9) = 5
                rw [if_neg (by omega), if_pos b5.1]
              have s5 : pbh 5 (cc (p + 5)) = 8 := if_pos b5.2
              refine ⟨fun _ => ⟨8, Or.inl rfl, by simp, h5, fun i i1 i2 => ?_, fun m => ?_⟩, fun x => absurd x (by simp)⟩
              · rcases (by simp at i2; omega : i = p ∨ i = p + 1 ∨ i = p + 2 ∨ i = p + 3 ∨ i = p + 4 ∨ i = p + 5) with e | e | e | e | e | e <;> subst e <;> omega
              · rw [show m + ((true, p + 6).2 - p) = m + 1 + 1 + 1 + 1 + 1 + 1 by simp, go 1 (by decide) h0 s0 (by decide), go 2 (by decide) h1 s1 (by decide), go 3 (by decide) h2 s2 (by decide), go 4 (by decide) h3 s3 (by decide), go 5 (by decide) h4 s4 (by decide), go 8 (by decide) h5 s5 (by decide)]
            · rw [if_neg b5]
              by_cases b6 : cc (p + 4) = 48
              · have s4 : pbh 4 (cc (p + 4)) = 8 := if_pos b6
                refine ⟨fun _ => ⟨8, Or.inl rfl, by simp, h4, fun i i1 i2 => ?_, fun m => ?_⟩, fun x => absurd x (by simp)⟩
                · rcases (by simp at i2; omega : i = p ∨ i = p + 1 ∨ i = p + 2 ∨ i = p + 3 ∨ i = p + 4) with e | e | e | e | e <;> subst e <;> omega
                · rw [show m + ((true, p + 5).2 - p) = m + 1 + 1 + 1 + 1 + 1 by simp, go 1 (by decide) h0 s0 (by decide), go 2 (by decide) h1 s1 (by decide), go 3 (by decide) h2 s2 (by decide), go 4 (by decide) h3 s3 (by decide), go 8 (by decide) h4 s4 (by decide)]
              · have b49 : dg (cc (p + 4)) 49 57 = true := dg_t.2 (by omega)
                have s4 : pbh 4 (cc (p + 4)) = 5 := by
                  show (if cc (p + 4) = 48 then 8 else if dg (cc (p + 4)) 49 57 = true then 5 else 9) = 5
                  rw [if_neg b6, if_pos b49]
                have d5 : dg (cc (p + 5)) 48 57 = false := by
                  by_cases x : dg (cc (p + 5)) 48 57 = true
                  · exact absurd ⟨b49, x⟩ b5
                  · simpa using x
                refine ⟨fun _ => ⟨5, Or.inr ⟨rfl, d5⟩, by simp, h4, fun i i1 i2 => ?_, fun m => ?_⟩, fun x => absurd x (by simp)⟩
                · rcases (by simp at i2; omega : i = p ∨ i = p + 1 ∨ i = p + 2 ∨ i = p + 3 ∨ i = p + 4) with e | e | e | e | e <;> subst e <;> omega
                · rw [show m + ((true, p + 5).2 - p) = m + 1 + 1 + 1 + 1 + 1 by simp, go 1 (by decide) h0 s0 (by decide), go 2 (by decide) h1 s1 (by decide), go 3 (by decide) h2 s2 (by decide), go 4 (by decide) h3 s3 (by decide), go 5 (by decide) h4 s4 (by decide)]
          · rw [if_neg b4]
            have s4 : pbh 4 (cc (p + 4)) = 9 := by
              show (if cc (p + 4) = 48 then 8 else if dg (cc (p + 4)) 49 57 = true then 5 else 9) = 9
              rw [dg_t] at b4
              rw [if_neg (by omega), if_neg (by rw [dg_t]; omega)]
            refine ⟨fun x => absurd x (by simp), fun _ => ⟨by simp, h3, fun m => ?_⟩⟩
            rw [show m + 1 + ((false, p + 4).2 - p) = m + 1 + 1 + 1 + 1 + 1 by simp, go 1 (by decide) h0 s0 (by decide), go 2 (by decide) h1 s1 (by decide), go 3 (by decide) h2 s2 (by decide), go 4 (by decide) h3 s3 (by decide), bad (by decide) h3 s4 (by decide) (by decide)]
        · rw [if_neg b3]
          refine ⟨fun x => absurd x (by simp), fun _ => ⟨by simp, h2, fun m => ?_⟩⟩
          rw [show m + 1 + ((false, p + 3).2 - p) = m + 1 + 1 + 1 + 1 by simp, go 1 (by decide) h0 s0 (by decide), go 2 (by decide) h1 s1 (by decide), go 3 (by decide) h2 s2 (by decide), bad (by decide) h2 (show pbh 3 (cc (p + 3)) = 9 from if_neg b3) (by decide) (by decide)]
      · rw [if_neg b2]
        refine ⟨fun x => absurd x (by simp), fun _ => ⟨by simp, h1, fun m => ?_⟩⟩
        rw [show m + 1 + ((false, p + 2).2 - p) = m + 1 + 1 + 1 by simp, go 1 (by decide) h0 s0 (by decide), go 2 (by decide) h1 s1 (by decide), bad (by decide) h1 (show pbh 2 (cc (p + 2)) = 9 from if_neg b2) (by decide) (by decide)]
    · rw [if_neg b1]
      refine ⟨fun x => absurd x (by simp), fun _ => ⟨by simp, h0, fun m => ?_⟩⟩
      rw [show m + 1 + ((false, p + 1).2 - p) = m + 1 + 1 by simp, go 1 (by decide) h0 s0 (by decide), bad (by decide) h0 (show pbh 1 (cc (p + 1)) = 9 from if_neg b1) (by decide) (by decide)]
  · rw [if_neg b0]
    refine ⟨fun x => absurd x (by simp), fun _ => ⟨Nat.le_refl _, hp, fun m => ?_⟩⟩
    rw [show m + 1 + ((false, p).2 - p) = m + 1 by simp]
    refine bad (by decide) hp ?_ (by decide) (by decide)
    show (if dg (cc p) 48 51 = true then 1 else if cc p = 114 then 6 else if cc p = 102 then 6 else if cc p = 112 then 7 else 9) = 9
    rw [if_neg b0, if_neg (fun x => a1 (Or.inl x)), if_neg (fun x => a1 (Or.inr x)), if_neg a2]
