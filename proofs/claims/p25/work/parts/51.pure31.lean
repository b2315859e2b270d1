/-! PURE: the reference looks at an append that waits -/
theorem NS_ext {A B : NS} (h1 : ∀ j i, A.1 j i = B.1 j i) (h2 : ∀ k, A.2 k = B.2 k) : A = B := Prod.ext (funext fun j => funext fun i => h1 j i) (funext h2)
def InM (σ τ : MS) : Prop := τ.2 = σ.2 ∧ ∀ j, j ≠ 1 → τ.1 j = σ.1 j
theorem InM.refl {σ : MS} : InM σ σ := ⟨rfl, fun _ _ => rfl⟩
theorem InM.trans {σ τ ρ : MS} (h : InM σ τ) (g : InM τ ρ) : InM σ ρ := ⟨g.1.trans h.1, fun j hj => (g.2 j hj).trans (h.2 j hj)⟩
theorem InM.sA {σ : MS} {f : Nat → Int32} : InM σ (sA σ 1 f) := ⟨rfl, fun _ hj => sA_ne hj⟩
theorem w_openKM {σ : MS} {A : NS} (h : RM (σ.1 1) A) (I : Iv A) {z : Nat} (hz : z < 8) :
    (nOpen A < A.2 4 ∨ idl A 8 ≠ 8 → ∃ τ, (oR (f_X6_zones σ 0) (fun r40 => oA 2204 (σ.1 1) 1 (fun x48 => oJ (κ := MS → Option (Int32 × MS)) (fun s_87 => oR (f_X6_of (nI z) 0) (fun r93 => oS 2204 (s_87.1 1) r93 1 (sA s_87 1) (fun s97 => (oB 1).map (fun x => (x, s97))))) (fun k87 => if r40 < x48 then (k87 σ) else (oR (f_X6_idlest σ) (fun r53 => if r53 = (-5) then ((oB 0).map (fun x => (x, σ))) else (oR (f_X6_of r53 0) (fun r71 => oS 2204 (σ.1 1) r71 2 (sA σ 1) (fun s75 => oA 2204 (s75.1 1) 7 (fun x83 => oS 2204 (s75.1 1) 7 (x83 + 1) (sA s75 1) (fun s86 => k87 s86))))))))))) = some (1, τ) ∧ RM (τ.1 1) (aOpen A z) ∧ InM σ τ) ∧
    (¬ (nOpen A < A.2 4 ∨ idl A 8 ≠ 8) → (oR (f_X6_zones σ 0) (fun r40 => oA 2204 (σ.1 1) 1 (fun x48 => oJ (κ := MS → Option (Int32 × MS)) (fun s_87 => oR (f_X6_of (nI z) 0) (fun r93 => oS 2204 (s_87.1 1) r93 1 (sA s_87 1) (fun s97 => (oB 1).map (fun x => (x, s97))))) (fun k87 => if r40 < x48 then (k87 σ) else (oR (f_X6_idlest σ) (fun r53 => if r53 = (-5) then ((oB 0).map (fun x => (x, σ))) else (oR (f_X6_of r53 0) (fun r71 => oS 2204 (σ.1 1) r71 2 (sA σ 1) (fun s75 => oA 2204 (s75.1 1) 7 (fun x83 => oS 2204 (s75.1 1) 7 (x83 + 1) (sA s75 1) (fun s86 => k87 s86))))))))))) = some (0, σ)) := by
  have b := I.b
  have hp : f_X6_zones σ 0 = some (nI (nOpen A)) := by
    have := w_zones h b (p := 0) (by decide)
    rw [show cnt (fun z => decide (A.1 13 z = 1 ∨ 0 ≠ 0 ∧ A.1 13 z = 2)) 8 = nOpen A from cnt_congr fun z _ => by simp] at this
    exact this
  have ho : nOpen A ≤ 8 := cnt_le _ 8
  have hlt : (nI (nOpen A) < σ.1 1 1) ↔ nOpen A < A.2 4 := by
    rw [h.lit.2.1]
    exact nI_ltI (by omega) (b.2.2 4)
  have hi := w_idlest h I
  have hid := idl_lt (A := A) 8
  have s7 : σ.1 1 7 = nI (A.2 7) := h.lit.2.2.2.2.2.2.2.1
  rw [hp, oR_some, oL1, oJ_to, hi]
  simp only [oR_some]
  constructor
  · intro hc
    by_cases e : nOpen A < A.2 4
    · rw [if_pos (hlt.2 e), rZ0, oS_b (by omega)]
      refine ⟨_, rfl, ?_, InM.sA⟩
      unfold aOpen aWay
      rw [if_pos e, sA_eq]
      exact RM_zone (k := 0) (v := 1) h b hz (by decide)
    · have e8 : idl A 8 ≠ 8 := hc.resolve_left e
      have hi8 : idl A 8 < 8 := by omega
      have hm : ¬ nI (idl A 8) = -5 := by
        intro x
        have := nI_pos (n := idl A 8) (by omega)
        rw [x] at this
        exact this (by decide)
      rw [if_neg (fun x => e (hlt.1 x)), if_neg e8, if_neg hm, rZ0, oS_b (by omega), oL7, oM7]
      simp only [rZ0]
      rw [oS_b (by omega)]
      refine ⟨_, rfl, ?_, (InM.sA.trans InM.sA).trans InM.sA⟩
      simp only [sA_eq]
      unfold aOpen aWay
      rw [if_neg e, upd_ne (by omega), s7, nI_1]
      have R := RM_zone (k := 0) (v := 2) h b hi8 (by decide)
      have R2 := RM_num (v := A.2 7 + 1) R (i := 7) (k := 7) (by omega)
      have h7 : A.2 7 + 1 < 2 ^ 31 := by have := I.e; have := I.a.1; unfold ivE at *; omega
      exact RM_zone (k := 0) (v := 1) R2 (Bd_setN (Bd_setA b (by decide)) (by decide) h7) hz (by decide)
  · intro hc
    have e : ¬ nOpen A < A.2 4 := fun x => hc (Or.inl x)
    have e8 : idl A 8 = 8 := by
      by_cases x : idl A 8 = 8
      · exact x
      · exact absurd (Or.inr x) hc
    rw [if_neg (fun x => e (hlt.1 x)), if_pos e8, if_pos rfl]
    rfl
theorem w_opens {σ : MS} {A : NS} (h : RM (σ.1 1) A) (I : Iv A) {z : Nat} (hz : z < 8) :
    (A.1 13 z = 1 → f_X6_opens σ (nI z) = some (1, σ)) ∧ (A.1 13 z ≠ 1 → ¬ (A.1 13 z = 0 ∧ A.2 5 ≤ nUse A) ∧ (nOpen A < A.2 4 ∨ idl A 8 ≠ 8) → ∃ τ, f_X6_opens σ (nI z) = some (1, τ) ∧ RM (τ.1 1) (aOpen A z) ∧ InM σ τ) ∧
    (A.1 13 z ≠ 1 → ¬ (¬ (A.1 13 z = 0 ∧ A.2 5 ≤ nUse A) ∧ (nOpen A < A.2 4 ∨ idl A 8 ≠ 8)) → f_X6_opens σ (nI z) = some (0, σ)) := by
  have b := I.b
  have K := w_openKM h I hz
  have hu : f_X6_zones σ 1 = some (nI (nUse A)) := by
    have := w_zones h b (p := 1) (by decide)
    rw [show cnt (fun z => decide (A.1 13 z = 1 ∨ 1 ≠ 0 ∧ A.1 13 z = 2)) 8 = nUse A from cnt_congr fun z _ => by simp] at this
    exact this
  have ho : nUse A ≤ 8 := cnt_le _ 8
  have hlt : (nI (nUse A) < σ.1 1 2) ↔ nUse A < A.2 5 := by
    rw [h.lit.2.2.1]
    exact nI_ltI (by omega) (b.2.2 5)
  have g0 : (nI (A.1 13 z) = 0) ↔ A.1 13 z = 0 := nI_eq0 (b.2.1 13 z)
  have g1 : (nI (A.1 13 z) = 1) ↔ A.1 13 z = 1 := nI_eq (b := 1) (b.2.1 13 z) (by decide)
  have z0 : σ.1 1 (10 + 22 * z) = nI (A.1 13 z) := h.zn (k := 0) hz (by decide)
  unfold f_X6_opens
  rw [rZ0, oA_b (by omega), z0, hu]
  simp only [oR_some]
  rw [oJ_to (κ := Option (Int32 × MS)), oL2]
  refine ⟨fun e => by rw [if_pos (g1.2 e)]; rfl, fun e1 hc => ?_, fun e1 hc => ?_⟩
  · rw [if_neg (fun x => e1 (g1.1 x))]
    by_cases e : A.1 13 z = 0
    · rw [if_pos (g0.2 e), if_pos (hlt.2 (by omega))]
      exact K.1 hc.2
    · rw [if_neg (fun x => e (g0.1 x))]
      exact K.1 hc.2
  · rw [if_neg (fun x => e1 (g1.1 x))]
    by_cases e : A.1 13 z = 0
    · rw [if_pos (g0.2 e)]
      by_cases e2 : nUse A < A.2 5
      · rw [if_pos (hlt.2 e2)]
        exact K.2 fun x => hc ⟨by omega, x⟩
      · rw [if_neg (fun x => e2 (hlt.1 x))]
        rfl
    · rw [if_neg (fun x => e (g0.1 x))]
      exact K.2 fun x => hc ⟨fun y => e y.1, x⟩
theorem aGo_eqM {A : NS} {a z : Nat} (h1 : A.1 13 z = 1) (hp : A.1 16 z < A.1 14 z) :
    setA (setN (setA (setA (aBegin A a (A.1 16 z) (A.2 10 + A.1 15 z + A.1 16 z % 2) (A.1 17 z)) 16 z (A.1 16 z + 1)) 18 z (A.2 3 + 1)) 3 (A.2 3 + 1)) 13 z (if A.1 16 z + 1 = A.1 14 z then 3 else 1) = aGo A a z := by
  refine NS_ext (fun j i => ?_) (fun k => ?_)
  · by_cases j5 : j = 5
    · subst j5; rw [aGo_5]; simp [aBegin, setA, setN]
    by_cases j6 : j = 6
    · subst j6; rw [aGo_6]; simp [aBegin, setA, setN]
    by_cases j7 : j = 7
    · subst j7; rw [aGo_7]; simp [aBegin, setA, setN]
    by_cases j9 : j = 9
    · subst j9; rw [aGo_9]; simp [aBegin, setA, setN]
    by_cases j16 : j = 16
    · subst j16; rw [aGo_16]; simp [aBegin, setA, setN]
    by_cases j18 : j = 18
    · subst j18; rw [aGo_18]; simp [aBegin, setA, setN]
    by_cases j13 : j = 13
    · subst j13
      rw [aGo_13]
      by_cases e : i = z
      · subst e
        by_cases e2 : A.1 16 i + 1 = A.1 14 i
        · rw [setA_eq, if_pos e2, if_pos ⟨rfl, by omega⟩]
        · rw [setA_eq, if_neg e2, if_neg (fun x => by omega), h1]
      · rw [setA_na e, if_neg (fun x => e x.1)]; simp [aBegin, setA, setN]
    · rw [aGo_1 j5 j6 j7 j9 j13 j16 j18]; simp [aBegin, setA, setN, j5, j6, j7, j9, j13, j16, j18]
  · rw [aGo_2]; simp [aBegin, setA, setN]
