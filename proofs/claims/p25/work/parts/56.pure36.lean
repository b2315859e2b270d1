/-! PURE: a tick of the reference -/
theorem oZ0 {ST α : Type} {w : Int32 → ST} {k : ST → Option α} : oZ 0 w k = k (w 0) := if_pos (Or.inl rfl)
theorem oZ1 {ST α : Type} {w : Int32 → ST} {k : ST → Option α} : oZ 1 w k = k (w 1) := if_pos (Or.inr rfl)
theorem oZt {ST α : Type} {t : Int32} {w : Int32 → ST} {k : ST → Option α} (h : t = 0 ∨ t = 1) : oZ t w k = k (w t) := if_pos h
theorem w_tickT {σ : MS} {A : NS} (h : RM (σ.1 1) A) (I : Iv A) {k : MS → Option (Int32 × MS)} : ∃ τ, f_X6_tick_L28 k FU 0 σ = k τ ∧ RM (τ.1 1) (aTellDue A) ∧ InM σ τ := by
  have hn := I.a.1
  obtain ⟨τ, hR, e⟩ := loop_to (B := NS) (A.2 0) (fun m i (c : MS) => f_X6_tick_L28 k m i c) k (fun a B => stTell B a)
    (fun _ B c => RM (c.1 1) B ∧ Iv B ∧ Le A B ∧ InM σ c) (fun m B c hR => by
      have e5 : c.1 1 5 = nI (A.2 0) := by rw [hR.1.n0, hR.2.2.1.n0]
      show f_X6_tick_L28 k (m + 1) (nI (A.2 0)) c = _
      rw [f_X6_tick_L28, oL5, e5, if_pos (nI_le (Nat.le_refl _) (by omega))]) (fun m i B c hi hR => by
      obtain ⟨hr, hI, hL, hm⟩ := hR
      have e5 : c.1 1 5 = nI (A.2 0) := by rw [hr.n0, hL.n0]
      have hiB : i < B.2 0 := by rw [hL.n0]; exact hi
      have b := hI.b
      have a3 : c.1 1 (194 + 9 * i + 3) = nI (B.1 5 i) := hr.ap (k := 3) hiB (by decide)
      show ∃ c' : MS, _ ∧ f_X6_tick_L28 k (m + 1) (nI i) c = f_X6_tick_L28 k m (nI (i + 1)) c'
      rw [f_X6_tick_L28, oL5, e5, if_neg (nI_ge hi (by omega)), rA3, oA_b (by omega), a3]
      simp only [oJ_to, nI_1, rA8, oL0]
      have g5 : (nI (B.1 5 i) = 1) ↔ B.1 5 i = 1 := nI_eq (b := 1) (b.2.1 5 i) (by decide)
      by_cases e1 : B.1 5 i = 1
      · have a8 : c.1 1 (194 + 9 * i + 8) = nI (B.1 7 i) := (hr.2.2.2.2.2.1 i hiB).2.2.2.2 e1
        rw [if_pos (g5.2 e1), oA_b (by omega), a8, hr.lit.1, if_eqN (b.2.1 7 i) (b.2.2 10)]
        by_cases et : B.1 7 i = B.2 10
        · obtain ⟨τ, f1, f2, f3, f4⟩ := w_tell hr hI hiB e1 et
          rw [if_pos et, f1, oV_some, show stTell B i = aTell1 B i from if_pos ⟨e1, et⟩]
          exact ⟨τ, ⟨f2, Iv_tell hI hiB e1, hL.trans (Le_tell e1), hm.trans ⟨f3, f4⟩⟩, rfl⟩
        · rw [if_neg et, show stTell B i = B from if_neg (fun x => et x.2)]
          exact ⟨c, ⟨hr, hI, hL, hm⟩, rfl⟩
      · rw [if_neg (fun x => e1 (g5.1 x)), show stTell B i = B from if_neg (fun x => e1 x.1)]
        exact ⟨c, ⟨hr, hI, hL, hm⟩, rfl⟩) σ A FU ⟨h, I, Le.refl, InM.refl⟩ (by show A.2 0 < 20000; omega)
  exact ⟨τ, e, hR.1, hR.2.2.2⟩
def MRK (σ : MS) (A : NS) : Prop := ∀ a, a < A.2 0 → σ.1 6 a = if A.1 5 a = 0 then 1 else 0
theorem w_marks {σ : MS} {A : NS} (h : RM (σ.1 1) A) (I : Iv A) {k : MS → Option (Int32 × MS)} : ∃ τ, f_X6_tick_L85 k FU 0 σ = k τ ∧ MRK τ A ∧ τ.2 = σ.2 ∧ ∀ j, j ≠ 6 → τ.1 j = σ.1 j := by
  have hn := I.a.1
  have b := I.b
  obtain ⟨τ, hR, e⟩ := loop_to (B := Unit) (A.2 0) (fun m i (c : MS) => f_X6_tick_L85 k m i c) k (fun _ b => b)
    (fun i _ c => (∀ a, a < i → c.1 6 a = if A.1 5 a = 0 then 1 else 0) ∧ c.2 = σ.2 ∧ ∀ j, j ≠ 6 → c.1 j = σ.1 j) (fun m _ c hR => by
      have e5 : c.1 1 5 = nI (A.2 0) := by rw [hR.2.2 1 (by decide), h.n0]
      show f_X6_tick_L85 k (m + 1) (nI (A.2 0)) c = _
      rw [f_X6_tick_L85, oL5, e5, if_pos (nI_le (Nat.le_refl _) (by omega))]) (fun m i _ c hi hR => by
      have e5 : c.1 1 5 = nI (A.2 0) := by rw [hR.2.2 1 (by decide), h.n0]
      have a3 : c.1 1 (194 + 9 * i + 3) = nI (A.1 5 i) := by rw [hR.2.2 1 (by decide)]; exact h.ap (k := 3) hi (by decide)
      show ∃ c' : MS, _ ∧ f_X6_tick_L85 k (m + 1) (nI i) c = f_X6_tick_L85 k m (nI (i + 1)) c'
      rw [f_X6_tick_L85, oL5, e5, if_neg (nI_ge hi (by omega)), rA3, oA_b (by omega), a3, oJ_to]
      dsimp only
      rw [oS_at (show i < 201 by omega) (by decide), oS_at (show i < 201 by omega) (by decide), nI_1]
      have g5 : (nI (A.1 5 i) = 0) ↔ A.1 5 i = 0 := nI_eq0 (b.2.1 5 i)
      have go : ∀ v : Int32, v = (if A.1 5 i = 0 then 1 else 0) → (∀ a, a < i + 1 → (sA c 6 (upd (c.1 6) i v)).1 6 a = if A.1 5 a = 0 then 1 else 0) ∧ (sA c 6 (upd (c.1 6) i v)).2 = σ.2 ∧ ∀ j, j ≠ 6 → (sA c 6 (upd (c.1 6) i v)).1 j = σ.1 j := by
        intro v hv
        refine ⟨fun a ha => ?_, hR.2.1, fun j hj => by rw [sA_ne hj]; exact hR.2.2 j hj⟩
        rw [sA_eq]
        by_cases ea : a = i
        · subst ea; rw [upd_eq, hv]
        · rw [upd_ne ea]; exact hR.1 a (by omega)
      by_cases e1 : A.1 5 i = 0
      · rw [if_pos (g5.2 e1)]
        exact ⟨_, go (vp_nar .boolean 1) (by rw [if_pos e1]; rfl), rfl⟩
      · rw [if_neg (fun x => e1 (g5.1 x))]
        exact ⟨_, go (vp_nar .boolean 0) (by rw [if_neg e1]; rfl), rfl⟩) σ () FU ⟨fun a ha => absurd ha (Nat.not_lt_zero a), rfl, fun _ _ => rfl⟩ (by show A.2 0 < 20000; omega)
  exact ⟨τ, e, hR.1, hR.2.1, hR.2.2⟩
/-- what the looks of the reference hold -/
def RSt (σ0 σ : MS) (B : NS) (y : NS × Nat) : Prop := RM (σ.1 1) y.1 ∧ Iv y.1 ∧ Le B y.1 ∧ σ.2 4 = (if y.2 = 8 then -5 else nI y.2) ∧ (σ.2 3 = 0 ∨ σ.2 3 = 1) ∧ (σ.2 3 = 0 → atW y.1 = 0) ∧ (∀ j, j ≠ 1 → σ.1 j = σ0.1 j) ∧ (∀ k, k ≠ 3 → k ≠ 4 → σ.2 k = σ0.2 k) ∧ y.2 ≤ 8
theorem enc5 {f : Nat} (h : f ≤ 8) : ((if f = 8 then (-5 : Int32) else nI f) = -5) ↔ f = 8 := by
  by_cases e : f = 8
  · simp [e]
  · rw [if_neg e]
    refine ⟨fun x => ?_, fun x => absurd x e⟩
    have := nI_pos (n := f) (by omega)
    rw [x] at this
    exact absurd (by decide) this
theorem w_step {σ0 s : MS} {B X : NS} {f a : Nat} (h : RSt σ0 s B (X, f)) (ht : B.2 10 < 2 ^ 30) (ha : a < B.2 0) (hp : X.1 5 a = 0) {K : MS → Option MS} :
    ∃ τ, oW (f_X6_lookAt s (nI a)) (fun t => t) (fun r41 s41 => oJ (κ := Int32 → Option (MS)) (fun t0_62 => oZ t0_62 (sN s41 3) (fun s62 => oJ (κ := Int32 → Option (MS)) (fun t0_97 => oN t0_97 (sN s62 4) (fun s97 => K s97)) (fun k97 => oJ (κ := Option (MS)) (k97 (s62.2 4)) (fun k93 => if r41 = 1 then (if (s62.2 4) = (-5) then (oR (f_X6_ofAppend (nI a) 1) (fun r86 => oA 2204 (s62.1 1) r86 (fun x89 => k97 x89))) else k93) else k93)))) (fun k62 => oJ (κ := Option (MS)) (k62 1) (fun k57 => if (s41.2 3) = 0 then (if r41 = 0 then (k62 0) else k57) else k57))) = K τ ∧ RSt σ0 τ B (stLk (X, f) a) := by
  obtain ⟨h1, h2, h3, h4, h5, h6, h7, h8, h9⟩ := h
  have h1 : RM (s.1 1) X := h1
  have h2 : Iv X := h2
  have h3 : Le B X := h3
  have h4 : s.2 4 = (if f = 8 then -5 else nI f) := h4
  have h6 : s.2 3 = 0 → atW X = 0 := h6
  have h9 : f ≤ 8 := h9
  have haX : a < X.2 0 := by rw [h3.n0]; exact ha
  have htX : X.2 10 < 2 ^ 30 := by rw [h3.1 10 (by decide) (by decide) (by decide)]; exact ht
  obtain ⟨τ, f1, f2, f3⟩ := w_lookAt h1 h2 haX hp htX
  have L := Iv_look h2 haX hp htX
  have hn := h2.a.1
  have hz := (h2.a.2 a haX).2.1
  have e3 : (stLook X a).1 3 = X.1 3 := L.2.2.1 3 (by decide)
  have q3 : τ.1 1 (194 + 9 * a + 1) = nI (X.1 3 a) := by
    have := f2.ap (a := a) (k := 1) (by rw [L.2.n0]; exact haX) (by decide)
    rw [this, e3]
  rw [f1, oW_some]
  simp only [oJ_to, oN_to]
  have inner : ∀ t : Int32, (t = 0 ∨ t = 1) → (t = 0 → atW (stLook X a) = 0) → ∃ ρ, (oZ t (sN τ 3) (fun s62 => if (if (stLook X a).1 5 a = 1 then 1 else if (stLook X a).1 5 a = 3 then -1 else (0 : Int32)) = 1 then (if (s62.2 4) = (-5) then (oR (f_X6_ofAppend (nI a) 1) (fun r86 => oA 2204 (s62.1 1) r86 (fun x89 => K (sN s62 4 x89)))) else K (sN s62 4 (s62.2 4))) else K (sN s62 4 (s62.2 4)))) = K ρ ∧ RSt σ0 ρ B (stLk (X, f) a) := by
    intro t ht1 ht2
    rw [oZt ht1, sN_1, sN_ne (show (4 : Nat) ≠ 3 by decide), f3.1, h4, rA1, oA_b (by omega), q3]
    have fin : ∀ v : Int32, v = (if (stLk (X, f) a).2 = 8 then -5 else nI (stLk (X, f) a).2) → RSt σ0 (sN (sN τ 3 t) 4 v) B (stLk (X, f) a) := by
      intro v hv
      refine ⟨f2, L.1, h3.trans L.2, by rw [sN_eq]; exact hv, ?_, ?_, fun j hj => (f3.2 j hj).trans (h7 j hj), fun k k3 k4 => ?_, ?_⟩
      · rw [sN_ne (by decide), sN_eq]; exact ht1
      · rw [sN_ne (by decide), sN_eq]; exact ht2
      · rw [sN_ne k4, sN_ne k3, f3.1]; exact h8 k k3 k4
      · show (if f = 8 ∧ (stLook X a).1 5 a = 1 then X.1 3 a else f) ≤ 8
        split <;> omega
    by_cases eb : (stLook X a).1 5 a = 1
    · rw [if_pos eb, if_pos (show (1 : Int32) = 1 from rfl)]
      by_cases e8 : f = 8
      · rw [if_pos ((enc5 h9).2 e8)]
        refine ⟨_, rfl, fin _ ?_⟩
        show _ = if (if f = 8 ∧ (stLook X a).1 5 a = 1 then X.1 3 a else f) = 8 then -5 else nI (if f = 8 ∧ (stLook X a).1 5 a = 1 then X.1 3 a else f)
        rw [show (if f = 8 ∧ (stLook X a).1 5 a = 1 then X.1 3 a else f) = X.1 3 a from if_pos ⟨e8, eb⟩, if_neg (by omega)]
      · rw [if_neg (fun x => e8 ((enc5 h9).1 x))]
        refine ⟨_, rfl, fin _ ?_⟩
        show _ = if (if f = 8 ∧ (stLook X a).1 5 a = 1 then X.1 3 a else f) = 8 then -5 else nI (if f = 8 ∧ (stLook X a).1 5 a = 1 then X.1 3 a else f)
        rw [show (if f = 8 ∧ (stLook X a).1 5 a = 1 then X.1 3 a else f) = f from if_neg (fun x => e8 x.1)]
    · have : ¬ (if (stLook X a).1 5 a = 1 then 1 else if (stLook X a).1 5 a = 3 then -1 else (0 : Int32)) = 1 := by
        rw [if_neg eb]
        split <;> decide
      rw [if_neg this]
      refine ⟨_, rfl, fin _ ?_⟩
      show _ = if (if f = 8 ∧ (stLook X a).1 5 a = 1 then X.1 3 a else f) = 8 then -5 else nI (if f = 8 ∧ (stLook X a).1 5 a = 1 then X.1 3 a else f)
      rw [show (if f = 8 ∧ (stLook X a).1 5 a = 1 then X.1 3 a else f) = f from if_neg (fun x => eb x.2)]
  by_cases em : τ.2 3 = 0
  · rw [if_pos em]
    by_cases er : (if (stLook X a).1 5 a = 1 then 1 else if (stLook X a).1 5 a = 3 then -1 else (0 : Int32)) = 0
    · rw [if_pos er]
      refine inner 0 (Or.inl rfl) fun _ => ?_
      rw [f3.1] at em
      have h0 := h6 em
      rcases look_5a (A := X) (a := a) with e | e | e
      · rw [e] at er; exact absurd er (by decide)
      · rw [e] at er; exact absurd er (by decide)
      · rw [e]; exact h0
    · rw [if_neg er]
      exact inner 1 (Or.inr rfl) fun x => absurd x (by decide)
  · rw [if_neg em]
    exact inner 1 (Or.inr rfl) fun x => absurd x (by decide)
