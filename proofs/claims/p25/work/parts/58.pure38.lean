/-! PURE: ticks pass -/
def aTicks (A : NS) : Nat → NS
  | 0 => A
  | k + 1 => aTick (aTicks A k)
theorem aTicks_s {A : NS} {k : Nat} : aTicks A (k + 1) = aTick (aTicks A k) := rfl
theorem Iv_ticks {A : NS} (I : Iv A) : ∀ k, A.2 10 + k ≤ 20000 → Iv (aTicks A k) ∧ LeT A (aTicks A k) ∧ (aTicks A k).2 10 = A.2 10 + k
  | 0, _ => ⟨I, LeT.refl, rfl⟩
  | k + 1, h => by
    obtain ⟨h1, h2, h3⟩ := Iv_ticks I k (by omega)
    obtain ⟨g1, g2⟩ := Iv_tick h1 (by omega)
    exact ⟨g1, h2.trans g2, by rw [aTicks_s, aTick_10, h3]; omega⟩
def CR (σ : SS) (A : NS) : Prop := RC σ A ∧ LV σ (A.2 0) (liveP A)
theorem w_letPass {σ : SS} {A : NS} (h : CR σ A) (I : Iv A) {t : Nat} (h1 : 1 ≤ t) (h99 : t ≤ 99) (ht : A.2 10 + t ≤ 9999) :
    ∃ τ, f_X3_letPass σ (nI t) = some (nI ((aTicks A t).2 1 - A.2 1), τ) ∧ CR τ (aTicks A t) := by
  have b := I.b
  have hl : ¬ nI t < 1 := nI_nlt (a := t) (b := 1) h1 (by omega)
  have hh : ¬ 99 < nI t := nI_nlt (b := t) (a := 99) h99 (by decide)
  obtain ⟨J, LT, _⟩ := Iv_ticks I t (by omega)
  have tm := told_mono I J LT
  unfold f_X3_letPass
  rw [w_isFrom hl hh, oR_some, if_neg (show ¬ (1 : Int32) = 0 by decide), h.1.1 10 (by decide) (by decide), nI_add, if_pos (show nI (A.2 10 + t) ≤ 9999 from nI_le ht (by decide))]
  obtain ⟨τ, hR, e⟩ := loop_to (B := Unit) t (fun m i (c : SS) => f_X3_letPass_L38 (nI t) (fun sx53 => some (((sx53.2 1) - (σ.2 1)), sx53)) m i c) (fun sx53 => some (((sx53.2 1) - (σ.2 1)), sx53)) (fun _ b => b)
    (fun i _ c => CR c (aTicks A i)) (fun m _ c hR => by
      show f_X3_letPass_L38 (nI t) _ (m + 1) (nI t) c = _
      rw [f_X3_letPass_L38, if_pos (nI_le (Nat.le_refl _) (by omega))]) (fun m i _ c hi hR => by
      obtain ⟨J, LT, hT⟩ := Iv_ticks I i (by omega)
      obtain ⟨τ, f1, f2, f3⟩ := w_tickC hR.1 J hR.2 (by omega)
      show ∃ c' : SS, _ ∧ f_X3_letPass_L38 (nI t) _ (m + 1) (nI i) c = f_X3_letPass_L38 (nI t) _ m (nI (i + 1)) c'
      rw [f_X3_letPass_L38, if_neg (nI_ge hi (by omega)), f1, oV_some, nI_1]
      exact ⟨τ, ⟨f2, f3⟩, rfl⟩) σ () FU h (by show t < 20000; omega)
  refine ⟨τ, ?_, hR⟩
  have e : f_X3_letPass_L38 (nI t) (fun sx53 => some (((sx53.2 1) - (σ.2 1)), sx53)) FU 0 σ = some (((τ.2 1) - (σ.2 1)), τ) := e
  rw [e, hR.1.1 1 (by decide) (by decide), h.1.1 1 (by decide) (by decide), pk_sub tm]
theorem w_letPass_bad {σ : SS} {p : Int32} (hp : p < 1 ∨ 99 < p) : f_X3_letPass σ p = some (-2, σ) := by
  unfold f_X3_letPass
  rw [w_isFrom_no hp, oR_some, if_pos rfl]
theorem w_letPass_full {σ : SS} {A : NS} (h : RC σ A) (b : A.2 10 ≤ 9999) {t : Nat} (h1 : 1 ≤ t) (h99 : t ≤ 99) (ht : ¬ A.2 10 + t ≤ 9999) : f_X3_letPass σ (nI t) = some (-3, σ) := by
  have hl : ¬ nI t < 1 := nI_nlt (a := t) (b := 1) h1 (by omega)
  have hh : ¬ 99 < nI t := nI_nlt (b := t) (a := 99) h99 (by decide)
  unfold f_X3_letPass
  rw [w_isFrom hl hh, oR_some, if_neg (show ¬ (1 : Int32) = 0 by decide), h.1 10 (by decide) (by decide), nI_add, if_neg (show ¬ nI (A.2 10 + t) ≤ 9999 from nI_ge (b := A.2 10 + t) (a := 9999) (by omega) (by omega))]
def InT (σ τ : MS) : Prop := (∀ j, j ≠ 1 → j ≠ 6 → τ.1 j = σ.1 j) ∧ ∀ k, k ≠ 3 → k ≠ 4 → τ.2 k = σ.2 k
theorem InT.refl {σ : MS} : InT σ σ := ⟨fun _ _ _ => rfl, fun _ _ _ => rfl⟩
theorem InT.trans {σ τ ρ : MS} (h : InT σ τ) (g : InT τ ρ) : InT σ ρ := ⟨fun j a b => (g.1 j a b).trans (h.1 j a b), fun j a b => (g.2 j a b).trans (h.2 j a b)⟩
theorem InM.t {σ τ : MS} (h : InM σ τ) : InT σ τ := ⟨fun j a _ => h.2 j a, fun _ _ _ => by rw [h.1]⟩
theorem w_goBy {σ : MS} {A : NS} (h : RM (σ.1 1) A) (I : Iv A) {t : Nat} (h99 : t ≤ 99) (ht : A.2 10 + t ≤ 9999) :
    ∃ τ, f_X6_goBy σ (nI t) = some (nI ((aTicks A t).2 1 - A.2 1), τ) ∧ RM (τ.1 1) (aTicks A t) ∧ InT σ τ := by
  unfold f_X6_goBy
  obtain ⟨c, hR, e⟩ := loop_to (B := Unit) t (fun m i (c : Int32 × MS) => f_X6_goBy_L4 (nI t) (fun w2_22 sx22 => some (w2_22, sx22)) m c.1 i c.2) (fun c => some (c.1, c.2)) (fun _ b => b)
    (fun i _ c => c.1 = nI ((aTicks A i).2 1 - A.2 1) ∧ RM (c.2.1 1) (aTicks A i) ∧ InT σ c.2) (fun m _ c hR => by
      show f_X6_goBy_L4 (nI t) _ (m + 1) c.1 (nI t) c.2 = _
      rw [f_X6_goBy_L4, if_pos (nI_le (Nat.le_refl _) (by omega))]) (fun m i _ c hi hR => by
      obtain ⟨J, LT, hT⟩ := Iv_ticks I i (by omega)
      obtain ⟨J2, LT2⟩ := Iv_tick J (by omega)
      have m1 := told_mono I J LT
      have m2 := told_mono J J2 LT2
      obtain ⟨τ, f1, f2, f3, f4, f5, f6⟩ := w_tickM hR.2.1 J (by omega)
      show ∃ c' : Int32 × MS, _ ∧ f_X6_goBy_L4 (nI t) _ (m + 1) c.1 (nI i) c.2 = f_X6_goBy_L4 (nI t) _ m c'.1 (nI (i + 1)) c'.2
      rw [f_X6_goBy_L4, if_neg (nI_ge hi (by omega)), f1, oW_some, nI_1, hR.1, nI_add]
      rw [show (aTicks A i).2 1 - A.2 1 + ((aTick (aTicks A i)).2 1 - (aTicks A i).2 1) = (aTick (aTicks A i)).2 1 - A.2 1 by omega]
      exact ⟨(nI ((aTick (aTicks A i)).2 1 - A.2 1), τ), ⟨rfl, f2, hR.2.2.trans ⟨f5, f6⟩⟩, rfl⟩) (nI 0, σ) () FU ⟨by show nI 0 = nI (A.2 1 - A.2 1); rw [Nat.sub_self], h, InT.refl⟩ (by show t < 20000; omega)
  refine ⟨c.2, ?_, hR.2.1, hR.2.2⟩
  rw [← hR.1]
  exact e
/-- a state between calls -/
def Rest (A : NS) : Prop := Iv A ∧ A.2 0 ≤ 200 ∧ (∀ w, w < 4 → cnt (fun a => decide (A.1 2 a = w) && liveP A a) (A.2 0) ≤ 8) ∧ A.2 10 ≤ 9999
theorem Rest.later {A B : NS} (h : Rest A) (I : Iv B) (L : LeT A B) (ht : B.2 10 ≤ 9999) : Rest B := by
  refine ⟨I, by rw [L.n0]; exact h.2.1, fun w hw => ?_, ht⟩
  refine Nat.le_trans ?_ (h.2.2.1 w hw)
  rw [L.n0, L.2.1 2 (by decide)]
  refine cnt_mono fun a ha e => ?_
  unfold liveP at e ⊢
  simp only [Bool.and_eq_true, decide_eq_true_eq] at e ⊢
  have := (L.2.2 a ha).2.1 (by omega)
  exact ⟨e.1, by omega⟩
theorem Rest.ticks {A : NS} (h : Rest A) {t : Nat} (ht : A.2 10 + t ≤ 9999) : Rest (aTicks A t) := by
  obtain ⟨J, LT, hT⟩ := Iv_ticks h.1 t (by omega)
  exact h.later J LT (by omega)
theorem cnt4 {P : Nat → Bool} {f : Nat → Nat} : ∀ n, (∀ a, a < n → f a < 4) → cnt P n ≤ cnt (fun a => decide (f a = 0) && P a) n + cnt (fun a => decide (f a = 1) && P a) n + cnt (fun a => decide (f a = 2) && P a) n + cnt (fun a => decide (f a = 3) && P a) n
  | 0, _ => Nat.zero_le _
  | n + 1, h => by
    have ih := cnt4 (P := P) (f := f) n fun a ha => h a (by omega)
    have hf := h n (by omega)
    simp only [cnt]
    by_cases e : P n = true
    · rcases (by omega : f n = 0 ∨ f n = 1 ∨ f n = 2 ∨ f n = 3) with x | x | x | x <;> simp [x, e] <;> omega
    · simp [e]; omega
theorem Rest.live {A : NS} (h : Rest A) : ((List.range (A.2 0)).filter (liveP A)).length ≤ 32 := by
  have e : ((List.range (A.2 0)).filter (liveP A)).length = cnt (liveP A) (A.2 0) := by
    have := countP_filter_range (fun _ => true) (liveP A) (A.2 0)
    have ft : (List.range (A.2 0)).filter (fun _ => true) = List.range (A.2 0) := List.filter_eq_self.2 fun _ _ => rfl
    rw [ft] at this
    rw [← List.countP_eq_length_filter, this]
    rfl
  rw [e]
  have := cnt4 (P := liveP A) (f := A.1 2) (A.2 0) fun a ha => (h.1.a.2 a ha).1
  have h0 := h.2.2.1 0 (by decide)
  have h1 := h.2.2.1 1 (by decide)
  have h2 := h.2.2.1 2 (by decide)
  have h3 := h.2.2.1 3 (by decide)
  omega
