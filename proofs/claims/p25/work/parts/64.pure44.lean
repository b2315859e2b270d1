/-! PURE: the history of the class; the relation of the two -/
theorem cS_eq {σ : CS} {k : Nat} {t : SS} : (cS σ k t).1 k = t := if_pos rfl
theorem cS_ne {σ : CS} {k j : Nat} {t : SS} (h : j ≠ k) : (cS σ k t).1 j = σ.1 j := if_neg h
theorem cS_2 {σ : CS} {k : Nat} {t : SS} : (cS σ k t).2 = σ.2 := rfl
theorem cN_1 {σ : CS} {k : Nat} {v : Int32} : (cN σ k v).1 = σ.1 := rfl
theorem cN_T {σ : CS} {k : Nat} {v : Int32} : (cN σ k v).2.1 = σ.2.1 := rfl
theorem cN_eq {σ : CS} {k : Nat} {v : Int32} : (cN σ k v).2.2 k = v := upd_eq
theorem cN_ne {σ : CS} {k j : Nat} {v : Int32} (h : j ≠ k) : (cN σ k v).2.2 j = σ.2.2 j := upd_ne h
def HC (c : CS) (o k : Nat) (H : Nat → NS) : Prop := c.2.2 1 = nI o ∧ c.2.2 2 = nI k ∧ o < 5 ∧ k ≤ 4 ∧ ∀ i, i < k → CR (c.1 (3 + (o + i) % 5)) (H i)
theorem HC.idx {c : CS} {o k : Nat} {H : Nat → NS} (h : HC c o k H) : hidx c = nI ((o + k) % 5) ∧ hk c = (o + k) % 5 := by
  have e : hidx c = nI ((o + k) % 5) := by
    have := h.2.2.1
    have := h.2.2.2.1
    unfold hidx
    rw [h.1, h.2.1, nI_add]
    exact pk_rem (d := 5) (by omega) (by decide) (by decide)
  refine ⟨e, ?_⟩
  unfold hk
  rw [e, nI_clamp (by omega)]
/-- what a call leaves of the class, its states and history aside -/
def FrC (c c' : CS) : Prop := c'.1 2 = c.1 2 ∧ c'.2.1 = c.2.1 ∧ c'.2.2 0 = c.2.2 0 ∧ c'.2.2 3 = c.2.2 3
theorem FrC.trans {a b c : CS} (h : FrC a b) (g : FrC b c) : FrC a c := ⟨g.1.trans h.1, g.2.1.trans h.2.1, g.2.2.1.trans h.2.2.1, g.2.2.2.trans h.2.2.2⟩
theorem FrC.refl {a : CS} : FrC a a := ⟨rfl, rfl, rfl, rfl⟩
theorem w_draft {c : CS} {o k : Nat} {H : Nat → NS} {A : NS} (h : HC c o k H) (hc : CR (c.1 0) A) (I : Iv A) :
    ∃ c', f_X1_draft c = some c' ∧ HC c' o k H ∧ c'.1 0 = c.1 0 ∧ CR (c'.1 (3 + (o + k) % 5)) A ∧ FrC c c' := by
  obtain ⟨e1, e2⟩ := h.idx
  obtain ⟨ρ, f1, f2⟩ := w_copy (σ := c.1 (3 + (o + k) % 5)) hc I
  unfold f_X1_draft
  rw [if_pos (by rw [e1]; exact nI_in (by omega) (by decide)), e2, f1, oV_some]
  obtain ⟨h1, h2, h3, h4, h5⟩ := h
  refine ⟨_, rfl, ⟨h1, h2, h3, h4, fun i hi => ?_⟩, cS_ne (by omega), by rw [cS_eq]; exact f2, cS_ne (by omega), rfl, rfl, rfl⟩
  rw [cS_ne (by omega)]
  exact h5 i hi
theorem w_settle_no {c : CS} {r : Int32} (hr : r < 0) : f_X1_settle c r = some (r, c) := by
  unfold f_X1_settle
  rw [if_pos hr]
theorem w_settle {c : CS} {o k : Nat} {H : Nat → NS} {A : NS} (h : HC c o k H) (hd : CR (c.1 (3 + (o + k) % 5)) A) {v : Nat} (hv : v < 2 ^ 31) :
    ∃ c' o', f_X1_settle c (nI v) = some (nI v, c') ∧ HC c' o' (pushK k) (pushH k H A) ∧ c'.1 = c.1 ∧ FrC c c' := by
  obtain ⟨h1, h2, h3, h4, h5⟩ := h
  unfold f_X1_settle
  rw [if_neg (nI_pos hv), h2, h1]
  by_cases e : k = 4
  · subst e
    rw [if_pos (show (4 : Int32) ≤ nI 4 by decide), oN_to, nI_1, show nI (o + 1) - nI (o + 1) / 5 * 5 = nI ((o + 1) % 5) from pk_rem (d := 5) (by omega) (by decide) (by decide)]
    refine ⟨_, (o + 1) % 5, rfl, ⟨cN_eq, by rw [cN_ne (by decide)]; exact h2, by omega, by decide, fun i hi => ?_⟩, rfl, rfl, rfl, cN_ne (by decide), cN_ne (by decide)⟩
    have hi : i < 4 := hi
    unfold pushH
    rw [if_neg (by decide), cN_1]
    by_cases e : i = 3
    · subst e
      rw [if_pos rfl, show ((o + 1) % 5 + 3) % 5 = (o + 4) % 5 by omega]
      exact hd
    · rw [if_neg e, show ((o + 1) % 5 + i) % 5 = (o + (i + 1)) % 5 by omega]
      exact h5 (i + 1) (by omega)
  · rw [if_neg (show ¬ (4 : Int32) ≤ nI k from nI_ge (b := 4) (by omega) (by decide)), oN_to, nI_1]
    refine ⟨_, o, rfl, ⟨by rw [cN_ne (by decide)]; exact h1, ?_, h3, by unfold pushK; split <;> omega, fun i hi => ?_⟩, rfl, rfl, rfl, cN_ne (by decide), cN_ne (by decide)⟩
    · rw [cN_eq]; unfold pushK; rw [if_pos (by omega)]
    · unfold pushK at hi
      rw [if_pos (by omega)] at hi
      unfold pushH
      rw [if_pos (by omega), cN_1]
      by_cases e : i = k
      · subst e; rw [if_pos rfl]; exact hd
      · rw [if_neg e]; exact h5 i (by omega)
theorem w_takeBack {c : CS} {o k : Nat} {H : Nat → NS} {A : NS} (h : HC c o k H) (hd : CR (c.1 (3 + (o + k) % 5)) A) (I : Iv A) :
    ∃ c', f_X1_takeDraftBack c = some c' ∧ HC c' o k H ∧ CR (c'.1 0) A ∧ FrC c c' := by
  obtain ⟨e1, e2⟩ := h.idx
  obtain ⟨ρ, f1, f2⟩ := w_copy (σ := c.1 0) hd I
  unfold f_X1_takeDraftBack
  rw [if_pos (by rw [e1]; exact nI_in (by omega) (by decide)), e2, f1, oV_some]
  obtain ⟨h1, h2, h3, h4, h5⟩ := h
  refine ⟨_, rfl, ⟨h1, h2, h3, h4, fun i hi => ?_⟩, by rw [cS_eq]; exact f2, cS_ne (by omega), rfl, rfl, rfl⟩
  rw [cS_ne (by omega)]
  exact h5 i hi
/-- the snapshot, and the text -/
def Sn (c : CS) (m : MS) (b : Bool) (S : NS) : Prop := if b = true then c.2.2 0 = 1 ∧ m.2 1 = 1 ∧ CR (c.1 2) S ∧ RM (m.1 4) S ∧ Rest S else c.2.2 0 = 0 ∧ m.2 1 = 0
def Tx (c : CS) (m : MS) (L : Nat) (t : Nat → Nat) : Prop := c.2.2 3 = nI L ∧ m.2 2 = nI L ∧ L ≤ 60 ∧ ∀ i, i < L → c.2.1 i = nI (t i) ∧ m.1 5 i = nI (t i) ∧ t i < 65536
def Top (c : CS) (m : MS) (A : NS) (o k : Nat) (H : Nat → NS) (b : Bool) (S : NS) (L : Nat) (t : Nat → Nat) : Prop :=
  CR (c.1 0) A ∧ RM (m.1 1) A ∧ Rest A ∧ HC c o k H ∧ HM m k H ∧ Sn c m b S ∧ Tx c m L t
def TopE (c : CS) (m : MS) : Prop := ∃ A o k H b S L t, Top c m A o k H b S L t
/-- scratch alone, and the row s -/
def Fr (m m' : MS) : Prop := m'.1 4 = m.1 4 ∧ m'.1 5 = m.1 5 ∧ m'.2 1 = m.2 1 ∧ m'.2 2 = m.2 2
def FrH (m m' : MS) : Prop := m'.1 3 = m.1 3 ∧ m'.2 0 = m.2 0
theorem Fr.refl {m : MS} : Fr m m := ⟨rfl, rfl, rfl, rfl⟩
theorem Fr.trans {a b c : MS} (h : Fr a b) (g : Fr b c) : Fr a c := ⟨g.1.trans h.1, g.2.1.trans h.2.1, g.2.2.1.trans h.2.2.1, g.2.2.2.trans h.2.2.2⟩
theorem FrH.refl {m : MS} : FrH m m := ⟨rfl, rfl⟩
theorem FrH.trans {a b c : MS} (h : FrH a b) (g : FrH b c) : FrH a c := ⟨g.1.trans h.1, g.2.trans h.2⟩
theorem InT.fr {m m' : MS} (h : InT m m') : Fr m m' ∧ FrH m m' := ⟨⟨h.1 4 (by decide) (by decide), h.1 5 (by decide) (by decide), h.2 1 (by decide) (by decide), h.2 2 (by decide) (by decide)⟩, h.1 3 (by decide) (by decide), h.2 0 (by decide) (by decide)⟩
theorem HM.fr {m m' : MS} {k : Nat} {H : Nat → NS} (h : HM m k H) (f : FrH m m') : HM m' k H := ⟨by rw [f.2]; exact h.1, h.2.1, fun i hi => by rw [f.1]; exact h.2.2 i hi⟩
theorem Sn.fr {c c' : CS} {m m' : MS} {b : Bool} {S : NS} (h : Sn c m b S) (f : FrC c c') (g : Fr m m') : Sn c' m' b S := by
  unfold Sn at h ⊢
  rw [f.2.2.1, g.2.2.1, f.1, g.1]
  exact h
theorem Tx.fr {c c' : CS} {m m' : MS} {L : Nat} {t : Nat → Nat} (h : Tx c m L t) (f : FrC c c') (g : Fr m m') : Tx c' m' L t := by
  unfold Tx at h ⊢
  rw [f.2.2.2, g.2.2.2, f.2.1, g.2.1]
  exact h
/-- an act of the class -/
theorem act_no {c : CS} {o k : Nat} {H : Nat → NS} {A : NS} (h : HC c o k H) (hc : CR (c.1 0) A) (I : Iv A) {act : SS → Option (Int32 × SS)} {r : Int32} {τ : SS} (ha : act (c.1 0) = some (r, τ)) (hr : r < 0) (hτ : CR τ A) :
    ∃ c', oV (f_X1_draft c) (fun t => t) (fun s8 => oW (act (s8.1 0)) (cS s8 0) (fun r21 s21 => oW (f_X1_settle s21 r21) (fun t => t) (fun r24 s24 => some (r24, s24)))) = some (r, c') ∧ CR (c'.1 0) A ∧ HC c' o k H ∧ FrC c c' := by
  obtain ⟨d, f1, f2, f3, f4, f5⟩ := w_draft h hc I
  rw [f1, oV_some, f3, ha, oW_some, w_settle_no hr, oW_some]
  obtain ⟨h1, h2, h3, h4, h5⟩ := f2
  exact ⟨_, rfl, by rw [cS_eq]; exact hτ, ⟨h1, h2, h3, h4, fun i hi => by rw [cS_ne (by omega)]; exact h5 i hi⟩, (cS_ne (by decide)).trans f5.1, f5.2.1, f5.2.2.1, f5.2.2.2⟩
theorem act_yes {c : CS} {o k : Nat} {H : Nat → NS} {A B : NS} (h : HC c o k H) (hc : CR (c.1 0) A) (I : Iv A) {act : SS → Option (Int32 × SS)} {v : Nat} {τ : SS} (ha : act (c.1 0) = some (nI v, τ)) (hv : v < 2 ^ 31) (hτ : CR τ B) :
    ∃ c' o', oV (f_X1_draft c) (fun t => t) (fun s8 => oW (act (s8.1 0)) (cS s8 0) (fun r21 s21 => oW (f_X1_settle s21 r21) (fun t => t) (fun r24 s24 => some (r24, s24)))) = some (nI v, c') ∧ CR (c'.1 0) B ∧ HC c' o' (pushK k) (pushH k H A) ∧ FrC c c' := by
  obtain ⟨d, f1, f2, f3, f4, f5⟩ := w_draft h hc I
  have h4 := f2
  obtain ⟨h1, h2, h3, h4, h5⟩ := f2
  have hc2 : HC (cS d 0 τ) o k H := ⟨h1, h2, h3, h4, fun i hi => by rw [cS_ne (by omega)]; exact h5 i hi⟩
  obtain ⟨e, o', g1, g2, g3, g4⟩ := w_settle hc2 (A := A) (by rw [cS_ne (by omega)]; exact f4) hv
  rw [f1, oV_some, f3, ha, oW_some, g1, oW_some]
  refine ⟨e, o', rfl, by rw [g3, cS_eq]; exact hτ, g2, FrC.trans f5 (FrC.trans ⟨cS_ne (by decide), rfl, rfl, rfl⟩ g4)⟩
theorem top_no {c c' : CS} {m m' : MS} {A : NS} {o k : Nat} {H : Nat → NS} {b : Bool} {S : NS} {L : Nat} {t : Nat → Nat} (h : Top c m A o k H b S L t) (h1 : CR (c'.1 0) A) (h2 : HC c' o k H) (f : FrC c c') (h3 : RM (m'.1 1) A) (g : Fr m m') (gh : FrH m m') : TopE c' m' :=
  ⟨A, o, k, H, b, S, L, t, h1, h3, h.2.2.1, h2, h.2.2.2.2.1.fr gh, h.2.2.2.2.2.1.fr f g, h.2.2.2.2.2.2.fr f g⟩
theorem top_yes {c c' : CS} {m m' : MS} {A B : NS} {o o' k k' : Nat} {H H' : Nat → NS} {b : Bool} {S : NS} {L : Nat} {t : Nat → Nat} (h : Top c m A o k H b S L t) (h1 : CR (c'.1 0) B) (h2 : HC c' o' k' H') (f : FrC c c') (h3 : RM (m'.1 1) B) (g : Fr m m') (gh : HM m' k' H') (hB : Rest B) : TopE c' m' :=
  ⟨B, o', k', H', b, S, L, t, h1, h3, hB, h2, gh, h.2.2.2.2.2.1.fr f g, h.2.2.2.2.2.2.fr f g⟩
/-- the row s is changed behind a record -/
theorem know_fr {m τ : MS} (h1 : ∀ j, j ≠ 3 → τ.1 j = m.1 j) (h2 : ∀ j, j ≠ 0 → τ.2 j = m.2 j) : Fr m τ := ⟨h1 4 (by decide), h1 5 (by decide), h2 1 (by decide), h2 2 (by decide)⟩
theorem InM.fr {m m' : MS} (h : InM m m') : Fr m m' ∧ FrH m m' := h.t.fr
