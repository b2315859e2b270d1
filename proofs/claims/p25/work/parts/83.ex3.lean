/-! PURE (p25): each call that the law does -/
theorem d_append {c : CS} {A : NS} {o k : Nat} {H : Nat → NS} (h : Tq c A o k H) (p1 p2 p3 : Int32) : Does A (f_X5_append c p1 p2 p3) := by
  have hcr := h.1
  have hA := h.2.1
  have no : ∀ r : Int32, r < 0 → ¬ r < -5 → f_X3_send (c.1 0) p1 p2 p3 = some (r, c.1 0) → Does A (f_X5_append c p1 p2 p3) := fun r hr h5 e1 => does_no h (act := fun s => f_X3_send s p1 p2 p3) hr h5 e1
  rcases writer_cases p1 with ⟨w, hw, rfl⟩ | ⟨e1, e2⟩
  · rcases zone_cases p2 with ⟨z, hz, rfl⟩ | ⟨e1, e2⟩
    · rcases range_cases p3 0 99 (by decide) (by decide) with ⟨v, _, hv, rfl, e1, e2⟩ | ⟨_, e1, e2⟩
      · by_cases hf : Full A w
        · exact no (-3) (by decide) (by decide) (w_sendC_full hcr.1 hA.1.b hw hz hv hf)
        · obtain ⟨τ, f1, f2⟩ := cr_send hcr hA hw hz hv hf
          have hn := hA.2.1
          have E := Ex_add h.2.2.1 (w := w) (z := z) (v := v)
          exact does_yes h (act := fun s => f_X3_send s (nI w) (nI z) (nI v)) f1 (by omega) f2 (Rest_add hA hw hz hv hf) E.1 (by rw [aAdd_2, if_neg (by decide)]; omega) (Or.inl E.2)
      · have e1 : f_X5_isFrom p3 0 99 = some 0 := e1
        refine no (-2) (by decide) (by decide) ?_
        unfold f_X3_send
        rw [w_isWriter hw, oR_some, if_neg (show ¬ (1 : Int32) = 0 by decide), w_isZone hz, oR_some, if_neg (show ¬ (1 : Int32) = 0 by decide), e1, oR_some, if_pos rfl]
    · refine no (-1) (by decide) (by decide) ?_
      unfold f_X3_send
      rw [w_isWriter hw, oR_some, if_neg (show ¬ (1 : Int32) = 0 by decide), e1, oR_some, if_pos rfl]
  · refine no (-1) (by decide) (by decide) ?_
    unfold f_X3_send
    rw [e1, oR_some, if_pos rfl]
theorem d_reset {c : CS} {A : NS} {o k : Nat} {H : Nat → NS} (h : Tq c A o k H) (p1 : Int32) : Does A (f_X5_reset c p1) := by
  have hcr := h.1
  have hA := h.2.1
  have no : ∀ r : Int32, r < 0 → ¬ r < -5 → f_X3_wipe (c.1 0) p1 = some (r, c.1 0) → Does A (f_X5_reset c p1) := fun r hr h5 e1 => does_no h (act := fun s => f_X3_wipe s p1) hr h5 e1
  rcases zone_cases p1 with ⟨z, hz, rfl⟩ | ⟨e1, e2⟩
  · by_cases e : A.1 13 z = 0
    · exact no (-5) (by decide) (by decide) (cr_wipe_no hcr.1 hz e)
    · obtain ⟨τ, f1, f2⟩ := cr_wipe hcr hA.1 hz e
      have hc := cnt_le (rdb A z) (A.2 0)
      have hn := hA.2.1
      have E := Ex_reset h.2.2.1 (z := z)
      exact does_yes h (act := fun s => f_X3_wipe s (nI z)) f1 (by omega) f2 (Rest_reset hA hz e) E.1 (by rw [aReset_2]; omega) (Or.inl E.2)
  · refine no (-1) (by decide) (by decide) ?_
    unfold f_X3_wipe
    rw [e1, oR_some, if_pos rfl]
theorem d_finish {c : CS} {A : NS} {o k : Nat} {H : Nat → NS} (h : Tq c A o k H) (p1 : Int32) : Does A (f_X5_finish c p1) := by
  have hcr := h.1
  have hA := h.2.1
  have no : ∀ r : Int32, r < 0 → ¬ r < -5 → f_X3_fill (c.1 0) p1 = some (r, c.1 0) → Does A (f_X5_finish c p1) := fun r hr h5 e1 => does_no h (act := fun s => f_X3_fill s p1) hr h5 e1
  rcases zone_cases p1 with ⟨z, hz, rfl⟩ | ⟨e1, e2⟩
  · have C := cr_fill_no hcr.1 hA.1 hz
    by_cases e : A.1 13 z = 0
    · exact no (-4) (by decide) (by decide) (C.1 e)
    · by_cases e3 : A.1 13 z = 3
      · exact no (-5) (by decide) (by decide) (C.2 e3)
      · obtain ⟨τ, f1, f2⟩ := cr_fill hcr hA.1 hz e e3
        have hc := cnt_le (fun a => decide (A.1 3 a = z ∧ A.1 5 a = 0)) (A.2 0)
        have hn := hA.2.1
        have E := Ex_finish h.2.2.1 e
        exact does_yes h (act := fun s => f_X3_fill s (nI z)) f1 (by omega) f2 (Rest_finish hA hz e) E.1 (by unfold aFinish; rw [aFailAll_2]; show A.2 10 ≤ _; omega) (Or.inl E.2)
  · refine no (-1) (by decide) (by decide) ?_
    unfold f_X3_fill
    rw [e1, oR_some, if_pos rfl]
theorem d_close {c : CS} {A : NS} {o k : Nat} {H : Nat → NS} (h : Tq c A o k H) (p1 : Int32) : Does A (f_X5_close c p1) := by
  have hcr := h.1
  have hA := h.2.1
  have bd := hA.1.b
  have no : ∀ r : Int32, r < 0 → ¬ r < -5 → f_X3_shut (c.1 0) p1 = some (r, c.1 0) → Does A (f_X5_close c p1) := fun r hr h5 e1 => does_no h (act := fun s => f_X3_shut s p1) hr h5 e1
  rcases zone_cases p1 with ⟨z, hz, rfl⟩ | ⟨e1, e2⟩
  · by_cases e : A.1 13 z = 1 ∧ atWZ A z = 0
    · obtain ⟨τ, f1, f2⟩ := cr_shut hcr hA.1 hz e.1 e.2
      have IC := Iv_close hA.1 hz e.1
      have h8 : nOpen (aClose A z) ≤ 8 := cnt_le _ _
      have RB : Rest (aClose A z) := hA.mono IC rfl (funext fun i => setA_nm (by decide)) (fun a _ hx => by unfold aClose at hx; rw [setA_nm (by decide)] at hx; exact hx) rfl
      have E := Ex_close h.2.2.1 e.1 e.2
      exact does_yes h (act := fun s => f_X3_shut s (nI z)) f1 (by omega) f2 RB E.1 (by show A.2 10 ≤ _; omega) (Or.inl E.2)
    · exact no (-4) (by decide) (by decide) (w_shut_no hcr.1 bd hcr.2 hz (fun a _ hx => decide_eq_true (Or.inr hx)) e)
  · refine no (-1) (by decide) (by decide) ?_
    unfold f_X3_shut
    rw [e1, oR_some, if_pos rfl]
theorem d_pass {c : CS} {A : NS} {o k : Nat} {H : Nat → NS} (h : Tq c A o k H) {v : Nat} (h1 : 1 ≤ v) (h4 : v ≤ 4) : Does A (f_X5_pass c (nI v)) := by
  have hcr := h.1
  have hA := h.2.1
  have ht := hA.2.2.2
  by_cases e : A.2 10 + v ≤ 9999
  · obtain ⟨τ, f1, f2⟩ := w_letPass hcr hA.1 h1 (by omega) e
    have RB := hA.ticks e
    have h201 := RB.1.told
    obtain ⟨J, L, t⟩ := Iv_ticks hA.1 v (by omega)
    have E := ticks_ex h.2.2.1 hA.1 v (by omega)
    have n8 : (aTicks A v).2 8 = A.2 8 := L.1 8 (by decide)
    exact does_yes h (act := fun s => f_X3_letPass s (nI v)) f1 (by omega) f2 RB E.1 (by omega) (by rw [n8]; exact E.2)
  · exact does_no h (act := fun s => f_X3_letPass s (nI v)) (by decide) (by decide) (w_letPass_full hcr.1 ht h1 (by omega) e)
theorem d_set {c : CS} {A : NS} {o k : Nat} {H : Nat → NS} (h : Tq c A o k H) (p1 p2 : Int32) : Does A (f_X5_set c p1 p2) := by
  have hcr := h.1
  have hA := h.2.1
  have bd := hA.1.b
  have no : ∀ r : Int32, r < 0 → ¬ r < -5 → f_X3_changeNumber (c.1 0) p1 p2 = some (r, c.1 0) → Does A (f_X5_set c p1 p2) := fun r hr h5 e1 => does_no h (act := fun s => f_X3_changeNumber s p1 p2) hr h5 e1
  have hop : f_X4_inPhase (c.1 0) 1 = some (nI (nOpen A)) := w_inPhase hcr.1 (q := 1) (by decide) (fun z _ => bd.2.1 13 z)
  have huse : f_X4_inUse (c.1 0) = some (nI (nUse A)) := w_inUse hcr.1 bd
  have ho8 : nOpen A ≤ 8 := cnt_le _ 8
  have hu8 : nUse A ≤ 8 := cnt_le _ 8
  rcases range_cases p1 0 3 (by decide) (by decide) with ⟨w, _, hw, rfl, _, e2⟩ | ⟨hp, _, e2⟩
  · rcases (by omega : w = 0 ∨ w = 1 ∨ w = 2 ∨ w = 3) with e | e | e | e
    · subst e
      rcases range_cases p2 1 8 (by decide) (by decide) with ⟨v, hv1, hv8, rfl, q1, q2⟩ | ⟨_, q1, q2⟩
      · have q1 : f_X5_isFrom (nI v) 1 8 = some 1 := q1
        have hle : (nI (nOpen A) ≤ nI v) ↔ nOpen A ≤ v := nI_leI (by omega) (by omega)
        by_cases e : nOpen A ≤ v
        · refine does_change h (act := fun s => f_X3_changeNumber s (nI 0) (nI v)) (old := A.2 4) (v := v) (bd.2.2 4) (τ := sN (c.1 0) 4 (nI v)) ?_ (fun x => sN_self (by rw [hcr.1.1 4 (by decide) (by decide), x])) (CR_num hcr (by decide) (by decide) (by decide)) (Rest_num hA (Or.inl ⟨rfl, hv8⟩)) (Ex_num h.2.2.1 (Or.inl ⟨rfl, e⟩)) (setN_ne (by decide))
          unfold f_X3_changeNumber f_X3_changeOpenLimit
          rw [if_pos (show nI 0 = 0 from rfl), q1, oR_some, if_neg (show ¬ (1 : Int32) = 0 by decide), hop, oR_some, if_pos (hle.2 e), oN_to, hcr.1.1 4 (by decide) (by decide), if_eqN (bd.2.2 4) (by omega)]
          split <;> rfl
        · refine no (-4) (by decide) (by decide) ?_
          unfold f_X3_changeNumber f_X3_changeOpenLimit
          rw [if_pos (show nI 0 = 0 from rfl), q1, oR_some, if_neg (show ¬ (1 : Int32) = 0 by decide), hop, oR_some, if_neg (fun x => e (hle.1 x)), oW_some]
      · have q1 : f_X5_isFrom p2 1 8 = some 0 := q1
        refine no (-2) (by decide) (by decide) ?_
        unfold f_X3_changeNumber f_X3_changeOpenLimit
        rw [if_pos (show nI 0 = 0 from rfl), q1, oR_some, if_pos rfl, oW_some]
    · subst e
      rcases range_cases p2 1 8 (by decide) (by decide) with ⟨v, hv1, hv8, rfl, q1, q2⟩ | ⟨_, q1, q2⟩
      · have q1 : f_X5_isFrom (nI v) 1 8 = some 1 := q1
        have hle : (nI (nUse A) ≤ nI v) ↔ nUse A ≤ v := nI_leI (by omega) (by omega)
        by_cases e : nUse A ≤ v
        · refine does_change h (act := fun s => f_X3_changeNumber s (nI 1) (nI v)) (old := A.2 5) (v := v) (bd.2.2 5) (τ := sN (c.1 0) 5 (nI v)) ?_ (fun x => sN_self (by rw [hcr.1.1 5 (by decide) (by decide), x])) (CR_num hcr (by decide) (by decide) (by decide)) (Rest_num hA (Or.inr (Or.inl ⟨rfl, hv8⟩))) (Ex_num h.2.2.1 (Or.inr (Or.inl ⟨rfl, e⟩))) (setN_ne (by decide))
          unfold f_X3_changeNumber f_X3_changeUseLimit
          rw [if_neg (show ¬ nI 1 = 0 by decide), if_pos (show nI 1 = 1 from rfl), q1, oR_some, if_neg (show ¬ (1 : Int32) = 0 by decide), huse, oR_some, if_pos (hle.2 e), oN_to, hcr.1.1 5 (by decide) (by decide), if_eqN (bd.2.2 5) (by omega)]
          split <;> rfl
        · refine no (-4) (by decide) (by decide) ?_
          unfold f_X3_changeNumber f_X3_changeUseLimit
          rw [if_neg (show ¬ nI 1 = 0 by decide), if_pos (show nI 1 = 1 from rfl), q1, oR_some, if_neg (show ¬ (1 : Int32) = 0 by decide), huse, oR_some, if_neg (fun x => e (hle.1 x)), oW_some]
      · have q1 : f_X5_isFrom p2 1 8 = some 0 := q1
        refine no (-2) (by decide) (by decide) ?_
        unfold f_X3_changeNumber f_X3_changeUseLimit
        rw [if_neg (show ¬ nI 1 = 0 by decide), if_pos (show nI 1 = 1 from rfl), q1, oR_some, if_pos rfl, oW_some]
    · subst e
      rcases range_cases p2 1 4 (by decide) (by decide) with ⟨v, hv1, hv8, rfl, q1, q2⟩ | ⟨_, q1, q2⟩
      · have q1 : f_X5_isFrom (nI v) 1 4 = some 1 := q1
        refine does_change h (act := fun s => f_X3_changeNumber s (nI 2) (nI v)) (old := A.2 8) (v := v) (bd.2.2 8) (τ := sN (c.1 0) 8 (nI v)) ?_ (fun x => sN_self (by rw [hcr.1.1 8 (by decide) (by decide), x])) (CR_num hcr (by decide) (by decide) (by decide)) (Rest_num hA (Or.inr (Or.inr (Or.inl ⟨rfl, hv1, hv8⟩)))) (Ex_num h.2.2.1 (Or.inr (Or.inr (Or.inl rfl)))) (setN_ne (by decide))
        unfold f_X3_changeNumber f_X3_changeChannels
        rw [if_neg (show ¬ nI 2 = 0 by decide), if_neg (show ¬ nI 2 = 1 by decide), if_pos (show nI 2 = 2 from rfl), q1, oR_some, if_neg (show ¬ (1 : Int32) = 0 by decide), oN_to, hcr.1.1 8 (by decide) (by decide), if_eqN (bd.2.2 8) (by omega)]
        split <;> rfl
      · have q1 : f_X5_isFrom p2 1 4 = some 0 := q1
        refine no (-2) (by decide) (by decide) ?_
        unfold f_X3_changeNumber f_X3_changeChannels
        rw [if_neg (show ¬ nI 2 = 0 by decide), if_neg (show ¬ nI 2 = 1 by decide), if_pos (show nI 2 = 2 from rfl), q1, oR_some, if_pos rfl, oW_some]
    · subst e
      rcases range_cases p2 0 1 (by decide) (by decide) with ⟨v, hv1, hv8, rfl, q1, q2⟩ | ⟨_, q1, q2⟩
      · have q1 : f_X5_isFrom (nI v) 0 1 = some 1 := q1
        refine does_change h (act := fun s => f_X3_changeNumber s (nI 3) (nI v)) (old := A.2 9) (v := v) (bd.2.2 9) (τ := sN (c.1 0) 9 (nI v)) ?_ (fun x => sN_self (by rw [hcr.1.1 9 (by decide) (by decide), x])) (CR_num hcr (by decide) (by decide) (by decide)) (Rest_num hA (Or.inr (Or.inr (Or.inr ⟨rfl, hv8⟩)))) (Ex_num h.2.2.1 (Or.inr (Or.inr (Or.inr rfl)))) (setN_ne (by decide))
        unfold f_X3_changeNumber f_X3_changeManner
        rw [if_neg (show ¬ nI 3 = 0 by decide), if_neg (show ¬ nI 3 = 1 by decide), if_neg (show ¬ nI 3 = 2 by decide), if_pos (show nI 3 = 3 from rfl), q1, oR_some, if_neg (show ¬ (1 : Int32) = 0 by decide), oN_to, hcr.1.1 9 (by decide) (by decide), if_eqN (bd.2.2 9) (by omega)]
        split <;> rfl
      · have q1 : f_X5_isFrom p2 0 1 = some 0 := q1
        refine no (-2) (by decide) (by decide) ?_
        unfold f_X3_changeNumber f_X3_changeManner
        rw [if_neg (show ¬ nI 3 = 0 by decide), if_neg (show ¬ nI 3 = 1 by decide), if_neg (show ¬ nI 3 = 2 by decide), if_pos (show nI 3 = 3 from rfl), q1, oR_some, if_pos rfl, oW_some]
  · have ne : ∀ j : Nat, j ≤ 3 → ¬ p1 = nI j := by
      intro j hj x
      rw [x] at hp
      rcases hp with hp | hp
      · exact nI_pos (n := j) (by omega) hp
      · exact nI_nlt (b := j) (a := 3) hj (by decide) hp
    refine no (-2) (by decide) (by decide) ?_
    unfold f_X3_changeNumber
    rw [if_neg (show ¬ p1 = 0 from ne 0 (by decide)), if_neg (show ¬ p1 = 1 from ne 1 (by decide)), if_neg (show ¬ p1 = 2 from ne 2 (by decide)), if_neg (show ¬ p1 = 3 from ne 3 (by decide))]
theorem d_setWindow {c : CS} {A : NS} {o k : Nat} {H : Nat → NS} (h : Tq c A o k H) (p1 p2 : Int32) : Does A (f_X5_setWindow c p1 p2) := by
  have hcr := h.1
  have hA := h.2.1
  have bd := hA.1.b
  have no : ∀ r : Int32, r < 0 → ¬ r < -5 → f_X3_changeWindow (c.1 0) p1 p2 = some (r, c.1 0) → Does A (f_X5_setWindow c p1 p2) := fun r hr h5 e1 => does_no h (act := fun s => f_X3_changeWindow s p1 p2) hr h5 e1
  rcases writer_cases p1 with ⟨w, hw, rfl⟩ | ⟨e1, e2⟩
  · rcases range_cases p2 1 8 (by decide) (by decide) with ⟨v, hv1, hv8, rfl, q1, q2⟩ | ⟨_, q1, q2⟩
    · have q1 : f_X5_isFrom (nI v) 1 8 = some 1 := q1
      refine does_change h (act := fun s => f_X3_changeWindow s (nI w) (nI v)) (old := A.1 19 w) (v := v) (bd.2.1 19 w) (τ := sA (c.1 0) 19 (upd ((c.1 0).1 19) w (nI v))) ?_ (fun x => sA_self (by rw [hcr.1.wr (by decide) (by decide) hw, x])) (CR_zone hcr (by decide) (by decide)) (hA.mono (Iv_window hA.1 hv8) rfl (funext fun i => setA_nm (by decide)) (fun a _ hx => by rw [setA_nm (by decide)] at hx; exact hx) rfl) (Ex_zset h.2.2.1 (Or.inr (Or.inr rfl))) rfl
      unfold f_X3_changeWindow
      rw [w_isWriter hw, oR_some, if_neg (show ¬ (1 : Int32) = 0 by decide), q1, oR_some, if_neg (show ¬ (1 : Int32) = 0 by decide), oA_at hw (by decide), oS_at hw (by decide), hcr.1.wr (by decide) (by decide) hw, if_eqN (bd.2.1 19 w) (by omega)]
      split <;> rfl
    · have q1 : f_X5_isFrom p2 1 8 = some 0 := q1
      refine no (-2) (by decide) (by decide) ?_
      unfold f_X3_changeWindow
      rw [w_isWriter hw, oR_some, if_neg (show ¬ (1 : Int32) = 0 by decide), q1, oR_some, if_pos rfl]
  · refine no (-1) (by decide) (by decide) ?_
    unfold f_X3_changeWindow
    rw [e1, oR_some, if_pos rfl]
theorem d_setZone {c : CS} {A : NS} {o k : Nat} {H : Nat → NS} (h : Tq c A o k H) (p1 p2 p3 : Int32) : Does A (f_X5_setZone c p1 p2 p3) := by
  have hcr := h.1
  have hA := h.2.1
  have bd := hA.1.b
  by_cases hd : p2 = 0
  · have X : f_X5_setZone c p1 p2 p3 = oV (f_X1_draft c) (fun t => t) (fun s8 => oW (f_X3_changeCapacity (s8.1 0) p1 p3) (cS s8 0) (fun r21 s21 => oW (f_X1_settle s21 r21) (fun t => t) (fun r24 s24 => some (r24, s24)))) := by
      unfold f_X5_setZone
      simp only [oJ_to, if_pos hd]
    rw [X]
    have no : ∀ r : Int32, r < 0 → ¬ r < -5 → f_X3_changeCapacity (c.1 0) p1 p3 = some (r, c.1 0) → Does A (oV (f_X1_draft c) (fun t => t) (fun s8 => oW (f_X3_changeCapacity (s8.1 0) p1 p3) (cS s8 0) (fun r21 s21 => oW (f_X1_settle s21 r21) (fun t => t) (fun r24 s24 => some (r24, s24))))) := fun r hr h5 e1 => does_no h (act := fun s => f_X3_changeCapacity s p1 p3) hr h5 e1
    rcases zone_cases p1 with ⟨z, hz, rfl⟩ | ⟨e1, e2⟩
    · rcases range_cases p3 1 16 (by decide) (by decide) with ⟨v, hv1, hv8, rfl, q1, q2⟩ | ⟨_, q1, q2⟩
      · have q1 : f_X5_isFrom (nI v) 1 16 = some 1 := q1
        by_cases e : A.1 13 z = 0
        · refine does_change h (act := fun s => f_X3_changeCapacity s (nI z) (nI v)) (old := A.1 14 z) (v := v) (bd.2.1 14 z) (τ := sA (c.1 0) 14 (upd ((c.1 0).1 14) z (nI v))) ?_ (fun x => sA_self (by rw [hcr.1.zn (by decide) (by decide) hz, x])) (CR_zone hcr (by decide) (by decide)) (hA.mono (Iv_cap hA.1 hz e hv1 hv8) rfl (funext fun i => setA_nm (by decide)) (fun a _ hx => by rw [setA_nm (by decide)] at hx; exact hx) rfl) (Ex_zset h.2.2.1 (Or.inl rfl)) rfl
          unfold f_X3_changeCapacity
          rw [w_isZone hz, oR_some, if_neg (show ¬ (1 : Int32) = 0 by decide), q1, oR_some, if_neg (show ¬ (1 : Int32) = 0 by decide), oA_at hz (by decide), hcr.1.zn (by decide) (by decide) hz, e, if_pos (show nI 0 = 0 from rfl), oA_at hz (by decide), oS_at hz (by decide), hcr.1.zn (by decide) (by decide) hz, if_eqN (bd.2.1 14 z) (by omega)]
          split <;> rfl
        · refine no (-4) (by decide) (by decide) ?_
          unfold f_X3_changeCapacity
          rw [w_isZone hz, oR_some, if_neg (show ¬ (1 : Int32) = 0 by decide), q1, oR_some, if_neg (show ¬ (1 : Int32) = 0 by decide), oA_at hz (by decide), hcr.1.zn (by decide) (by decide) hz, if_neg (fun x => e ((nI_eq0 (bd.2.1 13 z)).1 x))]
      · have q1 : f_X5_isFrom p3 1 16 = some 0 := q1
        refine no (-2) (by decide) (by decide) ?_
        unfold f_X3_changeCapacity
        rw [w_isZone hz, oR_some, if_neg (show ¬ (1 : Int32) = 0 by decide), q1, oR_some, if_pos rfl]
    · refine no (-1) (by decide) (by decide) ?_
      unfold f_X3_changeCapacity
      rw [e1, oR_some, if_pos rfl]
  · have X : f_X5_setZone c p1 p2 p3 = oV (f_X1_draft c) (fun t => t) (fun s8 => oW (f_X3_changeDelay (s8.1 0) p1 p3) (cS s8 0) (fun r21 s21 => oW (f_X1_settle s21 r21) (fun t => t) (fun r24 s24 => some (r24, s24)))) := by
      unfold f_X5_setZone
      simp only [oJ_to, if_neg hd]
    rw [X]
    have no : ∀ r : Int32, r < 0 → ¬ r < -5 → f_X3_changeDelay (c.1 0) p1 p3 = some (r, c.1 0) → Does A (oV (f_X1_draft c) (fun t => t) (fun s8 => oW (f_X3_changeDelay (s8.1 0) p1 p3) (cS s8 0) (fun r21 s21 => oW (f_X1_settle s21 r21) (fun t => t) (fun r24 s24 => some (r24, s24))))) := fun r hr h5 e1 => does_no h (act := fun s => f_X3_changeDelay s p1 p3) hr h5 e1
    rcases zone_cases p1 with ⟨z, hz, rfl⟩ | ⟨e1, e2⟩
    · rcases range_cases p3 1 9 (by decide) (by decide) with ⟨v, hv1, hv8, rfl, q1, q2⟩ | ⟨_, q1, q2⟩
      · have q1 : f_X5_isFrom (nI v) 1 9 = some 1 := q1
        refine does_change h (act := fun s => f_X3_changeDelay s (nI z) (nI v)) (old := A.1 15 z) (v := v) (bd.2.1 15 z) (τ := sA (c.1 0) 15 (upd ((c.1 0).1 15) z (nI v))) ?_ (fun x => sA_self (by rw [hcr.1.zn (by decide) (by decide) hz, x])) (CR_zone hcr (by decide) (by decide)) (hA.mono (Iv_delay hA.1 hz hv1 hv8) rfl (funext fun i => setA_nm (by decide)) (fun a _ hx => by rw [setA_nm (by decide)] at hx; exact hx) rfl) (Ex_zset h.2.2.1 (Or.inr (Or.inl rfl))) rfl
        unfold f_X3_changeDelay
        rw [w_isZone hz, oR_some, if_neg (show ¬ (1 : Int32) = 0 by decide), q1, oR_some, if_neg (show ¬ (1 : Int32) = 0 by decide), oA_at hz (by decide), oS_at hz (by decide), hcr.1.zn (by decide) (by decide) hz, if_eqN (bd.2.1 15 z) (by omega)]
        split <;> rfl
      · have q1 : f_X5_isFrom p3 1 9 = some 0 := q1
        refine no (-2) (by decide) (by decide) ?_
        unfold f_X3_changeDelay
        rw [w_isZone hz, oR_some, if_neg (show ¬ (1 : Int32) = 0 by decide), q1, oR_some, if_pos rfl]
    · refine no (-1) (by decide) (by decide) ?_
      unfold f_X3_changeDelay
      rw [e1, oR_some, if_pos rfl]
