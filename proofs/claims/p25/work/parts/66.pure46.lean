/-! PURE: acts on appends and zones, class -/
theorem cr_send {σ : SS} {A : NS} (h : CR σ A) (hA : Rest A) {w z v : Nat} (hw : w < 4) (hz : z < 8) (hv : v ≤ 99) (hf : ¬ Full A w) : ∃ τ, f_X3_send σ (nI w) (nI z) (nI v) = some (nI (A.2 0), τ) ∧ CR τ (aAdd A w z v) := by
  have hl := hA.live
  obtain ⟨q2, q3, q4, q5⟩ := aAdd_new (A := A) (w := w) (z := z) (v := v)
  obtain ⟨τ, f1, f2, f3⟩ := w_sendC (Q := liveP (aAdd A w z v)) h.1 hA.1.b h.2 hw hz hv hf (by omega) (fun a ha => by unfold liveP; rw [aAdd_old (Nat.ne_of_lt ha)]) (by unfold liveP; rw [q5]; rfl)
  exact ⟨τ, f1, f2, by rw [aAdd_2, if_pos rfl]; exact f3⟩
theorem cr_wipe {σ : SS} {A : NS} (h : CR σ A) (I : Iv A) {z : Nat} (hz : z < 8) (h0 : A.1 13 z ≠ 0) : ∃ τ, f_X3_wipe σ (nI z) = some (nI (cnt (rdb A z) (A.2 0)), τ) ∧ CR τ (aReset A z) := by
  obtain ⟨τ, f1, f2, f3⟩ := w_wipe h.1 I.b h.2 hz (fun a _ hx => decide_eq_true (Or.inr hx)) h0
  refine ⟨τ, f1, f2, ?_⟩
  rw [aReset_2]
  refine LV_congr f3 fun a ha => ?_
  unfold liveP
  rw [aReset_5 ha, aFailAll_5 (by decide) ha]
  by_cases e : A.1 3 a = z ∧ A.1 5 a = 1
  · rw [if_pos e]; rfl
  · rw [if_neg e]
    by_cases e2 : A.1 5 a = 0 ∨ A.1 5 a = 1
    · rw [decide_eq_true e2]; rfl
    · rw [decide_eq_false e2]; rfl
theorem cr_wipe_no {σ : SS} {A : NS} (h : RC σ A) {z : Nat} (hz : z < 8) (h0 : A.1 13 z = 0) : f_X3_wipe σ (nI z) = some (-5, σ) := by
  unfold f_X3_wipe
  rw [w_isZone hz, oR_some, if_neg (show ¬ (1 : Int32) = 0 by decide), oA_at hz (by decide), h.zn (by decide) (by decide) hz, h0, if_pos (show nI 0 = 0 from rfl)]
theorem cr_fill {σ : SS} {A : NS} (h : CR σ A) (I : Iv A) {z : Nat} (hz : z < 8) (h0 : A.1 13 z ≠ 0) (h3 : A.1 13 z ≠ 3) : ∃ τ, f_X3_fill σ (nI z) = some (nI (cnt (fun a => decide (A.1 3 a = z ∧ A.1 5 a = 0)) (A.2 0)), τ) ∧ CR τ (aFinish A z) := by
  obtain ⟨τ, f1, f2, f3⟩ := w_fill h.1 I.b h.2 hz (fun a _ hx => decide_eq_true (Or.inl hx)) h0 h3
  refine ⟨τ, f1, f2, ?_⟩
  rw [show (aFinish A z).2 0 = A.2 0 by unfold aFinish; rw [aFailAll_2]; rfl]
  refine LV_congr f3 fun a ha => ?_
  unfold liveP aFinish
  rw [aFailAll_5 (A := setA A 13 z 3) (by decide) ha, setA_nm (by decide), setA_nm (by decide)]
  by_cases e : A.1 3 a = z ∧ A.1 5 a = 0
  · rw [if_pos e]; rfl
  · rw [if_neg e]
    by_cases e2 : A.1 5 a = 0 ∨ A.1 5 a = 1
    · rw [decide_eq_true e2]; rfl
    · rw [decide_eq_false e2]; rfl
theorem cr_fill_no {σ : SS} {A : NS} (h : RC σ A) (I : Iv A) {z : Nat} (hz : z < 8) : (A.1 13 z = 0 → f_X3_fill σ (nI z) = some (-4, σ)) ∧ (A.1 13 z = 3 → f_X3_fill σ (nI z) = some (-5, σ)) := by
  unfold f_X3_fill
  rw [w_isZone hz, oR_some, if_neg (show ¬ (1 : Int32) = 0 by decide), oA_at hz (by decide), h.zn (by decide) (by decide) hz]
  refine ⟨fun e => by rw [e, if_pos (show nI 0 = 0 from rfl)], fun e => ?_⟩
  rw [e, if_neg (show ¬ nI 3 = 0 by decide), oA_at hz (by decide), h.zn (by decide) (by decide) hz, e, if_pos (show nI 3 = 3 from rfl)]
theorem cr_shut {σ : SS} {A : NS} (h : CR σ A) (I : Iv A) {z : Nat} (hz : z < 8) (h1 : A.1 13 z = 1) (h0 : atWZ A z = 0) : ∃ τ, f_X3_shut σ (nI z) = some (nI (nOpen (aClose A z)), τ) ∧ CR τ (aClose A z) := by
  obtain ⟨τ, f1, f2, f3⟩ := w_shut h.1 I.b h.2 hz (fun a _ hx => decide_eq_true (Or.inr hx)) h1 h0
  refine ⟨τ, f1, f2, LV_congr f3 fun a _ => ?_⟩
  unfold liveP aClose
  rw [setA_nm (by decide)]
theorem t_refuse {c : CS} {m m' : MS} {A : NS} {o k : Nat} {H : Nat → NS} {b : Bool} {S : NS} {L : Nat} {t : Nat → Nat} (hT : Top c m A o k H b S L t) {act : SS → Option (Int32 × SS)} {r : Int32} {τ : SS} (e1 : act (c.1 0) = some (r, τ)) (hr : r < 0) (hτ : CR τ A) {W : Option (Int32 × MS)} (e2 : W = some (r, m')) (h : RM (m'.1 1) A) (g : Fr m m') (gh : FrH m m') :
    ∃ r c' m', oV (f_X1_draft c) (fun t => t) (fun s8 => oW (act (s8.1 0)) (cS s8 0) (fun r21 s21 => oW (f_X1_settle s21 r21) (fun t => t) (fun r24 s24 => some (r24, s24)))) = some (r, c') ∧ W = some (r, m') ∧ TopE c' m' := by
  obtain ⟨c', g1, g2, g3, g4⟩ := act_no hT.2.2.2.1 hT.1 hT.2.2.1.1 e1 hr hτ
  exact ⟨r, c', m', g1, e2, top_no hT g2 g3 g4 h g gh⟩
theorem t_accept {c : CS} {m m' : MS} {A B : NS} {o k : Nat} {H : Nat → NS} {b : Bool} {S : NS} {L : Nat} {t : Nat → Nat} (hT : Top c m A o k H b S L t) {act : SS → Option (Int32 × SS)} {v : Nat} {τ : SS} (e1 : act (c.1 0) = some (nI v, τ)) (hv : v < 2 ^ 31) (hτ : CR τ B) (hB : Rest B) {W : Option (Int32 × MS)} (e2 : W = some (nI v, m')) (h : RM (m'.1 1) B) (g : Fr m m') (gh : HM m' (pushK k) (pushH k H A)) :
    ∃ r c' m', oV (f_X1_draft c) (fun t => t) (fun s8 => oW (act (s8.1 0)) (cS s8 0) (fun r21 s21 => oW (f_X1_settle s21 r21) (fun t => t) (fun r24 s24 => some (r24, s24)))) = some (r, c') ∧ W = some (r, m') ∧ TopE c' m' := by
  obtain ⟨c', o', g1, g2, g3, g4⟩ := act_yes hT.2.2.2.1 hT.1 hT.2.2.1.1 e1 hv hτ
  exact ⟨_, c', m', g1, e2, top_yes hT g2 g3 g4 h g gh hB⟩
theorem w_full {σ : MS} {A : NS} (h : RM (σ.1 1) A) (I : Iv A) {w : Nat} (hw : w < 4) : (Full A w → f_X6_isRoom σ (nI w) = some 0) ∧ (¬ Full A w → f_X6_isRoom σ (nI w) = some 1) := by
  rw [w_room h I.b hw]
  exact ⟨fun x => congrArg some (if_pos x), fun x => congrArg some (if_neg x)⟩
theorem call_append {c : CS} {m : MS} (h : TopE c m) (p1 p2 p3 : Int32) : ∃ r c' m', f_X5_append c p1 p2 p3 = some (r, c') ∧ f_X6_append m p1 p2 p3 = some (r, m') ∧ TopE c' m' := by
  obtain ⟨A, o, k, H, b, S, L, t, hT⟩ := h
  have hcr := hT.1
  have hrm := hT.2.1
  have hA := hT.2.2.1
  have no : ∀ r : Int32, r < 0 → f_X3_send (c.1 0) p1 p2 p3 = some (r, c.1 0) → f_X6_append m p1 p2 p3 = some (r, m) → ∃ r c' m', f_X5_append c p1 p2 p3 = some (r, c') ∧ f_X6_append m p1 p2 p3 = some (r, m') ∧ TopE c' m' := fun r hr e1 e2 =>
    t_refuse hT (act := fun s => f_X3_send s p1 p2 p3) e1 hr hcr e2 hrm Fr.refl FrH.refl
  rcases writer_cases p1 with ⟨w, hw, rfl⟩ | ⟨e1, e2⟩
  · rcases zone_cases p2 with ⟨z, hz, rfl⟩ | ⟨e1, e2⟩
    · rcases range_cases p3 0 99 (by decide) (by decide) with ⟨v, _, hv, rfl, e1, e2⟩ | ⟨_, e1, e2⟩
      · have e2 : f_X6_in (nI v) 0 99 = some 1 := e2
        by_cases hf : Full A w
        · refine no (-3) (by decide) (w_sendC_full hcr.1 hA.1.b hw hz hv hf) ?_
          unfold f_X6_append
          rw [w_isWriterM hw, oR_some, if_neg (show ¬ (1 : Int32) = 0 by decide), w_isZoneM hz, oR_some, if_neg (show ¬ (1 : Int32) = 0 by decide), e2, oR_some, if_neg (show ¬ (1 : Int32) = 0 by decide), (w_full hrm hA.1 hw).1 hf, oR_some, if_pos rfl]
        · obtain ⟨τ, f1, f2⟩ := cr_send hcr hA hw hz hv hf
          obtain ⟨ρ, k1, k2, k3, k4⟩ := w_know hT.2.2.2.2.1 hrm hA
          obtain ⟨ρ', s1, s2, s3, s4⟩ := w_sendM (σ := ρ) (A := A) (by rw [k3 1 (by decide)]; exact hrm) (by have := hA.2.1; omega) w z v
          have hn := hA.2.1
          have fr := InM.fr ⟨s3, s4⟩
          refine t_accept hT (act := fun s => f_X3_send s (nI w) (nI z) (nI v)) f1 (by omega) f2 (Rest_add hA hw hz hv hf) (m' := ρ') ?_ s2 ((know_fr k3 k4).trans fr.1) (k2.fr fr.2)
          unfold f_X6_append
          rw [w_isWriterM hw, oR_some, if_neg (show ¬ (1 : Int32) = 0 by decide), w_isZoneM hz, oR_some, if_neg (show ¬ (1 : Int32) = 0 by decide), e2, oR_some, if_neg (show ¬ (1 : Int32) = 0 by decide), (w_full hrm hA.1 hw).2 hf, oR_some, if_neg (show ¬ (1 : Int32) = 0 by decide), k1, oV_some, s1, oW_some]
      · have e1 : f_X5_isFrom p3 0 99 = some 0 := e1
        have e2 : f_X6_in p3 0 99 = some 0 := e2
        refine no (-2) (by decide) ?_ ?_
        · unfold f_X3_send
          rw [w_isWriter hw, oR_some, if_neg (show ¬ (1 : Int32) = 0 by decide), w_isZone hz, oR_some, if_neg (show ¬ (1 : Int32) = 0 by decide), e1, oR_some, if_pos rfl]
        · unfold f_X6_append
          rw [w_isWriterM hw, oR_some, if_neg (show ¬ (1 : Int32) = 0 by decide), w_isZoneM hz, oR_some, if_neg (show ¬ (1 : Int32) = 0 by decide), e2, oR_some, if_pos rfl]
    · refine no (-1) (by decide) ?_ ?_
      · unfold f_X3_send
        rw [w_isWriter hw, oR_some, if_neg (show ¬ (1 : Int32) = 0 by decide), e1, oR_some, if_pos rfl]
      · unfold f_X6_append
        rw [w_isWriterM hw, oR_some, if_neg (show ¬ (1 : Int32) = 0 by decide), e2, oR_some, if_pos rfl]
  · refine no (-1) (by decide) ?_ ?_
    · unfold f_X3_send
      rw [e1, oR_some, if_pos rfl]
    · unfold f_X6_append
      rw [e2, oR_some, if_pos rfl]
theorem call_reset {c : CS} {m : MS} (h : TopE c m) (p1 : Int32) : ∃ r c' m', f_X5_reset c p1 = some (r, c') ∧ f_X6_reset m p1 = some (r, m') ∧ TopE c' m' := by
  obtain ⟨A, o, k, H, b, S, L, t, hT⟩ := h
  have hcr := hT.1
  have hrm := hT.2.1
  have hA := hT.2.2.1
  have no : ∀ r : Int32, r < 0 → f_X3_wipe (c.1 0) p1 = some (r, c.1 0) → f_X6_reset m p1 = some (r, m) → ∃ r c' m', f_X5_reset c p1 = some (r, c') ∧ f_X6_reset m p1 = some (r, m') ∧ TopE c' m' := fun r hr e1 e2 =>
    t_refuse hT (act := fun s => f_X3_wipe s p1) e1 hr hcr e2 hrm Fr.refl FrH.refl
  rcases zone_cases p1 with ⟨z, hz, rfl⟩ | ⟨e1, e2⟩
  · have z0 : m.1 1 (10 + 22 * z) = nI (A.1 13 z) := hrm.zn (k := 0) hz (by decide)
    by_cases e : A.1 13 z = 0
    · refine no (-5) (by decide) (cr_wipe_no hcr.1 hz e) ?_
      unfold f_X6_reset
      rw [w_isZoneM hz, oR_some, if_neg (show ¬ (1 : Int32) = 0 by decide), rZ0, oA_b (by omega), z0, e, if_pos (show nI 0 = 0 from rfl)]
    · obtain ⟨τ, f1, f2⟩ := cr_wipe hcr hA.1 hz e
      obtain ⟨ρ, k1, k2, k3, k4⟩ := w_know hT.2.2.2.2.1 hrm hA
      have hρ : RM (ρ.1 1) A := by rw [k3 1 (by decide)]; exact hrm
      obtain ⟨ρ', s1, s2, s3, s4⟩ := w_resets hρ hA.1.b hz (w_readable hρ hA.1 hz) (fun a ha h2 h3 => by
        have := (hA.1.h.1 a ha (Or.inr h2)).1
        rw [h3] at this
        exact this)
      have fr := InM.fr ⟨s3, s4⟩
      have hc := cnt_le (rdb A z) (A.2 0)
      have hn := hA.2.1
      refine t_accept hT (act := fun s => f_X3_wipe s (nI z)) f1 (by omega) f2 (Rest_reset hA hz e) (m' := ρ') ?_ s2 ((know_fr k3 k4).trans fr.1) (k2.fr fr.2)
      unfold f_X6_reset
      rw [w_isZoneM hz, oR_some, if_neg (show ¬ (1 : Int32) = 0 by decide), rZ0, oA_b (by omega), z0, if_neg (fun x => e ((nI_eq0 (hA.1.b.2.1 13 z)).1 x)), k1, oV_some, s1, oW_some]
  · refine no (-1) (by decide) ?_ ?_
    · unfold f_X3_wipe
      rw [e1, oR_some, if_pos rfl]
    · unfold f_X6_reset
      rw [e2, oR_some, if_pos rfl]
/-- the fault of finishing -/
theorem w_finF {σ : MS} {A : NS} (h : RM (σ.1 1) A) (I : Iv A) {z : Nat} (hz : z < 8) : (A.1 13 z = 0 → f_X6_finishFault σ (nI z) = some (-4)) ∧ (A.1 13 z = 3 → f_X6_finishFault σ (nI z) = some (-5)) ∧ (A.1 13 z ≠ 0 → A.1 13 z ≠ 3 → f_X6_finishFault σ (nI z) = some 0) := by
  have b := I.b
  have z0 : σ.1 1 (10 + 22 * z) = nI (A.1 13 z) := h.zn (k := 0) hz (by decide)
  unfold f_X6_finishFault
  simp only [rZ0]
  rw [oA_b (by omega), oA_b (by omega), z0]
  refine ⟨fun e => by rw [e, if_pos (show nI 0 = 0 from rfl)], fun e => by rw [e, if_neg (show ¬ nI 3 = 0 by decide), if_pos (show nI 3 = 3 from rfl)], fun e0 e3 => ?_⟩
  rw [if_neg (fun x => e0 ((nI_eq0 (b.2.1 13 z)).1 x)), if_neg (show ¬ nI (A.1 13 z) = 3 from fun x => e3 ((nI_eq (b := 3) (b.2.1 13 z) (by decide)).1 x))]
theorem call_finish {c : CS} {m : MS} (h : TopE c m) (p1 : Int32) : ∃ r c' m', f_X5_finish c p1 = some (r, c') ∧ f_X6_finish m p1 = some (r, m') ∧ TopE c' m' := by
  obtain ⟨A, o, k, H, b, S, L, t, hT⟩ := h
  have hcr := hT.1
  have hrm := hT.2.1
  have hA := hT.2.2.1
  have no : ∀ r : Int32, r < 0 → f_X3_fill (c.1 0) p1 = some (r, c.1 0) → f_X6_finish m p1 = some (r, m) → ∃ r c' m', f_X5_finish c p1 = some (r, c') ∧ f_X6_finish m p1 = some (r, m') ∧ TopE c' m' := fun r hr e1 e2 =>
    t_refuse hT (act := fun s => f_X3_fill s p1) e1 hr hcr e2 hrm Fr.refl FrH.refl
  rcases zone_cases p1 with ⟨z, hz, rfl⟩ | ⟨e1, e2⟩
  · have F := w_finF hrm hA.1 hz
    have C := cr_fill_no hcr.1 hA.1 hz
    by_cases e : A.1 13 z = 0
    · refine no (-4) (by decide) (C.1 e) ?_
      unfold f_X6_finish
      rw [w_isZoneM hz, oR_some, if_neg (show ¬ (1 : Int32) = 0 by decide), F.1 e, oR_some, if_neg (show ¬ (0 : Int32) ≤ -4 by decide)]
    · by_cases e3 : A.1 13 z = 3
      · refine no (-5) (by decide) (C.2 e3) ?_
        unfold f_X6_finish
        rw [w_isZoneM hz, oR_some, if_neg (show ¬ (1 : Int32) = 0 by decide), F.2.1 e3, oR_some, if_neg (show ¬ (0 : Int32) ≤ -5 by decide)]
      · obtain ⟨τ, f1, f2⟩ := cr_fill hcr hA.1 hz e e3
        obtain ⟨ρ, k1, k2, k3, k4⟩ := w_know hT.2.2.2.2.1 hrm hA
        have hρ : RM (ρ.1 1) A := by rw [k3 1 (by decide)]; exact hrm
        obtain ⟨ρ', s1, s2, s3, s4⟩ := w_finishes hρ hA.1.b hz
        have fr := InM.fr ⟨s3, s4⟩
        have hc := cnt_le (fun a => decide (A.1 3 a = z ∧ A.1 5 a = 0)) (A.2 0)
        have hn := hA.2.1
        refine t_accept hT (act := fun s => f_X3_fill s (nI z)) f1 (by omega) f2 (Rest_finish hA hz e) (m' := ρ') ?_ s2 ((know_fr k3 k4).trans fr.1) (k2.fr fr.2)
        unfold f_X6_finish
        rw [w_isZoneM hz, oR_some, if_neg (show ¬ (1 : Int32) = 0 by decide), F.2.2 e e3, oR_some, if_pos (show (0 : Int32) ≤ 0 by decide), k1, oV_some, s1, oW_some]
  · refine no (-1) (by decide) ?_ ?_
    · unfold f_X3_fill
      rw [e1, oR_some, if_pos rfl]
    · unfold f_X6_finish
      rw [e2, oR_some, if_pos rfl]
theorem call_close {c : CS} {m : MS} (h : TopE c m) (p1 : Int32) : ∃ r c' m', f_X5_close c p1 = some (r, c') ∧ f_X6_close m p1 = some (r, m') ∧ TopE c' m' := by
  obtain ⟨A, o, k, H, b, S, L, t, hT⟩ := h
  have hcr := hT.1
  have hrm := hT.2.1
  have hA := hT.2.2.1
  have bd := hA.1.b
  have no : ∀ r : Int32, r < 0 → f_X3_shut (c.1 0) p1 = some (r, c.1 0) → f_X6_close m p1 = some (r, m) → ∃ r c' m', f_X5_close c p1 = some (r, c') ∧ f_X6_close m p1 = some (r, m') ∧ TopE c' m' := fun r hr e1 e2 =>
    t_refuse hT (act := fun s => f_X3_shut s p1) e1 hr hcr e2 hrm Fr.refl FrH.refl
  rcases zone_cases p1 with ⟨z, hz, rfl⟩ | ⟨e1, e2⟩
  · have z0 : m.1 1 (10 + 22 * z) = nI (A.1 13 z) := hrm.zn (k := 0) hz (by decide)
    have ha := w_appends hrm bd (q := 1) (by decide) (nI z) z (Or.inr ⟨rfl, by omega⟩)
    have hcz : cnt (fun a => decide (A.1 5 a = 1 ∧ (nI z < 0 ∨ A.1 3 a = z))) (A.2 0) = atWZ A z := cnt_congr fun a _ => by
      have : ¬ nI z < 0 := nI_pos (by omega)
      simp only [this, false_or, and_comm]
    rw [hcz] at ha
    have ha : f_X6_appends m 1 (nI z) = some (nI (atWZ A z)) := ha
    have hn := hA.2.1
    have hle : atWZ A z ≤ A.2 0 := cnt_le _ _
    have g1 : (nI (A.1 13 z) = 1) ↔ A.1 13 z = 1 := nI_eq (b := 1) (bd.2.1 13 z) (by decide)
    by_cases e : A.1 13 z = 1 ∧ atWZ A z = 0
    · obtain ⟨τ, f1, f2⟩ := cr_shut hcr hA.1 hz e.1 e.2
      obtain ⟨ρ, k1, k2, k3, k4⟩ := w_know hT.2.2.2.2.1 hrm hA
      have hρ : RM (ρ.1 1) A := by rw [k3 1 (by decide)]; exact hrm
      have hρ2 : RM ((sA ρ 1 (upd (ρ.1 1) (10 + 22 * z) 2)).1 1) (aClose A z) := by rw [sA_eq]; exact RM_zone (k := 0) (v := 2) hρ bd hz (by decide)
      have IC := Iv_close hA.1 hz e.1
      have hz2 : f_X6_zones (sA ρ 1 (upd (ρ.1 1) (10 + 22 * z) 2)) 0 = some (nI (nOpen (aClose A z))) := by
        have := w_zones hρ2 IC.b (p := 0) (by decide)
        rw [show cnt (fun y => decide ((aClose A z).1 13 y = 1 ∨ 0 ≠ 0 ∧ (aClose A z).1 13 y = 2)) 8 = nOpen (aClose A z) from cnt_congr fun y _ => by simp] at this
        exact this
      have fr : Fr ρ (sA ρ 1 (upd (ρ.1 1) (10 + 22 * z) 2)) ∧ FrH ρ (sA ρ 1 (upd (ρ.1 1) (10 + 22 * z) 2)) := InM.fr InM.sA
      have h8 : nOpen (aClose A z) ≤ 8 := cnt_le _ _
      have RB : Rest (aClose A z) := hA.mono IC rfl (funext fun i => setA_nm (by decide)) (fun a _ hx => by unfold aClose at hx; rw [setA_nm (by decide)] at hx; exact hx) rfl
      refine t_accept hT (act := fun s => f_X3_shut s (nI z)) f1 (by omega) f2 RB (m' := sA ρ 1 (upd (ρ.1 1) (10 + 22 * z) 2)) ?_ hρ2 ((know_fr k3 k4).trans fr.1) (k2.fr fr.2)
      unfold f_X6_close
      rw [w_isZoneM hz, oR_some, if_neg (show ¬ (1 : Int32) = 0 by decide), rZ0, oA_b (by omega), z0, if_pos (g1.2 e.1), ha, oR_some, if_pos (by rw [e.2]; decide), k1, oV_some, rZ0, oS_b (by omega), hz2, oR_some]
    · refine no (-4) (by decide) (w_shut_no hcr.1 bd hcr.2 hz (fun a _ hx => decide_eq_true (Or.inr hx)) e) ?_
      unfold f_X6_close
      rw [w_isZoneM hz, oR_some, if_neg (show ¬ (1 : Int32) = 0 by decide), rZ0, oA_b (by omega), z0, ha, oR_some]
      by_cases e1 : A.1 13 z = 1
      · have e2 : atWZ A z ≠ 0 := fun x => e ⟨e1, x⟩
        rw [if_pos (g1.2 e1), if_neg (nI_nle (by omega) (by omega))]
      · rw [if_neg (fun x => e1 (g1.1 x))]
  · refine no (-1) (by decide) ?_ ?_
    · unfold f_X3_shut
      rw [e1, oR_some, if_pos rfl]
    · unfold f_X6_close
      rw [e2, oR_some, if_pos rfl]
theorem call_pass {c : CS} {m : MS} (h : TopE c m) (p1 : Int32) : ∃ r c' m', f_X5_pass c p1 = some (r, c') ∧ f_X6_pass m p1 = some (r, m') ∧ TopE c' m' := by
  obtain ⟨A, o, k, H, b, S, L, t, hT⟩ := h
  have hcr := hT.1
  have hrm := hT.2.1
  have hA := hT.2.2.1
  have bd := hA.1.b
  have no : ∀ r : Int32, r < 0 → f_X3_letPass (c.1 0) p1 = some (r, c.1 0) → f_X6_pass m p1 = some (r, m) → ∃ r c' m', f_X5_pass c p1 = some (r, c') ∧ f_X6_pass m p1 = some (r, m') ∧ TopE c' m' := fun r hr e1 e2 =>
    t_refuse hT (act := fun s => f_X3_letPass s p1) e1 hr hcr e2 hrm Fr.refl FrH.refl
  rcases range_cases p1 1 99 (by decide) (by decide) with ⟨v, h1, h99, rfl, e1, e2⟩ | ⟨hp, e1, e2⟩
  · have e2 : f_X6_in (nI v) 1 99 = some 1 := e2
    have ht := hA.2.2.2
    by_cases e : A.2 10 + v ≤ 9999
    · obtain ⟨τ, f1, f2⟩ := w_letPass hcr hA.1 h1 h99 e
      obtain ⟨ρ, k1, k2, k3, k4⟩ := w_know hT.2.2.2.2.1 hrm hA
      have hρ : RM (ρ.1 1) A := by rw [k3 1 (by decide)]; exact hrm
      obtain ⟨ρ', s1, s2, s3⟩ := w_goBy hρ hA.1 h99 e
      have RB := hA.ticks e
      have h201 := RB.1.told
      refine t_accept hT (act := fun s => f_X3_letPass s (nI v)) f1 (by omega) f2 RB (m' := ρ') ?_ s2 ((know_fr k3 k4).trans s3.fr.1) (k2.fr s3.fr.2)
      unfold f_X6_pass
      rw [e2, oR_some, if_neg (show ¬ (1 : Int32) = 0 by decide), oL0, hrm.lit.1, nI_add, if_pos (show nI (A.2 10 + v) ≤ 9999 from nI_le e (by decide)), k1, oV_some, s1, oW_some]
    · refine no (-3) (by decide) (w_letPass_full hcr.1 ht h1 h99 e) ?_
      unfold f_X6_pass
      rw [e2, oR_some, if_neg (show ¬ (1 : Int32) = 0 by decide), oL0, hrm.lit.1, nI_add, if_neg (show ¬ nI (A.2 10 + v) ≤ 9999 from nI_ge (b := A.2 10 + v) (a := 9999) (by omega) (by omega))]
  · have e2 : f_X6_in p1 1 99 = some 0 := e2
    refine no (-2) (by decide) (w_letPass_bad hp) ?_
    unfold f_X6_pass
    rw [e2, oR_some, if_pos rfl]
