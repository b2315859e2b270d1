/-! PURE: forecasts, history, texts as calls -/
theorem top_c {c c' : CS} {m m' : MS} {A : NS} {o k : Nat} {H : Nat → NS} {b : Bool} {S : NS} {L : Nat} {t : Nat → Nat} (hT : Top c m A o k H b S L t) (hc : ∀ j, j ≠ 3 + (o + k) % 5 → c'.1 j = c.1 j) (hc2 : c'.2 = c.2) (h3 : RM (m'.1 1) A) (g : Fr m m') (gh : FrH m m') : TopE c' m' := by
  obtain ⟨q1, q2, q3, q4, q5⟩ := hT.2.2.2.1
  refine top_no hT (by rw [hc 0 (by omega)]; exact hT.1) ⟨by rw [hc2]; exact q1, by rw [hc2]; exact q2, q3, q4, fun i hi => by rw [hc _ (by omega)]; exact q5 i hi⟩ ⟨hc 2 (by omega), by rw [hc2], by rw [hc2], by rw [hc2]⟩ h3 g gh
/-- a forecast's draft: the history's free slot holds the state now -/
theorem w_draftS {c : CS} {o k : Nat} {H : Nat → NS} {A : NS} (h : HC c o k H) (hc : CR (c.1 0) A) (I : Iv A) : hk c = (o + k) % 5 ∧ ∃ ρ, f_X1_draft c = some (cS c (3 + (o + k) % 5) ρ) ∧ CR ρ A := by
  obtain ⟨e1, e2⟩ := h.idx
  obtain ⟨ρ, f1, f2⟩ := w_copy (σ := c.1 (3 + (o + k) % 5)) hc I
  refine ⟨e2, ρ, ?_, f2⟩
  unfold f_X1_draft
  rw [if_pos (by rw [e1]; exact nI_in (by omega) (by decide)), e2, f1, oV_some]
theorem call_toldIn {c : CS} {m : MS} (h : TopE c m) (p1 : Int32) : ∃ r c' m', f_X5_toldIn c p1 = some (r, c') ∧ f_X6_toldIn m p1 = some (r, m') ∧ TopE c' m' := by
  obtain ⟨A, o, k, H, b, S, L, t, hT⟩ := h
  have hcr := hT.1
  have hrm := hT.2.1
  have hA := hT.2.2.1
  have I := hA.1
  have bd := I.b
  have hn := I.a.1
  unfold f_X5_toldIn f_X6_toldIn
  rcases isApp c m hcr.1 hrm I p1 with ⟨a, ha, rfl, e1, e2⟩ | ⟨e1, e2⟩
  · have s3 : m.1 1 (194 + 9 * a + 3) = nI (A.1 5 a) := hrm.ap (k := 3) ha (by decide)
    have h3 := (I.a.2 a ha).2.2.2
    rw [e1, oR_some, if_neg (show ¬ (1 : Int32) = 0 by decide), w_isLive hcr.1 bd ha, oR_some, e2, oR_some, if_neg (show ¬ (1 : Int32) = 0 by decide), rA3, oA_b (by omega), s3]
    by_cases e : A.1 5 a ≤ 1
    · have d : decide (A.1 5 a = 0 ∨ A.1 5 a = 1) = true := decide_eq_true (by omega)
      rw [if_pos d, if_neg (show ¬ (1 : Int32) = 0 by decide), if_pos (show nI (A.1 5 a) ≤ 1 from nI_le (b := 1) e (by decide))]
      obtain ⟨hkc, ρ, f1, f2⟩ := w_draftS hT.2.2.2.1 hcr I
      obtain ⟨m1, g1, g2, g3, g4⟩ := w_aside (σ := m) (K := fun sx27 => some sx27)
      have g1 : f_X6_putAside m = some m1 := g1
      have hrm1 : RM (m1.1 1) A := by rw [g4 1 (by decide)]; exact hrm
      obtain ⟨r, σ', m2, u1, u2, u3, u4⟩ := w_forecast f2 hrm1 I ha e hA.2.2.2
      obtain ⟨m3, k1, k2, k3, k4⟩ := w_back (σ := m2) (K := fun sx27 => some sx27)
      have k1 : f_X6_putBack m2 = some m3 := k1
      rw [f1, oV_some, hkc, cS_eq, u1, oW_some, g1, oV_some, u2, oW_some, k1, oV_some]
      refine ⟨r, _, m3, rfl, rfl, top_c hT (fun j hj => (cS_ne hj).trans (cS_ne hj)) rfl (RM_congr hrm (fun j hj => ?_) hn I.told) ?_ ?_⟩
      · rw [k2 j hj, u3.1 2 (by decide) (by decide), g2 j hj]
      · have f := u3.fr.1
        exact ⟨by rw [k4 4 (by decide), f.1, g4 4 (by decide)], by rw [k4 5 (by decide), f.2.1, g4 5 (by decide)], by rw [k3, f.2.2.1, g3], by rw [k3, f.2.2.2, g3]⟩
      · have f := u3.fr.2
        exact ⟨by rw [k4 3 (by decide), f.1, g4 3 (by decide)], by rw [k3, f.2, g3]⟩
    · have d : ¬ decide (A.1 5 a = 0 ∨ A.1 5 a = 1) = true := fun x => by
        have := of_decide_eq_true x
        omega
      rw [if_neg d, if_pos rfl, if_neg (show ¬ nI (A.1 5 a) ≤ 1 from nI_ge (a := 1) (by omega) (bd.2.1 5 a))]
      exact ⟨_, _, _, rfl, rfl, top_c hT (fun _ _ => rfl) rfl hrm Fr.refl FrH.refl⟩
  · rw [e1, oR_some, if_pos rfl, e2, oR_some, if_pos rfl]
    exact ⟨_, _, _, rfl, rfl, top_c hT (fun _ _ => rfl) rfl hrm Fr.refl FrH.refl⟩
theorem call_would {c : CS} {m : MS} (h : TopE c m) (p1 p2 : Int32) : ∃ r c' m', f_X5_would c p1 p2 = some (r, c') ∧ f_X6_would m p1 p2 = some (r, m') ∧ TopE c' m' := by
  obtain ⟨A, o, k, H, b, S, L, t, hT⟩ := h
  have hcr := hT.1
  have hrm := hT.2.1
  have hA := hT.2.2.1
  have I := hA.1
  have hn := hA.2.1
  have hl := hA.live
  unfold f_X5_would f_X6_would
  rcases zone_cases p1 with ⟨z, hz, rfl⟩ | ⟨e1, e2⟩
  · rw [w_isZone hz, oR_some, if_neg (show ¬ (1 : Int32) = 0 by decide), w_isZoneM hz, oR_some, if_neg (show ¬ (1 : Int32) = 0 by decide)]
    rcases range_cases p2 0 1 (by decide) (by decide) with ⟨w, _, hw, rfl, _, q2⟩ | ⟨hp, _, q2⟩
    · have q2 : f_X6_in (nI w) 0 1 = some 1 := q2
      rw [if_neg (nI_pos (by omega)), if_pos (show nI w ≤ 1 from nI_le (b := 1) hw (by decide)), q2, oR_some, if_neg (show ¬ (1 : Int32) = 0 by decide)]
      obtain ⟨hkc, ρ, f1, f2⟩ := w_draftS hT.2.2.2.1 hcr I
      have I2 := Iv_add I (by omega) (w := 0) (z := z) (v := 0) (by decide) hz (by decide)
      obtain ⟨_, _, _, a5⟩ := aAdd_new (A := A) (w := 0) (z := z) (v := 0)
      have n2 : (aAdd A 0 z 0).2 0 = A.2 0 + 1 := by rw [aAdd_2, if_pos rfl]
      obtain ⟨ρ2, a1, a2, a3⟩ := w_addC (Q := liveP (aAdd A 0 z 0)) f2.1 I.b f2.2 (w := 0) (z := z) (v := 0) (by omega) (by omega) (fun a ha => by unfold liveP; rw [aAdd_old (Nat.ne_of_lt ha)]) (by unfold liveP; rw [a5]; rfl)
      have a1 : f_X0_add ρ 0 (nI z) 0 = some (nI (A.2 0), ρ2) := a1
      obtain ⟨m1, g1, g2, g3, g4⟩ := w_aside (σ := m) (K := fun sx27 => some sx27)
      have g1 : f_X6_putAside m = some m1 := g1
      have hrm1 : RM (m1.1 1) A := by rw [g4 1 (by decide)]; exact hrm
      obtain ⟨m2, s1, s2, s3, s4⟩ := w_sendM hrm1 (by omega) 0 z 0
      have s1 : f_X6_send m1 0 (nI z) 0 = some (nI (A.2 0), m2) := s1
      obtain ⟨r, σ', m3, u1, u2, u3, u4⟩ := w_forecast (a := A.2 0) (A := aAdd A 0 z 0) ⟨a2, by rw [n2]; exact a3⟩ s2 I2 (by omega) (by rw [a5]; decide) (by rw [aAdd_2, if_neg (by decide)]; exact hA.2.2.2)
      obtain ⟨m4, k1, k2, k3, k4⟩ := w_back (σ := m3) (K := fun sx27 => some sx27)
      have k1 : f_X6_putBack m3 = some m4 := k1
      have hne : ¬ nI (A.2 0) = -1 := fun x => by
        have := nI_pos (n := A.2 0) (by omega)
        rw [x] at this
        exact this (by decide)
      have T : ∀ c', (∀ j, j ≠ 3 + (o + k) % 5 → c'.1 j = c.1 j) → c'.2 = c.2 → TopE c' m4 := fun c' x y => by
        refine top_c hT x y (RM_congr hrm (fun j hj => ?_) I.a.1 I.told) ?_ ?_
        · rw [k2 j hj, u3.1 2 (by decide) (by decide), s4 2 (by decide), g2 j hj]
        · have f := u3.fr.1
          exact ⟨by rw [k4 4 (by decide), f.1, s4 4 (by decide), g4 4 (by decide)], by rw [k4 5 (by decide), f.2.1, s4 5 (by decide), g4 5 (by decide)], by rw [k3, f.2.2.1, s3, g3], by rw [k3, f.2.2.2, s3, g3]⟩
        · have f := u3.fr.2
          exact ⟨by rw [k4 3 (by decide), f.1, s4 3 (by decide), g4 3 (by decide)], by rw [k3, f.2, s3, g3]⟩
      rw [f1, oV_some, hkc, cS_eq, a1, oW_some, if_neg hne, cS_eq, u1, oW_some, g1, oV_some, s1, oW_some, u2, oW_some, rA4, oA_b (by omega), k1, oV_some, cS_eq]
      have fc : ∀ j, j ≠ 3 + (o + k) % 5 → (cS (cS (cS c (3 + (o + k) % 5) ρ) (3 + (o + k) % 5) ρ2) (3 + (o + k) % 5) σ').1 j = c.1 j := fun j hj => (cS_ne hj).trans ((cS_ne hj).trans (cS_ne hj))
      by_cases e5 : r = -5
      · rw [if_pos e5, if_pos e5]
        exact ⟨_, _, _, rfl, by rw [e5], T _ fc rfl⟩
      · rw [if_neg e5, if_neg e5]
        rcases (by omega : w = 0 ∨ w = 1) with e | e
        · subst e
          rw [if_pos (show nI 0 = 0 from rfl), if_neg (show ¬ nI 0 = 1 by decide), oA_at (show A.2 0 < 201 by omega) (by decide), u4 e5]
          exact ⟨_, _, _, rfl, rfl, T _ fc rfl⟩
        · subst e
          rw [if_neg (show ¬ nI 1 = 0 by decide), if_pos (show nI 1 = 1 from rfl)]
          exact ⟨_, _, _, rfl, rfl, T _ fc rfl⟩
    · have q2 : f_X6_in p2 0 1 = some 0 := q2
      rw [q2, oR_some, if_pos rfl]
      rcases hp with hp | hp
      · rw [if_pos (show p2 < 0 from hp)]
        exact ⟨_, _, _, rfl, rfl, top_c hT (fun _ _ => rfl) rfl hrm Fr.refl FrH.refl⟩
      · have h0 : ¬ p2 < 0 := fun x => by
          have := Int32.lt_trans x (show (0 : Int32) < nI 1 by decide)
          exact absurd (Int32.lt_trans this hp) Int32.lt_irrefl
        rw [if_neg h0, if_neg (show ¬ p2 ≤ 1 from Int32.not_le.2 hp)]
        exact ⟨_, _, _, rfl, rfl, top_c hT (fun _ _ => rfl) rfl hrm Fr.refl FrH.refl⟩
  · rw [e1, oR_some, if_pos rfl, e2, oR_some, if_pos rfl]
    exact ⟨_, _, _, rfl, rfl, top_c hT (fun _ _ => rfl) rfl hrm Fr.refl FrH.refl⟩
theorem call_undo {c : CS} {m : MS} (h : TopE c m) : ∃ r c' m', f_X5_undo c = some (r, c') ∧ f_X6_undo m = some (r, m') ∧ TopE c' m' := by
  obtain ⟨A, o, k, H, b, S, L, t, hT⟩ := h
  obtain ⟨q1, q2, q3, q4, q5⟩ := hT.2.2.2.1
  obtain ⟨r1, r2, r3⟩ := hT.2.2.2.2.1
  unfold f_X5_undo f_X1_stepBack f_X6_undo
  by_cases e : k = 0
  · subst e
    rw [q2, if_pos (show nI 0 = 0 from rfl), oW_some, r1, if_pos (show nI 0 = 0 from rfl)]
    exact ⟨_, _, _, rfl, rfl, _, _, _, _, _, _, _, _, hT⟩
  · obtain ⟨k, rfl⟩ : ∃ q, k = q + 1 := ⟨k - 1, by omega⟩
    rw [q2, if_neg (nI_ne0 (by omega) (by omega)), oN_to, nI_pred, r1, if_neg (nI_ne0 (by omega) (by omega)), oN_to, nI_pred]
    have HC2 : HC (cN c 2 (nI k)) o k H := ⟨(cN_ne (by decide)).trans q1, cN_eq, q3, by omega, fun i hi => q5 i (by omega)⟩
    obtain ⟨i1, i2⟩ := HC2.idx
    have HK := r3 k (by omega)
    obtain ⟨ρ, f1, f2⟩ := w_copy (σ := c.1 0) (q5 k (by omega)) HK.2.1
    obtain ⟨m1, g1, g2, g3, g4⟩ := w_undoL (σ := sN m 0 (nI k)) (k := k) (by omega) sN_eq (K := fun sx56 => some ((sx56.2 0), sx56))
    rw [if_pos (by rw [i1]; exact nI_in (by omega) (by decide)), i2, cN_1, f1, oV_some, oW_some, cS_2, cN_eq, g1, g3, sN_eq]
    refine ⟨_, _, _, rfl, rfl, H k, o, k, H, b, S, L, t, by rw [cS_eq]; exact f2, RM_congr HK.1 (fun j hj => g2 j hj) HK.2.1.a.1 HK.2.1.told, HK.2, ⟨HC2.1, HC2.2.1, HC2.2.2.1, HC2.2.2.2.1, fun i hi => by rw [cS_ne (by omega)]; exact HC2.2.2.2.2 i hi⟩, ⟨by rw [g3, sN_eq], by omega, fun i hi => by rw [g4 3 (by decide)]; exact r3 i (by omega)⟩, ?_, ?_⟩
    · have := hT.2.2.2.2.2.1
      refine Sn.fr this (c' := cS (cN c 2 (nI k)) 0 ρ) (m' := m1) ⟨cS_ne (by decide), rfl, cN_ne (by decide), cN_ne (by decide)⟩ ⟨g4 4 (by decide), g4 5 (by decide), by rw [g3, sN_ne (by decide)], by rw [g3, sN_ne (by decide)]⟩
    · have := hT.2.2.2.2.2.2
      refine Tx.fr this (c' := cS (cN c 2 (nI k)) 0 ρ) (m' := m1) ⟨cS_ne (by decide), rfl, cN_ne (by decide), cN_ne (by decide)⟩ ⟨g4 4 (by decide), g4 5 (by decide), by rw [g3, sN_ne (by decide)], by rw [g3, sN_ne (by decide)]⟩
theorem call_keep {c : CS} {m : MS} (h : TopE c m) : ∃ r c' m', f_X5_keep c = some (r, c') ∧ f_X6_keep m = some (r, m') ∧ TopE c' m' := by
  obtain ⟨A, o, k, H, b, S, L, t, hT⟩ := h
  have hcr := hT.1
  have hrm := hT.2.1
  have hA := hT.2.2.1
  have I := hA.1
  obtain ⟨q1, q2, q3, q4, q5⟩ := hT.2.2.2.1
  obtain ⟨r1, r2, r3⟩ := hT.2.2.2.2.1
  obtain ⟨x1, x2, x3, x4⟩ := hT.2.2.2.2.2.2
  unfold f_X5_keep f_X6_keep
  obtain ⟨ρ, f1, f2⟩ := w_copy (σ := c.1 2) hcr I
  obtain ⟨m1, g1, g2, g3, g4⟩ := w_keepL (σ := m) (K := fun sx27 => oZ 1 (sN sx27 1) (fun s29 => oA 2204 (s29.1 1) 0 (fun x37 => some (x37, s29))))
  have s0 : m1.1 1 0 = nI (A.2 10) := by rw [g4 1 (by decide)]; exact hrm.lit.1
  rw [f1, oV_some, oZ1, g1, oZ1, oL0, sN_1, s0]
  have c10 : ((cN (cS c 2 ρ) 0 1).1 0).2 10 = nI (A.2 10) := by rw [cN_1, cS_ne (by decide)]; exact hcr.1.1 10 (by decide) (by decide)
  rw [c10]
  refine ⟨_, _, _, rfl, rfl, A, o, k, H, true, A, L, t, by rw [cN_1, cS_ne (by decide)]; exact hcr, by rw [sN_1, g4 1 (by decide)]; exact hrm, hA, ⟨(cN_ne (by decide)).trans q1, (cN_ne (by decide)).trans q2, q3, q4, fun i hi => by rw [cN_1, cS_ne (by omega)]; exact q5 i hi⟩, ⟨by rw [sN_ne (by decide), g3]; exact r1, r2, fun i hi => by rw [sN_1, g4 3 (by decide)]; exact r3 i hi⟩, ?_, ⟨(cN_ne (by decide)).trans x1, by rw [sN_ne (by decide), g3]; exact x2, x3, fun i hi => by rw [sN_1, g4 5 (by decide)]; exact x4 i hi⟩⟩
  unfold Sn
  rw [if_pos rfl]
  exact ⟨cN_eq, sN_eq, by rw [cN_1, cS_eq]; exact f2, RM_congr hrm (fun j hj => g2 j hj) I.a.1 I.told, hA⟩
theorem call_restore {c : CS} {m : MS} (h : TopE c m) : ∃ r c' m', f_X5_restore c = some (r, c') ∧ f_X6_restore m = some (r, m') ∧ TopE c' m' := by
  obtain ⟨A, o, k, H, b, S, L, t, hT⟩ := h
  have hcr := hT.1
  have hrm := hT.2.1
  have hA := hT.2.2.1
  have I := hA.1
  have hS := hT.2.2.2.2.2.1
  unfold f_X5_restore f_X6_restore
  unfold Sn at hS
  by_cases e : b = true
  · rw [if_pos e] at hS
    obtain ⟨s1, s2, s3, s4, s5⟩ := hS
    rw [s1, if_neg (show ¬ (1 : Int32) = 0 by decide), s2, if_neg (show ¬ (1 : Int32) = 0 by decide)]
    obtain ⟨d, f1, f2, f3, f4, f5⟩ := w_draft hT.2.2.2.1 hcr I
    obtain ⟨ρ, g1, g2⟩ := w_copy (σ := d.1 0) (τ := d.1 2) (A := S) (by rw [f5.1]; exact s3) s5.1
    obtain ⟨h1, h2, h3, h4, h5⟩ := f2
    have HC2 : HC (cS d 0 ρ) o k H := ⟨h1, h2, h3, h4, fun i hi => by rw [cS_ne (by omega)]; exact h5 i hi⟩
    have t10 : ((cS d 0 ρ).1 0).2 10 = nI (S.2 10) := by rw [cS_eq]; exact g2.1.1 10 (by decide) (by decide)
    have ht := s5.2.2.2
    obtain ⟨e1, o', u1, u2, u3, u4⟩ := w_settle HC2 (A := A) (by rw [cS_ne (by omega)]; exact f4) (v := S.2 10) (by omega)
    obtain ⟨m1, k1, k2, k3, k4⟩ := w_know hT.2.2.2.2.1 hrm hA
    obtain ⟨m2, v1, v2, v3, v4⟩ := w_restL (σ := m1) (K := fun sx41 => oA 2204 (sx41.1 1) 0 (fun x46 => some (x46, sx41)))
    have hrm2 : RM (m2.1 1) S := RM_congr s4 (fun j hj => by rw [v2 j hj, k3 4 (by decide)]) s5.1.a.1 s5.1.told
    rw [f1, oV_some, g1, oV_some, t10, u1, oW_some, k1, oV_some, v1, oL0, hrm2.lit.1]
    refine ⟨_, _, _, rfl, rfl, top_yes hT (B := S) (by rw [u3, cS_eq]; exact g2) u2 (FrC.trans f5 (FrC.trans ⟨cS_ne (by decide), rfl, rfl, rfl⟩ u4)) hrm2 ((know_fr k3 k4).trans ⟨v4 4 (by decide), v4 5 (by decide), by rw [v3], by rw [v3]⟩) (k2.fr ⟨v4 3 (by decide), by rw [v3]⟩) s5⟩
  · rw [if_neg e] at hS
    rw [hS.1, if_pos rfl, hS.2, if_pos rfl]
    exact ⟨_, _, _, rfl, rfl, _, _, _, _, _, _, _, _, hT⟩
theorem nar_char {q : Nat} (hq : q < 65536) : vp_nar .char (nI q) = nI q := by
  unfold vp_nar
  rw [(pk_charN hq).1]
theorem call_type {c : CS} {m : MS} (h : TopE c m) {q : Nat} (hq : q < 65536) : ∃ r c' m', f_X5_type c (nI q) = some (r, c') ∧ f_X6_type m (nI q) = some (r, m') ∧ TopE c' m' := by
  obtain ⟨A, o, k, H, b, S, L, t, hT⟩ := h
  obtain ⟨q1, q2, q3, q4, q5⟩ := hT.2.2.2.1
  obtain ⟨r1, r2, r3⟩ := hT.2.2.2.2.1
  obtain ⟨x1, x2, x3, x4⟩ := hT.2.2.2.2.2.2
  unfold f_X5_type f_X2_add f_X6_type
  rw [x1, x2]
  by_cases e : L = 60
  · subst e
    rw [if_neg (show ¬ nI 60 < 60 by decide), oW_some, if_pos (show nI 60 = 60 from rfl)]
    exact ⟨_, _, _, rfl, rfl, _, _, _, _, _, _, _, _, hT⟩
  · have hL : L < 60 := by omega
    rw [if_pos (show nI L < 60 from nI_lt (b := 60) hL (by decide)), oS_at hL (by decide), oN_to, oW_some, if_neg (show ¬ nI L = 60 from fun x => e ((nI_eq (b := 60) (by omega) (by decide)).1 x)), oS_at hL (by decide), oN_to]
    have y1 : (cT c (upd c.2.1 L (vp_nar .char (nI q)))).2.2 3 = nI L := x1
    have y2 : (sA m 5 (upd (m.1 5) L (nI q))).2 2 = nI L := x2
    rw [y1, y2, nI_1, cN_eq, sN_eq]
    refine ⟨_, _, _, rfl, rfl, A, o, k, H, b, S, L + 1, fun i => if i = L then q else t i, hT.1, by rw [sN_1, sA_ne (by decide)]; exact hT.2.1, hT.2.2.1, ⟨(cN_ne (by decide)).trans q1, (cN_ne (by decide)).trans q2, q3, q4, q5⟩, ⟨by rw [sN_ne (by decide), sA_2]; exact r1, r2, fun i hi => by rw [sN_1, sA_ne (by decide)]; exact r3 i hi⟩, ?_, ⟨cN_eq, sN_eq, by omega, fun i hi => ?_⟩⟩
    · have := hT.2.2.2.2.2.1
      unfold Sn at this ⊢
      rw [cN_ne (by decide), sN_ne (by decide), sA_2, cN_1, sN_1, sA_ne (by decide)]
      exact this
    · rw [sN_1, sA_eq, cN_T]
      show upd c.2.1 L (vp_nar .char (nI q)) i = nI (if i = L then q else t i) ∧ upd (m.1 5) L (nI q) i = nI (if i = L then q else t i) ∧ (if i = L then q else t i) < 65536
      by_cases ei : i = L
      · subst ei
        rw [upd_eq, upd_eq, if_pos rfl, nar_char hq]
        exact ⟨rfl, rfl, hq⟩
      · rw [upd_ne ei, upd_ne ei, if_neg ei]
        exact x4 i (by omega)
theorem call_clearText {c : CS} {m : MS} (h : TopE c m) : ∃ r c' m', f_X5_clearText c = some (r, c') ∧ f_X6_clearText m = some (r, m') ∧ TopE c' m' := by
  obtain ⟨A, o, k, H, b, S, L, t, hT⟩ := h
  obtain ⟨q1, q2, q3, q4, q5⟩ := hT.2.2.2.1
  obtain ⟨r1, r2, r3⟩ := hT.2.2.2.2.1
  obtain ⟨x1, x2, x3, x4⟩ := hT.2.2.2.2.2.2
  unfold f_X5_clearText f_X2_empty f_X6_clearText
  rw [oN_to, oW_some, oN_to, x1, x2]
  refine ⟨_, _, _, rfl, rfl, A, o, k, H, b, S, 0, t, hT.1, hT.2.1, hT.2.2.1, ⟨(cN_ne (by decide)).trans q1, (cN_ne (by decide)).trans q2, q3, q4, q5⟩, ⟨by rw [sN_ne (by decide)]; exact r1, r2, r3⟩, ?_, ⟨cN_eq, sN_eq, by decide, fun i hi => absurd hi (Nat.not_lt_zero i)⟩⟩
  have := hT.2.2.2.2.2.1
  unfold Sn at this ⊢
  rw [cN_ne (by decide), sN_ne (by decide)]
  exact this
