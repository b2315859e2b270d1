/-! PURE: a round of looks and a whole tick of the reference -/
theorem w_round {σ0 σ : MS} {B X : NS} {f : Nat} (h : RSt σ0 σ B (X, f)) (ht : B.2 10 < 2 ^ 30) (hM : MRK σ0 B) {x : Int32} {r : Nat} (hr : r < 8) (hx : x < 0 ∧ B.2 9 = 0 ∨ x = nI ((B.2 6 + r) % 8) ∧ B.2 9 ≠ 0) (hw : ∀ a, a < B.2 0 → ordQ B r a = true → X.1 5 a = 0) :
    ∃ τ, f_X6_lookAtAll σ x = some τ ∧ RSt σ0 τ B (((List.range (B.2 0)).filter (ordQ B r)).foldl stLk (X, f)) ∧ ∀ a, ordQ B r a = false → (((List.range (B.2 0)).filter (ordQ B r)).foldl stLk (X, f)).1.1 5 a = X.1 5 a := by
  have hn : B.2 0 ≤ 201 := by have := h.2.1.a.1; have := h.2.2.1.n0; have e : (X, f).1.2 0 = X.2 0 := rfl; omega
  unfold f_X6_lookAtAll
  rw [List.foldl_filter]
  obtain ⟨τ, hR, e⟩ := loop_to (B := NS × Nat) (B.2 0) (fun m i (c : MS) => f_X6_lookAtAll_L2 x (fun sx106 => some sx106) m i c) (fun c => some c) (fun a y => if ordQ B r a = true then stLk y a else y)
    (fun i y c => RSt σ0 c B y ∧ (∀ a, i ≤ a → y.1.1 5 a = X.1 5 a) ∧ ∀ a, ordQ B r a = false → y.1.1 5 a = X.1 5 a) (fun m y c hR => by
      have e5 : c.1 1 5 = nI (B.2 0) := by rw [hR.1.1.n0, hR.1.2.2.1.n0]
      show f_X6_lookAtAll_L2 x (fun sx106 => some sx106) (m + 1) (nI (B.2 0)) c = _
      rw [f_X6_lookAtAll_L2, oL5, e5, if_pos (nI_le (Nat.le_refl _) (by omega))]) (fun m i y c hi hR => by
      obtain ⟨hS, hP1, hP2⟩ := hR
      obtain ⟨Y, g⟩ := y
      have e5 : c.1 1 5 = nI (B.2 0) := by rw [hS.1.n0, hS.2.2.1.n0]
      have e6 : c.1 6 i = if B.1 5 i = 0 then 1 else 0 := by rw [hS.2.2.2.2.2.2.1 6 (by decide)]; exact hM i hi
      have hiY : i < (Y, g).1.2 0 := by rw [hS.2.2.1.n0]; exact hi
      have b := hS.2.1.b
      have e3 : (Y, g).1.1 3 = B.1 3 := hS.2.2.1.2.1 3 (by decide)
      have a1 : c.1 1 (194 + 9 * i + 1) = nI (B.1 3 i) := by
        have := hS.1.ap (a := i) (k := 1) hiY (by decide)
        rw [this, e3]
      have b3 : B.1 3 i < 2 ^ 31 := by have := b.2.1 3 i; rw [e3] at this; exact this
      show ∃ c' : MS, _ ∧ f_X6_lookAtAll_L2 x (fun sx106 => some sx106) (m + 1) (nI i) c = f_X6_lookAtAll_L2 x (fun sx106 => some sx106) m (nI (i + 1)) c'
      rw [f_X6_lookAtAll_L2, oL5, e5, if_neg (nI_ge hi (by omega)), oA_at (show i < 201 by omega) (by decide), e6, nI_1]
      rw [oJ_to (κ := MS → Option MS)]
      have no : ordQ B r i = false → ∃ c' : MS, (RSt σ0 c' B (if ordQ B r i = true then stLk (Y, g) i else (Y, g)) ∧ (∀ a, i + 1 ≤ a → (if ordQ B r i = true then stLk (Y, g) i else (Y, g)).1.1 5 a = X.1 5 a) ∧ ∀ a, ordQ B r a = false → (if ordQ B r i = true then stLk (Y, g) i else (Y, g)).1.1 5 a = X.1 5 a) ∧ f_X6_lookAtAll_L2 x (fun sx106 => some sx106) m (nI (i + 1)) c = f_X6_lookAtAll_L2 x (fun sx106 => some sx106) m (nI (i + 1)) c' := by
        intro hq
        rw [hq, if_neg (by decide)]
        exact ⟨c, ⟨hS, fun a ha => hP1 a (by omega), hP2⟩, rfl⟩
      by_cases e0 : B.1 5 i = 0
      · rw [if_pos e0, if_neg (show ¬ (1 : Int32) = 0 by decide), oJ_to (κ := Option MS)]
        have yes : ordQ B r i = true → ∃ c' : MS, (RSt σ0 c' B (if ordQ B r i = true then stLk (Y, g) i else (Y, g)) ∧ (∀ a, i + 1 ≤ a → (if ordQ B r i = true then stLk (Y, g) i else (Y, g)).1.1 5 a = X.1 5 a) ∧ ∀ a, ordQ B r a = false → (if ordQ B r i = true then stLk (Y, g) i else (Y, g)).1.1 5 a = X.1 5 a) ∧ oW (f_X6_lookAt c (nI i)) (fun t => t) (fun r41 s41 => oJ (κ := Int32 → Option (MS)) (fun t0_62 => oZ t0_62 (sN s41 3) (fun s62 => oJ (κ := Int32 → Option (MS)) (fun t0_97 => oN t0_97 (sN s62 4) (fun s97 => f_X6_lookAtAll_L2 x (fun sx106 => some sx106) m (nI (i + 1)) s97)) (fun k97 => oJ (κ := Option (MS)) (k97 (s62.2 4)) (fun k93 => if r41 = 1 then (if (s62.2 4) = (-5) then (oR (f_X6_ofAppend (nI i) 1) (fun r86 => oA 2204 (s62.1 1) r86 (fun x89 => k97 x89))) else k93) else k93)))) (fun k62 => oJ (κ := Option (MS)) (k62 1) (fun k57 => if (s41.2 3) = 0 then (if r41 = 0 then (k62 0) else k57) else k57))) = f_X6_lookAtAll_L2 x (fun sx106 => some sx106) m (nI (i + 1)) c' := by
          intro hq
          have hp0 : Y.1 5 i = 0 := by
            have := hP1 i (Nat.le_refl _)
            exact this.trans (hw i hi hq)
          obtain ⟨ρ, r1, r2⟩ := w_step hS ht hi hp0 (K := fun s_100 => f_X6_lookAtAll_L2 x (fun sx106 => some sx106) m (nI (i + 1)) s_100)
          rw [hq, if_pos rfl]
          refine ⟨ρ, ⟨r2, fun a ha => ?_, fun a ha => ?_⟩, r1⟩
          · exact (look_5 (show a ≠ i by omega)).trans (hP1 a (by omega))
          · exact (look_5 (show a ≠ i by intro x; rw [x, hq] at ha; cases ha)).trans (hP2 a ha)
        rcases hx with ⟨hx0, h9⟩ | ⟨hx0, h9⟩
        · rw [if_pos hx0]
          exact yes (by unfold ordQ; simp [e0, h9])
        · rw [if_neg (show ¬ x < 0 by rw [hx0]; exact nI_pos (by omega)), rA1, oA_b (by omega), a1, hx0, if_eqN b3 (by omega)]
          by_cases ez : B.1 3 i = (B.2 6 + r) % 8
          · rw [if_pos ez]
            rw [← hx0]
            exact yes (by unfold ordQ; simp [e0, ez])
          · rw [if_neg ez]
            rw [← hx0]
            exact no (by unfold ordQ; simp [e0, h9, ez])
      · rw [if_neg e0, if_pos (show (0 : Int32) = 0 from rfl)]
        exact no (by unfold ordQ; simp [e0])) σ (X, f) FU ⟨h, fun _ _ => rfl, fun _ _ => rfl⟩ (by show B.2 0 < 20000; omega)
  exact ⟨τ, e, hR.1, hR.2.2⟩
theorem w_rounds {σ0 : MS} {B : NS} (h : RSt σ0 σ0 B (B, 8)) (ht : B.2 10 < 2 ^ 30) (hM : MRK σ0 B) (h9 : B.2 9 = 1) {k : MS → Option (Int32 × MS)} :
    ∃ τ, f_X6_tick_L158 (nI (B.2 6)) k FU 0 σ0 = k τ ∧ RSt σ0 τ B ((aOrd B).foldl stLk (B, 8)) := by
  have h6 : B.2 6 < 8 := h.2.1.n.2.2.1
  obtain ⟨τ, hR, e⟩ := loop_to (B := Unit) 8 (fun m i (c : MS) => f_X6_tick_L158 (nI (B.2 6)) k m i c) k (fun _ b => b)
    (fun i _ c => RSt σ0 c B (((List.range i).flatMap fun r => (List.range (B.2 0)).filter (ordQ B r)).foldl stLk (B, 8)) ∧ ∀ a, (∀ r, r < i → ordQ B r a = false) → (((List.range i).flatMap fun r => (List.range (B.2 0)).filter (ordQ B r)).foldl stLk (B, 8)).1.1 5 a = B.1 5 a) (fun m _ c hR => by
      show f_X6_tick_L158 (nI (B.2 6)) k (m + 1) (nI 8) c = _
      rw [f_X6_tick_L158, if_pos (by decide)]) (fun m i _ c hi hR => by
      show ∃ c' : MS, _ ∧ f_X6_tick_L158 (nI (B.2 6)) k (m + 1) (nI i) c = f_X6_tick_L158 (nI (B.2 6)) k m (nI (i + 1)) c'
      rw [f_X6_tick_L158, if_neg (show ¬ (8 : Int32) ≤ nI i from nI_ge hi (by decide)), nI_add, show nI (B.2 6 + i) - nI (B.2 6 + i) / 8 * 8 = nI ((B.2 6 + i) % 8) from pk_rem (d := 8) (by omega) (by decide) (by decide), nI_1, flat_s, List.foldl_append]
      obtain ⟨hS, hP⟩ := hR
      generalize ((List.range i).flatMap fun r => (List.range (B.2 0)).filter (ordQ B r)).foldl stLk (B, 8) = y at hS hP
      obtain ⟨X, f⟩ := y
      obtain ⟨τ, t1, t2, t3⟩ := w_round hS ht hM (x := nI ((B.2 6 + i) % 8)) (r := i) hi (Or.inr ⟨rfl, by omega⟩) (fun a ha hq => by
        have hq' := hq
        unfold ordQ at hq'
        simp at hq'
        have hz : B.1 3 a = (B.2 6 + i) % 8 := by omega
        have := hP a (fun r hr => by
          unfold ordQ
          simp only [Bool.and_eq_false_iff, decide_eq_false_iff_not]
          right
          omega)
        exact this.trans hq'.1)
      rw [t1, oV_some]
      refine ⟨τ, ⟨t2, fun a ha => ?_⟩, rfl⟩
      exact (t3 a (ha i (by omega))).trans (hP a fun r hr => ha r (by omega))) σ0 () FU ⟨h, fun _ _ => rfl⟩ (by decide)
  refine ⟨τ, e, ?_⟩
  unfold aOrd rnds
  rw [if_pos h9]
  exact hR.1
theorem cnt_mono {P Q : Nat → Bool} : ∀ {n}, (∀ a, a < n → P a = true → Q a = true) → cnt P n ≤ cnt Q n
  | 0, _ => Nat.le_refl _
  | n + 1, h => by
    show cnt P n + _ ≤ cnt Q n + _
    have := cnt_mono (P := P) (Q := Q) (n := n) fun a ha => h a (by omega)
    by_cases e : P n = true
    · rw [if_pos e, if_pos (h n (by omega) e)]; omega
    · rw [if_neg e]; omega
theorem told_mono {A B : NS} (I : Iv A) (J : Iv B) (L : LeT A B) : A.2 1 ≤ B.2 1 := by
  rw [I.t.1, J.t.1, L.n0]
  refine cnt_mono fun a ha e => ?_
  have e := of_decide_eq_true e
  have := (L.2.2 a ha).2.2 (by omega)
  exact decide_eq_true (by omega)
theorem tellDue_1 {A : NS} : ∀ i, (aTellDue A).1 5 i = 1 → A.1 5 i = 1 := by
  have go : ∀ (l : List Nat) (B : NS), (∀ i, B.1 5 i = 1 → A.1 5 i = 1) → ∀ i, (l.foldl stTell B).1 5 i = 1 → A.1 5 i = 1 := by
    intro l
    induction l with
    | nil => intro B h i; exact h i
    | cons a l ih =>
      intro B h
      rw [List.foldl_cons]
      exact ih _ (stTell_I h)
  exact go _ A fun _ => id
theorem w_tickM {σ : MS} {A : NS} (h : RM (σ.1 1) A) (I : Iv A) (ht : A.2 10 < 2 ^ 29) : ∃ τ, f_X6_tick σ = some (nI ((aTick A).2 1 - A.2 1), τ) ∧ RM (τ.1 1) (aTick A) ∧ (τ.2 3 = 0 ∨ τ.2 3 = 1) ∧ (τ.2 3 = 0 → atW (aTick A) = 0) ∧
    (∀ j, j ≠ 1 → j ≠ 6 → τ.1 j = σ.1 j) ∧ ∀ k, k ≠ 3 → k ≠ 4 → τ.2 k = σ.2 k := by
  have b := I.b
  have hl : f_X6_appends σ 1 (-1) = some (nI (atW A)) := by
    have := w_appends h b (q := 1) (by decide) (-1) 0 (Or.inl (by decide))
    rw [show cnt (fun a => decide (A.1 5 a = 1 ∧ ((-1 : Int32) < 0 ∨ A.1 3 a = 0))) (A.2 0) = atW A from cnt_congr fun a _ => by
      have : ((-1 : Int32) < 0) = True := eq_true (by decide)
      simp [this]] at this
    exact this
  have hwl : atW A ≤ A.2 0 := cnt_le _ _
  have hn := I.a.1
  have s9 : σ.1 1 9 = nI (A.2 1) := h.lit.2.2.2.2.2.2.2.2.2
  obtain ⟨I1, L1⟩ := Iv_tellDue I
  obtain ⟨F1, F2, F3⟩ := Iv_looks I ht
  obtain ⟨IT, LT⟩ := Iv_tick I ht
  have t1 : (aTellDue A).2 10 = A.2 10 := L1.1 10 (by decide) (by decide) (by decide)
  have n4 : (aTellDue A).2 9 = A.2 9 := L1.1 9 (by decide) (by decide) (by decide)
  have n6 : (aTellDue A).2 6 = A.2 6 := L1.1 6 (by decide) (by decide) (by decide)
  have m6 : (aLooks A).1.2 6 = A.2 6 := F2.1 6 (by decide) (by decide) (by decide)
  have m10 : (aLooks A).1.2 10 = A.2 10 := F2.1 10 (by decide) (by decide) (by decide)
  have tm := told_mono I IT LT
  unfold f_X6_tick
  rw [oL9, s9, hl, oR_some, oJ_to]
  -- behind the looks
  have fin : ∀ (σ0 ρ : MS) (C : NS), RM (ρ.1 1) C → Iv C → C.2 10 = A.2 10 → setN C 10 (A.2 10 + 1) = aTick A → atW C = atW (aLooks A).1 → (ρ.2 3 = 0 ∨ ρ.2 3 = 1) → (ρ.2 3 = 0 → atW (aLooks A).1 = 0) → (∀ j, j ≠ 1 → j ≠ 6 → ρ.1 j = σ.1 j) → (∀ k, k ≠ 3 → k ≠ 4 → ρ.2 k = σ.2 k) →
      ∃ τ, oA 2204 (ρ.1 1) 0 (fun x215 => oS 2204 (ρ.1 1) 0 (x215 + 1) (sA ρ 1) (fun s218 => oA 2204 (s218.1 1) 9 (fun x225 => some ((x225 - nI (A.2 1)), s218)))) = some (nI ((aTick A).2 1 - A.2 1), τ) ∧ RM (τ.1 1) (aTick A) ∧ (τ.2 3 = 0 ∨ τ.2 3 = 1) ∧ (τ.2 3 = 0 → atW (aTick A) = 0) ∧ (∀ j, j ≠ 1 → j ≠ 6 → τ.1 j = σ.1 j) ∧ ∀ k, k ≠ 3 → k ≠ 4 → τ.2 k = σ.2 k := by
    intro σ0 ρ C hr hI h10 heq hat hm0 hm1 hj hk
    have r9 : ρ.1 1 9 = nI (C.2 1) := hr.lit.2.2.2.2.2.2.2.2.2
    have c1 : (aTick A).2 1 = C.2 1 := by rw [← heq]; exact setN_ne (by decide)
    rw [oL0, hr.lit.1, h10, nI_1, oM0, oL9, sA_eq, upd_ne (by decide), r9, pk_sub (by omega), ← c1]
    refine ⟨_, rfl, ?_, hm0, fun x => ?_, fun j h1 h6 => by rw [sA_ne h1]; exact hj j h1 h6, hk⟩
    · rw [sA_eq, ← heq]
      exact RM_num hr (Or.inl ⟨rfl, rfl⟩)
    · have := hm1 x
      rw [← heq]
      show atW C = 0
      rw [hat, this]
  -- from the beginning
  have go : ∀ t : Int32, (t = 0 ∨ t = 1) → (t = 0 → atW A = 0) → ∃ τ, oZ t (sN σ 3) (fun s23 => f_X6_tick_L28 (fun sx83 => f_X6_tick_L85 (fun sx125 => oN (-5) (sN sx125 4) (fun s128 => oA 2204 (s128.1 1) 4 (fun x136 => oJ (κ := MS → Option (Int32 × MS)) (fun s_209 => oA 2204 (s_209.1 1) 0 (fun x215 => oS 2204 (s_209.1 1) 0 (x215 + 1) (sA s_209 1) (fun s218 => oA 2204 (s218.1 1) 9 (fun x225 => some ((x225 - nI (A.2 1)), s218))))) (fun k209 => if x136 = 0 then (oV (f_X6_lookAtAll s128 (-1)) (fun t => t) (fun s142 => k209 s142)) else (oA 2204 (s128.1 1) 6 (fun x154 => f_X6_tick_L158 x154 (fun sx180 => oJ (κ := Int32 → Option (Int32 × MS)) (fun t0_208 => oS 2204 (sx180.1 1) 6 t0_208 (sA sx180 1) (fun s208 => k209 s208)) (fun k208 => if (sx180.2 4) = (-5) then (k208 x154) else (k208 (((sx180.2 4) + 1) - ((sx180.2 4) + 1) / 8 * 8)))) FU 0 s128)))))) FU 0 sx83) FU 0 s23) = some (nI ((aTick A).2 1 - A.2 1), τ) ∧ RM (τ.1 1) (aTick A) ∧ (τ.2 3 = 0 ∨ τ.2 3 = 1) ∧ (τ.2 3 = 0 → atW (aTick A) = 0) ∧ (∀ j, j ≠ 1 → j ≠ 6 → τ.1 j = σ.1 j) ∧ ∀ k, k ≠ 3 → k ≠ 4 → τ.2 k = σ.2 k := by
    intro t hta htb
    rw [oZt hta]
    obtain ⟨σ1, e1, r1, q1⟩ := w_tickT (σ := sN σ 3 t) h I (k := fun sx83 => f_X6_tick_L85 (fun sx125 => oN (-5) (sN sx125 4) (fun s128 => oA 2204 (s128.1 1) 4 (fun x136 => oJ (κ := MS → Option (Int32 × MS)) (fun s_209 => oA 2204 (s_209.1 1) 0 (fun x215 => oS 2204 (s_209.1 1) 0 (x215 + 1) (sA s_209 1) (fun s218 => oA 2204 (s218.1 1) 9 (fun x225 => some ((x225 - nI (A.2 1)), s218))))) (fun k209 => if x136 = 0 then (oV (f_X6_lookAtAll s128 (-1)) (fun t => t) (fun s142 => k209 s142)) else (oA 2204 (s128.1 1) 6 (fun x154 => f_X6_tick_L158 x154 (fun sx180 => oJ (κ := Int32 → Option (Int32 × MS)) (fun t0_208 => oS 2204 (sx180.1 1) 6 t0_208 (sA sx180 1) (fun s208 => k209 s208)) (fun k208 => if (sx180.2 4) = (-5) then (k208 x154) else (k208 (((sx180.2 4) + 1) - ((sx180.2 4) + 1) / 8 * 8)))) FU 0 s128)))))) FU 0 sx83)
    rw [e1]
    obtain ⟨σ2, e2, r2, q2, q3⟩ := w_marks (σ := σ1) r1 I1 (k := fun sx125 => oN (-5) (sN sx125 4) (fun s128 => oA 2204 (s128.1 1) 4 (fun x136 => oJ (κ := MS → Option (Int32 × MS)) (fun s_209 => oA 2204 (s_209.1 1) 0 (fun x215 => oS 2204 (s_209.1 1) 0 (x215 + 1) (sA s_209 1) (fun s218 => oA 2204 (s218.1 1) 9 (fun x225 => some ((x225 - nI (A.2 1)), s218))))) (fun k209 => if x136 = 0 then (oV (f_X6_lookAtAll s128 (-1)) (fun t => t) (fun s142 => k209 s142)) else (oA 2204 (s128.1 1) 6 (fun x154 => f_X6_tick_L158 x154 (fun sx180 => oJ (κ := Int32 → Option (Int32 × MS)) (fun t0_208 => oS 2204 (sx180.1 1) 6 t0_208 (sA sx180 1) (fun s208 => k209 s208)) (fun k208 => if (sx180.2 4) = (-5) then (k208 x154) else (k208 (((sx180.2 4) + 1) - ((sx180.2 4) + 1) / 8 * 8)))) FU 0 s128))))))
    rw [e2, oN_to]
    have rm0 : RM ((sN σ2 4 (-5)).1 1) (aTellDue A) := by rw [sN_1, q3 1 (by decide)]; exact r1
    have at0 : t = 0 → atW (aTellDue A) = 0 := fun x => by
      have := htb x
      unfold atW at this ⊢
      rw [cnt_zero] at this ⊢
      intro a ha
      have := this a (by rw [← L1.n0]; exact ha)
      exact decide_eq_false fun y => of_decide_eq_false this (tellDue_1 a y)
    have m3 : (sN σ2 4 (-5)).2 3 = t := by rw [sN_ne (by decide), q2, q1.1, sN_eq]
    have R0 : RSt (sN σ2 4 (-5)) (sN σ2 4 (-5)) (aTellDue A) (aTellDue A, 8) := ⟨rm0, I1, Le.refl, by rw [sN_eq]; rfl, by rw [m3]; exact hta, fun x => at0 (by rw [← m3]; exact x), fun _ _ => rfl, fun _ _ _ => rfl, Nat.le_refl _⟩
    have MK : MRK (sN σ2 4 (-5)) (aTellDue A) := r2
    have jj : ∀ j, j ≠ 1 → j ≠ 6 → (sN σ2 4 (-5)).1 j = σ.1 j := fun j h1 h6 => by rw [sN_1, q3 j h6, q1.2 j h1, sN_1]
    have kk : ∀ k, k ≠ 3 → k ≠ 4 → (sN σ2 4 (-5)).2 k = σ.2 k := fun k h3 h4 => by rw [sN_ne h4, q2, q1.1, sN_ne h3]
    have s4 : (sN σ2 4 (-5)).1 1 4 = nI (A.2 9) := by rw [rm0.lit.2.2.2.2.1, n4]
    have s6 : (sN σ2 4 (-5)).1 1 6 = nI ((aTellDue A).2 6) := rm0.lit.2.2.2.2.2.2.1
    rw [oL4, s4, oJ_to, oL6, s6]
    by_cases e9 : A.2 9 = 0
    · rw [if_pos ((nI_eq0 (b.2.2 9)).2 e9)]
      obtain ⟨ρ, u1, u2, u3⟩ := w_round R0 (by omega) MK (x := -1) (r := 0) (by decide) (Or.inl ⟨by decide, by omega⟩) (fun a ha hq => by unfold ordQ at hq; simp at hq; exact hq.1)
      have ho : ((List.range ((aTellDue A).2 0)).filter (ordQ (aTellDue A) 0)).foldl stLk (aTellDue A, 8) = aLooks A := by
        unfold aLooks aOrd rnds
        rw [if_neg (by omega)]
        simp
      rw [ho] at u2
      rw [u1, oV_some]
      refine fin ρ ρ (aLooks A).1 u2.1 u2.2.1 m10 ?_ rfl u2.2.2.2.2.1 u2.2.2.2.2.2.1 (fun j h1 h6 => (u2.2.2.2.2.2.2.1 j h1).trans (jj j h1 h6)) (fun k h3 h4 => (u2.2.2.2.2.2.2.2.1 k h3 h4).trans (kk k h3 h4))
      rw [aTick_eq, if_neg (by omega)]
    · have h91 : A.2 9 = 1 := by have := I.n.2.1; omega
      rw [if_neg (fun x => e9 ((nI_eq0 (b.2.2 9)).1 x))]
      obtain ⟨ρ, u1, u2⟩ := w_rounds R0 (by omega) MK (by omega) (k := fun sx180 => oJ (κ := Int32 → Option (Int32 × MS)) (fun t0_208 => oS 2204 (sx180.1 1) 6 t0_208 (sA sx180 1) (fun s208 => oA 2204 (s208.1 1) 0 (fun x215 => oS 2204 (s208.1 1) 0 (x215 + 1) (sA s208 1) (fun s218 => oA 2204 (s218.1 1) 9 (fun x225 => some ((x225 - nI (A.2 1)), s218)))))) (fun k208 => if (sx180.2 4) = (-5) then (k208 (nI ((aTellDue A).2 6))) else (k208 (((sx180.2 4) + 1) - ((sx180.2 4) + 1) / 8 * 8))))
      have u2 : RSt (sN σ2 4 (-5)) ρ (aTellDue A) (aLooks A) := u2
      refine (?_ : ∃ τ, f_X6_tick_L158 _ _ FU 0 _ = _ ∧ _)
      rw [u1, oJ_to, u2.2.2.2.1]
      have u28 := u2.2.2.2.2.2.2.2.2
      have r6 : ρ.1 1 6 = nI ((aTellDue A).2 6) := by rw [u2.1.lit.2.2.2.2.2.2.1, m6, n6]
      by_cases e8 : (aLooks A).2 = 8
      · rw [if_pos ((enc5 u28).2 e8)]
        dsimp only
        rw [oM6]
        have hs : RM ((sA ρ 1 (upd (ρ.1 1) 6 (nI ((aTellDue A).2 6)))).1 1) (aLooks A).1 := by rw [sA_eq, upd_self r6]; exact u2.1
        refine fin ρ _ (aLooks A).1 hs u2.2.1 m10 ?_ rfl u2.2.2.2.2.1 u2.2.2.2.2.2.1 (fun j h1 h6 => by rw [sA_ne h1]; exact (u2.2.2.2.2.2.2.1 j h1).trans (jj j h1 h6)) (fun k h3 h4 => (u2.2.2.2.2.2.2.2.1 k h3 h4).trans (kk k h3 h4))
        rw [aTick_eq, if_neg (fun x => x.2 e8)]
      · rw [if_neg (fun x => e8 ((enc5 u28).1 x)), if_neg e8, nI_1, show nI ((aLooks A).2 + 1) - nI ((aLooks A).2 + 1) / 8 * 8 = nI (((aLooks A).2 + 1) % 8) from pk_rem (d := 8) (by omega) (by decide) (by decide)]
        dsimp only
        rw [oM6]
        have hs : RM ((sA ρ 1 (upd (ρ.1 1) 6 (nI (((aLooks A).2 + 1) % 8)))).1 1) (setN (aLooks A).1 6 (((aLooks A).2 + 1) % 8)) := by rw [sA_eq]; exact RM_num u2.1 (by omega)
        refine fin ρ _ _ hs (Iv_turn F1 (by omega)) (by rw [setN_ne (by decide)]; exact m10) ?_ rfl u2.2.2.2.2.1 u2.2.2.2.2.2.1 (fun j h1 h6 => by rw [sA_ne h1]; exact (u2.2.2.2.2.2.2.1 j h1).trans (jj j h1 h6)) (fun k h3 h4 => (u2.2.2.2.2.2.2.2.1 k h3 h4).trans (kk k h3 h4))
        rw [aTick_eq, if_pos (show A.2 9 = 1 ∧ (aLooks A).2 ≠ 8 from ⟨h91, e8⟩)]
  by_cases ea : atW A = 0
  · rw [if_pos (show nI (atW A) ≤ 0 by rw [ea]; decide)]
    exact go 0 (Or.inl rfl) fun _ => ea
  · rw [if_neg (nI_nle (by omega) (by omega))]
    exact go 1 (Or.inr rfl) fun x => absurd x (by decide)
