/-! PURE: reading blocks, zones -/
def hdr (A : NS) (z q a : Nat) : Bool := decide ((A.1 5 a = 1 ∨ A.1 5 a = 2) ∧ A.1 3 a = z ∧ A.1 9 a = A.1 17 z ∧ A.1 6 a = q)
theorem w_holder {σ : SS} {A : NS} (h : RC σ A) (I : Iv A) {z q : Nat} (hz : z < 8) (hq : q < 2 ^ 31) :
    (∃ a, a < A.2 0 ∧ hdr A z q a = true ∧ f_X0_holderOf σ (nI z) (nI (A.1 17 z)) (nI q) = some (nI a)) ∨ ((∀ a, a < A.2 0 → ¬ hdr A z q a = true) ∧ f_X0_holderOf σ (nI z) (nI (A.1 17 z)) (nI q) = some (-1)) := by
  have hn := I.a.1
  have b := I.b
  have go : ∀ d i m, i + d = A.2 0 → d < m → (∃ a, i ≤ a ∧ a < A.2 0 ∧ hdr A z q a = true ∧ f_X0_holderOf_L3 σ (nI z) (nI (A.1 17 z)) (nI q) (some (-1)) m (nI i) = some (nI a)) ∨ ((∀ a, i ≤ a → a < A.2 0 → ¬ hdr A z q a = true) ∧ f_X0_holderOf_L3 σ (nI z) (nI (A.1 17 z)) (nI q) (some (-1)) m (nI i) = some (-1)) := by
    intro d
    induction d with
    | zero =>
      intro i m hi hm
      obtain ⟨m, rfl⟩ : ∃ q, m = q + 1 := ⟨m - 1, by omega⟩
      refine Or.inr ⟨fun a h1 h2 => by omega, ?_⟩
      rw [f_X0_holderOf_L3, h.n0, if_pos (nI_le (by omega) (by omega))]
    | succ d ih =>
      intro i m hi hm
      obtain ⟨m, rfl⟩ : ∃ q, m = q + 1 := ⟨m - 1, by omega⟩
      have hin : i < A.2 0 := by omega
      have hi2 : i < 201 := by omega
      have step : f_X0_holderOf_L3 σ (nI z) (nI (A.1 17 z)) (nI q) (some (-1)) (m + 1) (nI i) = if hdr A z q i = true then some (nI i) else f_X0_holderOf_L3 σ (nI z) (nI (A.1 17 z)) (nI q) (some (-1)) m (nI (i + 1)) := by
        have e5 : σ.1 5 i = nI (A.1 5 i) := h.ap (by decide) (by decide) hin
        have e3 : σ.1 3 i = nI (A.1 3 i) := h.ap (by decide) (by decide) hin
        have q2 : (nI (A.1 5 i) = 2) ↔ A.1 5 i = 2 := nI_eq (b := 2) (b.2.1 5 i) (by decide)
        have q1 : (nI (A.1 5 i) = 1) ↔ A.1 5 i = 1 := nI_eq (b := 1) (b.2.1 5 i) (by decide)
        rw [f_X0_holderOf_L3, h.n0, if_neg (nI_ge hin (by omega))]
        simp only [oA_at hi2 (by decide : (201 : Nat) < 2 ^ 31), oJ_to, nI_1, e5, e3, if_eqN (b.2.1 3 i) (show z < 2 ^ 31 by omega)]
        by_cases p : A.1 5 i = 1 ∨ A.1 5 i = 2
        · obtain ⟨r6, _, r9⟩ := h.2.2.1 i hin p
          rw [r6, r9, if_eqN (b.2.1 9 i) (b.2.1 17 z), if_eqN (b.2.1 6 i) hq]
          by_cases c3 : A.1 3 i = z
          · by_cases c9 : A.1 9 i = A.1 17 z
            · by_cases c6 : A.1 6 i = q
              · rw [if_pos c3, if_pos c9, if_pos c6, if_pos (show hdr A z q i = true from decide_eq_true ⟨p, c3, c9, c6⟩)]
                rcases p with p | p
                · rw [if_neg (fun x => by have := q2.1 x; omega), if_pos (q1.2 p)]
                · rw [if_pos (q2.2 p)]
              · rw [if_pos c3, if_pos c9, if_neg c6, if_neg (fun x => c6 (of_decide_eq_true x).2.2.2)]
            · rw [if_pos c3, if_neg c9, if_neg (fun x => c9 (of_decide_eq_true x).2.2.1)]
          · rw [if_neg c3, if_neg (fun x => c3 (of_decide_eq_true x).2.1)]
        · have n2 : ¬ nI (A.1 5 i) = 2 := fun x => p (Or.inr (q2.1 x))
          have n1 : ¬ nI (A.1 5 i) = 1 := fun x => p (Or.inl (q1.1 x))
          rw [if_neg n2, if_neg n1, if_neg (show ¬ hdr A z q i = true from fun x => p (of_decide_eq_true x).1)]
          simp
      rw [step]
      by_cases e : hdr A z q i = true
      · rw [if_pos e]
        exact Or.inl ⟨i, Nat.le_refl _, hin, e, rfl⟩
      · rw [if_neg e]
        rcases ih (i + 1) m (by omega) (by omega) with ⟨a, h1, h2, h3, h4⟩ | ⟨h1, h2⟩
        · exact Or.inl ⟨a, by omega, h2, h3, h4⟩
        · refine Or.inr ⟨fun a ha1 ha2 => ?_, h2⟩
          by_cases ea : a = i
          · rw [ea]; exact e
          · exact h1 a (by omega) ha2
  unfold f_X0_holderOf
  rcases go (A.2 0) 0 FU (by omega) (by show _ < 20000; omega) with ⟨a, _, h2, h3, h4⟩ | ⟨h1, h2⟩
  · exact Or.inl ⟨a, h2, h3, h4⟩
  · exact Or.inr ⟨fun a ha => h1 a (Nat.zero_le _) ha, h2⟩
theorem w_blockAt {σ : SS} {m : MS} {A : NS} (h : RC σ A) (hm : RM (m.1 1) A) (I : Iv A) {z q : Nat} (hz : z < 8) (hq : q < 2 ^ 31) :
    ∃ r, f_X3_blockAt σ (nI z) (nI q) = some r ∧ f_X6_read m (nI z) (nI q) = some r ∧ (q < 16 → (r < 0 ↔ m.1 1 (10 + 22 * z + (6 + q)) = -5)) ∧ (q < 16 → ¬ q < A.1 16 z → m.1 1 (10 + 22 * z + (6 + q)) = -5) := by
  have hn := I.a.1
  have b := I.b
  have Z := I.z z hz
  unfold ivZ1 at Z
  have z3 : m.1 1 (10 + 22 * z + 3) = nI (A.1 16 z) := hm.zn hz (by decide)
  have beyond : q < 16 → ¬ q < A.1 16 z → m.1 1 (10 + 22 * z + (6 + q)) = -5 := fun h16 hp => by
    rcases blk hm I hz h16 with ⟨h0, _⟩ | ⟨a, ha, h1, h2, _⟩
    · exact h0
    · have := (rd_place I ha h1).1
      omega
  unfold f_X3_blockAt f_X6_read
  rw [w_isZone hz, oR_some, if_neg (show ¬ (1 : Int32) = 0 by decide), if_pos (show (0 : Int32) ≤ nI q from nI_pos' hq), oA_at hz (by decide), h.zn (by decide) (by decide) hz, w_isZoneM hz, oR_some, if_neg (show ¬ (1 : Int32) = 0 by decide), if_pos (show (0 : Int32) ≤ nI q from nI_pos' hq), rZ3, oA_b (by omega), z3]
  rcases w_holder h I hz hq with ⟨a, ha, hh, e⟩ | ⟨hno, e⟩
  · obtain ⟨p, p3, p9, p6⟩ := of_decide_eq_true hh
    have hpl : q < A.1 16 z := by
      have := (I.h.1 a ha p).2 (by rw [p3]; exact p9)
      rw [p3] at this
      omega
    have h16 : q < 16 := by omega
    have hne : ¬ nI a = -1 := fun x => by
      have := nI_pos (n := a) (by omega)
      rw [x] at this
      exact this (by decide)
    rw [e, oR_some, if_neg hne, oA_at (show a < 201 by omega) (by decide), h.ap (by decide) (by decide) ha, oA_at (show a < 201 by omega) (by decide), h.ap (by decide) (by decide) ha, if_pos (nI_lt hpl (by omega)), rB, oA_b (by omega)]
    rcases p with p | p
    · have hb : m.1 1 (10 + 22 * z + (6 + q)) = -5 := by
        rcases blk hm I hz h16 with ⟨h0, _⟩ | ⟨a', ha', h1, h2, _⟩
        · exact h0
        · obtain ⟨r1, r2, r3⟩ := of_decide_eq_true h1
          have := I.h.2.2.1 a a' ha ha' (Or.inl p) (Or.inr r1) (p3.trans r2.symm) (p9.trans r3.symm) (p6.trans h2.symm)
          rw [this] at p
          omega
      rw [if_pos (show nI (A.1 5 a) = 1 by rw [p]; rfl), if_pos hb]
      exact ⟨_, rfl, rfl, fun _ => ⟨fun _ => hb, fun _ => by decide⟩, beyond⟩
    · have hb : m.1 1 (10 + 22 * z + (6 + q)) = nI a := by
        rcases blk hm I hz h16 with ⟨_, h0⟩ | ⟨a', ha', h1, h2, h3⟩
        · exact absurd p6 (h0 a ha (decide_eq_true ⟨p, p3, p9⟩))
        · obtain ⟨r1, r2, r3⟩ := of_decide_eq_true h1
          have := I.h.2.2.1 a a' ha ha' (Or.inr p) (Or.inr r1) (p3.trans r2.symm) (p9.trans r3.symm) (p6.trans h2.symm)
          rw [this]; exact h3
      have a2 : m.1 1 (194 + 9 * a + 2) = nI (A.1 4 a) := hm.ap (k := 2) ha (by decide)
      rw [if_neg (show ¬ nI (A.1 5 a) = 1 by rw [p]; decide), if_neg (by rw [hb]; exact nI_ne5 (by omega)), hb, rA2, oA_b (by omega), a2]
      refine ⟨_, rfl, rfl, fun _ => ⟨fun x => absurd x (nI_pos (b.2.1 4 a)), fun x => absurd x (nI_ne5 (by omega))⟩, fun _ hp => absurd hpl hp⟩
  · have hp : ¬ q < A.1 16 z := fun x => by
      obtain ⟨a, ha, p, p3, p9, p6⟩ := I.h.2.2.2 z hz q x
      exact hno a ha (decide_eq_true ⟨p, p3, p9, p6⟩)
    rw [e, oR_some, if_pos rfl, if_neg (nI_nlt (a := q) (by omega) hq)]
    exact ⟨_, rfl, rfl, fun h16 => ⟨fun _ => beyond h16 hp, fun _ => by decide⟩, beyond⟩
theorem call_read {c : CS} {m : MS} (h : TopE c m) (p1 p2 : Int32) : ∃ r, f_X5_read c p1 p2 = some r ∧ f_X6_read m p1 p2 = some r := by
  obtain ⟨A, o, k, H, b, S, L, t, hT⟩ := h
  have hcr := hT.1
  have hrm := hT.2.1
  have I := hT.2.2.1.1
  unfold f_X5_read
  rcases zone_cases p1 with ⟨z, hz, rfl⟩ | ⟨e1, e2⟩
  · by_cases hp : p2 < 0
    · refine ⟨-2, ?_, ?_⟩
      · unfold f_X3_blockAt
        rw [w_isZone hz, oR_some, if_neg (show ¬ (1 : Int32) = 0 by decide), if_neg (Int32.not_le.2 hp), oR_some]
      · unfold f_X6_read
        rw [w_isZoneM hz, oR_some, if_neg (show ¬ (1 : Int32) = 0 by decide), if_neg (Int32.not_le.2 hp)]
    · obtain ⟨q, hq, rfl⟩ := nI_of hp
      obtain ⟨r, r1, r2, _⟩ := w_blockAt hcr.1 hrm I hz hq
      exact ⟨r, by rw [r1, oR_some], r2⟩
  · refine ⟨-1, ?_, ?_⟩
    · unfold f_X3_blockAt
      rw [e1, oR_some, if_pos rfl, oR_some]
    · unfold f_X6_read
      rw [e2, oR_some, if_pos rfl]
theorem w_fromStart {σ : SS} {m : MS} {A : NS} (h : RC σ A) (hm : RM (m.1 1) A) (I : Iv A) {z : Nat} (hz : z < 8) : ∃ r, f_X3_readableFromStart σ (nI z) = some r ∧ f_X6_zone_L93 m (nI z) (fun w3_123 => some w3_123) FU 0 = some r := by
  have b := I.b
  have Z := I.z z hz
  unfold ivZ1 at Z
  have go : ∀ d i m1 m2, i + d = 16 → d < m1 → d < m2 → i ≤ 16 → ∃ r, f_X3_readableFromStart_L2 σ (nI z) (fun w2_30 => some w2_30) m1 (nI i) = some r ∧ f_X6_zone_L93 m (nI z) (fun w3_123 => some w3_123) m2 (nI i) = some r := by
    intro d
    induction d with
    | zero =>
      intro i m1 m2 hi h1 h2 _
      obtain ⟨m1, rfl⟩ : ∃ q, m1 = q + 1 := ⟨m1 - 1, by omega⟩
      obtain ⟨m2, rfl⟩ : ∃ q, m2 = q + 1 := ⟨m2 - 1, by omega⟩
      refine ⟨nI i, ?_, ?_⟩
      · rw [f_X3_readableFromStart_L2, oA_at hz (by decide), h.zn (by decide) (by decide) hz, if_pos (nI_le (by omega) (by omega))]
      · rw [f_X6_zone_L93, if_pos (show (16 : Int32) ≤ nI i from nI_le (a := 16) (by omega) (by omega))]
    | succ d ih =>
      intro i m1 m2 hi h1 h2 _
      obtain ⟨m1, rfl⟩ : ∃ q, m1 = q + 1 := ⟨m1 - 1, by omega⟩
      obtain ⟨m2, rfl⟩ : ∃ q, m2 = q + 1 := ⟨m2 - 1, by omega⟩
      obtain ⟨r, r1, r2, r3, r4⟩ := w_blockAt h hm I hz (q := i) (by omega)
      rw [f_X3_readableFromStart_L2, oA_at hz (by decide), h.zn (by decide) (by decide) hz, f_X6_zone_L93, if_neg (show ¬ (16 : Int32) ≤ nI i from nI_ge (b := 16) (by omega) (by decide)), rB, oA_b (by omega)]
      by_cases hp : i < A.1 16 z
      · rw [if_neg (nI_ge hp (by omega)), r1, oR_some]
        by_cases hb : m.1 1 (10 + 22 * z + (6 + i)) = -5
        · rw [if_pos ((r3 (by omega)).2 hb), if_pos hb]
          exact ⟨_, rfl, rfl⟩
        · rw [if_neg (fun x => hb ((r3 (by omega)).1 x)), if_neg hb, nI_1]
          exact ih (i + 1) m1 m2 (by omega) (by omega) (by omega) (by omega)
      · rw [if_pos (nI_le (by omega) (by omega)), if_pos (r4 (by omega) hp)]
        exact ⟨_, rfl, rfl⟩
  exact go 16 0 FU FU (by decide) (by decide) (by decide) (by decide)
theorem w_appZ {m : MS} {A : NS} (h : RM (m.1 1) A) (I : Iv A) {z q : Nat} (hz : z < 8) (hq : q < 4) : f_X6_appends m (nI q) (nI z) = some (nI (cnt (fun a => decide (A.1 3 a = z ∧ A.1 5 a = q)) (A.2 0))) := by
  have ha := w_appends h I.b (q := q) (by omega) (nI z) z (Or.inr ⟨rfl, by omega⟩)
  rw [ha]
  congr 2
  refine cnt_congr fun a _ => ?_
  have : ¬ nI z < 0 := nI_pos (by omega)
  simp only [this, false_or, and_comm]
theorem w_appN {m : MS} {A : NS} (h : RM (m.1 1) A) (I : Iv A) {q : Nat} (hq : q < 4) : f_X6_appends m (nI q) (-1) = some (nI (cnt (fun a => decide (A.1 5 a = q)) (A.2 0))) := by
  have ha := w_appends h I.b (q := q) (by omega) (-1) 0 (Or.inl (by decide))
  rw [ha]
  congr 2
  refine cnt_congr fun a _ => ?_
  have : ((-1 : Int32) < 0) = True := eq_true (by decide)
  simp [this]
theorem call_zone {c : CS} {m : MS} (h : TopE c m) (p1 p2 : Int32) : ∃ r, f_X5_zone c p1 p2 = some r ∧ f_X6_zone m p1 p2 = some r := by
  obtain ⟨A, o, k, H, b, S, L, t, hT⟩ := h
  have hcr := hT.1
  have hrm := hT.2.1
  have I := hT.2.2.1.1
  have bd := I.b
  unfold f_X5_zone f_X3_tellZone f_X6_zone
  rcases zone_cases p1 with ⟨z, hz, rfl⟩ | ⟨e1, e2⟩
  · rw [w_isZone hz, oR_some, if_neg (show ¬ (1 : Int32) = 0 by decide), w_isZoneM hz, oR_some, if_neg (show ¬ (1 : Int32) = 0 by decide), oJ_to (κ := Option Int32)]
    have num : ∀ k : Nat, k < 5 → ∃ r, oR (oA 8 ((c.1 0).1 (13 + k)) (nI z) (fun x => some x)) (fun r6 => some r6) = some r ∧ oR (f_X6_of (nI z) (nI k)) (fun r66 => oA 2204 (m.1 1) r66 (fun x69 => some x69)) = some r := by
      intro k hk
      have zk : m.1 1 (10 + 22 * z + k) = nI (A.1 (13 + k) z) := hrm.zn hz hk
      rw [oA_at hz (by decide), hcr.1.zn (by omega) (by omega) hz, oR_some, w_of, oR_some, oA_b (by omega), zk]
      exact ⟨_, rfl, rfl⟩
    by_cases q0 : p2 = 0
    · subst q0
      rw [if_pos rfl, if_pos rfl]
      exact num 0 (by decide)
    rw [if_neg q0, if_neg q0]
    by_cases q1 : p2 = 1
    · subst q1
      rw [if_pos rfl, if_pos rfl]
      exact num 1 (by decide)
    rw [if_neg q1, if_neg q1]
    by_cases q2 : p2 = 2
    · subst q2
      rw [if_pos rfl, if_pos rfl]
      exact num 2 (by decide)
    rw [if_neg q2, if_neg q2]
    by_cases q3 : p2 = 3
    · subst q3
      rw [if_pos rfl, if_pos rfl]
      exact num 3 (by decide)
    rw [if_neg q3, if_neg q3]
    by_cases q4 : p2 = 4
    · subst q4
      rw [if_pos rfl, if_pos rfl]
      exact num 4 (by decide)
    rw [if_neg q4, if_neg q4]
    by_cases q5 : p2 = 5
    · rw [if_pos q5, if_pos q5, oA_at hz (by decide), hcr.1.zn (by decide) (by decide) hz, w_toldInGen hcr.1 bd (by omega) (bd.2.1 17 z), oR_some, oR_some, w_readable hrm I hz, oR_some]
      exact ⟨_, rfl, rfl⟩
    rw [if_neg q5, if_neg q5]
    by_cases q6 : p2 = 6
    · have e1 : f_X0_liveInZone (c.1 0) (nI z) 1 = some (nI (cnt (fun a => decide (A.1 3 a = z ∧ A.1 5 a = 1)) (A.2 0))) := w_liveInZone hcr.1 bd hcr.2 (q := 1) (by omega) (by decide) (fun a _ hx => decide_eq_true (Or.inr hx))
      have e2 : f_X6_appends m 1 (nI z) = some (nI (cnt (fun a => decide (A.1 3 a = z ∧ A.1 5 a = 1)) (A.2 0))) := w_appZ hrm I hz (q := 1) (by decide)
      rw [if_pos q6, if_pos q6, e1, oR_some, oR_some, e2, oR_some]
      exact ⟨_, rfl, rfl⟩
    rw [if_neg q6, if_neg q6]
    by_cases q7 : p2 = 7
    · have e1 : f_X0_liveInZone (c.1 0) (nI z) 0 = some (nI (cnt (fun a => decide (A.1 3 a = z ∧ A.1 5 a = 0)) (A.2 0))) := w_liveInZone hcr.1 bd hcr.2 (q := 0) (by omega) (by decide) (fun a _ hx => decide_eq_true (Or.inl hx))
      have e2 : f_X6_appends m 0 (nI z) = some (nI (cnt (fun a => decide (A.1 3 a = z ∧ A.1 5 a = 0)) (A.2 0))) := w_appZ hrm I hz (q := 0) (by decide)
      rw [if_pos q7, if_pos q7, e1, oR_some, oR_some, e2, oR_some]
      exact ⟨_, rfl, rfl⟩
    rw [if_neg q7, if_neg q7]
    by_cases q8 : p2 = 8
    · obtain ⟨r, r1, r2⟩ := w_fromStart hcr.1 hrm I hz
      rw [if_pos q8, if_pos q8, r1, oR_some, oR_some]
      exact ⟨r, rfl, r2⟩
    rw [if_neg q8, if_neg q8]
    exact ⟨-2, rfl, rfl⟩
  · rw [e1, oR_some, if_pos rfl, oR_some, e2, oR_some, if_pos rfl]
    exact ⟨_, rfl, rfl⟩
