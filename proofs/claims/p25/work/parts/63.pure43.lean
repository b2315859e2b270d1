/-! PURE: the reference's rows are copied -/
theorem RM_congr {s s' : Nat → Int32} {A : NS} (h : RM s A) (e : ∀ j, j < 2204 → s' j = s j) (hn : A.2 0 ≤ 201) (ht : A.2 1 ≤ 201) : RM s' A := by
  obtain ⟨g1, g2, g3, g4, g5, g6, g7, g8⟩ := h
  refine ⟨?_, fun y hy j hj => ?_, fun y hy hl => ?_, fun u hu => ?_, fun i hi j hj => ?_, fun i hi => ?_, fun j hj => ?_, fun y hy q hq => ?_⟩
  · rw [e 0 (by decide), e 1 (by decide), e 2 (by decide), e 3 (by decide), e 4 (by decide), e 5 (by decide), e 6 (by decide), e 7 (by decide), e 8 (by decide), e 9 (by decide)]; exact g1
  · rw [e _ (by omega)]; exact g2 y hy j hj
  · rw [e _ (by omega)]; exact g3 y hy hl
  · rw [e _ (by omega), e _ (by omega)]; exact g4 u hu
  · rw [e _ (by omega)]; exact g5 i hi j hj
  · rw [e _ (by omega), e _ (by omega), e _ (by omega), e _ (by omega), e _ (by omega)]; exact g6 i hi
  · rw [e _ (by omega)]; exact g7 j hj
  · rw [e _ (by omega)]; exact g8 y hy q hq
theorem Iv.told {A : NS} (I : Iv A) : A.2 1 ≤ 201 := by
  have := I.t.1
  have := I.a.1
  have := cnt_le (fun a => decide (A.1 5 a = 2)) (A.2 0)
  omega
theorem w_aside {σ : MS} {K : MS → Option (MS)} : ∃ τ, f_X6_putAside_L2 K FU 0 σ = K τ ∧ (∀ j, j < 2204 → τ.1 2 j = σ.1 1 j) ∧ τ.2 = σ.2 ∧ ∀ j, j ≠ 2 → τ.1 j = σ.1 j := by
  obtain ⟨τ, hR, e⟩ := loop_to (B := Unit) 2204 (fun m i (c : MS) => f_X6_putAside_L2 K m i c) K (fun _ b => b)
    (fun i _ c => (∀ j, j < i → c.1 2 j = σ.1 1 j) ∧ c.2 = σ.2 ∧ ∀ j, j ≠ 2 → c.1 j = σ.1 j) (fun m _ c hR => by
      show f_X6_putAside_L2 K (m + 1) (nI 2204) c = _
      rw [f_X6_putAside_L2, if_pos (by decide)]) (fun m i _ c hi hR => by
      show ∃ c' : MS, _ ∧ f_X6_putAside_L2 K (m + 1) (nI i) c = f_X6_putAside_L2 K m (nI (i + 1)) c'
      rw [f_X6_putAside_L2, if_neg (show ¬ (2204 : Int32) ≤ nI i from nI_ge hi (by decide)), oA_b hi, oS_b hi, nI_1, hR.2.2 1 (by decide)]
      refine ⟨sA c 2 (upd (c.1 2) i (σ.1 1 i)), ⟨fun j hj => ?_, hR.2.1, fun j hj => (sA_ne hj).trans (hR.2.2 j hj)⟩, rfl⟩
      rw [sA_eq]
      by_cases e : j = i
      · subst e; rw [upd_eq]
      · rw [upd_ne e]; exact hR.1 j (by omega)) σ () FU ⟨fun j hj => absurd hj (Nat.not_lt_zero j), rfl, fun _ _ => rfl⟩ (by decide)
  exact ⟨τ, e, hR⟩
theorem w_back {σ : MS} {K : MS → Option (MS)} : ∃ τ, f_X6_putBack_L2 K FU 0 σ = K τ ∧ (∀ j, j < 2204 → τ.1 1 j = σ.1 2 j) ∧ τ.2 = σ.2 ∧ ∀ j, j ≠ 1 → τ.1 j = σ.1 j := by
  obtain ⟨τ, hR, e⟩ := loop_to (B := Unit) 2204 (fun m i (c : MS) => f_X6_putBack_L2 K m i c) K (fun _ b => b)
    (fun i _ c => (∀ j, j < i → c.1 1 j = σ.1 2 j) ∧ c.2 = σ.2 ∧ ∀ j, j ≠ 1 → c.1 j = σ.1 j) (fun m _ c hR => by
      show f_X6_putBack_L2 K (m + 1) (nI 2204) c = _
      rw [f_X6_putBack_L2, if_pos (by decide)]) (fun m i _ c hi hR => by
      show ∃ c' : MS, _ ∧ f_X6_putBack_L2 K (m + 1) (nI i) c = f_X6_putBack_L2 K m (nI (i + 1)) c'
      rw [f_X6_putBack_L2, if_neg (show ¬ (2204 : Int32) ≤ nI i from nI_ge hi (by decide)), oA_b hi, oS_b hi, nI_1, hR.2.2 2 (by decide)]
      refine ⟨sA c 1 (upd (c.1 1) i (σ.1 2 i)), ⟨fun j hj => ?_, hR.2.1, fun j hj => (sA_ne hj).trans (hR.2.2 j hj)⟩, rfl⟩
      rw [sA_eq]
      by_cases e : j = i
      · subst e; rw [upd_eq]
      · rw [upd_ne e]; exact hR.1 j (by omega)) σ () FU ⟨fun j hj => absurd hj (Nat.not_lt_zero j), rfl, fun _ _ => rfl⟩ (by decide)
  exact ⟨τ, e, hR⟩
theorem w_keepL {σ : MS} {K : MS → Option (Int32 × MS)} : ∃ τ, f_X6_keep_L2 K FU 0 σ = K τ ∧ (∀ j, j < 2204 → τ.1 4 j = σ.1 1 j) ∧ τ.2 = σ.2 ∧ ∀ j, j ≠ 4 → τ.1 j = σ.1 j := by
  obtain ⟨τ, hR, e⟩ := loop_to (B := Unit) 2204 (fun m i (c : MS) => f_X6_keep_L2 K m i c) K (fun _ b => b)
    (fun i _ c => (∀ j, j < i → c.1 4 j = σ.1 1 j) ∧ c.2 = σ.2 ∧ ∀ j, j ≠ 4 → c.1 j = σ.1 j) (fun m _ c hR => by
      show f_X6_keep_L2 K (m + 1) (nI 2204) c = _
      rw [f_X6_keep_L2, if_pos (by decide)]) (fun m i _ c hi hR => by
      show ∃ c' : MS, _ ∧ f_X6_keep_L2 K (m + 1) (nI i) c = f_X6_keep_L2 K m (nI (i + 1)) c'
      rw [f_X6_keep_L2, if_neg (show ¬ (2204 : Int32) ≤ nI i from nI_ge hi (by decide)), oA_b hi, oS_b hi, nI_1, hR.2.2 1 (by decide)]
      refine ⟨sA c 4 (upd (c.1 4) i (σ.1 1 i)), ⟨fun j hj => ?_, hR.2.1, fun j hj => (sA_ne hj).trans (hR.2.2 j hj)⟩, rfl⟩
      rw [sA_eq]
      by_cases e : j = i
      · subst e; rw [upd_eq]
      · rw [upd_ne e]; exact hR.1 j (by omega)) σ () FU ⟨fun j hj => absurd hj (Nat.not_lt_zero j), rfl, fun _ _ => rfl⟩ (by decide)
  exact ⟨τ, e, hR⟩
theorem w_restL {σ : MS} {K : MS → Option (Int32 × MS)} : ∃ τ, f_X6_restore_L16 K FU 0 σ = K τ ∧ (∀ j, j < 2204 → τ.1 1 j = σ.1 4 j) ∧ τ.2 = σ.2 ∧ ∀ j, j ≠ 1 → τ.1 j = σ.1 j := by
  obtain ⟨τ, hR, e⟩ := loop_to (B := Unit) 2204 (fun m i (c : MS) => f_X6_restore_L16 K m i c) K (fun _ b => b)
    (fun i _ c => (∀ j, j < i → c.1 1 j = σ.1 4 j) ∧ c.2 = σ.2 ∧ ∀ j, j ≠ 1 → c.1 j = σ.1 j) (fun m _ c hR => by
      show f_X6_restore_L16 K (m + 1) (nI 2204) c = _
      rw [f_X6_restore_L16, if_pos (by decide)]) (fun m i _ c hi hR => by
      show ∃ c' : MS, _ ∧ f_X6_restore_L16 K (m + 1) (nI i) c = f_X6_restore_L16 K m (nI (i + 1)) c'
      rw [f_X6_restore_L16, if_neg (show ¬ (2204 : Int32) ≤ nI i from nI_ge hi (by decide)), oA_b hi, oS_b hi, nI_1, hR.2.2 4 (by decide)]
      refine ⟨sA c 1 (upd (c.1 1) i (σ.1 4 i)), ⟨fun j hj => ?_, hR.2.1, fun j hj => (sA_ne hj).trans (hR.2.2 j hj)⟩, rfl⟩
      rw [sA_eq]
      by_cases e : j = i
      · subst e; rw [upd_eq]
      · rw [upd_ne e]; exact hR.1 j (by omega)) σ () FU ⟨fun j hj => absurd hj (Nat.not_lt_zero j), rfl, fun _ _ => rfl⟩ (by decide)
  exact ⟨τ, e, hR⟩
theorem w_undoL {σ : MS} {k : Nat} (hk : k < 4) (h0 : σ.2 0 = nI k) {K : MS → Option (Int32 × MS)} : ∃ τ, f_X6_undo_L22 K FU 0 σ = K τ ∧ (∀ j, j < 2204 → τ.1 1 j = σ.1 3 (2204 * k + j)) ∧ τ.2 = σ.2 ∧ ∀ j, j ≠ 1 → τ.1 j = σ.1 j := by
  obtain ⟨τ, hR, e⟩ := loop_to (B := Unit) 2204 (fun m i (c : MS) => f_X6_undo_L22 K m i c) K (fun _ b => b)
    (fun i _ c => (∀ j, j < i → c.1 1 j = σ.1 3 (2204 * k + j)) ∧ c.2 = σ.2 ∧ ∀ j, j ≠ 1 → c.1 j = σ.1 j) (fun m _ c hR => by
      show f_X6_undo_L22 K (m + 1) (nI 2204) c = _
      rw [f_X6_undo_L22, if_pos (by decide)]) (fun m i _ c hi hR => by
      show ∃ c' : MS, _ ∧ f_X6_undo_L22 K (m + 1) (nI i) c = f_X6_undo_L22 K m (nI (i + 1)) c'
      rw [f_X6_undo_L22, if_neg (show ¬ (2204 : Int32) ≤ nI i from nI_ge hi (by decide)), hR.2.1, h0, show (2204 : Int32) = nI 2204 from rfl, pk_mul, nI_add, oA_at (show 2204 * k + i < 8816 by omega) (by decide), oS_b hi, nI_1, hR.2.2 3 (by decide)]
      refine ⟨sA c 1 (upd (c.1 1) i (σ.1 3 (2204 * k + i))), ⟨fun j hj => ?_, hR.2.1, fun j hj => (sA_ne hj).trans (hR.2.2 j hj)⟩, rfl⟩
      rw [sA_eq]
      by_cases e : j = i
      · subst e; rw [upd_eq]
      · rw [upd_ne e]; exact hR.1 j (by omega)) σ () FU ⟨fun j hj => absurd hj (Nat.not_lt_zero j), rfl, fun _ _ => rfl⟩ (by decide)
  exact ⟨τ, e, hR⟩
theorem w_swapL {σ : MS} {K : MS → Option (Int32 × MS)} : ∃ τ, f_X6_follow_L49 K FU 0 σ = K τ ∧ (∀ j, j < 2204 → τ.1 1 j = σ.1 2 j ∧ τ.1 2 j = σ.1 1 j) ∧ τ.2 = σ.2 ∧ ∀ j, j ≠ 1 → j ≠ 2 → τ.1 j = σ.1 j := by
  obtain ⟨τ, hR, e⟩ := loop_to (B := Unit) 2204 (fun m i (c : MS) => f_X6_follow_L49 K m i c) K (fun _ b => b)
    (fun i _ c => (∀ j, j < i → c.1 1 j = σ.1 2 j ∧ c.1 2 j = σ.1 1 j) ∧ (∀ j, i ≤ j → c.1 1 j = σ.1 1 j ∧ c.1 2 j = σ.1 2 j) ∧ c.2 = σ.2 ∧ ∀ j, j ≠ 1 → j ≠ 2 → c.1 j = σ.1 j) (fun m _ c hR => by
      show f_X6_follow_L49 K (m + 1) (nI 2204) c = _
      rw [f_X6_follow_L49, if_pos (by decide)]) (fun m i _ c hi hR => by
      show ∃ c' : MS, _ ∧ f_X6_follow_L49 K (m + 1) (nI i) c = f_X6_follow_L49 K m (nI (i + 1)) c'
      rw [f_X6_follow_L49, if_neg (show ¬ (2204 : Int32) ≤ nI i from nI_ge hi (by decide)), oA_b hi, oA_b hi, oS_b hi, oS_b hi, nI_1, (hR.2.1 i (Nat.le_refl _)).1, (hR.2.1 i (Nat.le_refl _)).2]
      refine ⟨sA (sA c 1 (upd (c.1 1) i (σ.1 2 i))) 2 (upd ((sA c 1 (upd (c.1 1) i (σ.1 2 i))).1 2) i (σ.1 1 i)), ⟨fun j hj => ?_, fun j hj => ?_, hR.2.2.1, fun j h1 h2 => (sA_ne h2).trans ((sA_ne h1).trans (hR.2.2.2 j h1 h2))⟩, rfl⟩
      · rw [sA_ne (show (1 : Nat) ≠ 2 by decide), sA_eq, sA_eq, sA_ne (show (2 : Nat) ≠ 1 by decide)]
        by_cases e : j = i
        · subst e; rw [upd_eq, upd_eq]; exact ⟨rfl, rfl⟩
        · rw [upd_ne e, upd_ne e]; exact hR.1 j (by omega)
      · rw [sA_ne (show (1 : Nat) ≠ 2 by decide), sA_eq, sA_eq, sA_ne (show (2 : Nat) ≠ 1 by decide), upd_ne (by omega), upd_ne (by omega)]
        exact hR.2.1 j (by omega)) σ () FU ⟨fun j hj => absurd hj (Nat.not_lt_zero j), fun _ _ => ⟨rfl, rfl⟩, rfl, fun _ _ _ => rfl⟩ (by decide)
  exact ⟨τ, e, hR.1, hR.2.2⟩
theorem w_know51 {σ : MS} {k : Nat} (hk : k < 4) (h0 : σ.2 0 = nI k) {K : MS → Option MS} : ∃ τ, f_X6_know_L51 K FU 0 σ = K τ ∧ (∀ j, j < 2204 → τ.1 3 (2204 * k + j) = σ.1 1 j) ∧ (∀ x, x < 2204 * k → τ.1 3 x = σ.1 3 x) ∧ τ.2 = σ.2 ∧ ∀ j, j ≠ 3 → τ.1 j = σ.1 j := by
  obtain ⟨τ, hR, e⟩ := loop_to (B := Unit) 2204 (fun m i (c : MS) => f_X6_know_L51 K m i c) K (fun _ b => b)
    (fun i _ c => (∀ j, j < i → c.1 3 (2204 * k + j) = σ.1 1 j) ∧ (∀ x, x < 2204 * k → c.1 3 x = σ.1 3 x) ∧ c.2 = σ.2 ∧ ∀ j, j ≠ 3 → c.1 j = σ.1 j) (fun m _ c hR => by
      show f_X6_know_L51 K (m + 1) (nI 2204) c = _
      rw [f_X6_know_L51, if_pos (by decide)]) (fun m i _ c hi hR => by
      show ∃ c' : MS, _ ∧ f_X6_know_L51 K (m + 1) (nI i) c = f_X6_know_L51 K m (nI (i + 1)) c'
      rw [f_X6_know_L51, if_neg (show ¬ (2204 : Int32) ≤ nI i from nI_ge hi (by decide)), oA_b hi, hR.2.2.1, h0, show (2204 : Int32) = nI 2204 from rfl, pk_mul, nI_add, oS_at (show 2204 * k + i < 8816 by omega) (by decide), nI_1, hR.2.2.2 1 (by decide)]
      refine ⟨sA c 3 (upd (c.1 3) (2204 * k + i) (σ.1 1 i)), ⟨fun j hj => ?_, fun x hx => ?_, hR.2.2.1, fun j hj => (sA_ne hj).trans (hR.2.2.2 j hj)⟩, rfl⟩
      · rw [sA_eq]
        by_cases e : j = i
        · subst e; rw [upd_eq]
        · rw [upd_ne (by omega)]; exact hR.1 j (by omega)
      · rw [sA_eq, upd_ne (by omega)]; exact hR.2.1 x hx) σ () FU ⟨fun j hj => absurd hj (Nat.not_lt_zero j), fun _ _ => rfl, rfl, fun _ _ => rfl⟩ (by decide)
  exact ⟨τ, e, hR⟩
theorem w_know10 {σ : MS} {K : MS → Option MS} : ∃ τ, f_X6_know_L10 K FU 0 σ = K τ ∧ (∀ x, x < 6612 → τ.1 3 x = σ.1 3 (2204 + x)) ∧ τ.2 = σ.2 ∧ ∀ j, j ≠ 3 → τ.1 j = σ.1 j := by
  obtain ⟨τ, hR, e⟩ := loop_to (B := Unit) 6612 (fun m i (c : MS) => f_X6_know_L10 K m i c) K (fun _ b => b)
    (fun i _ c => (∀ x, x < i → c.1 3 x = σ.1 3 (2204 + x)) ∧ (∀ x, i ≤ x → c.1 3 x = σ.1 3 x) ∧ c.2 = σ.2 ∧ ∀ j, j ≠ 3 → c.1 j = σ.1 j) (fun m _ c hR => by
      show f_X6_know_L10 K (m + 1) (nI 6612) c = _
      rw [f_X6_know_L10, if_pos (by decide)]) (fun m i _ c hi hR => by
      show ∃ c' : MS, _ ∧ f_X6_know_L10 K (m + 1) (nI i) c = f_X6_know_L10 K m (nI (i + 1)) c'
      rw [f_X6_know_L10, if_neg (show ¬ (6612 : Int32) ≤ nI i from nI_ge hi (by decide)), show (2204 : Int32) = nI 2204 from rfl, nI_add, oA_at (show 2204 + i < 8816 by omega) (by decide), oS_at (show i < 8816 by omega) (by decide), nI_1]
      refine ⟨sA c 3 (upd (c.1 3) i (c.1 3 (2204 + i))), ⟨fun x hx => ?_, fun x hx => ?_, hR.2.2.1, fun j hj => (sA_ne hj).trans (hR.2.2.2 j hj)⟩, rfl⟩
      · rw [sA_eq]
        by_cases e : x = i
        · subst e; rw [upd_eq]; exact hR.2.1 _ (by omega)
        · rw [upd_ne e]; exact hR.1 x (by omega)
      · rw [sA_eq, upd_ne (by omega)]; exact hR.2.1 x (by omega)) σ () FU ⟨fun j hj => absurd hj (Nat.not_lt_zero j), fun _ _ => rfl, rfl, fun _ _ => rfl⟩ (by decide)
  exact ⟨τ, e, hR.1, hR.2.2⟩
/-- the history of the reference -/
def HM (m : MS) (k : Nat) (H : Nat → NS) : Prop := m.2 0 = nI k ∧ k ≤ 4 ∧ ∀ i, i < k → RM (fun j => m.1 3 (2204 * i + j)) (H i) ∧ Rest (H i)
def pushK (k : Nat) : Nat := if k < 4 then k + 1 else 4
def pushH (k : Nat) (H : Nat → NS) (A : NS) : Nat → NS := fun i => if k < 4 then (if i = k then A else H i) else (if i = 3 then A else H (i + 1))
theorem w_know {m : MS} {k : Nat} {H : Nat → NS} {A : NS} (h : HM m k H) (hr : RM (m.1 1) A) (hA : Rest A) : ∃ τ, f_X6_know m = some τ ∧ HM τ (pushK k) (pushH k H A) ∧ (∀ j, j ≠ 3 → τ.1 j = m.1 j) ∧ ∀ j, j ≠ 0 → τ.2 j = m.2 j := by
  obtain ⟨h0, hk, hH⟩ := h
  unfold f_X6_know
  rw [oJ_to]
  by_cases e : k = 4
  · subst e
    have e4 : m.2 0 = 4 := h0
    rw [if_pos e4]
    obtain ⟨τ, f1, f2, f3, f4⟩ := w_know10 (σ := m) (K := fun sx39 => oN ((sx39.2 0) - 1) (sN sx39 0) (fun s46 => f_X6_know_L51 (fun sx85 => oN ((sx85.2 0) + 1) (sN sx85 0) (fun s92 => some s92)) FU 0 s46))
    rw [f1, oN_to]
    have e3 : (sN τ 0 (τ.2 0 - 1)).2 0 = nI 3 := by rw [sN_eq, f3, e4]; rfl
    obtain ⟨ρ, g1, g2, g3, g4, g5⟩ := w_know51 (σ := sN τ 0 (τ.2 0 - 1)) (k := 3) (by decide) e3 (K := fun sx85 => oN ((sx85.2 0) + 1) (sN sx85 0) (fun s92 => some s92))
    rw [g1, oN_to]
    refine ⟨_, rfl, ⟨by rw [sN_eq, g4, e3]; rfl, by decide, fun i hi => ?_⟩, fun j hj => ?_, fun j hj => ?_⟩
    · have hi : i < 4 := hi
      unfold pushH
      rw [if_neg (by decide), sN_1]
      by_cases e : i = 3
      · subst e
        rw [if_pos rfl]
        refine ⟨RM_congr hr (fun j hj => ?_) hA.1.a.1 hA.1.told, hA⟩
        rw [g2 j hj, sN_1, f4 1 (by decide)]
      · rw [if_neg e]
        have := hH (i + 1) (by omega)
        refine ⟨RM_congr this.1 (fun j hj => ?_) this.2.1.a.1 this.2.1.told, this.2⟩
        have ei : 2204 + (2204 * i + j) = 2204 * (i + 1) + j := by omega
        rw [g3 _ (by omega), sN_1, f2 _ (by omega), ei]
    · rw [sN_1, g5 j hj, sN_1, f4 j hj]
    · rw [sN_ne hj, g4, sN_ne hj, f3]
  · have h4 : ¬ m.2 0 = 4 := fun x => by
      rw [h0] at x
      have := (nI_eq (b := 4) (a := k) (by omega) (by decide)).1 x
      omega
    rw [if_neg h4]
    obtain ⟨ρ, g1, g2, g3, g4, g5⟩ := w_know51 (σ := m) (k := k) (by omega) h0 (K := fun sx85 => oN ((sx85.2 0) + 1) (sN sx85 0) (fun s92 => some s92))
    dsimp only
    rw [g1, oN_to]
    refine ⟨_, rfl, ⟨?_, by unfold pushK; split <;> omega, fun i hi => ?_⟩, fun j hj => ?_, fun j hj => ?_⟩
    · rw [sN_eq, g4, h0, nI_1]
      unfold pushK
      rw [if_pos (by omega)]
    · unfold pushK at hi
      rw [if_pos (by omega)] at hi
      unfold pushH
      rw [if_pos (by omega), sN_1]
      by_cases e : i = k
      · subst e
        rw [if_pos rfl]
        exact ⟨RM_congr hr (fun j hj => g2 j hj) hA.1.a.1 hA.1.told, hA⟩
      · rw [if_neg e]
        have := hH i (by omega)
        refine ⟨RM_congr this.1 (fun j hj => ?_) this.2.1.a.1 this.2.1.told, this.2⟩
        rw [g3 _ (by omega)]
    · rw [sN_1, g5 j hj]
    · rw [sN_ne hj, g4]
