/-! PURE: loops of the words along a list; the abstract state; counting words -/
theorem loop_rel {C γ B : Type} (l : List Nat) (f : Nat → Int32 → C → Option γ) (k : C → Option γ) (st : Nat → B → B) (R : Nat → B → C → Prop)
    (hend : ∀ m b c, R l.length b c → f (m + 1) (nI l.length) c = k c)
    (hstep : ∀ m i b c (h : i < l.length), R i b c → ∃ c', R (i + 1) (st l[i] b) c' ∧ f (m + 1) (nI i) c = f m (nI (i + 1)) c') :
    ∀ c b m, R 0 b c → l.length < m → ∃ c', R l.length (l.foldl (fun b a => st a b) b) c' ∧ f m (nI 0) c = k c' := by
  have go : ∀ (d i : Nat) (c : C) (b : B) (m : Nat), i + d = l.length → d < m → R i b c → ∃ c', R l.length ((l.drop i).foldl (fun b a => st a b) b) c' ∧ f m (nI i) c = k c' := by
    intro d
    induction d with
    | zero =>
      intro i c b m hi hm hR
      obtain ⟨m, rfl⟩ : ∃ q, m = q + 1 := ⟨m - 1, by omega⟩
      rw [Nat.add_zero] at hi
      subst hi
      exact ⟨c, by rw [List.drop_length]; exact hR, hend m b c hR⟩
    | succ d ih =>
      intro i c b m hi hm hR
      obtain ⟨m, rfl⟩ : ∃ q, m = q + 1 := ⟨m - 1, by omega⟩
      have hlt : i < l.length := by omega
      obtain ⟨c1, hR1, e1⟩ := hstep m i b c hlt hR
      obtain ⟨c2, hR2, e2⟩ := ih (i + 1) c1 _ m (by omega) (by omega) hR1
      refine ⟨c2, ?_, e1.trans e2⟩
      rw [List.drop_eq_getElem_cons hlt]
      exact hR2
  intro c b m hR hm
  have := go l.length 0 c b m (by omega) hm hR
  rwa [List.drop_zero] at this
/-- a loop that counts -/
theorem loop_count {γ : Type} (l : List Nat) (f : Nat → Int32 → Int32 → Option γ) (k : Int32 → Option γ) (P : Nat → Bool)
    (hend : ∀ m c, f (m + 1) c (nI l.length) = k c)
    (hstep : ∀ m i c (h : i < l.length), f (m + 1) (nI c) (nI i) = f m (nI (c + if P l[i] = true then 1 else 0)) (nI (i + 1))) :
    ∀ m, l.length < m → f m (nI 0) (nI 0) = k (nI (l.countP P)) := by
  intro m hm
  obtain ⟨c', hc, e⟩ := loop_rel l (fun m i c => f m c i) k (fun a b => b + if P a = true then 1 else 0) (fun _ b c => c = nI b) (fun m b c _ => hend m c)
    (fun m i b c h hR => ⟨nI (b + if P l[i] = true then 1 else 0), rfl, by rw [hR]; exact hstep m i b h⟩) (nI 0) 0 m rfl hm
  rw [e, hc]
  congr 2
  have : ∀ (l : List Nat) (b : Nat), l.foldl (fun b a => b + if P a = true then 1 else 0) b = b + l.countP P := by
    intro l
    induction l with
    | nil => intro b; rfl
    | cons a l ih =>
      intro b
      rw [List.foldl_cons, ih, List.countP_cons]
      omega
  rw [this, Nat.zero_add]
/-- the abstract state: the places of its arrays and numbers are the class's -/
abbrev NS : Type := (Nat → Nat → Nat) × (Nat → Nat)
/-- the class's State holds A -/
def RC (σ : SS) (A : NS) : Prop :=
  (∀ k, k < 11 → k ≠ 2 → σ.2 k = nI (A.2 k)) ∧ (∀ m, 2 ≤ m → m < 6 → ∀ a, a < A.2 0 → σ.1 m a = nI (A.1 m a)) ∧
  (∀ a, a < A.2 0 → A.1 5 a = 1 ∨ A.1 5 a = 2 → σ.1 6 a = nI (A.1 6 a) ∧ σ.1 7 a = nI (A.1 7 a) ∧ σ.1 9 a = nI (A.1 9 a)) ∧
  (∀ a, a < A.2 0 → σ.1 8 a = if A.1 5 a = 3 then nI (A.1 8 a) else -5) ∧ (∀ k, k < A.2 1 → σ.1 10 k = nI (A.1 10 k)) ∧
  (∀ m, 13 ≤ m → m < 19 → ∀ z, z < 8 → σ.1 m z = nI (A.1 m z)) ∧ (∀ m, 19 ≤ m → m < 21 → ∀ w, w < 4 → σ.1 m w = nI (A.1 m w))
/-- the class's live list: those below n that P picks, ascending -/
def LV (σ : SS) (n : Nat) (P : Nat → Bool) : Prop :=
  σ.2 2 = nI ((List.range n).filter P).length ∧ ((List.range n).filter P).length ≤ 33 ∧ ∀ i (h : i < ((List.range n).filter P).length), σ.1 11 i = nI ((List.range n).filter P)[i]
/-- the reference's row s holds A -/
def RM (s : Nat → Int32) (A : NS) : Prop :=
  (s 0 = nI (A.2 10) ∧ s 1 = nI (A.2 4) ∧ s 2 = nI (A.2 5) ∧ s 3 = nI (A.2 8) ∧ s 4 = nI (A.2 9) ∧ s 5 = nI (A.2 0) ∧ s 6 = nI (A.2 6) ∧ s 7 = nI (A.2 7) ∧ s 8 = nI (A.2 3) ∧ s 9 = nI (A.2 1)) ∧
  (∀ z, z < 8 → ∀ k, k < 5 → s (10 + 22 * z + k) = nI (A.1 (13 + k) z)) ∧
  (∀ z, z < 8 → A.1 18 z ≠ 0 → s (10 + 22 * z + 5) = nI (A.1 18 z - 1)) ∧
  (∀ w, w < 4 → s (186 + 2 * w) = nI (A.1 19 w) ∧ s (186 + 2 * w + 1) = nI (A.1 20 w)) ∧
  (∀ a, a < A.2 0 → ∀ k, k < 4 → s (194 + 9 * a + k) = nI (A.1 (2 + k) a)) ∧
  (∀ a, a < A.2 0 → s (194 + 9 * a + 4) = (if A.1 5 a = 1 ∨ A.1 5 a = 2 then nI (A.1 6 a) else -5) ∧ s (194 + 9 * a + 5) = (if A.1 5 a = 2 then nI (A.1 7 a) else -5) ∧ s (194 + 9 * a + 6) = (if A.1 5 a = 3 then nI (A.1 8 a) else -5) ∧ s (194 + 9 * a + 7) = (if A.1 5 a = 2 then nI (A.1 9 a) else -5) ∧ (A.1 5 a = 1 → s (194 + 9 * a + 8) = nI (A.1 7 a))) ∧
  (∀ k, k < A.2 1 → s (2003 + k) = nI (A.1 10 k)) ∧
  (∀ z, z < 8 → ∀ q, q < 16 → (∃ a, a < A.2 0 ∧ A.1 5 a = 2 ∧ A.1 3 a = z ∧ A.1 9 a = A.1 17 z ∧ A.1 6 a = q ∧ s (10 + 22 * z + (6 + q)) = nI a) ∨ (s (10 + 22 * z + (6 + q)) = -5 ∧ ∀ a, a < A.2 0 → A.1 5 a = 2 → A.1 3 a = z → A.1 9 a = A.1 17 z → A.1 6 a ≠ q))
/-- the same along 0 .. N-1 -/
theorem loop_to {C γ B : Type} (N : Nat) (f : Nat → Int32 → C → Option γ) (k : C → Option γ) (st : Nat → B → B) (R : Nat → B → C → Prop)
    (hend : ∀ m b c, R N b c → f (m + 1) (nI N) c = k c)
    (hstep : ∀ m i b c, i < N → R i b c → ∃ c', R (i + 1) (st i b) c' ∧ f (m + 1) (nI i) c = f m (nI (i + 1)) c') :
    ∀ c b m, R 0 b c → N < m → ∃ c', R N ((List.range N).foldl (fun b a => st a b) b) c' ∧ f m (nI 0) c = k c' := by
  intro c b m hR hm
  have hl : (List.range N).length = N := List.length_range
  have := loop_rel (List.range N) f k st R (by rw [hl]; exact hend) (fun m i b c h hR => by
    have e : (List.range N)[i] = i := List.getElem_range h
    rw [e]
    exact hstep m i b c (by rw [hl] at h; exact h) hR) c b m hR (by rw [hl]; exact hm)
  rw [hl] at this
  exact this
/-- a loop that counts along 0 .. N-1 -/
theorem count_to {γ : Type} (N : Nat) (f : Nat → Int32 → Int32 → Option γ) (k : Int32 → Option γ) (P : Nat → Bool)
    (hend : ∀ m c, f (m + 1) c (nI N) = k c)
    (hstep : ∀ m i c, i < N → f (m + 1) (nI c) (nI i) = f m (nI (c + if P i = true then 1 else 0)) (nI (i + 1))) :
    ∀ m, N < m → f m (nI 0) (nI 0) = k (nI (cnt P N)) := by
  intro m hm
  obtain ⟨c', hc, e⟩ := loop_to (B := Unit) N (fun m i c => f m c i) k (fun _ b => b) (fun i _ c => c = nI (cnt P i)) (fun m b c _ => hend m c)
    (fun m i b c h hR => ⟨nI (cnt P (i + 1)), rfl, by rw [hR]; exact hstep m i _ h⟩) (nI 0) () m rfl hm
  rw [e, hc]
theorem oJ_to {κ α : Type} (j : κ) (k : κ → Option α) : oJ j k = k j := rfl
theorem if_eqN {α : Type} {a b : Nat} {x y : α} (ha : a < 2 ^ 31) (hb : b < 2 ^ 31) : (if nI a = nI b then x else y) = if a = b then x else y := by
  by_cases e : a = b
  · rw [if_pos e, if_pos ((nI_eq ha hb).2 e)]
  · rw [if_neg e, if_neg (fun h => e ((nI_eq ha hb).1 h))]
theorem if_ltN {α : Type} {a b : Nat} {x y : α} (ha : a < 2 ^ 31) (hb : b < 2 ^ 31) : (if nI a < nI b then x else y) = if a < b then x else y := by
  by_cases e : a < b
  · rw [if_pos e, if_pos ((nI_ltI ha hb).2 e)]
  · rw [if_neg e, if_neg (fun h => e ((nI_ltI ha hb).1 h))]
theorem if_leN {α : Type} {a b : Nat} {x y : α} (ha : a < 2 ^ 31) (hb : b < 2 ^ 31) : (if nI a ≤ nI b then x else y) = if a ≤ b then x else y := by
  by_cases e : a ≤ b
  · rw [if_pos e, if_pos ((nI_leI ha hb).2 e)]
  · rw [if_neg e, if_neg (fun h => e ((nI_leI ha hb).1 h))]
/-- a loop of the shape of a count takes one step -/
theorem cnt_step {β : Type} {P : Nat → Bool} {i c : Nat} {k : Int32 → β} {p : Prop} [Decidable p] (h : p ↔ P i = true) : (if p then k (nI (c + 1)) else k (nI c)) = k (nI (c + if P i = true then 1 else 0)) := by
  by_cases e : p
  · rw [if_pos e, if_pos (h.1 e)]
  · rw [if_neg e, if_neg (fun x => e (h.2 x))]; rfl
-- zones that are so
theorem w_inPhase {σ : SS} {A : NS} (h : RC σ A) {q : Nat} (hq : q < 2 ^ 31) (hz : ∀ z, z < 8 → A.1 13 z < 2 ^ 31) : f_X4_inPhase σ (nI q) = some (nI (cnt (fun z => decide (A.1 13 z = q)) 8)) := by
  unfold f_X4_inPhase
  refine count_to 8 (fun m c i => f_X4_inPhase_L4 σ (nI q) (fun w => some w) m c i) (fun w => some w) (fun z => decide (A.1 13 z = q)) (fun m c => ?_) (fun m i c hi => ?_) FU (by decide)
  · show f_X4_inPhase_L4 σ (nI q) (fun w => some w) (m + 1) c (nI 8) = _
    rw [f_X4_inPhase_L4, if_pos (by decide)]
  · have h8 : ¬ (8 : Int32) ≤ nI i := nI_ge hi (by decide)
    show f_X4_inPhase_L4 σ (nI q) (fun w => some w) (m + 1) (nI c) (nI i) = _
    rw [f_X4_inPhase_L4, if_neg h8, oA_at hi (by decide), h.2.2.2.2.2.1 13 (by decide) (by decide) i hi, oJ_to, nI_1, nI_1, if_eqN (hz i hi) hq]
    exact cnt_step (P := fun z => decide (A.1 13 z = q)) (k := fun u => f_X4_inPhase_L4 σ (nI q) (fun w => some w) m u (nI (i + 1))) decide_eq_true_iff.symm
