/-! PURE: an append is added; a State is copied -/
theorem aAdd_2 {A : NS} {w z v k : Nat} : (aAdd A w z v).2 k = if k = 0 then A.2 0 + 1 else A.2 k := by
  unfold aAdd; simp [setA, setN]
theorem aAdd_m {A : NS} {w z v m : Nat} (h2 : m ≠ 2) (h3 : m ≠ 3) (h4 : m ≠ 4) (h5 : m ≠ 5) : (aAdd A w z v).1 m = A.1 m := by
  funext i
  unfold aAdd; simp [setA, setN, h2, h3, h4, h5]
theorem aAdd_old {A : NS} {w z v m a : Nat} (h : a ≠ A.2 0) : (aAdd A w z v).1 m a = A.1 m a := by
  unfold aAdd; simp [setA, setN, h]
theorem aAdd_new {A : NS} {w z v : Nat} : (aAdd A w z v).1 2 (A.2 0) = w ∧ (aAdd A w z v).1 3 (A.2 0) = z ∧ (aAdd A w z v).1 4 (A.2 0) = v ∧ (aAdd A w z v).1 5 (A.2 0) = 0 := by
  unfold aAdd; simp [setA, setN]
theorem Iv_add {A : NS} (I : Iv A) (hn : A.2 0 < 201) {w z v : Nat} (hw : w < 4) (hz : z < 8) (hv : v ≤ 99) : Iv (aAdd A w z v) := by
  obtain ⟨q2, q3, q4, q5⟩ := aAdd_new (A := A) (w := w) (z := z) (v := v)
  have n0 : (aAdd A w z v).2 0 = A.2 0 + 1 := by rw [aAdd_2, if_pos rfl]
  have rn : ∀ k, k ≠ 0 → (aAdd A w z v).2 k = A.2 k := fun k hk => by rw [aAdd_2, if_neg hk]
  have old : ∀ {m a}, a < A.2 0 → (aAdd A w z v).1 m a = A.1 m a := fun ha => aAdd_old (Nat.ne_of_lt ha)
  have r6 := aAdd_m (A := A) (w := w) (z := z) (v := v) (m := 6) (by decide) (by decide) (by decide) (by decide)
  have r9 := aAdd_m (A := A) (w := w) (z := z) (v := v) (m := 9) (by decide) (by decide) (by decide) (by decide)
  have r16 := aAdd_m (A := A) (w := w) (z := z) (v := v) (m := 16) (by decide) (by decide) (by decide) (by decide)
  have r17 := aAdd_m (A := A) (w := w) (z := z) (v := v) (m := 17) (by decide) (by decide) (by decide) (by decide)
  have hd : ∀ a, a < A.2 0 + 1 → ((aAdd A w z v).1 5 a = 1 ∨ (aAdd A w z v).1 5 a = 2) → a < A.2 0 := by
    intro a ha hx
    by_cases e : a = A.2 0
    · subst e; rw [q5] at hx; omega
    · omega
  obtain ⟨g1, g2, g3, g4⟩ := I.h
  have c : ∀ P : Nat → Bool, cnt P (A.2 0 + 1) = cnt P (A.2 0) + (if P (A.2 0) = true then 1 else 0) := fun P => rfl
  refine ⟨⟨by rw [n0]; omega, fun a ha => ?_⟩, ⟨fun a ha hx => ?_, fun a ha hx => ?_, fun a b ha hb hx hy e3 e9 e6 => ?_, fun y hy q hq => ?_⟩, ivZ_congr I.z (rn 3 (by decide)) (fun m h1 h2 => aAdd_m (by omega) (by omega) (by omega) (by omega)), ⟨?_, ?_⟩, ivN_congr I.n (fun k h4 _ _ => rn k (by omega)) (aAdd_m (by decide) (by decide) (by decide) (by decide)), ⟨?_, fun u => ?_, fun a ha => ?_⟩, ?_⟩
  · rw [n0] at ha
    by_cases e : a = A.2 0
    · subst e; rw [q2, q3, q4, q5]; omega
    · have ha' : a < A.2 0 := by omega
      rw [old ha', old ha', old ha', old ha']; exact I.a.2 a ha'
  · rw [n0] at ha
    have ha' := hd a ha hx
    rw [old ha'] at hx
    rw [r9, r17, old ha', r16, r6]
    exact g1 a ha' hx
  · rw [n0] at ha
    have ha' := hd a ha (Or.inl hx)
    rw [old ha'] at hx
    rw [r9, r17, old ha']
    exact g2 a ha' hx
  · rw [n0] at ha hb
    have ha' := hd a ha hx
    have hb' := hd b hb hy
    rw [old ha'] at hx
    rw [old hb'] at hy
    rw [old ha', old hb'] at e3
    rw [r9] at e9
    rw [r6] at e6
    exact g3 a b ha' hb' hx hy e3 e9 e6
  · rw [r16] at hq
    obtain ⟨a, ha, hx, x3, x9, x6⟩ := g4 y hy q hq
    exact ⟨a, by rw [n0]; omega, by rw [old ha]; exact hx, by rw [old ha]; exact x3, by rw [r9, r17]; exact x9, by rw [r6]; exact x6⟩
  · rw [rn 3 (by decide), n0, c, q5]
    have : cnt (fun a => decide ((aAdd A w z v).1 5 a = 0)) (A.2 0) = cnt (fun a => decide (A.1 5 a = 0)) (A.2 0) := cnt_congr fun a ha => by rw [old ha]
    rw [this]
    have := I.e.1
    simp
    omega
  · rw [rn 7 (by decide), rn 3 (by decide)]; exact I.e.2
  · rw [rn 1 (by decide), n0, c, q5]
    have : cnt (fun a => decide ((aAdd A w z v).1 5 a = 2)) (A.2 0) = cnt (fun a => decide (A.1 5 a = 2)) (A.2 0) := cnt_congr fun a ha => by rw [old ha]
    rw [this]
    simp
    exact I.t.1
  · rw [rn 1 (by decide), aAdd_m (by decide) (by decide) (by decide) (by decide)]; exact I.t.2.1 u
  · rw [n0] at ha
    by_cases e : a = A.2 0
    · subst e; rw [q2]; exact hw
    · rw [old (by omega)]; exact I.t.2.2 a (by omega)
  · have b := Bd_setA (Bd_setA (Bd_setA (Bd_setA I.b (m := 2) (a := A.2 0) (v := w) (by omega)) (m := 3) (a := A.2 0) (v := z) (by omega)) (m := 4) (a := A.2 0) (v := v) (by omega)) (m := 5) (a := A.2 0) (v := 0) (by decide)
    refine ⟨by rw [n0]; omega, b.2.1, fun k => ?_⟩
    rw [aAdd_2]
    split
    · omega
    · exact I.b.2.2 k
theorem live_split {A : NS} {w : Nat} : ∀ n, cnt (fun a => decide (A.1 2 a = w) && liveP A a) n = cnt (fun a => decide (A.1 5 a = 0 ∧ A.1 2 a = w)) n + cnt (fun a => decide (A.1 5 a = 1 ∧ A.1 2 a = w)) n
  | 0 => rfl
  | n + 1 => by
    have ih := live_split (A := A) (w := w) n
    simp only [cnt]
    rw [ih]
    unfold liveP
    by_cases e : A.1 2 n = w
    · by_cases e0 : A.1 5 n = 0
      · simp [e, e0]; omega
      · by_cases e1 : A.1 5 n = 1
        · simp [e, e1]; omega
        · simp [e, e0, e1]
    · simp [e]
theorem Rest_add {A : NS} (h : Rest A) {w z v : Nat} (hw : w < 4) (hz : z < 8) (hv : v ≤ 99) (hf : ¬ Full A w) : Rest (aAdd A w z v) := by
  have n0 : (aAdd A w z v).2 0 = A.2 0 + 1 := by rw [aAdd_2, if_pos rfl]
  have h19 := h.1.n.2.2.2.2.2 w hw
  obtain ⟨q2, q3, q4, q5⟩ := aAdd_new (A := A) (w := w) (z := z) (v := v)
  unfold Full at hf
  rw [← live_split] at hf
  refine ⟨Iv_add h.1 (by omega) hw hz hv, by rw [n0]; omega, fun u hu => ?_, by rw [aAdd_2, if_neg (by decide)]; exact h.2.2.2⟩
  have e : cnt (fun a => decide ((aAdd A w z v).1 2 a = u) && liveP (aAdd A w z v) a) (A.2 0) = cnt (fun a => decide (A.1 2 a = u) && liveP A a) (A.2 0) := cnt_congr fun a ha => by
    unfold liveP
    rw [aAdd_old (Nat.ne_of_lt ha), aAdd_old (Nat.ne_of_lt ha)]
  rw [n0]
  show cnt _ (A.2 0) + (if (decide ((aAdd A w z v).1 2 (A.2 0) = u) && liveP (aAdd A w z v) (A.2 0)) = true then 1 else 0) ≤ 8
  rw [e, q2]
  have := h.2.2.1 u hu
  by_cases eu : w = u
  · subst eu
    split <;> omega
  · rw [if_neg (by simp [eu])]
    omega
/-- what is copied so far -/
def clen (n t l m : Nat) : Nat := if m < 10 then n else if m = 10 then t else if m = 11 then l else if m < 19 then 8 else 4
def Cp (n t l : Nat) (τ s : SS) (D E : Nat → Bool) : Prop := (∀ k, E k = true → s.2 k = τ.2 k) ∧ ∀ m, D m = true → ∀ a, a < clen n t l m → s.1 m a = τ.1 m a
theorem cpN {n t l : Nat} {τ s : SS} {D E : Nat → Bool} (h : Cp n t l τ s D E) (k : Nat) : Cp n t l τ (sN s k (τ.2 k)) D (fun j => decide (j = k) || E j) := by
  refine ⟨fun j hj => ?_, h.2⟩
  by_cases e : j = k
  · subst e; rw [sN_eq]
  · rw [sN_ne e]
    exact h.1 j (by simpa [e] using hj)
theorem cpA {n t l : Nat} {τ s : SS} {D E : Nat → Bool} (h : Cp n t l τ s D E) (m N : Nat) (x : Int32) (hx : x = nI (clen n t l m)) (hN : clen n t l m ≤ N) (hN2 : N < 2 ^ 31) : Cp n t l τ (sA s m (cpy N N x (τ.1 m) (s.1 m))) (fun j => decide (j = m) || D j) E := by
  refine ⟨h.1, fun j hj a ha => ?_⟩
  by_cases e : j = m
  · subst e
    have h1 : ¬ Int32.ofNat N < nI (clen n t l j) := nI_nlt (a := N) hN hN2
    rw [sA_eq]
    unfold cpy
    rw [hx, if_neg (nI_pos (by omega)), if_neg h1, if_neg h1, nI_clamp (by omega), pk_cpy_in (Nat.zero_le _) (by omega)]
    simp
  · rw [sA_ne e]
    exact h.2 j (by simpa [e] using hj) a ha
set_option maxRecDepth 10000 in
theorem w_cpX0 {σ τ : SS} {n t l : Nat} (h0 : τ.2 0 = nI n) (h1 : τ.2 1 = nI t) (h2 : τ.2 2 = nI l) (hn : n ≤ 201) (ht : t ≤ 201) (hl : l ≤ 33) : ∃ ρ, f_X0_copyFrom σ τ = some ρ ∧ Cp n t l τ ρ (fun m => decide (2 ≤ m ∧ m < 12)) (fun k => decide (k < 3)) := by
  have c0 : Cp n t l τ σ (fun _ => false) (fun _ => false) := ⟨fun _ h => absurd (show false = true from h) (by decide), fun _ h => absurd (show false = true from h) (by decide)⟩
  unfold f_X0_copyFrom
  rw [oN_to]
  have c1 := cpN c0 0
  generalize sN σ 0 (τ.2 0) = s1 at c1 ⊢
  rw [oN_to]
  have c2 := cpN c1 1
  generalize sN s1 1 (τ.2 1) = s2 at c2 ⊢
  rw [oN_to]
  have c3 := cpN c2 2
  generalize sN s2 2 (τ.2 2) = s3 at c3 ⊢
  rw [oV_some]
  have c4 := cpA c3 2 201 (s3.2 0) ((c3.1 0 (by decide)).trans h0) hn (by decide)
  generalize sA s3 2 (cpy 201 201 (s3.2 0) (τ.1 2) (s3.1 2)) = s4 at c4 ⊢
  rw [oV_some]
  have c5 := cpA c4 3 201 (s4.2 0) ((c4.1 0 (by decide)).trans h0) hn (by decide)
  generalize sA s4 3 (cpy 201 201 (s4.2 0) (τ.1 3) (s4.1 3)) = s5 at c5 ⊢
  rw [oV_some]
  have c6 := cpA c5 4 201 (s5.2 0) ((c5.1 0 (by decide)).trans h0) hn (by decide)
  generalize sA s5 4 (cpy 201 201 (s5.2 0) (τ.1 4) (s5.1 4)) = s6 at c6 ⊢
  rw [oV_some]
  have c7 := cpA c6 5 201 (s6.2 0) ((c6.1 0 (by decide)).trans h0) hn (by decide)
  generalize sA s6 5 (cpy 201 201 (s6.2 0) (τ.1 5) (s6.1 5)) = s7 at c7 ⊢
  rw [oV_some]
  have c8 := cpA c7 6 201 (s7.2 0) ((c7.1 0 (by decide)).trans h0) hn (by decide)
  generalize sA s7 6 (cpy 201 201 (s7.2 0) (τ.1 6) (s7.1 6)) = s8 at c8 ⊢
  rw [oV_some]
  have c9 := cpA c8 7 201 (s8.2 0) ((c8.1 0 (by decide)).trans h0) hn (by decide)
  generalize sA s8 7 (cpy 201 201 (s8.2 0) (τ.1 7) (s8.1 7)) = s9 at c9 ⊢
  rw [oV_some]
  have c10 := cpA c9 8 201 (s9.2 0) ((c9.1 0 (by decide)).trans h0) hn (by decide)
  generalize sA s9 8 (cpy 201 201 (s9.2 0) (τ.1 8) (s9.1 8)) = s10 at c10 ⊢
  rw [oV_some]
  have c11 := cpA c10 9 201 (s10.2 0) ((c10.1 0 (by decide)).trans h0) hn (by decide)
  generalize sA s10 9 (cpy 201 201 (s10.2 0) (τ.1 9) (s10.1 9)) = s11 at c11 ⊢
  rw [oV_some]
  have c12 := cpA c11 10 201 (s11.2 1) ((c11.1 1 (by decide)).trans h1) ht (by decide)
  generalize sA s11 10 (cpy 201 201 (s11.2 1) (τ.1 10) (s11.1 10)) = s12 at c12 ⊢
  rw [oV_some]
  have c13 := cpA c12 11 33 (s12.2 2) ((c12.1 2 (by decide)).trans h2) hl (by decide)
  generalize sA s12 11 (cpy 33 33 (s12.2 2) (τ.1 11) (s12.1 11)) = s13 at c13 ⊢
  refine ⟨s13, rfl, fun k hk => c13.1 k ?_, fun m hm a ha => c13.2 m ?_ a ha⟩
  · have hk := of_decide_eq_true hk
    rcases (by omega : k = 0 ∨ k = 1 ∨ k = 2) with e | e | e <;> subst e <;> rfl
  · have hm := of_decide_eq_true hm
    rcases (by omega : m = 2 ∨ m = 3 ∨ m = 4 ∨ m = 5 ∨ m = 6 ∨ m = 7 ∨ m = 8 ∨ m = 9 ∨ m = 10 ∨ m = 11) with e | e | e | e | e | e | e | e | e | e <;> subst e <;> rfl
set_option maxRecDepth 10000 in
theorem w_cpX4 {s τ : SS} {n t l : Nat} (c0 : Cp n t l τ s (fun m => decide (2 ≤ m ∧ m < 12)) (fun k => decide (k < 3))) : ∃ ρ, f_X4_copyFrom s τ = some ρ ∧ Cp n t l τ ρ (fun m => decide (2 ≤ m ∧ m < 19 ∧ m ≠ 12)) (fun k => decide (k < 8)) := by
  unfold f_X4_copyFrom
  rw [oV_some]
  have c1 := cpA c0 13 8 (8) (rfl) (Nat.le_refl 8) (by decide)
  generalize sA s 13 (cpy 8 8 (8) (τ.1 13) (s.1 13)) = s1 at c1 ⊢
  rw [oV_some]
  have c2 := cpA c1 14 8 (8) (rfl) (Nat.le_refl 8) (by decide)
  generalize sA s1 14 (cpy 8 8 (8) (τ.1 14) (s1.1 14)) = s2 at c2 ⊢
  rw [oV_some]
  have c3 := cpA c2 15 8 (8) (rfl) (Nat.le_refl 8) (by decide)
  generalize sA s2 15 (cpy 8 8 (8) (τ.1 15) (s2.1 15)) = s3 at c3 ⊢
  rw [oV_some]
  have c4 := cpA c3 16 8 (8) (rfl) (Nat.le_refl 8) (by decide)
  generalize sA s3 16 (cpy 8 8 (8) (τ.1 16) (s3.1 16)) = s4 at c4 ⊢
  rw [oV_some]
  have c5 := cpA c4 17 8 (8) (rfl) (Nat.le_refl 8) (by decide)
  generalize sA s4 17 (cpy 8 8 (8) (τ.1 17) (s4.1 17)) = s5 at c5 ⊢
  rw [oV_some]
  have c6 := cpA c5 18 8 (8) (rfl) (Nat.le_refl 8) (by decide)
  generalize sA s5 18 (cpy 8 8 (8) (τ.1 18) (s5.1 18)) = s6 at c6 ⊢
  rw [oN_to]
  have c7 := cpN c6 3
  generalize sN s6 3 (τ.2 3) = s7 at c7 ⊢
  rw [oN_to]
  have c8 := cpN c7 4
  generalize sN s7 4 (τ.2 4) = s8 at c8 ⊢
  rw [oN_to]
  have c9 := cpN c8 5
  generalize sN s8 5 (τ.2 5) = s9 at c9 ⊢
  rw [oN_to]
  have c10 := cpN c9 6
  generalize sN s9 6 (τ.2 6) = s10 at c10 ⊢
  rw [oN_to]
  have c11 := cpN c10 7
  generalize sN s10 7 (τ.2 7) = s11 at c11 ⊢
  refine ⟨s11, rfl, fun k hk => c11.1 k ?_, fun m hm a ha => c11.2 m ?_ a ha⟩
  · have hk := of_decide_eq_true hk
    simp only [Bool.or_eq_true, decide_eq_true_eq]
    omega
  · have hm := of_decide_eq_true hm
    simp only [Bool.or_eq_true, decide_eq_true_eq]
    omega
set_option maxRecDepth 10000 in
theorem w_cpX3 {σ τ : SS} {n t l : Nat} (h0 : τ.2 0 = nI n) (h1 : τ.2 1 = nI t) (h2 : τ.2 2 = nI l) (hn : n ≤ 201) (ht : t ≤ 201) (hl : l ≤ 33) : ∃ ρ, f_X3_copyFrom σ τ = some ρ ∧ Cp n t l τ ρ (fun m => decide (2 ≤ m ∧ m < 21 ∧ m ≠ 12)) (fun k => decide (k < 11)) := by
  obtain ⟨p, e1, d1⟩ := w_cpX0 (σ := σ) h0 h1 h2 hn ht hl
  obtain ⟨q, e2, c0⟩ := w_cpX4 d1
  unfold f_X3_copyFrom
  rw [e1, oV_some, e2, oV_some]
  rw [oV_some]
  have c1 := cpA c0 19 4 (4) (rfl) (Nat.le_refl 4) (by decide)
  generalize sA q 19 (cpy 4 4 (4) (τ.1 19) (q.1 19)) = s1 at c1 ⊢
  rw [oV_some]
  have c2 := cpA c1 20 4 (4) (rfl) (Nat.le_refl 4) (by decide)
  generalize sA s1 20 (cpy 4 4 (4) (τ.1 20) (s1.1 20)) = s2 at c2 ⊢
  rw [oN_to]
  have c3 := cpN c2 8
  generalize sN s2 8 (τ.2 8) = s3 at c3 ⊢
  rw [oN_to]
  have c4 := cpN c3 9
  generalize sN s3 9 (τ.2 9) = s4 at c4 ⊢
  rw [oN_to]
  have c5 := cpN c4 10
  generalize sN s4 10 (τ.2 10) = s5 at c5 ⊢
  refine ⟨s5, rfl, fun k hk => c5.1 k ?_, fun m hm a ha => c5.2 m ?_ a ha⟩
  · have hk := of_decide_eq_true hk
    simp only [Bool.or_eq_true, decide_eq_true_eq]
    omega
  · have hm := of_decide_eq_true hm
    simp only [Bool.or_eq_true, decide_eq_true_eq]
    omega
theorem w_copy {σ τ : SS} {A : NS} (h : CR τ A) (I : Iv A) : ∃ ρ, f_X3_copyFrom σ τ = some ρ ∧ CR ρ A := by
  obtain ⟨⟨g1, g2, g3, g4, g5, g6, g7⟩, lv⟩ := h
  have hn := I.a.1
  have ht := I.t.1
  have hc := cnt_le (fun a => decide (A.1 5 a = 2)) (A.2 0)
  obtain ⟨ρ, e, c1, c2⟩ := w_cpX3 (σ := σ) (g1 0 (by decide) (by decide)) (g1 1 (by decide) (by decide)) lv.len hn (by omega) lv.2.1
  have cn : ∀ k, k < 11 → ρ.2 k = τ.2 k := fun k hk => c1 k (decide_eq_true hk)
  have cm : ∀ m, 2 ≤ m → m < 21 → m ≠ 12 → ∀ a, a < clen (A.2 0) (A.2 1) ((List.range (A.2 0)).filter (liveP A)).length m → ρ.1 m a = τ.1 m a := fun m h1 h2 h3 => c2 m (decide_eq_true ⟨h1, h2, h3⟩)
  have la : ∀ m, m < 10 → clen (A.2 0) (A.2 1) ((List.range (A.2 0)).filter (liveP A)).length m = A.2 0 := fun m hm => if_pos hm
  refine ⟨ρ, e, ⟨fun k k1 k2 => by rw [cn k k1]; exact g1 k k1 k2, fun m m1 m2 a ha => by rw [cm m m1 (by omega) (by omega) a (by rw [la m (by omega)]; exact ha)]; exact g2 m m1 m2 a ha, fun a ha hp => ?_, fun a ha => ?_, fun k hk => ?_, fun m m1 m2 z hz => ?_, fun m m1 m2 w hw => ?_⟩, ?_, lv.2.1, fun i hi => ?_⟩
  · rw [cm 6 (by decide) (by decide) (by decide) a (by rw [la 6 (by decide)]; exact ha), cm 7 (by decide) (by decide) (by decide) a (by rw [la 7 (by decide)]; exact ha), cm 9 (by decide) (by decide) (by decide) a (by rw [la 9 (by decide)]; exact ha)]
    exact g3 a ha hp
  · rw [cm 8 (by decide) (by decide) (by decide) a (by rw [la 8 (by decide)]; exact ha)]
    exact g4 a ha
  · rw [cm 10 (by decide) (by decide) (by decide) k hk]
    exact g5 k hk
  · rw [cm m (by omega) (by omega) (by omega) z (by unfold clen; rw [if_neg (by omega), if_neg (by omega), if_neg (by omega), if_pos m2]; exact hz)]
    exact g6 m m1 m2 z hz
  · rw [cm m (by omega) (by omega) (by omega) w (by unfold clen; rw [if_neg (by omega), if_neg (by omega), if_neg (by omega), if_neg (by omega)]; exact hw)]
    exact g7 m m1 m2 w hw
  · rw [cn 2 (by decide)]; exact lv.1
  · rw [cm 11 (by decide) (by decide) (by decide) i hi]
    exact lv.2.2 i hi
