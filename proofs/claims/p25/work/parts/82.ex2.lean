/-! PURE (p25): what else holds is kept by the acts -/
theorem exZ_mono {A B : NS} (h : exZ A) (n4 : B.2 4 = A.2 4) (n5 : B.2 5 = A.2 5) (e13 : ∀ y, y < 8 → B.1 13 y = A.1 13 y ∨ B.1 13 y = 0 ∨ B.1 13 y = 3 ∨ (B.1 13 y = 2 ∧ A.1 13 y = 1 ∧ atWZ B y = 0)) (e16 : ∀ y, y < 8 → B.1 13 y ≠ 0 → A.1 13 y ≠ 0 ∧ B.1 16 y = A.1 16 y) (hw : ∀ y, y < 8 → atWZ B y ≤ atWZ A y) : exZ B := by
  obtain ⟨h1, h2, h3⟩ := h
  refine ⟨?_, ?_, fun y hy => ⟨fun x => ?_, fun x => ?_⟩⟩
  · rw [n4]
    refine Nat.le_trans (cnt_mono fun y hy e => ?_) h1
    have e := of_decide_eq_true e
    have := e13 y hy
    exact decide_eq_true (by omega)
  · rw [n5]
    refine Nat.le_trans (cnt_mono fun y hy e => ?_) h2
    have e := of_decide_eq_true e
    have := e13 y hy
    exact decide_eq_true (by omega)
  · have e := e13 y hy
    have w := hw y hy
    have z := (h3 y hy).1
    by_cases c : A.1 13 y = 2
    · have := z c; omega
    · omega
  · obtain ⟨q1, q2⟩ := e16 y hy x
    rw [q2]
    exact (h3 y hy).2 q1
theorem Ex_add {A : NS} (h : Ex A) {w z v : Nat} : Ex (aAdd A w z v) ∧ atW (aAdd A w z v) ≤ atW A := by
  obtain ⟨q2, q3, q4, q5⟩ := aAdd_new (A := A) (w := w) (z := z) (v := v)
  have n0 : (aAdd A w z v).2 0 = A.2 0 + 1 := by rw [aAdd_2, if_pos rfl]
  have rn : ∀ k, k ≠ 0 → (aAdd A w z v).2 k = A.2 k := fun k hk => by rw [aAdd_2, if_neg hk]
  have old : ∀ m i, i < A.2 0 → (aAdd A w z v).1 m i = A.1 m i := fun m i hi => aAdd_old (Nat.ne_of_lt hi)
  have rm : ∀ m, m ≠ 2 → m ≠ 3 → m ≠ 4 → m ≠ 5 → (aAdd A w z v).1 m = A.1 m := fun m h2 h3 h4 h5 => aAdd_m h2 h3 h4 h5
  refine ⟨⟨exZ_same h.1 (rm 13 (by decide) (by decide) (by decide) (by decide)) (rm 16 (by decide) (by decide) (by decide) (by decide)) (rn 4 (by decide)) (rn 5 (by decide)) fun y _ => ?_, exL_same h.2 (rn 1 (by decide)) (by omega) (Nat.le_of_eq (rn 10 (by decide)).symm) (rm 10 (by decide) (by decide) (by decide) (by decide)) fun i hi x => ⟨(old 5 i hi).trans x, old 7 i hi⟩⟩, ?_⟩
  · unfold atWZ
    rw [n0]
    show cnt _ (A.2 0) + (if decide ((aAdd A w z v).1 3 (A.2 0) = y ∧ (aAdd A w z v).1 5 (A.2 0) = 1) = true then 1 else 0) ≤ _
    rw [if_neg (fun x => by have := (of_decide_eq_true x).2; omega)]
    exact cnt_mono fun i hi e => by rw [old 3 i hi, old 5 i hi] at e; exact e
  · unfold atW
    rw [n0]
    show cnt _ (A.2 0) + (if decide ((aAdd A w z v).1 5 (A.2 0) = 1) = true then 1 else 0) ≤ _
    rw [if_neg (fun x => by have := of_decide_eq_true x; omega)]
    exact cnt_mono fun i hi e => by rw [old 5 i hi] at e; exact e
theorem Ex_reset {A : NS} (h : Ex A) {z : Nat} : Ex (aReset A z) ∧ atW (aReset A z) ≤ atW A := by
  have n : (aReset A z).2 = A.2 := aReset_2
  have d5 : ∀ i, i < A.2 0 → (aReset A z).1 5 i = 1 → A.1 5 i = 1 := fun i hi x => by
    rw [aReset_5 hi] at x
    split at x <;> omega
  have r : ∀ m, m ≠ 5 → m ≠ 8 → m ≠ 13 → m ≠ 16 → m ≠ 17 → (aReset A z).1 m = A.1 m := fun m h5 h8 h13 h16 h17 => aReset_m h5 h8 h13 h16 h17
  refine ⟨⟨exZ_mono h.1 (by rw [n]) (by rw [n]) (fun y hy => ?_) (fun y hy x => ?_) fun y hy => atWZ_le (by rw [n]) fun i hi x3 x5 => ⟨by rw [r 3 (by decide) (by decide) (by decide) (by decide) (by decide)] at x3; exact x3, d5 i hi x5⟩, exL_same h.2 (by rw [n]) (by rw [n]; exact Nat.le_refl _) (by rw [n]; exact Nat.le_refl _) (r 10 (by decide) (by decide) (by decide) (by decide) (by decide)) fun i hi x => ⟨?_, congrFun (r 7 (by decide) (by decide) (by decide) (by decide) (by decide)) i⟩⟩, atW_le (by rw [n]) d5⟩
  · rw [aReset_13]
    split
    · exact Or.inr (Or.inl rfl)
    · exact Or.inl rfl
  · rw [aReset_13] at x
    by_cases e : y = z
    · rw [if_pos e] at x; exact absurd rfl x
    · rw [if_neg e] at x
      exact ⟨x, by rw [aReset_16, if_neg e]⟩
  · rw [aReset_5 hi, if_neg (by omega)]
    exact x
theorem Ex_finish {A : NS} (h : Ex A) {z : Nat} (h0 : A.1 13 z ≠ 0) : Ex (aFinish A z) ∧ atW (aFinish A z) ≤ atW A := by
  have n : (aFinish A z).2 = A.2 := by unfold aFinish; rw [aFailAll_2]; rfl
  have r : ∀ m, m ≠ 5 → m ≠ 8 → (aFinish A z).1 m = (setA A 13 z 3).1 m := fun m h5 h8 => by unfold aFinish; exact aFailAll_m (by decide) h5 h8
  have r' : ∀ m, m ≠ 5 → m ≠ 8 → m ≠ 13 → (aFinish A z).1 m = A.1 m := fun m h5 h8 h13 => by rw [r m h5 h8]; exact funext fun i => setA_nm h13
  have e5 : ∀ i, i < A.2 0 → (aFinish A z).1 5 i = if A.1 3 i = z ∧ A.1 5 i = 0 then 3 else A.1 5 i := fun i hi => by
    unfold aFinish
    rw [aFailAll_5 (A := setA A 13 z 3) (by decide) hi, setA_nm (by decide), setA_nm (by decide)]
  have e13 : ∀ y, (aFinish A z).1 13 y = if y = z then 3 else A.1 13 y := fun y => by
    rw [r 13 (by decide) (by decide)]
    by_cases e : y = z
    · rw [if_pos e, e, setA_eq]
    · rw [if_neg e, setA_na e]
  have d5 : ∀ i, i < A.2 0 → (aFinish A z).1 5 i = 1 → A.1 5 i = 1 := fun i hi x => by
    rw [e5 i hi] at x
    split at x <;> omega
  refine ⟨⟨exZ_mono h.1 (by rw [n]) (by rw [n]) (fun y hy => ?_) (fun y hy x => ⟨fun c => ?_, congrFun (r' 16 (by decide) (by decide) (by decide)) y⟩) fun y hy => atWZ_le (by rw [n]) fun i hi x3 x5 => ⟨by rw [r' 3 (by decide) (by decide) (by decide)] at x3; exact x3, d5 i hi x5⟩, exL_same h.2 (by rw [n]) (by rw [n]; exact Nat.le_refl _) (by rw [n]; exact Nat.le_refl _) (r' 10 (by decide) (by decide) (by decide)) fun i hi x => ⟨?_, congrFun (r' 7 (by decide) (by decide) (by decide)) i⟩⟩, atW_le (by rw [n]) d5⟩
  · rw [e13]
    split
    · exact Or.inr (Or.inr (Or.inl rfl))
    · exact Or.inl rfl
  · rw [e13] at x
    by_cases e : y = z
    · rw [e] at c; exact h0 c
    · rw [if_neg e] at x; exact x c
  · rw [e5 i hi, if_neg (by omega)]
    exact x
theorem Ex_close {A : NS} (h : Ex A) {z : Nat} (h1 : A.1 13 z = 1) (h0 : atWZ A z = 0) : Ex (aClose A z) ∧ atW (aClose A z) ≤ atW A := by
  have r : ∀ m, m ≠ 13 → (aClose A z).1 m = A.1 m := fun m h13 => funext fun i => by unfold aClose; exact setA_nm h13
  have w : ∀ y, atWZ (aClose A z) y = atWZ A y := fun y => by
    unfold atWZ
    rw [r 3 (by decide), r 5 (by decide)]
    rfl
  refine ⟨⟨exZ_mono h.1 rfl rfl (fun y hy => ?_) (fun y hy x => ⟨fun c => ?_, congrFun (r 16 (by decide)) y⟩) fun y _ => Nat.le_of_eq (w y), exL_same h.2 rfl (Nat.le_refl _) (Nat.le_refl _) (r 10 (by decide)) fun i _ x => ⟨by rw [r 5 (by decide)]; exact x, by rw [r 7 (by decide)]⟩⟩, Nat.le_of_eq ?_⟩
  · by_cases e : y = z
    · subst e
      refine Or.inr (Or.inr (Or.inr ⟨?_, h1, by rw [w]; exact h0⟩))
      unfold aClose; exact setA_eq
    · refine Or.inl ?_
      unfold aClose; exact setA_na e
  · by_cases e : y = z
    · subst e; omega
    · unfold aClose at x; rw [setA_na e] at x; exact x c
  · unfold atW; rw [r 5 (by decide)]; rfl
theorem Ex_num {A : NS} (h : Ex A) {k v : Nat} (hk : k = 4 ∧ nOpen A ≤ v ∨ k = 5 ∧ nUse A ≤ v ∨ k = 8 ∨ k = 9) : Ex (setN A k v) ∧ atW (setN A k v) ≤ atW A := by
  have n0 : (setN A k v).2 0 = A.2 0 := setN_ne (by omega)
  have w : ∀ y, atWZ (setN A k v) y = atWZ A y := fun y => by unfold atWZ; rw [n0]; rfl
  refine ⟨⟨⟨?_, ?_, fun y hy => ?_⟩, exL_same h.2 (setN_ne (by omega)) (Nat.le_of_eq n0.symm) (Nat.le_of_eq (setN_ne (by omega)).symm) rfl fun _ _ x => ⟨x, rfl⟩⟩, Nat.le_of_eq ?_⟩
  · show nOpen A ≤ (setN A k v).2 4
    by_cases e : k = 4
    · subst e; rw [setN_eq]; omega
    · rw [setN_ne (Ne.symm e)]; exact h.1.1
  · show nUse A ≤ (setN A k v).2 5
    by_cases e : k = 5
    · subst e; rw [setN_eq]; omega
    · rw [setN_ne (Ne.symm e)]; exact h.1.2.1
  · rw [w]; exact h.1.2.2 y hy
  · unfold atW; rw [n0]; rfl
theorem Ex_zset {A : NS} (h : Ex A) {m z v : Nat} (hm : m = 14 ∨ m = 15 ∨ m = 19) : Ex (setA A m z v) ∧ atW (setA A m z v) ≤ atW A := by
  have r : ∀ j, j ≠ m → (setA A m z v).1 j = A.1 j := fun j hj => funext fun i => setA_nm hj
  refine ⟨⟨exZ_same h.1 (r 13 (by omega)) (r 16 (by omega)) rfl rfl fun y _ => Nat.le_of_eq (by unfold atWZ; rw [r 3 (by omega), r 5 (by omega)]; rfl), exL_same h.2 rfl (Nat.le_refl _) (Nat.le_refl _) (r 10 (by omega)) fun i _ x => ⟨by rw [r 5 (by omega)]; exact x, by rw [r 7 (by omega)]⟩⟩, Nat.le_of_eq (by unfold atW; rw [r 5 (by omega)]; rfl)⟩
/-! the class alone, with its history -/
def Tq (c : CS) (A : NS) (o k : Nat) (H : Nat → NS) : Prop := CR (c.1 0) A ∧ Rest A ∧ Ex A ∧ HC c o k H ∧ ∀ i, i < k → Rest (H i) ∧ Ex (H i)
theorem Tq_free {c c' : CS} {A : NS} {o k : Nat} {H : Nat → NS} (h : Tq c A o k H) (hc : ∀ j, j ≠ 3 + (o + k) % 5 → c'.1 j = c.1 j) (hc2 : c'.2 = c.2) : Tq c' A o k H := by
  obtain ⟨h1, h2, h3, ⟨q1, q2, q3, q4, q5⟩, h5⟩ := h
  exact ⟨by rw [hc 0 (by omega)]; exact h1, h2, h3, ⟨by rw [hc2]; exact q1, by rw [hc2]; exact q2, q3, q4, fun i hi => by rw [hc _ (by omega)]; exact q5 i hi⟩, h5⟩
theorem push_all {k : Nat} {H : Nat → NS} {A : NS} {P : NS → Prop} (h4 : k ≤ 4) (h : ∀ i, i < k → P (H i)) (hA : P A) : ∀ i, i < pushK k → P (pushH k H A i) := by
  intro i hi
  unfold pushK at hi
  unfold pushH
  by_cases e : k < 4
  · rw [if_pos e] at hi
    rw [if_pos e]
    by_cases ei : i = k
    · rw [if_pos ei]; exact hA
    · rw [if_neg ei]; exact h i (by omega)
  · rw [if_neg e] at hi
    rw [if_neg e]
    by_cases ei : i = 3
    · rw [if_pos ei]; exact hA
    · rw [if_neg ei]; exact h (i + 1) (by omega)
theorem push_last {k : Nat} {H : Nat → NS} {A : NS} (h4 : k ≤ 4) : pushK k ≠ 0 ∧ pushH k H A (pushK k - 1) = A := by
  rcases (by omega : k = 0 ∨ k = 1 ∨ k = 2 ∨ k = 3 ∨ k = 4) with rfl | rfl | rfl | rfl | rfl <;> exact ⟨by decide, rfl⟩
theorem push_two {k : Nat} {H : Nat → NS} {A B : NS} (h4 : k ≤ 4) : pushK (pushK k) - 1 ≠ 0 ∧ pushH (pushK k) (pushH k H A) B (pushK (pushK k) - 1 - 1) = A := by
  rcases (by omega : k = 0 ∨ k = 1 ∨ k = 2 ∨ k = 3 ∨ k = 4) with rfl | rfl | rfl | rfl | rfl <;> exact ⟨by decide, rfl⟩
theorem Tq_no {c : CS} {A : NS} {o k : Nat} {H : Nat → NS} (h : Tq c A o k H) {act : SS → Option (Int32 × SS)} {r : Int32} {τ : SS} (e : act (c.1 0) = some (r, τ)) (hr : r < 0) (hτ : CR τ A) :
    ∃ c', oV (f_X1_draft c) (fun t => t) (fun s8 => oW (act (s8.1 0)) (cS s8 0) (fun r21 s21 => oW (f_X1_settle s21 r21) (fun t => t) (fun r24 s24 => some (r24, s24)))) = some (r, c') ∧ Tq c' A o k H := by
  obtain ⟨c', g1, g2, g3, g4⟩ := act_no h.2.2.2.1 h.1 h.2.1.1 e hr hτ
  exact ⟨c', g1, g2, h.2.1, h.2.2.1, g3, h.2.2.2.2⟩
theorem Tq_yes {c : CS} {A B : NS} {o k : Nat} {H : Nat → NS} (h : Tq c A o k H) {act : SS → Option (Int32 × SS)} {v : Nat} {τ : SS} (e : act (c.1 0) = some (nI v, τ)) (hv : v < 2 ^ 31) (hτ : CR τ B) (hB : Rest B) (hE : Ex B) :
    ∃ c' o', oV (f_X1_draft c) (fun t => t) (fun s8 => oW (act (s8.1 0)) (cS s8 0) (fun r21 s21 => oW (f_X1_settle s21 r21) (fun t => t) (fun r24 s24 => some (r24, s24)))) = some (nI v, c') ∧ Tq c' B o' (pushK k) (pushH k H A) := by
  obtain ⟨c', o', g1, g2, g3, g4⟩ := act_yes h.2.2.2.1 h.1 h.2.1.1 e hv hτ
  exact ⟨c', o', g1, g2, hB, hE, g3, push_all (P := fun X => Rest X ∧ Ex X) h.2.2.2.1.2.2.2.1 h.2.2.2.2 ⟨h.2.1, h.2.2.1⟩⟩
theorem Tq_undo {c : CS} {A : NS} {o k : Nat} {H : Nat → NS} (h : Tq c A o k H) (hk : k ≠ 0) : ∃ r c', f_X5_undo c = some (r, c') ∧ Tq c' (H (k - 1)) o (k - 1) H := by
  obtain ⟨h1, h2, h3, ⟨q1, q2, q3, q4, q5⟩, h5⟩ := h
  unfold f_X5_undo f_X1_stepBack
  obtain ⟨k, rfl⟩ : ∃ q, k = q + 1 := ⟨k - 1, by omega⟩
  rw [q2, if_neg (nI_ne0 (by omega) (by omega)), oN_to, nI_pred]
  have HC2 : HC (cN c 2 (nI k)) o k H := ⟨(cN_ne (by decide)).trans q1, cN_eq, q3, by omega, fun i hi => q5 i (by omega)⟩
  obtain ⟨i1, i2⟩ := HC2.idx
  have HK := h5 k (by omega)
  obtain ⟨ρ, f1, f2⟩ := w_copy (σ := c.1 0) (q5 k (by omega)) HK.1.1
  rw [if_pos (by rw [i1]; exact nI_in (by omega) (by decide)), i2, cN_1, f1, oV_some, oW_some, cS_2, cN_eq]
  exact ⟨_, _, rfl, by rw [cS_eq]; exact f2, HK.1, HK.2, ⟨HC2.1, HC2.2.1, HC2.2.2.1, HC2.2.2.2.1, fun i hi => by rw [cS_ne (by omega)]; exact HC2.2.2.2.2 i hi⟩, fun i hi => h5 i (by omega)⟩
theorem Tq_pass {c : CS} {A : NS} {o k : Nat} {H : Nat → NS} (h : Tq c A o k H) {n : Nat} (h1 : 1 ≤ n) (h99 : n ≤ 99) (ht : A.2 10 + n ≤ 9999) : ∃ v c' o', v < 2 ^ 31 ∧ f_X5_pass c (nI n) = some (nI v, c') ∧ Tq c' (aTicks A n) o' (pushK k) (pushH k H A) := by
  obtain ⟨τ, f1, f2⟩ := w_letPass h.1 h.2.1.1 h1 h99 ht
  have RB := h.2.1.ticks ht
  have h201 := RB.1.told
  obtain ⟨c', o', g1, g2⟩ := Tq_yes h (act := fun s => f_X3_letPass s (nI n)) f1 (by omega) f2 RB (ticks_ex h.2.2.1 h.2.1.1 n (by omega)).1
  exact ⟨_, c', o', by omega, g1, g2⟩
/-- what a call of the law may do -/
def Does (A : NS) (x : Option (Int32 × CS)) : Prop := ∃ r c' A' o' k' H', x = some (r, c') ∧ Tq c' A' o' k' H' ∧ A'.2 10 ≤ A.2 10 + 4 ∧ ¬ r < -5 ∧ (atW A' ≤ atW A ∨ atW A' ≤ A'.2 8)
theorem n5 {v : Nat} (h : v < 2 ^ 31) : ¬ nI v < -5 := fun x => by
  rw [Int32.lt_iff_toInt_lt, nI_toInt h] at x
  have : (-5 : Int32).toInt = -5 := by decide
  omega
theorem does_no {c : CS} {A : NS} {o k : Nat} {H : Nat → NS} (h : Tq c A o k H) {act : SS → Option (Int32 × SS)} {r : Int32} (hr : r < 0) (hr5 : ¬ r < -5) (e : act (c.1 0) = some (r, c.1 0)) :
    Does A (oV (f_X1_draft c) (fun t => t) (fun s8 => oW (act (s8.1 0)) (cS s8 0) (fun r21 s21 => oW (f_X1_settle s21 r21) (fun t => t) (fun r24 s24 => some (r24, s24))))) := by
  obtain ⟨c', g1, g2⟩ := Tq_no h e hr h.1
  exact ⟨r, c', A, o, k, H, g1, g2, by omega, hr5, Or.inl (Nat.le_refl _)⟩
theorem does_yes {c : CS} {A B : NS} {o k : Nat} {H : Nat → NS} (h : Tq c A o k H) {act : SS → Option (Int32 × SS)} {v : Nat} {τ : SS} (e : act (c.1 0) = some (nI v, τ)) (hv : v < 2 ^ 31) (hτ : CR τ B) (hB : Rest B) (hE : Ex B) (ht : B.2 10 ≤ A.2 10 + 4) (hw : atW B ≤ atW A ∨ atW B ≤ B.2 8) :
    Does A (oV (f_X1_draft c) (fun t => t) (fun s8 => oW (act (s8.1 0)) (cS s8 0) (fun r21 s21 => oW (f_X1_settle s21 r21) (fun t => t) (fun r24 s24 => some (r24, s24))))) := by
  obtain ⟨c', o', g1, g2⟩ := Tq_yes h e hv hτ hB hE
  exact ⟨_, c', B, o', _, _, g1, g2, ht, n5 hv, hw⟩
theorem does_change {c : CS} {A B : NS} {o k : Nat} {H : Nat → NS} (h : Tq c A o k H) {act : SS → Option (Int32 × SS)} {old v : Nat} {τ : SS} (ho : old < 2 ^ 31) (e : act (c.1 0) = some (if old = v then -5 else nI old, τ)) (h1 : old = v → τ = c.1 0) (hτ : CR τ B) (hB : Rest B) (hE : Ex B ∧ atW B ≤ atW A) (ht : B.2 10 = A.2 10) :
    Does A (oV (f_X1_draft c) (fun t => t) (fun s8 => oW (act (s8.1 0)) (cS s8 0) (fun r21 s21 => oW (f_X1_settle s21 r21) (fun t => t) (fun r24 s24 => some (r24, s24))))) := by
  by_cases c0 : old = v
  · rw [if_pos c0, h1 c0] at e
    exact does_no h (by decide) (by decide) e
  · rw [if_neg c0] at e
    exact does_yes h e ho hτ hB hE.1 (by omega) (Or.inl hE.2)
