/-! PURE: the invariant -/
def ivA (A : NS) : Prop := A.2 0 ≤ 201 ∧ ∀ a, a < A.2 0 → A.1 2 a < 4 ∧ A.1 3 a < 8 ∧ A.1 4 a ≤ 99 ∧ A.1 5 a ≤ 3
def ivH (A : NS) : Prop :=
  (∀ a, a < A.2 0 → A.1 5 a = 1 ∨ A.1 5 a = 2 → A.1 9 a ≤ A.1 17 (A.1 3 a) ∧ (A.1 9 a = A.1 17 (A.1 3 a) → A.1 6 a < A.1 16 (A.1 3 a))) ∧
  (∀ a, a < A.2 0 → A.1 5 a = 1 → A.1 9 a = A.1 17 (A.1 3 a)) ∧
  (∀ a b, a < A.2 0 → b < A.2 0 → A.1 5 a = 1 ∨ A.1 5 a = 2 → A.1 5 b = 1 ∨ A.1 5 b = 2 → A.1 3 a = A.1 3 b → A.1 9 a = A.1 9 b → A.1 6 a = A.1 6 b → a = b) ∧
  (∀ z, z < 8 → ∀ q, q < A.1 16 z → ∃ a, a < A.2 0 ∧ (A.1 5 a = 1 ∨ A.1 5 a = 2) ∧ A.1 3 a = z ∧ A.1 9 a = A.1 17 z ∧ A.1 6 a = q)
def ivZ1 (A : NS) (z : Nat) : Prop := A.1 13 z ≤ 3 ∧ (1 ≤ A.1 14 z ∧ A.1 14 z ≤ 16) ∧ (1 ≤ A.1 15 z ∧ A.1 15 z ≤ 9) ∧ A.1 16 z ≤ A.1 14 z ∧ (A.1 13 z ≠ 3 → A.1 16 z < A.1 14 z) ∧ (A.1 13 z = 0 → A.1 16 z = 0) ∧ A.1 18 z ≤ A.2 3 ∧ (A.1 13 z = 1 → A.1 18 z ≠ 0) ∧ (A.1 13 z ≠ 0 → A.1 17 z + 1 ≤ A.2 3) ∧ A.1 17 z ≤ A.2 3
def ivZ (A : NS) : Prop := ∀ z, z < 8 → ivZ1 A z
def ivE (A : NS) : Prop := A.2 3 + cnt (fun a => decide (A.1 5 a = 0)) (A.2 0) ≤ A.2 0 ∧ A.2 7 ≤ A.2 3
def ivN (A : NS) : Prop := (1 ≤ A.2 8 ∧ A.2 8 ≤ 4) ∧ A.2 9 ≤ 1 ∧ A.2 6 < 8 ∧ A.2 4 ≤ 8 ∧ A.2 5 ≤ 8 ∧ ∀ w, w < 4 → A.1 19 w ≤ 8
def Iv (A : NS) : Prop := ivA A ∧ ivH A ∧ ivZ A ∧ ivE A ∧ ivN A ∧ TI A ∧ Bd A
theorem Iv.a {A : NS} (h : Iv A) : ivA A := h.1
theorem Iv.h {A : NS} (h : Iv A) : ivH A := h.2.1
theorem Iv.z {A : NS} (h : Iv A) : ivZ A := h.2.2.1
theorem Iv.e {A : NS} (h : Iv A) : ivE A := h.2.2.2.1
theorem Iv.n {A : NS} (h : Iv A) : ivN A := h.2.2.2.2.1
theorem Iv.t {A : NS} (h : Iv A) : TI A := h.2.2.2.2.2.1
theorem Iv.b {A : NS} (h : Iv A) : Bd A := h.2.2.2.2.2.2
theorem Bd_setN {A : NS} (b : Bd A) {k v : Nat} (hk : k ≠ 0) (hv : v < 2 ^ 31) : Bd (setN A k v) := by
  refine ⟨?_, b.2.1, fun j => ?_⟩
  · rw [setN_ne (Ne.symm hk)]; exact b.1
  · by_cases e : j = k
    · subst e; rw [setN_eq]; exact hv
    · rw [setN_ne e]; exact b.2.2 j
theorem ivH_congr {A B : NS} (h : ivH A) (n0 : B.2 0 = A.2 0) (hd : ∀ i, i < A.2 0 → ((B.1 5 i = 1 ∨ B.1 5 i = 2) ↔ (A.1 5 i = 1 ∨ A.1 5 i = 2))) (h1 : ∀ i, i < A.2 0 → B.1 5 i = 1 → A.1 5 i = 1)
    (e3 : B.1 3 = A.1 3) (e9 : B.1 9 = A.1 9) (e6 : B.1 6 = A.1 6) (e16 : B.1 16 = A.1 16) (e17 : B.1 17 = A.1 17) : ivH B := by
  obtain ⟨g1, g2, g3, g4⟩ := h
  unfold ivH
  rw [n0, e3, e9, e6, e16, e17]
  refine ⟨fun a ha hp => g1 a ha ((hd a ha).1 hp), fun a ha hp => g2 a ha (h1 a ha hp), fun a b ha hb hp hq => g3 a b ha hb ((hd a ha).1 hp) ((hd b hb).1 hq), fun z hz q hq => ?_⟩
  obtain ⟨a, ha, hp, r⟩ := g4 z hz q hq
  exact ⟨a, ha, (hd a ha).2 hp, r⟩
theorem ivZ_congr {A B : NS} (h : ivZ A) (e3 : B.2 3 = A.2 3) (e : ∀ m, 13 ≤ m → m < 19 → B.1 m = A.1 m) : ivZ B := by
  intro z hz
  have := h z hz
  unfold ivZ1 at this ⊢
  rw [e3, e 13 (by decide) (by decide), e 14 (by decide) (by decide), e 15 (by decide) (by decide), e 16 (by decide) (by decide), e 17 (by decide) (by decide), e 18 (by decide) (by decide)]
  exact this
theorem ivN_congr {A B : NS} (h : ivN A) (e : ∀ k, 4 ≤ k → k < 10 → k ≠ 7 → B.2 k = A.2 k) (e19 : B.1 19 = A.1 19) : ivN B := by
  unfold ivN at h ⊢
  rw [e 8 (by decide) (by decide) (by decide), e 9 (by decide) (by decide) (by decide), e 6 (by decide) (by decide) (by decide), e 4 (by decide) (by decide) (by decide), e 5 (by decide) (by decide) (by decide), e19]
  exact h
/-- one is told -/
theorem Iv_tell {A : NS} {a : Nat} (h : Iv A) (ha : a < A.2 0) (hp : A.1 5 a = 1) : Iv (aTell1 A a) := by
  have hr : ∀ m, m ≠ 5 → m ≠ 10 → m ≠ 20 → (aTell1 A a).1 m = A.1 m := fun m h5 h10 h20 => funext fun i => aTell1_1 h5 h10 h20
  have hn : ∀ k, k ≠ 1 → (aTell1 A a).2 k = A.2 k := fun k hk => aTell1_num hk
  have h5 : ∀ i, (aTell1 A a).1 5 i = if i = a then 2 else A.1 5 i := fun i => aTell1_5
  have ht := h.t.1
  have hc := cnt_le (fun a => decide (A.1 5 a = 2)) (A.2 0)
  have ha1 := h.a.1
  refine ⟨⟨by rw [hn 0 (by decide)]; exact ha1, fun i hi => ?_⟩, ivH_congr h.h (hn 0 (by decide)) (fun i hi => ?_) (fun i hi hx => ?_) (hr 3 (by decide) (by decide) (by decide)) (hr 9 (by decide) (by decide) (by decide)) (hr 6 (by decide) (by decide) (by decide)) (hr 16 (by decide) (by decide) (by decide)) (hr 17 (by decide) (by decide) (by decide)),
    ivZ_congr h.z (hn 3 (by decide)) (fun m h1 h2 => hr m (by omega) (by omega) (by omega)), ⟨?_, ?_⟩, ivN_congr h.n (fun k h4 h10 h7 => hn k (by omega)) (hr 19 (by decide) (by decide) (by decide)), TI_tell h.t ha hp, ?_⟩
  · rw [hn 0 (by decide)] at hi
    have := h.a.2 i hi
    rw [hr 2 (by decide) (by decide) (by decide), hr 3 (by decide) (by decide) (by decide), hr 4 (by decide) (by decide) (by decide), h5]
    split <;> omega
  · rw [h5]
    split
    · rename_i e; subst e; rw [hp]; decide
    · exact Iff.rfl
  · rw [h5] at hx
    split at hx
    · omega
    · exact hx
  · rw [hn 3 (by decide), hn 0 (by decide), cnt_congr (Q := fun a => decide (A.1 5 a = 0)) fun i hi => ?_]
    · exact h.e.1
    · rw [h5]
      by_cases e : i = a
      · subst e; rw [if_pos rfl, hp]; decide
      · rw [if_neg e]
  · rw [hn 7 (by decide), hn 3 (by decide)]; exact h.e.2
  · have h20 := h.t.2.1 (A.1 2 a)
    unfold aTell1 aTold
    refine Bd_setN (Bd_setA (Bd_setA ?_ (by decide)) (by omega)) (by decide) ?_
    · split
      · exact Bd_setA h.b (by omega)
      · exact h.b
    · have : (if aheadB A a = true then setA A 20 (A.1 2 a) (A.1 20 (A.1 2 a) + 1) else A).2 1 = A.2 1 := by split <;> rfl
      rw [this]; omega
/-- one that waits fails -/
theorem aFail_5 {A : NS} {a r i : Nat} : (aFail A a r).1 5 i = if i = a then 3 else A.1 5 i := by
  unfold aFail
  rw [setA_nm (by decide)]
  by_cases e : i = a
  · subst e; rw [setA_eq, if_pos rfl]
  · rw [setA_na e, if_neg e]
theorem aFail_1 {A : NS} {a r m i : Nat} (h5 : m ≠ 5) (h8 : m ≠ 8) : (aFail A a r).1 m i = A.1 m i := by
  unfold aFail
  rw [setA_nm h8, setA_nm h5]
theorem Iv_fail {A : NS} {a r : Nat} (h : Iv A) (ha : a < A.2 0) (hp : A.1 5 a = 0) (hr' : r ≤ 3) : Iv (aFail A a r) := by
  have hr : ∀ m, m ≠ 5 → m ≠ 8 → (aFail A a r).1 m = A.1 m := fun m h5 h8 => funext fun i => aFail_1 h5 h8
  have hn : (aFail A a r).2 = A.2 := aFail_2
  have h5 : ∀ i, (aFail A a r).1 5 i = if i = a then 3 else A.1 5 i := fun i => aFail_5
  have ha1 := h.a.1
  refine ⟨⟨by rw [hn]; exact ha1, fun i hi => ?_⟩, ivH_congr h.h (by rw [hn]) (fun i hi => ?_) (fun i hi hx => ?_) (hr 3 (by decide) (by decide)) (hr 9 (by decide) (by decide)) (hr 6 (by decide) (by decide)) (hr 16 (by decide) (by decide)) (hr 17 (by decide) (by decide)),
    ivZ_congr h.z (by rw [hn]) (fun m h1 h2 => hr m (by omega) (by omega)), ⟨?_, ?_⟩, ivN_congr h.n (fun k h4 h10 h7 => by rw [hn]) (hr 19 (by decide) (by decide)), ⟨?_, fun w => ?_, fun i hi => ?_⟩, ?_⟩
  · rw [hn] at hi
    have := h.a.2 i hi
    rw [hr 2 (by decide) (by decide), hr 3 (by decide) (by decide), hr 4 (by decide) (by decide), h5]
    split <;> omega
  · rw [h5]
    split
    · rename_i e; subst e; rw [hp]; decide
    · exact Iff.rfl
  · rw [h5] at hx
    split at hx
    · omega
    · exact hx
  · have hc := cnt_one (P := fun i => decide ((aFail A a r).1 5 i = 0)) (Q := fun i => decide (A.1 5 i = 0)) (A.2 0) ha (by rw [h5, if_pos rfl]; decide) (by rw [hp]; decide) (fun i hi hne => by rw [h5, if_neg hne])
    rw [hn]
    have := h.e.1
    omega
  · rw [hn]; exact h.e.2
  · rw [hn, h.t.1]
    refine cnt_congr fun i hi => ?_
    rw [h5]
    by_cases e : i = a
    · subst e; rw [if_pos rfl, hp]; decide
    · rw [if_neg e]
  · rw [hn, hr 20 (by decide) (by decide)]; exact h.t.2.1 w
  · rw [hr 2 (by decide) (by decide)]; exact h.t.2.2 i (by rw [hn] at hi; exact hi)
  · exact Bd_setA (Bd_setA h.b (by decide)) (by omega)
