/-! PURE: a zone is opened, an append begins: the abstract steps -/
def canB (A : NS) (z : Nat) : Prop := ¬ (A.1 13 z = 0 ∧ A.2 5 ≤ nUse A) ∧ (nOpen A < A.2 4 ∨ idl A 8 ≠ 8)
def aWay (A : NS) : NS := if nOpen A < A.2 4 then A else setN (setA A 13 (idl A 8) 2) 7 (A.2 7 + 1)
def aOpen (A : NS) (z : Nat) : NS := setA (aWay A) 13 z 1
def aTake (A : NS) (z : Nat) : NS := setA (setN (if A.1 14 z ≤ A.1 16 z + 1 then setA (setA A 16 z (A.1 16 z + 1)) 13 z 3 else setA A 16 z (A.1 16 z + 1)) 3 (A.2 3 + 1)) 18 z (A.2 3 + 1)
def aGo (A : NS) (a z : Nat) : NS := aBegin (aTake A z) a (A.1 16 z) (A.2 10 + A.1 15 z + A.1 16 z % 2) (A.1 17 z)
theorem aGo_5 {A : NS} {a z i : Nat} : (aGo A a z).1 5 i = if i = a then 1 else A.1 5 i := by
  unfold aGo aBegin aTake; split <;> simp [setA, setN]
theorem aGo_6 {A : NS} {a z i : Nat} : (aGo A a z).1 6 i = if i = a then A.1 16 z else A.1 6 i := by
  unfold aGo aBegin aTake; split <;> simp [setA, setN]
theorem aGo_7 {A : NS} {a z i : Nat} : (aGo A a z).1 7 i = if i = a then A.2 10 + A.1 15 z + A.1 16 z % 2 else A.1 7 i := by
  unfold aGo aBegin aTake; split <;> simp [setA, setN]
theorem aGo_9 {A : NS} {a z i : Nat} : (aGo A a z).1 9 i = if i = a then A.1 17 z else A.1 9 i := by
  unfold aGo aBegin aTake; split <;> simp [setA, setN]
theorem aGo_13 {A : NS} {a z i : Nat} : (aGo A a z).1 13 i = if i = z ∧ A.1 14 z ≤ A.1 16 z + 1 then 3 else A.1 13 i := by
  unfold aGo aBegin aTake; split <;> rename_i h <;> simp [setA, setN, h]
theorem aGo_16 {A : NS} {a z i : Nat} : (aGo A a z).1 16 i = if i = z then A.1 16 z + 1 else A.1 16 i := by
  unfold aGo aBegin aTake; split <;> simp [setA, setN]
theorem aGo_18 {A : NS} {a z i : Nat} : (aGo A a z).1 18 i = if i = z then A.2 3 + 1 else A.1 18 i := by
  unfold aGo aBegin aTake; split <;> simp [setA, setN]
theorem aGo_1 {A : NS} {a z m : Nat} (h5 : m ≠ 5) (h6 : m ≠ 6) (h7 : m ≠ 7) (h9 : m ≠ 9) (h13 : m ≠ 13) (h16 : m ≠ 16) (h18 : m ≠ 18) : (aGo A a z).1 m = A.1 m := by
  funext i
  unfold aGo aBegin aTake; split <;> simp [setA, setN, h5, h6, h7, h9, h13, h16, h18]
theorem aGo_2 {A : NS} {a z k : Nat} : (aGo A a z).2 k = if k = 3 then A.2 3 + 1 else A.2 k := by
  unfold aGo aBegin aTake; split <;> simp [setA, setN]
theorem aWay_1 {A : NS} {m : Nat} (h : m ≠ 13) : (aWay A).1 m = A.1 m := by
  funext i
  unfold aWay; split
  · rfl
  · simp [setA, setN, h]
theorem aWay_2 {A : NS} {k : Nat} (h : k ≠ 7) : (aWay A).2 k = A.2 k := by
  unfold aWay; split
  · rfl
  · simp [setA, setN, h]
theorem aOpen_1 {A : NS} {z m : Nat} (h : m ≠ 13) : (aOpen A z).1 m = A.1 m := by
  funext i
  unfold aOpen
  rw [setA_nm h, aWay_1 h]
theorem aOpen_2 {A : NS} {z k : Nat} (h : k ≠ 7) : (aOpen A z).2 k = A.2 k := by
  unfold aOpen
  rw [setA_2, aWay_2 h]
theorem aOpen_13 {A : NS} {z y : Nat} : (aOpen A z).1 13 y = if y = z then 1 else if ¬ nOpen A < A.2 4 ∧ y = idl A 8 then 2 else A.1 13 y := by
  unfold aOpen aWay
  split <;> rename_i h <;> simp [setA, setN, h]
theorem aOpen_7 {A : NS} {z : Nat} : A.2 7 ≤ (aOpen A z).2 7 ∧ (aOpen A z).2 7 ≤ A.2 7 + 1 := by
  unfold aOpen aWay
  split <;> simp [setA, setN]
theorem Le_go {A : NS} {a z : Nat} (hp : A.1 5 a = 0) : Le A (aGo A a z) := by
  refine ⟨fun k _ h3 _ => by rw [aGo_2, if_neg h3], fun m hm => aGo_1 (by omega) (by omega) (by omega) (by omega) (by omega) (by omega) (by omega), fun i hi => ?_⟩
  rw [aGo_5]
  by_cases e : i = a
  · subst e; rw [if_pos rfl, hp]; omega
  · rw [if_neg e]; exact ⟨id, id, fun _ => rfl⟩
theorem Le_open {A : NS} {z : Nat} : Le A (aOpen A z) :=
  ⟨fun k _ _ h7 => aOpen_2 h7, fun m hm => aOpen_1 (by omega), fun i hi => by rw [aOpen_1 (by decide)]; exact ⟨id, id, fun _ => rfl⟩⟩
/-- between the opening and the beginning -/
def IvO (A : NS) (z : Nat) : Prop := ivA A ∧ ivH A ∧ (∀ y, y < 8 → y ≠ z → ivZ1 A y) ∧ (A.1 13 z = 1 ∧ (1 ≤ A.1 14 z ∧ A.1 14 z ≤ 16) ∧ (1 ≤ A.1 15 z ∧ A.1 15 z ≤ 9) ∧ A.1 16 z < A.1 14 z ∧ A.1 17 z ≤ A.2 3) ∧
  (A.2 3 + cnt (fun a => decide (A.1 5 a = 0)) (A.2 0) ≤ A.2 0 ∧ A.2 7 ≤ A.2 3 + 1) ∧ ivN A ∧ TI A ∧ Bd A
theorem Iv.o {A : NS} {z : Nat} (h : Iv A) (hz : z < 8) (h1 : A.1 13 z = 1) : IvO A z := by
  have Z := h.z z hz
  unfold ivZ1 at Z
  exact ⟨h.a, h.h, fun y hy _ => h.z y hy, ⟨h1, Z.2.1, Z.2.2.1, by omega, by omega⟩, ⟨h.e.1, by have := h.e.2; omega⟩, h.n, h.t, h.b⟩
theorem Iv_open {A : NS} {z : Nat} (h : Iv A) (hz : z < 8) (h1 : A.1 13 z ≠ 1) (h3 : A.1 13 z ≠ 3) (hc : canB A z) : IvO (aOpen A z) z := by
  have hr : ∀ m, m ≠ 13 → (aOpen A z).1 m = A.1 m := fun m hm => aOpen_1 hm
  have hn : ∀ k, k ≠ 7 → (aOpen A z).2 k = A.2 k := fun k hk => aOpen_2 hk
  have Z := h.z z hz
  unfold ivZ1 at Z
  have h7 := aOpen_7 (A := A) (z := z)
  have e2 := h.e.2
  have hev : A.2 3 ≤ 201 := by have := h.e.1; have := h.a.1; omega
  refine ⟨⟨by rw [hn 0 (by decide)]; exact h.a.1, fun i hi => ?_⟩, ivH_congr h.h (hn 0 (by decide)) (fun i hi => by rw [hr 5 (by decide)]) (fun i hi hx => by rw [hr 5 (by decide)] at hx; exact hx) (hr 3 (by decide)) (hr 9 (by decide)) (hr 6 (by decide)) (hr 16 (by decide)) (hr 17 (by decide)), fun y hy hyz => ?_, ⟨by rw [aOpen_13, if_pos rfl], ?_⟩, ⟨?_, ?_⟩,
    ivN_congr h.n (fun k _ _ h7 => hn k h7) (hr 19 (by decide)), ⟨?_, fun w => ?_, fun i hi => ?_⟩, ?_⟩
  · rw [hn 0 (by decide)] at hi
    rw [hr 2 (by decide), hr 3 (by decide), hr 4 (by decide), hr 5 (by decide)]
    exact h.a.2 i hi
  · have Y := h.z y hy
    unfold ivZ1 at Y ⊢
    rw [hr 14 (by decide), hr 15 (by decide), hr 16 (by decide), hr 17 (by decide), hr 18 (by decide), hn 3 (by decide), aOpen_13, if_neg hyz]
    by_cases e : ¬ nOpen A < A.2 4 ∧ y = idl A 8
    · rw [if_pos e]
      have hi := idl_lt (A := A) 8
      rw [← e.2] at hi
      omega
    · rw [if_neg e]; exact Y
  · rw [hr 14 (by decide), hr 15 (by decide), hr 16 (by decide), hr 17 (by decide), hn 3 (by decide)]
    omega
  · rw [hn 0 (by decide), hn 3 (by decide), hr 5 (by decide)]; exact h.e.1
  · rw [hn 3 (by decide)]; omega
  · rw [hn 1 (by decide), hn 0 (by decide), hr 5 (by decide)]; exact h.t.1
  · rw [hn 1 (by decide), hr 20 (by decide)]; exact h.t.2.1 w
  · rw [hn 0 (by decide)] at hi
    rw [hr 2 (by decide)]; exact h.t.2.2 i hi
  · unfold aOpen aWay
    refine Bd_setA ?_ (by decide)
    split
    · exact h.b
    · exact Bd_setN (Bd_setA h.b (by decide)) (by decide) (by omega)
/-- an append begins -/
theorem Iv_go {A : NS} {a z : Nat} (h : IvO A z) (hz : z < 8) (ha : a < A.2 0) (hp : A.1 5 a = 0) (haz : A.1 3 a = z) (ht : A.2 10 < 2 ^ 30) : Iv (aGo A a z) := by
  obtain ⟨hA, hH, hZ, hz1, hE, hN, hT, hB⟩ := h
  obtain ⟨g1, g2, g3, g4⟩ := hH
  have hr : ∀ m, m ≠ 5 → m ≠ 6 → m ≠ 7 → m ≠ 9 → m ≠ 13 → m ≠ 16 → m ≠ 18 → (aGo A a z).1 m = A.1 m := fun m h5 h6 h7 h9 h13 h16 h18 => aGo_1 h5 h6 h7 h9 h13 h16 h18
  have r3 := hr 3 (by decide) (by decide) (by decide) (by decide) (by decide) (by decide) (by decide)
  have r2 := hr 2 (by decide) (by decide) (by decide) (by decide) (by decide) (by decide) (by decide)
  have r4 := hr 4 (by decide) (by decide) (by decide) (by decide) (by decide) (by decide) (by decide)
  have r17 := hr 17 (by decide) (by decide) (by decide) (by decide) (by decide) (by decide) (by decide)
  have r20 := hr 20 (by decide) (by decide) (by decide) (by decide) (by decide) (by decide) (by decide)
  have hn : ∀ k, k ≠ 3 → (aGo A a z).2 k = A.2 k := fun k hk => by rw [aGo_2, if_neg hk]
  have n3 : (aGo A a z).2 3 = A.2 3 + 1 := by rw [aGo_2, if_pos rfl]
  have n0 := hn 0 (by decide)
  have hn201 := hA.1
  have hE1 := hE.1
  have hE2 := hE.2
  have hc := cnt_one (P := fun i => decide ((aGo A a z).1 5 i = 0)) (Q := fun i => decide (A.1 5 i = 0)) (A.2 0) ha (by rw [aGo_5, if_pos rfl]; decide) (by rw [hp]; decide) (fun i hi hne => by rw [aGo_5, if_neg hne])
  refine ⟨⟨by rw [n0]; exact hn201, fun i hi => ?_⟩, ⟨fun i hi hx => ?_, fun i hi hx => ?_, fun i j hi hj hx hy e3 e9 e6 => ?_, fun y hy q hq => ?_⟩, fun y hy => ?_, ⟨?_, ?_⟩, ivN_congr hN (fun k h4 h10 h7 => hn k (by omega)) (hr 19 (by decide) (by decide) (by decide) (by decide) (by decide) (by decide) (by decide)), ⟨?_, fun w => ?_, fun i hi => ?_⟩, ?_⟩
  · rw [n0] at hi
    have := hA.2 i hi
    rw [r2, r3, r4, aGo_5]
    split <;> omega
  · rw [n0] at hi
    rw [aGo_9, aGo_6, r17, r3, aGo_16]
    rw [aGo_5] at hx
    by_cases e : i = a
    · subst e
      rw [if_pos rfl, if_pos rfl, haz, if_pos rfl]; omega
    · rw [if_neg e] at hx ⊢
      rw [if_neg e]
      have := g1 i hi hx
      refine ⟨this.1, fun x => ?_⟩
      have := this.2 x
      split
      · rename_i e2; rw [e2] at this; omega
      · exact this
  · rw [n0] at hi
    rw [aGo_9, r17, r3]
    rw [aGo_5] at hx
    by_cases e : i = a
    · subst e
      rw [if_pos rfl, haz]
    · rw [if_neg e] at hx ⊢
      exact g2 i hi hx
  · rw [n0] at hi hj
    rw [aGo_5] at hx hy
    rw [r3] at e3
    rw [aGo_9, aGo_9] at e9
    rw [aGo_6, aGo_6] at e6
    by_cases ei : i = a
    · by_cases ej : j = a
      · omega
      · rw [if_neg ej] at hy e9 e6
        rw [if_pos ei] at e9 e6
        rw [ei, haz] at e3
        have := (g1 j hj hy).2 (by rw [← e3]; exact e9.symm)
        rw [← e3] at this
        omega
    · rw [if_neg ei] at hx e9 e6
      by_cases ej : j = a
      · rw [if_pos ej] at e9 e6
        rw [ej, haz] at e3
        have := (g1 i hi hx).2 (by rw [e3]; exact e9)
        rw [e3] at this
        omega
      · rw [if_neg ej] at hy e9 e6
        exact g3 i j hi hj hx hy e3 e9 e6
  · rw [aGo_16] at hq
    by_cases e : y = z ∧ q = A.1 16 z
    · obtain ⟨rfl, rfl⟩ := e
      exact ⟨a, by rw [n0]; exact ha, by rw [aGo_5, if_pos rfl]; exact Or.inl rfl, by rw [r3, haz], by rw [aGo_9, if_pos rfl, r17], by rw [aGo_6, if_pos rfl]⟩
    · obtain ⟨i, hi, hx, x3, x9, x6⟩ := g4 y hy q (by
        by_cases ez : y = z
        · subst ez; rw [if_pos rfl] at hq; omega
        · rw [if_neg ez] at hq; exact hq)
      have ei : i ≠ a := by intro x; rw [x, hp] at hx; omega
      exact ⟨i, by rw [n0]; exact hi, by rw [aGo_5, if_neg ei]; exact hx, by rw [r3]; exact x3, by rw [aGo_9, if_neg ei, r17]; exact x9, by rw [aGo_6, if_neg ei]; exact x6⟩
  · unfold ivZ1
    rw [n3, r17, hr 14 (by decide) (by decide) (by decide) (by decide) (by decide) (by decide) (by decide), hr 15 (by decide) (by decide) (by decide) (by decide) (by decide) (by decide) (by decide), aGo_13, aGo_16, aGo_18]
    by_cases e : y = z
    · subst e
      rw [if_pos rfl, if_pos rfl]
      split <;> omega
    · have Y := hZ y hy e
      unfold ivZ1 at Y
      rw [if_neg e, if_neg e, if_neg (fun x => e x.1)]
      omega
  · rw [n3, n0]; omega
  · rw [n3, hn 7 (by decide)]; omega
  · rw [n0, hn 1 (by decide), hT.1]
    refine cnt_congr fun i hi => ?_
    rw [aGo_5]
    by_cases e : i = a
    · subst e; rw [if_pos rfl, hp]; decide
    · rw [if_neg e]
  · rw [hn 1 (by decide), r20]; exact hT.2.1 w
  · rw [n0] at hi
    rw [r2]; exact hT.2.2 i hi
  · unfold aGo aBegin aTake
    have b16 : A.1 16 z + 1 < 2 ^ 31 := by omega
    have b18 : A.2 3 + 1 < 2 ^ 31 := by omega
    have b7 : A.2 10 + A.1 15 z + A.1 16 z % 2 < 2 ^ 31 := by omega
    refine Bd_setA (Bd_setA (Bd_setA (Bd_setA (Bd_setA (Bd_setN ?_ (by decide) b18) b18) (by decide)) (by omega)) b7) (hB.2.1 17 z)
    split
    · exact Bd_setA (Bd_setA hB b16) (by decide)
    · exact Bd_setA hB b16
