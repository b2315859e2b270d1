/-! PURE: acts keep the invariant -/
theorem Rest.mono {A B : NS} (h : Rest A) (I : Iv B) (n0 : B.2 0 = A.2 0) (e2 : B.1 2 = A.1 2) (hl : ∀ a, a < A.2 0 → B.1 5 a ≤ 1 → A.1 5 a ≤ 1) (ht : B.2 10 = A.2 10) : Rest B := by
  refine ⟨I, by rw [n0]; exact h.2.1, fun w hw => ?_, by rw [ht]; exact h.2.2.2⟩
  refine Nat.le_trans ?_ (h.2.2.1 w hw)
  rw [n0, e2]
  refine cnt_mono fun a ha e => ?_
  unfold liveP at e ⊢
  simp only [Bool.and_eq_true, decide_eq_true_eq] at e ⊢
  have := hl a ha (by omega)
  exact ⟨e.1, by omega⟩
theorem aFailAll_1 {A : NS} {z q r m a : Nat} (hq : q ≠ 3) : (aFailAll A z q r).1 m a = if (a < A.2 0 ∧ A.1 3 a = z ∧ A.1 5 a = q) ∧ (m = 5 ∨ m = 8) then (if m = 5 then 3 else r) else A.1 m a := aFailTo_1 hq _ m a
theorem aFailAll_5 {A : NS} {z q r a : Nat} (hq : q ≠ 3) (ha : a < A.2 0) : (aFailAll A z q r).1 5 a = if A.1 3 a = z ∧ A.1 5 a = q then 3 else A.1 5 a := by
  rw [aFailAll_1 hq]
  by_cases e : A.1 3 a = z ∧ A.1 5 a = q
  · rw [if_pos ⟨⟨ha, e⟩, Or.inl rfl⟩, if_pos rfl, if_pos e]
  · rw [if_neg (fun x => e x.1.2), if_neg e]
theorem aFailAll_m {A : NS} {z q r m : Nat} (hq : q ≠ 3) (h5 : m ≠ 5) (h8 : m ≠ 8) : (aFailAll A z q r).1 m = A.1 m := by
  funext a
  rw [aFailAll_1 hq, if_neg (fun x => by omega)]
theorem aFailAll_2 {A : NS} {z q r : Nat} : (aFailAll A z q r).2 = A.2 := aFailTo_2 _
theorem Iv_zset {A : NS} (I : Iv A) {m z v : Nat} (hm : m = 13 ∨ m = 14 ∨ m = 15) (hZ : z < 8 → ivZ1 (setA A m z v) z) (hv : v < 2 ^ 31) : Iv (setA A m z v) := by
  refine ⟨⟨I.a.1, fun a ha => ?_⟩, ivH_congr I.h rfl (fun i _ => ?_) (fun i _ hx => ?_) ?_ ?_ ?_ ?_ ?_, fun y hy => ?_, ⟨?_, I.e.2⟩, ivN_congr I.n (fun _ _ _ _ => rfl) ?_, ⟨?_, fun w => ?_, fun a ha => ?_⟩, Bd_setA I.b hv⟩
  · rw [setA_nm (by omega), setA_nm (by omega), setA_nm (by omega), setA_nm (by omega)]
    exact I.a.2 a ha
  · rw [setA_nm (by omega)]
  · rw [setA_nm (by omega)] at hx; exact hx
  · exact funext fun i => setA_nm (by omega)
  · exact funext fun i => setA_nm (by omega)
  · exact funext fun i => setA_nm (by omega)
  · exact funext fun i => setA_nm (by omega)
  · exact funext fun i => setA_nm (by omega)
  · by_cases e : y = z
    · subst e; exact hZ hy
    · have := I.z y hy
      unfold ivZ1 at this ⊢
      simp only [setA_na e, setA_2]
      exact this
  · have : cnt (fun a => decide ((setA A m z v).1 5 a = 0)) (A.2 0) = cnt (fun a => decide (A.1 5 a = 0)) (A.2 0) := cnt_congr fun a _ => by rw [setA_nm (by omega)]
    rw [show (setA A m z v).2 = A.2 from rfl, this]
    exact I.e.1
  · exact funext fun i => setA_nm (by omega)
  · have : cnt (fun a => decide ((setA A m z v).1 5 a = 2)) (A.2 0) = cnt (fun a => decide (A.1 5 a = 2)) (A.2 0) := cnt_congr fun a _ => by rw [setA_nm (by omega)]
    rw [show (setA A m z v).2 = A.2 from rfl, this]
    exact I.t.1
  · rw [setA_nm (by omega)]; exact I.t.2.1 w
  · rw [setA_nm (by omega)]; exact I.t.2.2 a ha
theorem Iv_close {A : NS} (I : Iv A) {z : Nat} (hz : z < 8) (h1 : A.1 13 z = 1) : Iv (aClose A z) := by
  refine Iv_zset I (Or.inl rfl) (fun _ => ?_) (by decide)
  have := I.z z hz
  unfold ivZ1 at this ⊢
  simp (disch := decide) only [setA_eq, setA_nm, setA_2]
  omega
theorem Iv_cap {A : NS} (I : Iv A) {z v : Nat} (hz : z < 8) (h0 : A.1 13 z = 0) (h1 : 1 ≤ v) (h16 : v ≤ 16) : Iv (setA A 14 z v) := by
  refine Iv_zset I (Or.inr (Or.inl rfl)) (fun _ => ?_) (by omega)
  have := I.z z hz
  unfold ivZ1 at this ⊢
  simp (disch := decide) only [setA_eq, setA_nm, setA_2]
  omega
theorem Iv_delay {A : NS} (I : Iv A) {z v : Nat} (hz : z < 8) (h1 : 1 ≤ v) (h9 : v ≤ 9) : Iv (setA A 15 z v) := by
  refine Iv_zset I (Or.inr (Or.inr rfl)) (fun _ => ?_) (by omega)
  have := I.z z hz
  unfold ivZ1 at this ⊢
  simp (disch := decide) only [setA_eq, setA_nm, setA_2]
  omega
theorem Iv_window {A : NS} (I : Iv A) {w v : Nat} (h8 : v ≤ 8) : Iv (setA A 19 w v) := by
  have r : ∀ m, m ≠ 19 → (setA A 19 w v).1 m = A.1 m := fun m hm => funext fun i => setA_nm hm
  refine ⟨⟨I.a.1, fun a ha => ?_⟩, ivH_congr I.h rfl (fun i _ => by rw [r 5 (by decide)]) (fun i _ hx => by rw [r 5 (by decide)] at hx; exact hx) (r 3 (by decide)) (r 9 (by decide)) (r 6 (by decide)) (r 16 (by decide)) (r 17 (by decide)), ivZ_congr I.z rfl (fun m h1 h2 => r m (by omega)), ⟨?_, I.e.2⟩, ?_, ⟨?_, fun w => ?_, fun a ha => ?_⟩, Bd_setA I.b (by omega)⟩
  · rw [r 2 (by decide), r 3 (by decide), r 4 (by decide), r 5 (by decide)]; exact I.a.2 a ha
  · rw [r 5 (by decide)]; exact I.e.1
  · have := I.n
    refine ⟨this.1, this.2.1, this.2.2.1, this.2.2.2.1, this.2.2.2.2.1, fun u hu => ?_⟩
    by_cases e : u = w
    · subst e; rw [setA_eq]; exact h8
    · rw [setA_na e]; exact this.2.2.2.2.2 u hu
  · rw [r 5 (by decide)]; exact I.t.1
  · rw [r 20 (by decide)]; exact I.t.2.1 w
  · rw [r 2 (by decide)]; exact I.t.2.2 a ha
theorem Iv_failW {A : NS} (I : Iv A) {z : Nat} : Iv (aFailAll A z 0 3) := by
  have r : ∀ m, m ≠ 5 → m ≠ 8 → (aFailAll A z 0 3).1 m = A.1 m := fun m h5 h8 => aFailAll_m (by decide) h5 h8
  have rn : (aFailAll A z 0 3).2 = A.2 := aFailAll_2
  have h5 : ∀ a, a < A.2 0 → (aFailAll A z 0 3).1 5 a = if A.1 3 a = z ∧ A.1 5 a = 0 then 3 else A.1 5 a := fun a ha => aFailAll_5 (by decide) ha
  refine ⟨⟨by rw [rn]; exact I.a.1, fun a ha => ?_⟩, ivH_congr I.h (by rw [rn]) (fun i hi => ?_) (fun i hi hx => ?_) (r 3 (by decide) (by decide)) (r 9 (by decide) (by decide)) (r 6 (by decide) (by decide)) (r 16 (by decide) (by decide)) (r 17 (by decide) (by decide)), ivZ_congr I.z (by rw [rn]) (fun m h1 h2 => r m (by omega) (by omega)), ⟨?_, by rw [rn]; exact I.e.2⟩,
    ivN_congr I.n (fun k _ _ _ => by rw [rn]) (r 19 (by decide) (by decide)), ⟨?_, fun w => ?_, fun a ha => ?_⟩, Bd_failAll I.b (by decide) (by decide)⟩
  · rw [rn] at ha
    have := I.a.2 a ha
    rw [r 2 (by decide) (by decide), r 3 (by decide) (by decide), r 4 (by decide) (by decide), h5 a ha]
    split <;> omega
  · rw [h5 i hi]
    split
    · rename_i e; rw [e.2]; decide
    · exact Iff.rfl
  · rw [h5 i hi] at hx
    split at hx
    · omega
    · exact hx
  · rw [rn]
    have := I.e.1
    have : cnt (fun a => decide ((aFailAll A z 0 3).1 5 a = 0)) (A.2 0) ≤ cnt (fun a => decide (A.1 5 a = 0)) (A.2 0) := cnt_mono fun a ha e => by
      have e := of_decide_eq_true e
      rw [h5 a ha] at e
      split at e
      · omega
      · exact decide_eq_true e
    omega
  · rw [rn, I.t.1]
    refine cnt_congr fun a ha => ?_
    rw [h5 a ha]
    by_cases e : A.1 3 a = z ∧ A.1 5 a = 0
    · rw [if_pos e, e.2]; rfl
    · rw [if_neg e]
  · rw [rn, r 20 (by decide) (by decide)]; exact I.t.2.1 w
  · rw [rn] at ha
    rw [r 2 (by decide) (by decide)]; exact I.t.2.2 a ha
theorem Rest_finish {A : NS} (h : Rest A) {z : Nat} (hz : z < 8) (h0 : A.1 13 z ≠ 0) : Rest (aFinish A z) := by
  have I3 : Iv (setA A 13 z 3) := by
    refine Iv_zset h.1 (Or.inl rfl) (fun _ => ?_) (by decide)
    have := h.1.z z hz
    unfold ivZ1 at this ⊢
    simp (disch := decide) only [setA_eq, setA_nm, setA_2]
    omega
  refine h.mono (Iv_failW I3) (by unfold aFinish; rw [aFailAll_2]; rfl) (by unfold aFinish; rw [aFailAll_m (by decide) (by decide) (by decide)]; exact funext fun i => setA_nm (by decide)) (fun a ha hx => ?_) (by unfold aFinish; rw [aFailAll_2]; rfl)
  unfold aFinish at hx
  rw [aFailAll_5 (A := setA A 13 z 3) (by decide) ha] at hx
  split at hx
  · omega
  · rw [setA_nm (by decide)] at hx; exact hx
theorem aReset_m {A : NS} {z m : Nat} (h5 : m ≠ 5) (h8 : m ≠ 8) (h13 : m ≠ 13) (h16 : m ≠ 16) (h17 : m ≠ 17) : (aReset A z).1 m = A.1 m := by
  unfold aReset aClear
  funext a
  rw [setA_nm h17, setA_nm h16, setA_nm h13, aFailAll_m (by decide) h5 h8]
theorem aReset_5 {A : NS} {z a : Nat} (ha : a < A.2 0) : (aReset A z).1 5 a = if A.1 3 a = z ∧ A.1 5 a = 1 then 3 else A.1 5 a := by
  unfold aReset aClear
  rw [setA_nm (by decide), setA_nm (by decide), setA_nm (by decide), aFailAll_5 (by decide) ha]
theorem aReset_2 {A : NS} {z : Nat} : (aReset A z).2 = A.2 := by
  unfold aReset aClear
  exact aFailAll_2
theorem aReset_13 {A : NS} {z y : Nat} : (aReset A z).1 13 y = if y = z then 0 else A.1 13 y := by
  unfold aReset aClear
  rw [setA_nm (by decide), setA_nm (by decide)]
  by_cases e : y = z
  · subst e; rw [setA_eq, if_pos rfl]
  · rw [setA_na e, if_neg e, aFailAll_m (by decide) (by decide) (by decide)]
theorem aReset_16 {A : NS} {z y : Nat} : (aReset A z).1 16 y = if y = z then 0 else A.1 16 y := by
  unfold aReset aClear
  rw [setA_nm (by decide)]
  by_cases e : y = z
  · subst e; rw [setA_eq, if_pos rfl]
  · rw [setA_na e, if_neg e, setA_nm (by decide), aFailAll_m (by decide) (by decide) (by decide)]
theorem aReset_17 {A : NS} {z y : Nat} : (aReset A z).1 17 y = if y = z then A.1 17 z + 1 else A.1 17 y := by
  unfold aReset aClear
  rw [aFailAll_m (by decide) (by decide) (by decide)]
  by_cases e : y = z
  · subst e; rw [setA_eq, if_pos rfl]
  · rw [setA_na e, if_neg e, setA_nm (by decide), setA_nm (by decide), aFailAll_m (by decide) (by decide) (by decide)]
theorem Iv_reset {A : NS} (I : Iv A) {z : Nat} (hz : z < 8) (h0 : A.1 13 z ≠ 0) : Iv (aReset A z) := by
  have r : ∀ m, m ≠ 5 → m ≠ 8 → m ≠ 13 → m ≠ 16 → m ≠ 17 → (aReset A z).1 m = A.1 m := fun m h5 h8 h13 h16 h17 => aReset_m h5 h8 h13 h16 h17
  have r2 := r 2 (by decide) (by decide) (by decide) (by decide) (by decide)
  have r3 := r 3 (by decide) (by decide) (by decide) (by decide) (by decide)
  have r4 := r 4 (by decide) (by decide) (by decide) (by decide) (by decide)
  have r6 := r 6 (by decide) (by decide) (by decide) (by decide) (by decide)
  have r9 := r 9 (by decide) (by decide) (by decide) (by decide) (by decide)
  have r14 := r 14 (by decide) (by decide) (by decide) (by decide) (by decide)
  have r15 := r 15 (by decide) (by decide) (by decide) (by decide) (by decide)
  have r18 := r 18 (by decide) (by decide) (by decide) (by decide) (by decide)
  have r20 := r 20 (by decide) (by decide) (by decide) (by decide) (by decide)
  have rn : (aReset A z).2 = A.2 := aReset_2
  obtain ⟨g1, g2, g3, g4⟩ := I.h
  have hd : ∀ i, i < A.2 0 → ((aReset A z).1 5 i = 1 ∨ (aReset A z).1 5 i = 2) → (A.1 5 i = 1 ∨ A.1 5 i = 2) ∧ (A.1 3 i = z → A.1 5 i = 2) ∧ (aReset A z).1 5 i = A.1 5 i := by
    intro i hi hx
    rw [aReset_5 hi] at hx ⊢
    split at hx
    · omega
    · rename_i e
      rw [if_neg e]
      refine ⟨hx, fun y => ?_, rfl⟩
      rcases hx with x | x
      · exact absurd ⟨y, x⟩ e
      · exact x
  have hZ := I.z z hz
  unfold ivZ1 at hZ
  refine ⟨⟨by rw [rn]; exact I.a.1, fun a ha => ?_⟩, ⟨fun a ha hx => ?_, fun a ha hx => ?_, fun a b ha hb hx hy e3 e9 e6 => ?_, fun y hy q hq => ?_⟩, fun y hy => ?_, ⟨?_, by rw [rn]; exact I.e.2⟩,
    ivN_congr I.n (fun k _ _ _ => by rw [rn]) (r 19 (by decide) (by decide) (by decide) (by decide) (by decide)), ⟨?_, fun w => ?_, fun a ha => ?_⟩, ?_⟩
  · rw [rn] at ha
    have := I.a.2 a ha
    rw [r2, r3, r4, aReset_5 ha]
    split <;> omega
  · rw [rn] at ha
    obtain ⟨d1, d2, d3⟩ := hd a ha hx
    have := g1 a ha d1
    rw [r3, r9, r6, aReset_17, aReset_16]
    by_cases e : A.1 3 a = z
    · rw [if_pos e, if_pos e]
      rw [e] at this
      omega
    · rw [if_neg e, if_neg e]; exact this
  · rw [rn] at ha
    obtain ⟨d1, d2, d3⟩ := hd a ha (Or.inl hx)
    rw [d3] at hx
    have e : A.1 3 a ≠ z := fun e => by have := d2 e; omega
    rw [r3, r9, aReset_17, if_neg e]
    exact g2 a ha hx
  · rw [rn] at ha hb
    rw [r3] at e3
    rw [r9] at e9
    rw [r6] at e6
    exact g3 a b ha hb (hd a ha hx).1 (hd b hb hy).1 e3 e9 e6
  · rw [aReset_16] at hq
    by_cases e : y = z
    · rw [if_pos e] at hq; omega
    · rw [if_neg e] at hq
      obtain ⟨a, ha, hx, x3, x9, x6⟩ := g4 y hy q hq
      refine ⟨a, by rw [rn]; exact ha, ?_, by rw [r3]; exact x3, by rw [r9, aReset_17, if_neg e]; exact x9, by rw [r6]; exact x6⟩
      rw [aReset_5 ha, if_neg (fun x => e (by rw [← x3, x.1]))]
      exact hx
  · unfold ivZ1
    rw [r14, r15, r18, rn, aReset_13, aReset_16, aReset_17]
    by_cases e : y = z
    · subst e
      rw [if_pos rfl, if_pos rfl, if_pos rfl]
      omega
    · rw [if_neg e, if_neg e, if_neg e]
      exact I.z y hy
  · rw [rn, cnt_congr (Q := fun a => decide (A.1 5 a = 0)) fun a ha => ?_]
    · exact I.e.1
    · rw [aReset_5 ha]
      by_cases e : A.1 3 a = z ∧ A.1 5 a = 1
      · rw [if_pos e, e.2]; rfl
      · rw [if_neg e]
  · rw [rn, I.t.1]
    refine cnt_congr fun a ha => ?_
    rw [aReset_5 ha]
    by_cases e : A.1 3 a = z ∧ A.1 5 a = 1
    · rw [if_pos e, e.2]; rfl
    · rw [if_neg e]
  · rw [rn, r20]; exact I.t.2.1 w
  · rw [rn] at ha
    rw [r2]; exact I.t.2.2 a ha
  · unfold aReset aClear
    have hev := I.e.1
    have hn := I.a.1
    refine Bd_setA (Bd_setA (Bd_setA (Bd_failAll I.b (by decide) (by decide)) (by decide)) (by decide)) ?_
    rw [aFailAll_m (by decide) (by decide) (by decide)]
    omega
theorem Rest_reset {A : NS} (h : Rest A) {z : Nat} (hz : z < 8) (h0 : A.1 13 z ≠ 0) : Rest (aReset A z) := by
  refine h.mono (Iv_reset h.1 hz h0) (by rw [aReset_2]) (aReset_m (by decide) (by decide) (by decide) (by decide) (by decide)) (fun a ha hx => ?_) (by rw [aReset_2])
  rw [aReset_5 ha] at hx
  split at hx <;> omega
