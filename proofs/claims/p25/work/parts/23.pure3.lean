/-! PURE: counting along the live list; the reference's counts -/
theorem RM.lit {s : Nat → Int32} {A : NS} (h : RM s A) : s 0 = nI (A.2 10) ∧ s 1 = nI (A.2 4) ∧ s 2 = nI (A.2 5) ∧ s 3 = nI (A.2 8) ∧ s 4 = nI (A.2 9) ∧ s 5 = nI (A.2 0) ∧ s 6 = nI (A.2 6) ∧ s 7 = nI (A.2 7) ∧ s 8 = nI (A.2 3) ∧ s 9 = nI (A.2 1) := h.1
theorem RM.n0 {s : Nat → Int32} {A : NS} (h : RM s A) : s 5 = nI (A.2 0) := h.1.2.2.2.2.2.1
theorem RM.zn {s : Nat → Int32} {A : NS} (h : RM s A) {z k : Nat} (hz : z < 8) (hk : k < 5) : s (10 + 22 * z + k) = nI (A.1 (13 + k) z) := h.2.1 z hz k hk
theorem RM.ap {s : Nat → Int32} {A : NS} (h : RM s A) {a k : Nat} (ha : a < A.2 0) (hk : k < 4) : s (194 + 9 * a + k) = nI (A.1 (2 + k) a) := h.2.2.2.2.1 a ha k hk
theorem LV.len {σ : SS} {n : Nat} {P : Nat → Bool} (h : LV σ n P) : σ.2 2 = nI ((List.range n).filter P).length := h.1
/-- what is counted along the picked ones -/
theorem countP_filter_range (P Q : Nat → Bool) : ∀ n, ((List.range n).filter P).countP Q = cnt (fun a => P a && Q a) n
  | 0 => rfl
  | n + 1 => by
    rw [List.range_succ, List.filter_append, List.countP_append, countP_filter_range P Q n]
    show _ = cnt _ n + _
    congr 1
    by_cases e : P n = true
    · by_cases e2 : Q n = true
      · simp [e, e2]
      · simp [e, e2]
    · simp [e]
theorem live_lt {n : Nat} {P : Nat → Bool} {i : Nat} (h : i < ((List.range n).filter P).length) : ((List.range n).filter P)[i] < n ∧ P (((List.range n).filter P)[i]) = true := by
  have := List.getElem_mem h
  rw [List.mem_filter, List.mem_range] at this
  exact this
theorem cnt_and {P Q : Nat → Bool} {n : Nat} (h : ∀ a, a < n → Q a = true → P a = true) : cnt (fun a => P a && Q a) n = cnt Q n :=
  cnt_congr fun a ha => by
    by_cases e : Q a = true
    · simp [e, h a ha e]
    · simp [e]
theorem w_liveIn {σ : SS} {A : NS} {P : Nat → Bool} (h : RC σ A) (b : Bd A) (lv : LV σ (A.2 0) P) {q : Nat} (hq : q < 2 ^ 31) (hP : ∀ a, a < A.2 0 → A.1 5 a = q → P a = true) : f_X0_liveIn σ (nI q) = some (nI (cnt (fun a => decide (A.1 5 a = q)) (A.2 0))) := by
  unfold f_X0_liveIn
  have hn := b.1
  have hl := lv.2.1
  have := loop_count ((List.range (A.2 0)).filter P) (fun m c i => f_X0_liveIn_L4 σ (nI q) (fun w => some w) m c i) (fun w => some w) (fun a => decide (A.1 5 a = q)) (fun m c => ?_) (fun m i c hi => ?_) FU (by show _ < 20000; omega)
  · show f_X0_liveIn_L4 σ (nI q) (fun w => some w) FU (nI 0) (nI 0) = _
    rw [this, countP_filter_range, cnt_and fun a ha e => hP a ha (of_decide_eq_true e)]
  · show f_X0_liveIn_L4 σ (nI q) (fun w => some w) (m + 1) c (nI _) = _
    rw [f_X0_liveIn_L4, lv.len, if_pos (nI_le (Nat.le_refl _) (by omega))]
  · show f_X0_liveIn_L4 σ (nI q) (fun w => some w) (m + 1) (nI c) (nI i) = _
    obtain ⟨ha, hp⟩ := live_lt hi
    rw [f_X0_liveIn_L4, lv.len, if_neg (nI_ge hi (by omega)), oA_at (show i < 33 by omega) (by decide), lv.2.2 i hi]
    generalize ((List.range (A.2 0)).filter P)[i] = a at ha hp
    rw [oA_at (show a < 201 by omega) (by decide), h.ap (by decide) (by decide) ha, oJ_to, nI_1, nI_1, if_eqN (b.2.1 5 a) hq]
    by_cases e1 : A.1 5 a = q
    · simp [e1]
    · simp [e1]
theorem w_liveInZone {σ : SS} {A : NS} {P : Nat → Bool} (h : RC σ A) (b : Bd A) (lv : LV σ (A.2 0) P) {z q : Nat} (hz : z < 2 ^ 31) (hq : q < 2 ^ 31) (hP : ∀ a, a < A.2 0 → A.1 5 a = q → P a = true) : f_X0_liveInZone σ (nI z) (nI q) = some (nI (cnt (fun a => decide (A.1 3 a = z ∧ A.1 5 a = q)) (A.2 0))) := by
  unfold f_X0_liveInZone
  have hn := b.1
  have hl := lv.2.1
  have := loop_count ((List.range (A.2 0)).filter P) (fun m c i => f_X0_liveInZone_L5 σ (nI z) (nI q) (fun w => some w) m c i) (fun w => some w) (fun a => decide (A.1 3 a = z ∧ A.1 5 a = q)) (fun m c => ?_) (fun m i c hi => ?_) FU (by show _ < 20000; omega)
  · show f_X0_liveInZone_L5 σ (nI z) (nI q) (fun w => some w) FU (nI 0) (nI 0) = _
    rw [this, countP_filter_range, cnt_and fun a ha e => hP a ha (of_decide_eq_true e).2]
  · show f_X0_liveInZone_L5 σ (nI z) (nI q) (fun w => some w) (m + 1) c (nI _) = _
    rw [f_X0_liveInZone_L5, lv.len, if_pos (nI_le (Nat.le_refl _) (by omega))]
  · show f_X0_liveInZone_L5 σ (nI z) (nI q) (fun w => some w) (m + 1) (nI c) (nI i) = _
    obtain ⟨ha, hp⟩ := live_lt hi
    rw [f_X0_liveInZone_L5, lv.len, if_neg (nI_ge hi (by omega)), oA_at (show i < 33 by omega) (by decide), lv.2.2 i hi]
    simp only [oJ_to, oA_at (n := 33) (show i < 33 by omega) (by decide), lv.2.2 i hi]
    generalize ((List.range (A.2 0)).filter P)[i] = a at ha hp
    rw [oA_at (show a < 201 by omega) (by decide), h.ap (by decide) (by decide) ha, oA_at (show a < 201 by omega) (by decide), h.ap (by decide) (by decide) ha, nI_1, nI_1, if_eqN (b.2.1 3 a) hz, if_eqN (b.2.1 5 a) hq]
    by_cases e1 : A.1 3 a = z
    · by_cases e2 : A.1 5 a = q
      · simp [e1, e2]
      · simp [e2]
    · simp [e1]
-- the reference
theorem w_zones {σ : MS} {A : NS} (h : RM (σ.1 1) A) (b : Bd A) {p : Nat} (hp : p < 2 ^ 31) : f_X6_zones σ (nI p) = some (nI (cnt (fun z => decide (A.1 13 z = 1 ∨ p ≠ 0 ∧ A.1 13 z = 2)) 8)) := by
  unfold f_X6_zones
  refine count_to 8 (fun m c i => f_X6_zones_L4 σ (nI p) (fun w => some w) m c i) (fun w => some w) _ (fun m c => ?_) (fun m i c hi => ?_) FU (by decide)
  · show f_X6_zones_L4 σ (nI p) (fun w => some w) (m + 1) c (nI 8) = _
    rw [f_X6_zones_L4, if_pos (by decide)]
  · have h8 : ¬ (8 : Int32) ≤ nI i := nI_ge hi (by decide)
    have e0 : f_X6_of (nI i) 0 = some (nI (10 + 22 * i)) := w_of i 0
    have ez : σ.1 1 (10 + 22 * i) = nI (A.1 13 i) := h.zn (k := 0) hi (by decide)
    have hlt : 10 + 22 * i < 2204 := by omega
    have g1 : (nI (A.1 13 i) = 1) ↔ A.1 13 i = 1 := nI_eq (b := 1) (b.2.1 13 i) (by decide)
    have g2 : (nI (A.1 13 i) = 2) ↔ A.1 13 i = 2 := nI_eq (b := 2) (b.2.1 13 i) (by decide)
    have gp : (nI p = 0) ↔ p = 0 := nI_eq (b := 0) hp (by decide)
    have s0 : nI c + 0 = nI c := nI_add c 0
    show f_X6_zones_L4 σ (nI p) (fun w => some w) (m + 1) (nI c) (nI i) = _
    rw [f_X6_zones_L4, if_neg h8]
    simp only [e0, oR_some, oA_at (n := 2204) hlt (by decide), ez, oJ_to, nI_1, s0, g1, g2, gp]
    by_cases e1 : A.1 13 i = 1
    · simp [e1]
    · by_cases e2 : p = 0
      · simp [e1, e2]
      · by_cases e3 : A.1 13 i = 2
        · simp [e2, e3]
        · simp [e1, e2, e3]
theorem w_appends {σ : MS} {A : NS} (h : RM (σ.1 1) A) (b : Bd A) {q : Nat} (hq : q < 2 ^ 31) (x : Int32) (z : Nat) (hx : x < 0 ∨ x = nI z ∧ z < 2 ^ 31) : f_X6_appends σ (nI q) x = some (nI (cnt (fun a => decide (A.1 5 a = q ∧ (x < 0 ∨ A.1 3 a = z))) (A.2 0))) := by
  unfold f_X6_appends
  have hn := b.1
  refine count_to (A.2 0) (fun m c i => f_X6_appends_L5 σ (nI q) x (fun w => some w) m c i) (fun w => some w) _ (fun m c => ?_) (fun m i c hi => ?_) FU (by show A.2 0 < 20000; omega)
  · show f_X6_appends_L5 σ (nI q) x (fun w => some w) (m + 1) c (nI (A.2 0)) = _
    rw [f_X6_appends_L5, oA_lit 5 5 rfl (by decide) (by decide), h.n0, if_pos (nI_le (Nat.le_refl _) (by omega))]
  · have e3 : f_X6_ofAppend (nI i) 3 = some (nI (194 + 9 * i + 3)) := w_ofAppend i 3
    have e1 : f_X6_ofAppend (nI i) 1 = some (nI (194 + 9 * i + 1)) := w_ofAppend i 1
    have a3 : σ.1 1 (194 + 9 * i + 3) = nI (A.1 5 i) := h.ap (k := 3) hi (by decide)
    have a1 : σ.1 1 (194 + 9 * i + 1) = nI (A.1 3 i) := h.ap (k := 1) hi (by decide)
    have l3 : 194 + 9 * i + 3 < 2204 := by omega
    have l1 : 194 + 9 * i + 1 < 2204 := by omega
    have k1 : (nI (A.1 5 i) = nI q) ↔ A.1 5 i = q := nI_eq (b.2.1 5 i) hq
    have s0 : nI c + 0 = nI c := nI_add c 0
    show f_X6_appends_L5 σ (nI q) x (fun w => some w) (m + 1) (nI c) (nI i) = _
    rw [f_X6_appends_L5, oA_lit 5 5 rfl (by decide) (by decide), h.n0, if_neg (nI_ge hi (by omega))]
    simp only [e3, e1, oR_some, oA_at (n := 2204) l3 (by decide), oA_at (n := 2204) l1 (by decide), a3, a1, oJ_to, nI_1, s0, k1]
    by_cases g1 : A.1 5 i = q
    · rcases hx with hx | ⟨hx, hz⟩
      · simp [g1, hx]
      · rw [hx, if_pos g1, if_neg (nI_pos hz), if_eqN (b.2.1 3 i) hz]
        have : ¬ nI z < 0 := nI_pos hz
        by_cases g2 : A.1 3 i = z
        · simp [g1, g2]
        · simp [g1, g2, this]
    · simp [g1]
theorem w_appendsOf {σ : MS} {A : NS} (h : RM (σ.1 1) A) (b : Bd A) {q w : Nat} (hq : q < 2 ^ 31) (hw : w < 2 ^ 31) : f_X6_appendsOf σ (nI q) (nI w) = some (nI (cnt (fun a => decide (A.1 5 a = q ∧ A.1 2 a = w)) (A.2 0))) := by
  unfold f_X6_appendsOf
  have hn := b.1
  refine count_to (A.2 0) (fun m c i => f_X6_appendsOf_L5 σ (nI q) (nI w) (fun w => some w) m c i) (fun w => some w) _ (fun m c => ?_) (fun m i c hi => ?_) FU (by show A.2 0 < 20000; omega)
  · show f_X6_appendsOf_L5 σ (nI q) (nI w) (fun w => some w) (m + 1) c (nI (A.2 0)) = _
    rw [f_X6_appendsOf_L5, oA_lit 5 5 rfl (by decide) (by decide), h.n0, if_pos (nI_le (Nat.le_refl _) (by omega))]
  · have e3 : f_X6_ofAppend (nI i) 3 = some (nI (194 + 9 * i + 3)) := w_ofAppend i 3
    have e1 : f_X6_ofAppend (nI i) 0 = some (nI (194 + 9 * i)) := w_ofAppend i 0
    have a3 : σ.1 1 (194 + 9 * i + 3) = nI (A.1 5 i) := h.ap (k := 3) hi (by decide)
    have a1 : σ.1 1 (194 + 9 * i) = nI (A.1 2 i) := h.ap (k := 0) hi (by decide)
    have l3 : 194 + 9 * i + 3 < 2204 := by omega
    have l1 : 194 + 9 * i < 2204 := by omega
    have k1 : (nI (A.1 5 i) = nI q) ↔ A.1 5 i = q := nI_eq (b.2.1 5 i) hq
    have s0 : nI c + 0 = nI c := nI_add c 0
    have k2 : (nI (A.1 2 i) = nI w) ↔ A.1 2 i = w := nI_eq (b.2.1 2 i) hw
    show f_X6_appendsOf_L5 σ (nI q) (nI w) (fun w => some w) (m + 1) (nI c) (nI i) = _
    rw [f_X6_appendsOf_L5, oA_lit 5 5 rfl (by decide) (by decide), h.n0, if_neg (nI_ge hi (by omega))]
    simp only [e3, e1, oR_some, oA_at (n := 2204) l3 (by decide), oA_at (n := 2204) l1 (by decide), a3, a1, oJ_to, nI_1, s0, k1, k2]
    by_cases g1 : A.1 5 i = q
    · by_cases g2 : A.1 2 i = w
      · simp [g1, g2]
      · simp [g2]
    · simp [g1]
