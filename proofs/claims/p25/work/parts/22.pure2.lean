/-! PURE: the counting words of both sides -/
/-- numbers of A fit an int -/
def Bd (A : NS) : Prop := A.2 0 ≤ 201 ∧ (∀ m a, A.1 m a < 2 ^ 31) ∧ ∀ k, A.2 k < 2 ^ 31
theorem RC.n0 {σ : SS} {A : NS} (h : RC σ A) : σ.2 0 = nI (A.2 0) := h.1 0 (by decide) (by decide)
theorem RC.ap {σ : SS} {A : NS} (h : RC σ A) {m a : Nat} (h2 : 2 ≤ m) (h6 : m < 6) (ha : a < A.2 0) : σ.1 m a = nI (A.1 m a) := h.2.1 m h2 h6 a ha
theorem RC.zn {σ : SS} {A : NS} (h : RC σ A) {m z : Nat} (h2 : 13 ≤ m) (h6 : m < 19) (ha : z < 8) : σ.1 m z = nI (A.1 m z) := h.2.2.2.2.2.1 m h2 h6 z ha
theorem RC.wr {σ : SS} {A : NS} (h : RC σ A) {m w : Nat} (h2 : 19 ≤ m) (h6 : m < 21) (ha : w < 4) : σ.1 m w = nI (A.1 m w) := h.2.2.2.2.2.2 m h2 h6 w ha
theorem RC.gen {σ : SS} {A : NS} (h : RC σ A) {a : Nat} (ha : a < A.2 0) (hp : A.1 5 a = 1 ∨ A.1 5 a = 2) : σ.1 9 a = nI (A.1 9 a) := (h.2.2.1 a ha hp).2.2
/-- a literal index -/
theorem oA_lit {α : Type} {n : Nat} {f : Nat → Int32} {k : Int32 → Option α} (x : Int32) (j : Nat) (hx : x = nI j) (hj : j < n) (hn : n < 2 ^ 31) : oA n f x k = k (f j) := by
  subst hx
  exact oA_at hj hn
theorem w_inUse {σ : SS} {A : NS} (h : RC σ A) (b : Bd A) : f_X4_inUse σ = some (nI (cnt (fun z => decide (A.1 13 z = 1 ∨ A.1 13 z = 2)) 8)) := by
  unfold f_X4_inUse
  refine count_to 8 (fun m c i => f_X4_inUse_L4 σ (fun w => some w) m c i) (fun w => some w) _ (fun m c => ?_) (fun m i c hi => ?_) FU (by decide)
  · show f_X4_inUse_L4 σ (fun w => some w) (m + 1) c (nI 8) = _
    rw [f_X4_inUse_L4, if_pos (by decide)]
  · have h8 : ¬ (8 : Int32) ≤ nI i := nI_ge hi (by decide)
    show f_X4_inUse_L4 σ (fun w => some w) (m + 1) (nI c) (nI i) = _
    rw [f_X4_inUse_L4, if_neg h8, oA_at hi (by decide), h.zn (by decide) (by decide) hi, oJ_to, oJ_to, oA_at hi (by decide), h.zn (by decide) (by decide) hi, nI_1, nI_1,
      show (1 : Int32) = nI 1 from rfl, if_eqN (b.2.1 13 i) (by decide), show (2 : Int32) = nI 2 from rfl, if_eqN (b.2.1 13 i) (by decide)]
    by_cases e1 : A.1 13 i = 1
    · simp [e1]
    · by_cases e2 : A.1 13 i = 2
      · simp [e2]
      · simp [e1, e2]
theorem w_ofWriterC {σ : SS} {A : NS} (h : RC σ A) (b : Bd A) {w q : Nat} (hw : w < 2 ^ 31) (hq : q < 2 ^ 31) : f_X0_ofWriter σ (nI w) (nI q) = some (nI (cnt (fun a => decide (A.1 2 a = w ∧ A.1 5 a = q)) (A.2 0))) := by
  unfold f_X0_ofWriter
  have hn := b.1
  refine count_to (A.2 0) (fun m c i => f_X0_ofWriter_L5 σ (nI w) (nI q) (fun w => some w) m c i) (fun w => some w) _ (fun m c => ?_) (fun m i c hi => ?_) FU (by show A.2 0 < 20000; omega)
  · show f_X0_ofWriter_L5 σ (nI w) (nI q) (fun w => some w) (m + 1) c (nI (A.2 0)) = _
    rw [f_X0_ofWriter_L5, h.n0, if_pos (nI_le (Nat.le_refl _) (by omega))]
  · show f_X0_ofWriter_L5 σ (nI w) (nI q) (fun w => some w) (m + 1) (nI c) (nI i) = _
    rw [f_X0_ofWriter_L5, h.n0, if_neg (nI_ge hi (by omega)), oA_at (show i < 201 by omega) (by decide), h.ap (by decide) (by decide) hi, oJ_to, oA_at (show i < 201 by omega) (by decide), h.ap (by decide) (by decide) hi, nI_1, nI_1,
      if_eqN (b.2.1 2 i) hw, if_eqN (b.2.1 5 i) hq]
    by_cases e1 : A.1 2 i = w
    · by_cases e2 : A.1 5 i = q
      · simp [e1, e2]
      · simp [e2]
    · simp [e1]
theorem w_toldInGen {σ : SS} {A : NS} (h : RC σ A) (b : Bd A) {z g : Nat} (hz : z < 2 ^ 31) (hg : g < 2 ^ 31) : f_X0_toldInGeneration σ (nI z) (nI g) = some (nI (cnt (fun a => decide (A.1 5 a = 2 ∧ A.1 3 a = z ∧ A.1 9 a = g)) (A.2 0))) := by
  unfold f_X0_toldInGeneration
  have hn := b.1
  refine count_to (A.2 0) (fun m c i => f_X0_toldInGeneration_L5 σ (nI z) (nI g) (fun w => some w) m c i) (fun w => some w) _ (fun m c => ?_) (fun m i c hi => ?_) FU (by show A.2 0 < 20000; omega)
  · show f_X0_toldInGeneration_L5 σ (nI z) (nI g) (fun w => some w) (m + 1) c (nI (A.2 0)) = _
    rw [f_X0_toldInGeneration_L5, h.n0, if_pos (nI_le (Nat.le_refl _) (by omega))]
  · show f_X0_toldInGeneration_L5 σ (nI z) (nI g) (fun w => some w) (m + 1) (nI c) (nI i) = _
    rw [f_X0_toldInGeneration_L5, h.n0, if_neg (nI_ge hi (by omega)), oA_at (show i < 201 by omega) (by decide), h.ap (by decide) (by decide) hi, oJ_to, oA_at (show i < 201 by omega) (by decide), h.ap (by decide) (by decide) hi,
      oA_at (show i < 201 by omega) (by decide), nI_1, nI_1, show (2 : Int32) = nI 2 from rfl, if_eqN (b.2.1 5 i) (by decide), if_eqN (b.2.1 3 i) hz]
    by_cases e1 : A.1 5 i = 2
    · rw [h.gen hi (Or.inr e1), if_eqN (b.2.1 9 i) hg]
      by_cases e2 : A.1 3 i = z
      · by_cases e3 : A.1 9 i = g
        · simp [e1, e2, e3]
        · simp [e1, e2, e3]
      · simp [e1, e2]
    · simp [e1]
