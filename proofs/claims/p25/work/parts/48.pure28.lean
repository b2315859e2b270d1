/-! PURE: the open zone that can make way, on both sides -/
def atW (A : NS) : Nat := cnt (fun a => decide (A.1 5 a = 1)) (A.2 0)
def atWZ (A : NS) (z : Nat) : Nat := cnt (fun a => decide (A.1 3 a = z ∧ A.1 5 a = 1)) (A.2 0)
def nOpen (A : NS) : Nat := cnt (fun z => decide (A.1 13 z = 1)) 8
def nUse (A : NS) : Nat := cnt (fun z => decide (A.1 13 z = 1 ∨ A.1 13 z = 2)) 8
def idlC (A : NS) (k f : Nat) : Prop := A.1 13 k = 1 ∧ atWZ A k = 0 ∧ (f = 8 ∨ A.1 18 k < A.1 18 f)
def idl (A : NS) : Nat → Nat
  | 0 => 8
  | k + 1 => if A.1 13 k = 1 ∧ atWZ A k = 0 ∧ (idl A k = 8 ∨ A.1 18 k < A.1 18 (idl A k)) then k else idl A k
theorem idl_s {A : NS} {k : Nat} : idl A (k + 1) = if A.1 13 k = 1 ∧ atWZ A k = 0 ∧ (idl A k = 8 ∨ A.1 18 k < A.1 18 (idl A k)) then k else idl A k := rfl
theorem idl_lt {A : NS} : ∀ k, idl A k = 8 ∨ idl A k < k ∧ A.1 13 (idl A k) = 1 ∧ atWZ A (idl A k) = 0
  | 0 => Or.inl rfl
  | k + 1 => by
    rw [idl_s]
    split
    · rename_i h; exact Or.inr ⟨Nat.lt_succ_self k, h.1, h.2.1⟩
    · rcases idl_lt (A := A) k with h | h
      · exact Or.inl h
      · exact Or.inr ⟨by omega, h.2⟩
theorem cnt_zero {P : Nat → Bool} : ∀ {n}, cnt P n = 0 ↔ ∀ a, a < n → P a = false
  | 0 => ⟨fun _ a h => absurd h (Nat.not_lt_zero a), fun _ => rfl⟩
  | n + 1 => by
    show cnt P n + _ = 0 ↔ _
    constructor
    · intro h a ha
      by_cases e : a = n
      · subst e
        by_cases ep : P a = true
        · rw [if_pos ep] at h; omega
        · simpa using ep
      · exact cnt_zero.1 (show cnt P n = 0 by omega) a (by omega)
    · intro h
      rw [cnt_zero.2 fun a ha => h a (by omega), h n (by omega)]
      rfl
theorem nI_or (a b : Nat) : nI a ||| nI b = nI (a ||| b) := by
  apply Int32.toBitVec_inj.1
  show BitVec.ofNat 32 a ||| BitVec.ofNat 32 b = BitVec.ofNat 32 (a ||| b)
  apply BitVec.eq_of_getLsbD_eq
  intro i hi
  simp [hi]
theorem q_sm : ∀ n, n < 8 → ((nI n &&& 31).toBitVec.smod 32).toNat = n := by decide +kernel
theorem q_sh : ∀ y, y < 8 → (1 : Int32) <<< (nI y &&& 31) = nI (2 ^ y) := by decide +kernel
theorem q_p2 : ∀ y, y < 8 → 2 ^ y < 256 := by decide
theorem q_bit {B z : Nat} (hB : B < 256) (hz : z < 8) : ((nI B >>> (nI z &&& 31)) &&& 1) = 0 ↔ B.testBit z = false := by
  rw [pk_shrN (by omega) _ z (q_sm z hz), pk_andN (by have := Nat.div_le_self B (2 ^ z); omega) 1 rfl, nI_eq0 (by omega), Nat.testBit_eq_decide_div_mod_eq, decide_eq_false_iff_not]
  omega
theorem q_or {B y : Nat} (hB : B < 256) (hy : y < 8) : nI B ||| ((1 : Int32) <<< (nI y &&& 31)) = nI (B ||| 2 ^ y) ∧ B ||| 2 ^ y < 256 ∧ ∀ z, (B ||| 2 ^ y).testBit z = (B.testBit z || decide (y = z)) := by
  refine ⟨by rw [q_sh y hy, nI_or], Nat.or_lt_two_pow (n := 8) hB (q_p2 y hy), fun z => ?_⟩
  rw [Nat.testBit_or, Nat.testBit_two_pow]
theorem w_busy {σ : SS} {A : NS} {P : Nat → Bool} (h : RC σ A) (I : Iv A) (lv : LV σ (A.2 0) P) (hP : ∀ a, a < A.2 0 → A.1 5 a = 1 → P a = true) {k : Int32 → Option Int32} :
    ∃ B, B < 256 ∧ f_X3_longestIdle_L4 σ k FU 0 0 = k (nI B) ∧ ∀ z, z < 8 → (B.testBit z = false ↔ atWZ A z = 0) := by
  have hn := I.a.1
  have hl := lv.2.1
  have b := I.b
  obtain ⟨c, ⟨B, hB, rfl, hb⟩, e⟩ := loop_rel (B := Unit) ((List.range (A.2 0)).filter P) (fun m i c => f_X3_longestIdle_L4 σ k m c i) k (fun _ b => b)
    (fun i _ c => ∃ B, B < 256 ∧ c = nI B ∧ ∀ z, B.testBit z = (((List.range (A.2 0)).filter P).take i).any fun a => decide (A.1 3 a = z ∧ A.1 5 a = 1)) (fun m _ c hR => by
      show f_X3_longestIdle_L4 σ k (m + 1) c (nI _) = _
      rw [f_X3_longestIdle_L4, lv.len, if_pos (nI_le (Nat.le_refl _) (by omega))]) (fun m i _ c hi hR => by
      obtain ⟨hc, hp⟩ := live_lt hi
      obtain ⟨B, hB, rfl, hb⟩ := hR
      show ∃ c' : Int32, _ ∧ f_X3_longestIdle_L4 σ k (m + 1) (nI B) (nI i) = f_X3_longestIdle_L4 σ k m c' (nI (i + 1))
      rw [f_X3_longestIdle_L4, lv.len, if_neg (nI_ge hi (by omega)), oA_at (show i < 33 by omega) (by decide), lv.2.2 i hi]
      simp only [oJ_to, oA_at (n := 33) (show i < 33 by omega) (by decide), lv.2.2 i hi, List.take_succ, List.getElem?_eq_getElem hi, List.any_append]
      generalize ((List.range (A.2 0)).filter P)[i] = a at hc hp
      have hz := (I.a.2 a hc).2.1
      rw [oA_at (show a < 201 by omega) (by decide), oA_at (show a < 201 by omega) (by decide), h.ap (by decide) (by decide) hc, h.ap (by decide) (by decide) hc, nI_1, show (1 : Int32) = nI 1 from rfl, if_eqN (b.2.1 5 a) (by decide)]
      by_cases e1 : A.1 5 a = 1
      · obtain ⟨q1, q2, q3⟩ := q_or hB hz
        rw [if_pos e1]
        refine ⟨_, ⟨_, q2, q1, fun z => ?_⟩, rfl⟩
        rw [q3, hb]
        simp [e1]
      · rw [if_neg e1]
        refine ⟨_, ⟨_, hB, rfl, fun z => ?_⟩, rfl⟩
        rw [hb]
        simp [e1]) (nI 0) () FU ⟨0, by decide, rfl, fun z => by simp⟩ (by show _ < 20000; omega)
  refine ⟨B, hB, e, fun z hz => ?_⟩
  rw [hb, List.take_length]
  unfold atWZ
  rw [cnt_zero, List.any_eq_false]
  constructor
  · intro g a ha
    by_cases e1 : A.1 5 a = 1
    · have := g a (List.mem_filter.2 ⟨List.mem_range.2 ha, hP a ha e1⟩)
      simpa using this
    · simp [e1]
  · intro g a ha
    have := g a (List.mem_range.1 (List.mem_filter.1 ha).1)
    simpa using this
theorem w_longestIdle {σ : SS} {A : NS} {P : Nat → Bool} (h : RC σ A) (I : Iv A) (lv : LV σ (A.2 0) P) (hP : ∀ a, a < A.2 0 → A.1 5 a = 1 → P a = true) :
    f_X3_longestIdle σ = some (if idl A 8 = 8 then -1 else nI (idl A 8)) := by
  have b := I.b
  obtain ⟨B, hB, e, hb⟩ := w_busy h I lv hP (k := fun w1_64 => f_X3_longestIdle_L68 σ w1_64 (fun w2_141 => some w2_141) FU (-1) 0)
  unfold f_X3_longestIdle
  rw [e]
  obtain ⟨c, rfl, e2⟩ := loop_to (B := Unit) 8 (fun m i c => f_X3_longestIdle_L68 σ (nI B) (fun w2_141 => some w2_141) m c i) (fun w => some w) (fun _ b => b)
    (fun i _ c => c = if idl A i = 8 then -1 else nI (idl A i)) (fun m _ c hR => by
      show f_X3_longestIdle_L68 σ (nI B) (fun w2_141 => some w2_141) (m + 1) c (nI 8) = _
      rw [f_X3_longestIdle_L68, if_pos (by decide)]) (fun m i _ c hi hR => by
      show ∃ c' : Int32, _ ∧ f_X3_longestIdle_L68 σ (nI B) (fun w2_141 => some w2_141) (m + 1) c (nI i) = f_X3_longestIdle_L68 σ (nI B) (fun w2_141 => some w2_141) m c' (nI (i + 1))
      have hf := idl_lt (A := A) i
      rw [f_X3_longestIdle_L68, if_neg (show ¬ (8 : Int32) ≤ nI i from nI_ge hi (by decide)), oA_at hi (by decide), h.zn (by decide) (by decide) hi, idl_s, hR]
      simp only [oJ_to, nI_1]
      generalize idl A i = f at hf
      have g1 : (nI (A.1 13 i) = 1) ↔ A.1 13 i = 1 := nI_eq (b := 1) (b.2.1 13 i) (by decide)
      by_cases e1 : A.1 13 i = 1
      · rw [if_pos (g1.2 e1)]
        by_cases e3 : atWZ A i = 0
        · rw [if_pos ((q_bit hB hi).2 ((hb i hi).2 e3)), if_neg (show ¬ (1 : Int32) = 0 by decide)]
          by_cases e8 : f = 8
          · rw [if_pos e8, if_pos rfl]
            refine ⟨_, ?_, rfl⟩
            rw [show (if A.1 13 i = 1 ∧ atWZ A i = 0 ∧ (f = 8 ∨ A.1 18 i < A.1 18 f) then i else f) = i from if_pos ⟨e1, e3, Or.inl e8⟩, if_neg (show ¬ i = 8 by omega)]
          · have hf8 : f < 8 := by omega
            have hm : ¬ nI f = -1 := by
              intro x
              have := nI_pos (n := f) (by omega)
              rw [x] at this
              exact this (by decide)
            rw [if_neg e8, if_neg hm, oA_at hi (by decide), oA_at hf8 (by decide), h.zn (by decide) (by decide) hi, h.zn (by decide) (by decide) hf8, if_leN (b.2.1 18 f) (b.2.1 18 i)]
            by_cases e4 : A.1 18 f ≤ A.1 18 i
            · rw [if_pos e4]
              refine ⟨_, ?_, rfl⟩
              rw [show (if A.1 13 i = 1 ∧ atWZ A i = 0 ∧ (f = 8 ∨ A.1 18 i < A.1 18 f) then i else f) = f from if_neg (by omega), if_neg e8]
            · rw [if_neg e4]
              refine ⟨_, ?_, rfl⟩
              rw [show (if A.1 13 i = 1 ∧ atWZ A i = 0 ∧ (f = 8 ∨ A.1 18 i < A.1 18 f) then i else f) = i from if_pos ⟨e1, e3, Or.inr (by omega)⟩, if_neg (show ¬ i = 8 by omega)]
        · rw [if_neg fun x => e3 ((hb i hi).1 ((q_bit hB hi).1 x)), if_pos trivial]
          refine ⟨_, ?_, rfl⟩
          rw [show (if A.1 13 i = 1 ∧ atWZ A i = 0 ∧ (f = 8 ∨ A.1 18 i < A.1 18 f) then i else f) = f from if_neg fun x => e3 x.2.1]
      · rw [if_neg fun x => e1 (g1.1 x), if_pos trivial]
        refine ⟨_, ?_, rfl⟩
        rw [show (if A.1 13 i = 1 ∧ atWZ A i = 0 ∧ (f = 8 ∨ A.1 18 i < A.1 18 f) then i else f) = f from if_neg fun x => e1 x.1]) (-1) () FU rfl (by decide)
  exact e2
theorem w_idlest {σ : MS} {A : NS} (h : RM (σ.1 1) A) (I : Iv A) : f_X6_idlest σ = some (if idl A 8 = 8 then -5 else nI (idl A 8)) := by
  have b := I.b
  unfold f_X6_idlest
  obtain ⟨c, rfl, e2⟩ := loop_to (B := Unit) 8 (fun m i c => f_X6_idlest_L5 σ (fun w => some w) m c i) (fun w => some w) (fun _ b => b)
    (fun i _ c => c = if idl A i = 8 then -5 else nI (idl A i)) (fun m _ c hR => by
      show f_X6_idlest_L5 σ (fun w => some w) (m + 1) c (nI 8) = _
      rw [f_X6_idlest_L5, if_pos (by decide)]) (fun m i _ c hi hR => by
      show ∃ c' : Int32, _ ∧ f_X6_idlest_L5 σ (fun w => some w) (m + 1) c (nI i) = f_X6_idlest_L5 σ (fun w => some w) m c' (nI (i + 1))
      have hf := idl_lt (A := A) i
      have ha := w_appends h b (q := 1) (by decide) (nI i) i (Or.inr ⟨rfl, by omega⟩)
      have hc : cnt (fun a => decide (A.1 5 a = 1 ∧ (nI i < 0 ∨ A.1 3 a = i))) (A.2 0) = atWZ A i := cnt_congr fun a _ => by
        have : ¬ nI i < 0 := nI_pos (by omega)
        simp only [this, false_or, and_comm]
      have hle : atWZ A i < 2 ^ 31 := by
        have := cnt_le (fun a => decide (A.1 3 a = i ∧ A.1 5 a = 1)) (A.2 0)
        have := I.a.1
        unfold atWZ
        omega
      rw [hc] at ha
      have z0 : σ.1 1 (10 + 22 * i) = nI (A.1 13 i) := h.zn (k := 0) hi (by decide)
      rw [f_X6_idlest_L5, if_neg (show ¬ (8 : Int32) ≤ nI i from nI_ge hi (by decide)), rZ0, oA_b (by omega), z0, idl_s, hR]
      simp only [oJ_to, nI_1]
      generalize idl A i = f at hf
      have g1 : (nI (A.1 13 i) = 1) ↔ A.1 13 i = 1 := nI_eq (b := 1) (b.2.1 13 i) (by decide)
      by_cases e1 : A.1 13 i = 1
      · rw [if_pos (g1.2 e1), show (1 : Int32) = nI 1 from rfl, ha, oR_some]
        by_cases e3 : atWZ A i = 0
        · rw [if_pos ((nI_eq0 hle).2 e3), if_neg (show ¬ nI 1 = 0 by decide)]
          by_cases e8 : f = 8
          · rw [if_pos e8, if_pos rfl]
            refine ⟨_, ?_, rfl⟩
            rw [show (if A.1 13 i = 1 ∧ atWZ A i = 0 ∧ (f = 8 ∨ A.1 18 i < A.1 18 f) then i else f) = i from if_pos ⟨e1, e3, Or.inl e8⟩, if_neg (show ¬ i = 8 by omega)]
          · have hf8 : f < 8 := by omega
            have hm : ¬ nI f = -5 := by
              intro x
              have := nI_pos (n := f) (by omega)
              rw [x] at this
              exact this (by decide)
            have o1 : A.1 18 i ≠ 0 := (I.z i hi).2.2.2.2.2.2.2.1 e1
            have o2 : A.1 18 f ≠ 0 := (I.z f hf8).2.2.2.2.2.2.2.1 (hf.resolve_left e8).2.1
            have b1 := b.2.1 18 i
            have b2 := b.2.1 18 f
            rw [if_neg e8, if_neg hm, rZ5, oA_b (by omega), h.2.2.1 i hi o1, rZ5, oA_b (by omega), h.2.2.1 f hf8 o2, if_leN (by omega) (by omega)]
            by_cases e4 : A.1 18 f ≤ A.1 18 i
            · rw [if_pos (show A.1 18 f - 1 ≤ A.1 18 i - 1 by omega)]
              refine ⟨_, ?_, rfl⟩
              rw [show (if A.1 13 i = 1 ∧ atWZ A i = 0 ∧ (f = 8 ∨ A.1 18 i < A.1 18 f) then i else f) = f from if_neg (by omega), if_neg e8]
            · rw [if_neg (show ¬ A.1 18 f - 1 ≤ A.1 18 i - 1 by omega)]
              refine ⟨_, ?_, rfl⟩
              rw [show (if A.1 13 i = 1 ∧ atWZ A i = 0 ∧ (f = 8 ∨ A.1 18 i < A.1 18 f) then i else f) = i from if_pos ⟨e1, e3, Or.inr (by omega)⟩, if_neg (show ¬ i = 8 by omega)]
        · rw [if_neg fun x => e3 ((nI_eq0 hle).1 x), if_pos trivial]
          refine ⟨_, ?_, rfl⟩
          rw [show (if A.1 13 i = 1 ∧ atWZ A i = 0 ∧ (f = 8 ∨ A.1 18 i < A.1 18 f) then i else f) = f from if_neg fun x => e3 x.2.1]
      · rw [if_neg fun x => e1 (g1.1 x), if_pos trivial]
        refine ⟨_, ?_, rfl⟩
        rw [show (if A.1 13 i = 1 ∧ atWZ A i = 0 ∧ (f = 8 ∨ A.1 18 i < A.1 18 f) then i else f) = f from if_neg fun x => e1 x.1]) (-5) () FU rfl (by decide)
  exact e2
