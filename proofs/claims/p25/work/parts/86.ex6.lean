/-! PURE (p25): the zones are as the law asks -/
theorem oR_id {x : Option Int32} : oR x (fun r => some r) = x := by cases x <;> rfl
def rbP (A : NS) (z q : Nat) : Bool := (List.range (A.2 0)).any fun a => rdb A z a && decide (A.1 6 a = q)
theorem rbP_iff {A : NS} {z q : Nat} : rbP A z q = true ↔ ∃ a, a < A.2 0 ∧ rdb A z a = true ∧ A.1 6 a = q := by
  unfold rbP
  rw [List.any_eq_true]
  constructor
  · rintro ⟨a, ha, h⟩
    rw [Bool.and_eq_true] at h
    exact ⟨a, List.mem_range.1 ha, h.1, of_decide_eq_true h.2⟩
  · rintro ⟨a, ha, h1, h2⟩
    exact ⟨a, List.mem_range.2 ha, by rw [Bool.and_eq_true]; exact ⟨h1, decide_eq_true h2⟩⟩
theorem q_readP {c : CS} {A : NS} {o k : Nat} {H : Nat → NS} (h : Tq c A o k H) {z : Nat} (hz : z < 8) {q : Nat} (hq : q < A.1 16 z) :
    (rbP A z q = true ∧ ∃ v, v < 2 ^ 31 ∧ f_X5_read c (nI z) (nI q) = some (nI v)) ∨ (rbP A z q = false ∧ f_X5_read c (nI z) (nI q) = some (-4)) := by
  have I := h.2.1.1
  have b16 := I.b.2.1 16 z
  obtain ⟨a, ha, p, p3, p9, p6⟩ := I.h.2.2.2 z hz q hq
  have e := q_read1 h hz (q := q) (a := a) (by omega) ha (decide_eq_true ⟨p, p3, p9, p6⟩)
  by_cases c1 : A.1 5 a = 1
  · rw [if_pos c1] at e
    refine Or.inr ⟨?_, e⟩
    cases hb : rbP A z q with
    | false => rfl
    | true =>
      obtain ⟨a', ha', hr, h6⟩ := rbP_iff.1 hb
      obtain ⟨r1, r2, r3⟩ := of_decide_eq_true hr
      have := I.h.2.2.1 a a' ha ha' p (Or.inr r1) (p3.trans r2.symm) (p9.trans r3.symm) (p6.trans h6.symm)
      rw [this] at c1
      omega
  · rw [if_neg c1] at e
    exact Or.inl ⟨rbP_iff.2 ⟨a, ha, decide_eq_true ⟨p.resolve_left c1, p3, p9⟩, p6⟩, _, I.b.2.1 4 a, e⟩
def lead (P : Nat → Bool) : Nat → Nat
  | 0 => 0
  | n + 1 => if lead P n = n ∧ P n = true then n + 1 else lead P n
theorem lead_s {P : Nat → Bool} {n : Nat} : lead P (n + 1) = if lead P n = n ∧ P n = true then n + 1 else lead P n := rfl
theorem lead_le {P : Nat → Bool} (n : Nat) : lead P n ≤ n := by
  induction n with
  | zero => exact Nat.le_refl _
  | succ n ih => rw [lead_s]; split <;> omega
theorem lead_stop {P : Nat → Bool} {i : Nat} (h1 : lead P i = i) (h2 : P i = false) (j : Nat) : lead P (i + 1 + j) = i := by
  induction j with
  | zero => rw [Nat.add_zero, lead_s, if_neg (fun x => by rw [h2] at x; exact absurd x.2 (by decide)), h1]
  | succ j ih => rw [← Nat.add_assoc, lead_s, ih, if_neg (fun x => by omega)]
def e9 (P : Nat → Bool) (i : Nat) : Int32 := if lead P i = i then -1 else nI (lead P i)
theorem w_z46 {c : CS} {A : NS} {o k : Nat} {H : Nat → NS} (h : Tq c A o k H) {z : Nat} (hz : z < 8) {K : Int32 → Int32 → Option Int32} : ∀ d i m, i + d = A.1 16 z → d < m →
    f_L_areZonesSo_L46 c (nI z) (nI (A.1 16 z)) K m (nI (cnt (rbP A z) i)) (e9 (rbP A z) i) (nI i) = K (nI (cnt (rbP A z) (A.1 16 z))) (e9 (rbP A z) (A.1 16 z)) := by
  have hb := h.2.1.1.b.2.1 16 z
  intro d
  induction d with
  | zero =>
    intro i m hi hm
    obtain ⟨m, rfl⟩ : ∃ q, m = q + 1 := ⟨m - 1, by omega⟩
    have e : i = A.1 16 z := by omega
    rw [f_L_areZonesSo_L46, if_pos (nI_le (by omega) (by omega)), e]
  | succ d ih =>
    intro i m hi hm
    obtain ⟨m, rfl⟩ : ∃ q, m = q + 1 := ⟨m - 1, by omega⟩
    have hlt : i < A.1 16 z := by omega
    have ih := ih (i + 1) m (by omega) (by omega)
    have hle := lead_le (P := rbP A z) i
    rw [f_L_areZonesSo_L46, if_neg (nI_ge hlt hb)]
    rcases q_readP h hz hlt with ⟨hP, v, hv, e⟩ | ⟨hP, e⟩
    · rw [e, oR_some]
      simp only [oJ_to]
      rw [if_neg (nI_pos hv), if_pos (nI_pos' hv), if_pos (nI_pos' hv), nI_1, nI_1]
      have c1 : cnt (rbP A z) (i + 1) = cnt (rbP A z) i + 1 := by show cnt (rbP A z) i + _ = _; rw [if_pos hP]
      have c2 : e9 (rbP A z) (i + 1) = e9 (rbP A z) i := by
        unfold e9
        by_cases q : lead (rbP A z) i = i
        · have l1 : lead (rbP A z) (i + 1) = i + 1 := by rw [lead_s, if_pos ⟨q, hP⟩]
          rw [if_pos l1, if_pos q]
        · have l1 : lead (rbP A z) (i + 1) = lead (rbP A z) i := by rw [lead_s, if_neg (fun x => q x.1)]
          rw [l1, if_neg (by omega), if_neg q]
      rw [c1, c2] at ih
      exact ih
    · rw [e, oR_some]
      simp only [oJ_to]
      have c1 : cnt (rbP A z) (i + 1) = cnt (rbP A z) i := by show cnt (rbP A z) i + _ = _; rw [hP]; rfl
      have l : lead (rbP A z) (i + 1) = lead (rbP A z) i := by rw [lead_s, if_neg (fun x => by rw [hP] at x; exact absurd x.2 (by decide))]
      have c2 : e9 (rbP A z) (i + 1) = nI (lead (rbP A z) i) := by
        unfold e9
        rw [l, if_neg (by omega)]
      rw [c1, c2] at ih
      rw [if_pos (show (-4 : Int32) < 0 by decide), if_neg (show ¬ (0 : Int32) ≤ -4 by decide)]
      rw [show nI (cnt (rbP A z) i) + (0 : Int32) = nI (cnt (rbP A z) i) from nI_add _ 0, nI_1]
      by_cases q : lead (rbP A z) i = i
      · have e0 : e9 (rbP A z) i = -1 := if_pos q
        rw [e0, if_neg (show ¬ (0 : Int32) ≤ -1 by decide), if_neg (show ¬ (0 : Int32) ≤ -4 by decide), if_pos trivial]
        rw [q] at ih
        exact ih
      · have e0 : e9 (rbP A z) i = nI (lead (rbP A z) i) := if_neg q
        rw [e0, if_pos (nI_pos' (by omega)), if_neg (show ¬ (0 : Int32) ≤ -4 by decide), if_pos trivial]
        exact ih
theorem w_z46' {c : CS} {A : NS} {o k : Nat} {H : Nat → NS} (h : Tq c A o k H) {z : Nat} (hz : z < 8) {K : Int32 → Int32 → Option Int32} :
    f_L_areZonesSo_L46 c (nI z) (nI (A.1 16 z)) K FU 0 (-1) 0 = K (nI (cnt (rbP A z) (A.1 16 z))) (e9 (rbP A z) (A.1 16 z)) := by
  have Z := h.2.1.1.z z hz
  unfold ivZ1 at Z
  have e := w_z46 h hz (K := K) (A.1 16 z) 0 FU (by omega) (by show _ < 20000; omega)
  rw [show e9 (rbP A z) 0 = -1 from if_pos rfl] at e
  exact e
theorem q_zone8 {c : CS} {A : NS} {o k : Nat} {H : Nat → NS} (h : Tq c A o k H) {z : Nat} (hz : z < 8) : f_X5_zone c (nI z) 8 = some (nI (lead (rbP A z) (A.1 16 z))) := by
  have Z := h.2.1.1.z z hz
  unfold ivZ1 at Z
  have hb := h.2.1.1.b.2.1 16 z
  have go : ∀ d i m, i + d = A.1 16 z → d < m → lead (rbP A z) i = i → f_X3_readableFromStart_L2 (c.1 0) (nI z) (fun w2_30 => some w2_30) m (nI i) = some (nI (lead (rbP A z) (A.1 16 z))) := by
    intro d
    induction d with
    | zero =>
      intro i m hi hm hl
      obtain ⟨m, rfl⟩ : ∃ q, m = q + 1 := ⟨m - 1, by omega⟩
      have e : i = A.1 16 z := by omega
      rw [f_X3_readableFromStart_L2, oA_at hz (by decide), h.1.1.zn (by decide) (by decide) hz, if_pos (nI_le (by omega) (by omega)), ← e, hl]
    | succ d ih =>
      intro i m hi hm hl
      obtain ⟨m, rfl⟩ : ∃ q, m = q + 1 := ⟨m - 1, by omega⟩
      have hlt : i < A.1 16 z := by omega
      rw [f_X3_readableFromStart_L2, oA_at hz (by decide), h.1.1.zn (by decide) (by decide) hz, if_neg (nI_ge hlt hb)]
      rcases q_readP h hz hlt with ⟨hP, v, hv, e⟩ | ⟨hP, e⟩
      · have e : f_X3_blockAt (c.1 0) (nI z) (nI i) = some (nI v) := by rw [← e]; unfold f_X5_read; rw [oR_id]
        rw [e, oR_some, if_neg (nI_pos hv), nI_1]
        exact ih (i + 1) m (by omega) (by omega) (by rw [lead_s, if_pos ⟨hl, hP⟩])
      · have e : f_X3_blockAt (c.1 0) (nI z) (nI i) = some (-4) := by rw [← e]; unfold f_X5_read; rw [oR_id]
        rw [e, oR_some, if_pos (show (-4 : Int32) < 0 by decide), show A.1 16 z = i + 1 + d by omega, lead_stop hl hP]
  unfold f_X5_zone f_X3_tellZone f_X3_readableFromStart
  rw [w_isZone hz, oR_some, if_neg (show ¬ (1 : Int32) = 0 by decide), if_neg (show ¬ (8 : Int32) = 0 by decide), if_neg (show ¬ (8 : Int32) = 1 by decide), if_neg (show ¬ (8 : Int32) = 2 by decide), if_neg (show ¬ (8 : Int32) = 3 by decide), if_neg (show ¬ (8 : Int32) = 4 by decide), if_neg (show ¬ (8 : Int32) = 5 by decide), if_neg (show ¬ (8 : Int32) = 6 by decide), if_neg (show ¬ (8 : Int32) = 7 by decide), if_pos rfl]
  have g := go (A.1 16 z) 0 FU (by omega) (by show _ < 20000; omega) rfl
  have g : f_X3_readableFromStart_L2 (c.1 0) (nI z) (fun w2_30 => some w2_30) FU 0 = some (nI (lead (rbP A z) (A.1 16 z))) := g
  rw [g, oR_some, oR_some]
/-- what can be read and what is at work are all places below the pointer -/
theorem cnt_rb {A : NS} (I : Iv A) {z : Nat} (hz : z < 8) : cnt (rbP A z) (A.1 16 z) = cnt (rdb A z) (A.2 0) :=
  cnt_inj (T := rdb A z) (g := A.1 6) (N := A.1 16 z) (A.2 0) (rbP A z) (fun a ha ht => (rd_place I ha ht).1) (fun q _ => rbP_iff) (fun a b ha hb ht hs e => rd_inj I ha hb ht hs e)
theorem cnt_all (n : Nat) : cnt (fun _ => true) n = n := by
  induction n with
  | zero => rfl
  | succ n ih => show cnt _ n + 1 = n + 1; rw [ih]
theorem cnt_or {P Q : Nat → Bool} : ∀ {n : Nat}, (∀ a, a < n → ¬ (P a = true ∧ Q a = true)) → cnt (fun a => P a || Q a) n = cnt P n + cnt Q n := by
  intro n
  induction n with
  | zero => intro _; rfl
  | succ n ih =>
    intro h
    have h1 := ih fun a ha => h a (by omega)
    have h2 := h n (by omega)
    show cnt _ n + _ = (cnt P n + _) + (cnt Q n + _)
    rw [h1]
    cases p : P n <;> cases q : Q n <;> simp_all <;> omega
theorem cnt_place {A : NS} (I : Iv A) {z : Nat} (hz : z < 8) : cnt (rdb A z) (A.2 0) + atWZ A z = A.1 16 z := by
  unfold atWZ
  rw [← cnt_or (n := A.2 0) (P := rdb A z) (Q := fun a => decide (A.1 3 a = z ∧ A.1 5 a = 1)) fun a _ x => by
    have h1 := (of_decide_eq_true x.1).1
    have h2 := (of_decide_eq_true x.2).2
    omega]
  have hg : ∀ a, a < A.2 0 → (rdb A z a || decide (A.1 3 a = z ∧ A.1 5 a = 1)) = true → (A.1 5 a = 1 ∨ A.1 5 a = 2) ∧ A.1 3 a = z ∧ A.1 9 a = A.1 17 z := fun a ha x => by
    rw [Bool.or_eq_true] at x
    rcases x with x | x
    · obtain ⟨r1, r2, r3⟩ := of_decide_eq_true x
      exact ⟨Or.inr r1, r2, r3⟩
    · obtain ⟨r1, r2⟩ := of_decide_eq_true x
      refine ⟨Or.inl r2, r1, ?_⟩
      rw [I.h.2.1 a ha r2, r1]
  rw [← cnt_inj (T := fun a => rdb A z a || decide (A.1 3 a = z ∧ A.1 5 a = 1)) (g := A.1 6) (N := A.1 16 z) (A.2 0) (fun _ => true) (fun a ha ht => ?_) (fun q hq => ?_) (fun a b ha hb ht hs e => ?_), cnt_all]
  · obtain ⟨p, p3, p9⟩ := hg a ha ht
    have := (I.h.1 a ha p).2 (by rw [p3]; exact p9)
    rw [p3] at this
    exact this
  · refine ⟨fun _ => ?_, fun _ => rfl⟩
    obtain ⟨a, ha, p, p3, p9, p6⟩ := I.h.2.2.2 z hz q hq
    refine ⟨a, ha, ?_, p6⟩
    rw [Bool.or_eq_true]
    rcases p with p | p
    · exact Or.inr (decide_eq_true ⟨p3, p⟩)
    · exact Or.inl (decide_eq_true ⟨p, p3, p9⟩)
  · obtain ⟨p, p3, p9⟩ := hg a ha ht
    obtain ⟨s, s3, s9⟩ := hg b hb hs
    exact I.h.2.2.1 a b ha hb p s (p3.trans s3.symm) (p9.trans s9.symm) e
theorem psum_pt {w : Nat} {p : Bool} (K : Nat) : psum (fun z => if (decide (w = z) && p) = true then 1 else 0) K = if w < K ∧ p = true then 1 else 0 := by
  induction K with
  | zero => rfl
  | succ K ih =>
    show psum _ K + _ = _
    rw [ih]
    cases p with
    | false => simp
    | true =>
      simp only [Bool.and_true, decide_eq_true_iff, and_true]
      by_cases e : w = K
      · subst e; simp
      · rw [if_neg e]
        by_cases l : w < K
        · rw [if_pos l, if_pos (by omega)]
        · rw [if_neg l, if_neg (by omega)]
theorem psum_cnt {f : Nat → Nat} {P : Nat → Bool} {K : Nat} : ∀ n, (∀ a, a < n → f a < K) → psum (fun z => cnt (fun a => decide (f a = z) && P a) n) K = cnt P n := by
  intro n
  induction n with
  | zero => intro _; exact psum_zero fun _ _ => rfl
  | succ n ih =>
    intro h
    have e : psum (fun z => cnt (fun a => decide (f a = z) && P a) (n + 1)) K = psum (fun z => cnt (fun a => decide (f a = z) && P a) n + (if (decide (f n = z) && P n) = true then 1 else 0)) K := rfl
    rw [e, psum_add, ih fun a ha => h a (by omega), psum_pt]
    show _ = cnt P n + (if P n = true then 1 else 0)
    by_cases p : P n = true
    · rw [if_pos ⟨h n (by omega), p⟩, if_pos p]
    · rw [if_neg (fun x => p x.2), if_neg p]
theorem psum_zone {A : NS} (I : Iv A) (q : Nat) : psum (fun z => cnt (fun a => decide (A.1 3 a = z ∧ A.1 5 a = q)) (A.2 0)) 8 = cnt (fun a => decide (A.1 5 a = q)) (A.2 0) := by
  rw [← psum_cnt (f := A.1 3) (P := fun a => decide (A.1 5 a = q)) (K := 8) (A.2 0) fun a ha => (I.a.2 a ha).2.1]
  refine psum_congr fun z _ => cnt_congr fun a _ => ?_
  rw [Bool.decide_and]
