/-! WORLDS: the cells of one State with all that it holds (gl), of the class (cl), of the reference (ml), each over numbers alone; a world is laid over any other cells (ov). -/
def ov (h : Nat → va_E) (b : Nat) (L : List va_E) : Nat → va_E := fun i => if b ≤ i ∧ i < b + L.length then L.getD (i - b) (h i) else h i
theorem ov_at {h : Nat → va_E} {b : Nat} {L : List va_E} (m : Nat) {e : va_E} (hm : L[m]? = some e) : ov h b L (b + m) = e := by
  have hl : m < L.length := (List.getElem?_eq_some_iff.mp hm).1
  unfold ov
  rw [if_pos ⟨Nat.le_add_right _ _, Nat.add_lt_add_left hl _⟩, Nat.add_sub_cancel_left, List.getD_eq_getElem?_getD, hm]
  rfl
theorem ov_set {h : Nat → va_E} {b : Nat} {L : List va_E} (m : Nat) (v : va_E) (hm : m < L.length) : hset (ov h b L) (b + m) v = ov h b (L.set m v) := by
  funext i
  unfold hset ov
  rw [List.length_set]
  by_cases hi : i = b + m
  · subst hi
    rw [if_pos rfl, if_pos ⟨Nat.le_add_right _ _, Nat.add_lt_add_left hm _⟩, Nat.add_sub_cancel_left, List.getD_eq_getElem?_getD, List.getElem?_set_self hm]
    rfl
  · rw [if_neg hi]
    by_cases hc : b ≤ i ∧ i < b + L.length
    · rw [if_pos hc, if_pos hc, List.getD_eq_getElem?_getD, List.getD_eq_getElem?_getD, List.getElem?_set_ne (by omega)]
    · rw [if_neg hc, if_neg hc]
theorem ov_eqset {h : Nat → va_E} {b : Nat} {L L' : List va_E} (m : Nat) (v : va_E) (hm : m < L.length) (e : L.set m v = L') : hset (ov h b L) (b + m) v = ov h b L' := by rw [ov_set m v hm, e]
theorem ov_part {h : Nat → va_E} {b : Nat} (A M B M' : List va_E) (hl : M'.length = M.length) : ov (ov h b (A ++ (M ++ B))) (b + A.length) M' = ov h b (A ++ (M' ++ B)) := by
  funext i
  unfold ov
  simp only [List.length_append, hl]
  by_cases h1 : b + A.length ≤ i ∧ i < b + A.length + M.length
  · have h2 : b ≤ i ∧ i < b + (A.length + (M.length + B.length)) := by omega
    rw [if_pos h1, if_pos h2, if_pos h2]
    have h3 : (A ++ (M' ++ B))[i - b]? = M'[i - (b + A.length)]? := by
      rw [List.getElem?_append_right (by omega), List.getElem?_append_left (by omega), show i - b - A.length = i - (b + A.length) by omega]
    have h4 : i - (b + A.length) < M'.length := by omega
    rw [List.getD_eq_getElem?_getD (l := M'), List.getD_eq_getElem?_getD (l := A ++ (M' ++ B)), h3, List.getElem?_eq_getElem h4]
    rfl
  · rw [if_neg h1]
    by_cases h2 : b ≤ i ∧ i < b + (A.length + (M.length + B.length))
    · rw [if_pos h2, if_pos h2, List.getD_eq_getElem?_getD, List.getD_eq_getElem?_getD]
      rcases Nat.lt_or_ge (i - b) A.length with g | g
      · rw [List.getElem?_append_left g, List.getElem?_append_left g]
      · rw [List.getElem?_append_right g, List.getElem?_append_right g, List.getElem?_append_right (by omega), List.getElem?_append_right (by omega), hl]
    · rw [if_neg h2, if_neg h2]
theorem ov_one {h : Nat → va_E} {b : Nat} (A : List va_E) (c v : va_E) (B : List va_E) (m : Nat) (hm : A.length = m) : hset (ov h b (A ++ (c :: B))) (b + m) v = ov h b (A ++ (v :: B)) := by
  subst hm
  rw [ov_set A.length v (by simp)]
  simp
theorem ov_get {h : Nat → va_E} {b : Nat} (A : List va_E) (c : va_E) (B : List va_E) (m : Nat) (hm : A.length = m) : ov h b (A ++ (c :: B)) (b + m) = c := by
  subst hm
  exact ov_at _ (by simp)
theorem ov_self {h : Nat → va_E} {b : Nat} (A M B : List va_E) : ov h b (A ++ (M ++ B)) = ov (ov h b (A ++ (M ++ B))) (b + A.length) M := (ov_part A M B M rfl).symm
/-- a State: its arrays by their places, its numbers by theirs -/
abbrev SS : Type := (Nat → Nat → Int32) × (Nat → Int32)
def sA {T : Type} (σ : (Nat → Nat → Int32) × T) (m : Nat) (f : Nat → Int32) : (Nat → Nat → Int32) × T := (fun j => if j = m then f else σ.1 j, σ.2)
def sN {T : Type} (σ : T × (Nat → Int32)) (k : Nat) (v : Int32) : T × (Nat → Int32) := (σ.1, upd σ.2 k v)
abbrev MS : Type := (Nat → Nat → Int32) × (Nat → Int32)
/-- the class: its States, its text, its numbers -/
abbrev CS : Type := (Nat → SS) × (Nat → Int32) × (Nat → Int32)
def cS (σ : CS) (k : Nat) (t : SS) : CS := (fun j => if j = k then t else σ.1 j, σ.2)
def cT (σ : CS) (f : Nat → Int32) : CS := (σ.1, f, σ.2.2)
def cN (σ : CS) (k : Nat) (v : Int32) : CS := (σ.1, σ.2.1, upd σ.2.2 k v)

def gl (S0 : Nat) (cI : ClassId) (b : Nat) (σ : SS) : List va_E := [.inr (3, [.ref (S0 + (b + 1)), .ref (S0 + (b + 12)), .ref (S0 + (b + 19)), .ref (S0 + (b + 20)), .ref (S0 + (b + 21)), .int (σ.2 8), .int (σ.2 9), .int (σ.2 10)]),
  .inr (0, [.ref (S0 + (b + 2)), .ref (S0 + (b + 3)), .ref (S0 + (b + 4)), .ref (S0 + (b + 5)), .ref (S0 + (b + 6)), .ref (S0 + (b + 7)), .ref (S0 + (b + 8)), .ref (S0 + (b + 9)), .int (σ.2 0), .ref (S0 + (b + 10)), .int (σ.2 1), .ref (S0 + (b + 11)), .int (σ.2 2)]),
  .inl (cI, 201, .inl (σ.1 2)),
  .inl (cI, 201, .inl (σ.1 3)),
  .inl (cI, 201, .inl (σ.1 4)),
  .inl (cI, 201, .inl (σ.1 5)),
  .inl (cI, 201, .inl (σ.1 6)),
  .inl (cI, 201, .inl (σ.1 7)),
  .inl (cI, 201, .inl (σ.1 8)),
  .inl (cI, 201, .inl (σ.1 9)),
  .inl (cI, 201, .inl (σ.1 10)),
  .inl (cI, 33, .inl (σ.1 11)),
  .inr (4, [.ref (S0 + (b + 13)), .ref (S0 + (b + 14)), .ref (S0 + (b + 15)), .ref (S0 + (b + 16)), .ref (S0 + (b + 17)), .ref (S0 + (b + 18)), .int (σ.2 3), .int (σ.2 4), .int (σ.2 5), .int (σ.2 6), .int (σ.2 7)]),
  .inl (cI, 8, .inl (σ.1 13)),
  .inl (cI, 8, .inl (σ.1 14)),
  .inl (cI, 8, .inl (σ.1 15)),
  .inl (cI, 8, .inl (σ.1 16)),
  .inl (cI, 8, .inl (σ.1 17)),
  .inl (cI, 8, .inl (σ.1 18)),
  .inl (cI, 4, .inl (σ.1 19)),
  .inl (cI, 4, .inl (σ.1 20)),
  .inl (cI, 33, .inl (σ.1 21))]
def ml (S0 : Nat) (cI cZ : ClassId) (b : Nat) (σ : MS) : List va_E := [.inr (6, [.ref (S0 + (b + 1)), .ref (S0 + (b + 2)), .ref (S0 + (b + 3)), .int (σ.2 0), .ref (S0 + (b + 4)), .int (σ.2 1), .ref (S0 + (b + 5)), .int (σ.2 2), .ref (S0 + (b + 6)), .int (σ.2 3), .int (σ.2 4), .int (σ.2 5), .int (σ.2 6), .ref (S0 + (b + 7)), .int (σ.2 7)]),
  .inl (cI, 2204, .inl (σ.1 1)),
  .inl (cI, 2204, .inl (σ.1 2)),
  .inl (cI, 8816, .inl (σ.1 3)),
  .inl (cI, 2204, .inl (σ.1 4)),
  .inl (cI, 60, .inl (σ.1 5)),
  .inl (cZ, 201, .inl (σ.1 6)),
  .inl (cI, 4, .inl (σ.1 7))]
def cl (S0 : Nat) (cI cC cS' : ClassId) (b : Nat) (σ : CS) : List va_E := [.inr (5, [.ref (S0 + (b + 1)), .ref (S0 + (b + 23)), .int (σ.2.2 0), .ref (S0 + (b + 45)), .ref (S0 + (b + 157))])] ++ (gl S0 cI (b + 1) (σ.1 0) ++ (gl S0 cI (b + 23) (σ.1 2) ++ ([.inr (1, [.ref (S0 + (b + 46)), .int (σ.2.2 1), .int (σ.2.2 2)])] ++ ([.inl (cS', 5, .inr (.inr (.inr (.inr (fun j => if j < 5 then some (S0 + (b + 47 + 22 * j)) else none)))))] ++ (gl S0 cI (b + 47) (σ.1 3) ++ (gl S0 cI (b + 69) (σ.1 4) ++ (gl S0 cI (b + 91) (σ.1 5) ++ (gl S0 cI (b + 113) (σ.1 6) ++ (gl S0 cI (b + 135) (σ.1 7) ++ ([.inr (2, [.ref (S0 + (b + 158)), .int (σ.2.2 3)])] ++ ([.inl (cC, 60, .inl (σ.2.1))])))))))))))
theorem gl_len (S0 : Nat) (cI : ClassId) (b : Nat) (σ : SS) : (gl S0 cI b σ).length = 22 := rfl
theorem ml_len (S0 : Nat) (cI cZ : ClassId) (b : Nat) (σ : MS) : (ml S0 cI cZ b σ).length = 8 := rfl
theorem cl_len (S0 : Nat) (cI cC cS' : ClassId) (b : Nat) (σ : CS) : (cl S0 cI cC cS' b σ).length = 159 := by
  simp only [cl, List.length_append, gl_len, List.length_cons, List.length_nil]
section YS
variable {κ : XCtx SS} {h : Nat → va_E} {b : Nat} {cI : ClassId}
def YS (κ : XCtx SS) (h : Nat → va_E) (b : Nat) (cI : ClassId) : Prop := (∀ σ, κ.HP σ = ov h b (gl κ.S0 cI b σ)) ∧ (∀ σ, b + 22 ≤ κ.HC σ) ∧ κ.tys[0]? = some (cI, .int)
theorem yS_hp (Y : YS κ h b cI) (σ : SS) : κ.HP σ = ov h b (gl κ.S0 cI b σ) := Y.1 σ
theorem yS_hb (Y : YS κ h b cI) (σ : SS) : b + 22 ≤ κ.HC σ := Y.2.1 σ
theorem yS_ht (Y : YS κ h b cI) : κ.tys[0]? = some (cI, .int) := Y.2.2
theorem yS_l (Y : YS κ h b cI) {σ : SS} (m : Nat) (hm : m < 22) : b + m < κ.HC σ := Nat.lt_of_lt_of_le (Nat.add_lt_add_left hm b) (Y.2.1 σ)
theorem yS_set (Y : YS κ h b cI) {σ σ1 : SS} (m : Nat) (v : va_E) (hm : m < 22) (e : (gl κ.S0 cI b σ).set m v = gl κ.S0 cI b σ1) : hset (κ.HP σ) (b + m) v = κ.HP σ1 := by
  rw [Y.1 σ, Y.1 σ1]
  exact ov_eqset m v hm e
theorem yS_0 (Y : YS κ h b cI) {σ : SS} : κ.HP σ (b + 0) = .inr (3, [.ref (κ.S0 + (b + 1)), .ref (κ.S0 + (b + 12)), .ref (κ.S0 + (b + 19)), .ref (κ.S0 + (b + 20)), .ref (κ.S0 + (b + 21)), .int (σ.2 8), .int (σ.2 9), .int (σ.2 10)]) := by
  rw [Y.1 σ]
  exact ov_at 0 rfl
theorem yS_p0_5 (Y : YS κ h b cI) {σ : SS} : ∀ v, hset (κ.HP σ) (b + 0) (.inr (3, [.ref (κ.S0 + (b + 1)), .ref (κ.S0 + (b + 12)), .ref (κ.S0 + (b + 19)), .ref (κ.S0 + (b + 20)), .ref (κ.S0 + (b + 21)), .int (σ.2 8), .int (σ.2 9), .int (σ.2 10)].set 5 (.int v))) = κ.HP (sN σ 8 v) := fun _ => yS_set Y 0 _ (by decide) rfl
theorem yS_p0_6 (Y : YS κ h b cI) {σ : SS} : ∀ v, hset (κ.HP σ) (b + 0) (.inr (3, [.ref (κ.S0 + (b + 1)), .ref (κ.S0 + (b + 12)), .ref (κ.S0 + (b + 19)), .ref (κ.S0 + (b + 20)), .ref (κ.S0 + (b + 21)), .int (σ.2 8), .int (σ.2 9), .int (σ.2 10)].set 6 (.int v))) = κ.HP (sN σ 9 v) := fun _ => yS_set Y 0 _ (by decide) rfl
theorem yS_p0_7 (Y : YS κ h b cI) {σ : SS} : ∀ v, hset (κ.HP σ) (b + 0) (.inr (3, [.ref (κ.S0 + (b + 1)), .ref (κ.S0 + (b + 12)), .ref (κ.S0 + (b + 19)), .ref (κ.S0 + (b + 20)), .ref (κ.S0 + (b + 21)), .int (σ.2 8), .int (σ.2 9), .int (σ.2 10)].set 7 (.int v))) = κ.HP (sN σ 10 v) := fun _ => yS_set Y 0 _ (by decide) rfl
theorem yS_1 (Y : YS κ h b cI) {σ : SS} : κ.HP σ (b + 1) = .inr (0, [.ref (κ.S0 + (b + 2)), .ref (κ.S0 + (b + 3)), .ref (κ.S0 + (b + 4)), .ref (κ.S0 + (b + 5)), .ref (κ.S0 + (b + 6)), .ref (κ.S0 + (b + 7)), .ref (κ.S0 + (b + 8)), .ref (κ.S0 + (b + 9)), .int (σ.2 0), .ref (κ.S0 + (b + 10)), .int (σ.2 1), .ref (κ.S0 + (b + 11)), .int (σ.2 2)]) := by
  rw [Y.1 σ]
  exact ov_at 1 rfl
theorem yS_p1_8 (Y : YS κ h b cI) {σ : SS} : ∀ v, hset (κ.HP σ) (b + 1) (.inr (0, [.ref (κ.S0 + (b + 2)), .ref (κ.S0 + (b + 3)), .ref (κ.S0 + (b + 4)), .ref (κ.S0 + (b + 5)), .ref (κ.S0 + (b + 6)), .ref (κ.S0 + (b + 7)), .ref (κ.S0 + (b + 8)), .ref (κ.S0 + (b + 9)), .int (σ.2 0), .ref (κ.S0 + (b + 10)), .int (σ.2 1), .ref (κ.S0 + (b + 11)), .int (σ.2 2)].set 8 (.int v))) = κ.HP (sN σ 0 v) := fun _ => yS_set Y 1 _ (by decide) rfl
theorem yS_p1_10 (Y : YS κ h b cI) {σ : SS} : ∀ v, hset (κ.HP σ) (b + 1) (.inr (0, [.ref (κ.S0 + (b + 2)), .ref (κ.S0 + (b + 3)), .ref (κ.S0 + (b + 4)), .ref (κ.S0 + (b + 5)), .ref (κ.S0 + (b + 6)), .ref (κ.S0 + (b + 7)), .ref (κ.S0 + (b + 8)), .ref (κ.S0 + (b + 9)), .int (σ.2 0), .ref (κ.S0 + (b + 10)), .int (σ.2 1), .ref (κ.S0 + (b + 11)), .int (σ.2 2)].set 10 (.int v))) = κ.HP (sN σ 1 v) := fun _ => yS_set Y 1 _ (by decide) rfl
theorem yS_p1_12 (Y : YS κ h b cI) {σ : SS} : ∀ v, hset (κ.HP σ) (b + 1) (.inr (0, [.ref (κ.S0 + (b + 2)), .ref (κ.S0 + (b + 3)), .ref (κ.S0 + (b + 4)), .ref (κ.S0 + (b + 5)), .ref (κ.S0 + (b + 6)), .ref (κ.S0 + (b + 7)), .ref (κ.S0 + (b + 8)), .ref (κ.S0 + (b + 9)), .int (σ.2 0), .ref (κ.S0 + (b + 10)), .int (σ.2 1), .ref (κ.S0 + (b + 11)), .int (σ.2 2)].set 12 (.int v))) = κ.HP (sN σ 2 v) := fun _ => yS_set Y 1 _ (by decide) rfl
theorem yS_2 (Y : YS κ h b cI) {σ : SS} : κ.HP σ (b + 2) = .inl (cI, 201, .inl (σ.1 2)) := by
  rw [Y.1 σ]
  exact ov_at 2 rfl
theorem yS_s2 (Y : YS κ h b cI) {σ : SS} : ∀ f, hset (κ.HP σ) (b + 2) (.inl (cI, 201, .inl f)) = κ.HP (sA σ 2 f) := fun _ => yS_set Y 2 _ (by decide) rfl
theorem yS_3 (Y : YS κ h b cI) {σ : SS} : κ.HP σ (b + 3) = .inl (cI, 201, .inl (σ.1 3)) := by
  rw [Y.1 σ]
  exact ov_at 3 rfl
theorem yS_s3 (Y : YS κ h b cI) {σ : SS} : ∀ f, hset (κ.HP σ) (b + 3) (.inl (cI, 201, .inl f)) = κ.HP (sA σ 3 f) := fun _ => yS_set Y 3 _ (by decide) rfl
theorem yS_4 (Y : YS κ h b cI) {σ : SS} : κ.HP σ (b + 4) = .inl (cI, 201, .inl (σ.1 4)) := by
  rw [Y.1 σ]
  exact ov_at 4 rfl
theorem yS_s4 (Y : YS κ h b cI) {σ : SS} : ∀ f, hset (κ.HP σ) (b + 4) (.inl (cI, 201, .inl f)) = κ.HP (sA σ 4 f) := fun _ => yS_set Y 4 _ (by decide) rfl
theorem yS_5 (Y : YS κ h b cI) {σ : SS} : κ.HP σ (b + 5) = .inl (cI, 201, .inl (σ.1 5)) := by
  rw [Y.1 σ]
  exact ov_at 5 rfl
theorem yS_s5 (Y : YS κ h b cI) {σ : SS} : ∀ f, hset (κ.HP σ) (b + 5) (.inl (cI, 201, .inl f)) = κ.HP (sA σ 5 f) := fun _ => yS_set Y 5 _ (by decide) rfl
theorem yS_6 (Y : YS κ h b cI) {σ : SS} : κ.HP σ (b + 6) = .inl (cI, 201, .inl (σ.1 6)) := by
  rw [Y.1 σ]
  exact ov_at 6 rfl
theorem yS_s6 (Y : YS κ h b cI) {σ : SS} : ∀ f, hset (κ.HP σ) (b + 6) (.inl (cI, 201, .inl f)) = κ.HP (sA σ 6 f) := fun _ => yS_set Y 6 _ (by decide) rfl
theorem yS_7 (Y : YS κ h b cI) {σ : SS} : κ.HP σ (b + 7) = .inl (cI, 201, .inl (σ.1 7)) := by
  rw [Y.1 σ]
  exact ov_at 7 rfl
theorem yS_s7 (Y : YS κ h b cI) {σ : SS} : ∀ f, hset (κ.HP σ) (b + 7) (.inl (cI, 201, .inl f)) = κ.HP (sA σ 7 f) := fun _ => yS_set Y 7 _ (by decide) rfl
theorem yS_8 (Y : YS κ h b cI) {σ : SS} : κ.HP σ (b + 8) = .inl (cI, 201, .inl (σ.1 8)) := by
  rw [Y.1 σ]
  exact ov_at 8 rfl
theorem yS_s8 (Y : YS κ h b cI) {σ : SS} : ∀ f, hset (κ.HP σ) (b + 8) (.inl (cI, 201, .inl f)) = κ.HP (sA σ 8 f) := fun _ => yS_set Y 8 _ (by decide) rfl
theorem yS_9 (Y : YS κ h b cI) {σ : SS} : κ.HP σ (b + 9) = .inl (cI, 201, .inl (σ.1 9)) := by
  rw [Y.1 σ]
  exact ov_at 9 rfl
theorem yS_s9 (Y : YS κ h b cI) {σ : SS} : ∀ f, hset (κ.HP σ) (b + 9) (.inl (cI, 201, .inl f)) = κ.HP (sA σ 9 f) := fun _ => yS_set Y 9 _ (by decide) rfl
theorem yS_10 (Y : YS κ h b cI) {σ : SS} : κ.HP σ (b + 10) = .inl (cI, 201, .inl (σ.1 10)) := by
  rw [Y.1 σ]
  exact ov_at 10 rfl
theorem yS_s10 (Y : YS κ h b cI) {σ : SS} : ∀ f, hset (κ.HP σ) (b + 10) (.inl (cI, 201, .inl f)) = κ.HP (sA σ 10 f) := fun _ => yS_set Y 10 _ (by decide) rfl
theorem yS_11 (Y : YS κ h b cI) {σ : SS} : κ.HP σ (b + 11) = .inl (cI, 33, .inl (σ.1 11)) := by
  rw [Y.1 σ]
  exact ov_at 11 rfl
theorem yS_s11 (Y : YS κ h b cI) {σ : SS} : ∀ f, hset (κ.HP σ) (b + 11) (.inl (cI, 33, .inl f)) = κ.HP (sA σ 11 f) := fun _ => yS_set Y 11 _ (by decide) rfl
theorem yS_12 (Y : YS κ h b cI) {σ : SS} : κ.HP σ (b + 12) = .inr (4, [.ref (κ.S0 + (b + 13)), .ref (κ.S0 + (b + 14)), .ref (κ.S0 + (b + 15)), .ref (κ.S0 + (b + 16)), .ref (κ.S0 + (b + 17)), .ref (κ.S0 + (b + 18)), .int (σ.2 3), .int (σ.2 4), .int (σ.2 5), .int (σ.2 6), .int (σ.2 7)]) := by
  rw [Y.1 σ]
  exact ov_at 12 rfl
theorem yS_p12_6 (Y : YS κ h b cI) {σ : SS} : ∀ v, hset (κ.HP σ) (b + 12) (.inr (4, [.ref (κ.S0 + (b + 13)), .ref (κ.S0 + (b + 14)), .ref (κ.S0 + (b + 15)), .ref (κ.S0 + (b + 16)), .ref (κ.S0 + (b + 17)), .ref (κ.S0 + (b + 18)), .int (σ.2 3), .int (σ.2 4), .int (σ.2 5), .int (σ.2 6), .int (σ.2 7)].set 6 (.int v))) = κ.HP (sN σ 3 v) := fun _ => yS_set Y 12 _ (by decide) rfl
theorem yS_p12_7 (Y : YS κ h b cI) {σ : SS} : ∀ v, hset (κ.HP σ) (b + 12) (.inr (4, [.ref (κ.S0 + (b + 13)), .ref (κ.S0 + (b + 14)), .ref (κ.S0 + (b + 15)), .ref (κ.S0 + (b + 16)), .ref (κ.S0 + (b + 17)), .ref (κ.S0 + (b + 18)), .int (σ.2 3), .int (σ.2 4), .int (σ.2 5), .int (σ.2 6), .int (σ.2 7)].set 7 (.int v))) = κ.HP (sN σ 4 v) := fun _ => yS_set Y 12 _ (by decide) rfl
theorem yS_p12_8 (Y : YS κ h b cI) {σ : SS} : ∀ v, hset (κ.HP σ) (b + 12) (.inr (4, [.ref (κ.S0 + (b + 13)), .ref (κ.S0 + (b + 14)), .ref (κ.S0 + (b + 15)), .ref (κ.S0 + (b + 16)), .ref (κ.S0 + (b + 17)), .ref (κ.S0 + (b + 18)), .int (σ.2 3), .int (σ.2 4), .int (σ.2 5), .int (σ.2 6), .int (σ.2 7)].set 8 (.int v))) = κ.HP (sN σ 5 v) := fun _ => yS_set Y 12 _ (by decide) rfl
theorem yS_p12_9 (Y : YS κ h b cI) {σ : SS} : ∀ v, hset (κ.HP σ) (b + 12) (.inr (4, [.ref (κ.S0 + (b + 13)), .ref (κ.S0 + (b + 14)), .ref (κ.S0 + (b + 15)), .ref (κ.S0 + (b + 16)), .ref (κ.S0 + (b + 17)), .ref (κ.S0 + (b + 18)), .int (σ.2 3), .int (σ.2 4), .int (σ.2 5), .int (σ.2 6), .int (σ.2 7)].set 9 (.int v))) = κ.HP (sN σ 6 v) := fun _ => yS_set Y 12 _ (by decide) rfl
theorem yS_p12_10 (Y : YS κ h b cI) {σ : SS} : ∀ v, hset (κ.HP σ) (b + 12) (.inr (4, [.ref (κ.S0 + (b + 13)), .ref (κ.S0 + (b + 14)), .ref (κ.S0 + (b + 15)), .ref (κ.S0 + (b + 16)), .ref (κ.S0 + (b + 17)), .ref (κ.S0 + (b + 18)), .int (σ.2 3), .int (σ.2 4), .int (σ.2 5), .int (σ.2 6), .int (σ.2 7)].set 10 (.int v))) = κ.HP (sN σ 7 v) := fun _ => yS_set Y 12 _ (by decide) rfl
theorem yS_13 (Y : YS κ h b cI) {σ : SS} : κ.HP σ (b + 13) = .inl (cI, 8, .inl (σ.1 13)) := by
  rw [Y.1 σ]
  exact ov_at 13 rfl
theorem yS_s13 (Y : YS κ h b cI) {σ : SS} : ∀ f, hset (κ.HP σ) (b + 13) (.inl (cI, 8, .inl f)) = κ.HP (sA σ 13 f) := fun _ => yS_set Y 13 _ (by decide) rfl
theorem yS_14 (Y : YS κ h b cI) {σ : SS} : κ.HP σ (b + 14) = .inl (cI, 8, .inl (σ.1 14)) := by
  rw [Y.1 σ]
  exact ov_at 14 rfl
theorem yS_s14 (Y : YS κ h b cI) {σ : SS} : ∀ f, hset (κ.HP σ) (b + 14) (.inl (cI, 8, .inl f)) = κ.HP (sA σ 14 f) := fun _ => yS_set Y 14 _ (by decide) rfl
theorem yS_15 (Y : YS κ h b cI) {σ : SS} : κ.HP σ (b + 15) = .inl (cI, 8, .inl (σ.1 15)) := by
  rw [Y.1 σ]
  exact ov_at 15 rfl
theorem yS_s15 (Y : YS κ h b cI) {σ : SS} : ∀ f, hset (κ.HP σ) (b + 15) (.inl (cI, 8, .inl f)) = κ.HP (sA σ 15 f) := fun _ => yS_set Y 15 _ (by decide) rfl
theorem yS_16 (Y : YS κ h b cI) {σ : SS} : κ.HP σ (b + 16) = .inl (cI, 8, .inl (σ.1 16)) := by
  rw [Y.1 σ]
  exact ov_at 16 rfl
theorem yS_s16 (Y : YS κ h b cI) {σ : SS} : ∀ f, hset (κ.HP σ) (b + 16) (.inl (cI, 8, .inl f)) = κ.HP (sA σ 16 f) := fun _ => yS_set Y 16 _ (by decide) rfl
theorem yS_17 (Y : YS κ h b cI) {σ : SS} : κ.HP σ (b + 17) = .inl (cI, 8, .inl (σ.1 17)) := by
  rw [Y.1 σ]
  exact ov_at 17 rfl
theorem yS_s17 (Y : YS κ h b cI) {σ : SS} : ∀ f, hset (κ.HP σ) (b + 17) (.inl (cI, 8, .inl f)) = κ.HP (sA σ 17 f) := fun _ => yS_set Y 17 _ (by decide) rfl
theorem yS_18 (Y : YS κ h b cI) {σ : SS} : κ.HP σ (b + 18) = .inl (cI, 8, .inl (σ.1 18)) := by
  rw [Y.1 σ]
  exact ov_at 18 rfl
theorem yS_s18 (Y : YS κ h b cI) {σ : SS} : ∀ f, hset (κ.HP σ) (b + 18) (.inl (cI, 8, .inl f)) = κ.HP (sA σ 18 f) := fun _ => yS_set Y 18 _ (by decide) rfl
theorem yS_19 (Y : YS κ h b cI) {σ : SS} : κ.HP σ (b + 19) = .inl (cI, 4, .inl (σ.1 19)) := by
  rw [Y.1 σ]
  exact ov_at 19 rfl
theorem yS_s19 (Y : YS κ h b cI) {σ : SS} : ∀ f, hset (κ.HP σ) (b + 19) (.inl (cI, 4, .inl f)) = κ.HP (sA σ 19 f) := fun _ => yS_set Y 19 _ (by decide) rfl
theorem yS_20 (Y : YS κ h b cI) {σ : SS} : κ.HP σ (b + 20) = .inl (cI, 4, .inl (σ.1 20)) := by
  rw [Y.1 σ]
  exact ov_at 20 rfl
theorem yS_s20 (Y : YS κ h b cI) {σ : SS} : ∀ f, hset (κ.HP σ) (b + 20) (.inl (cI, 4, .inl f)) = κ.HP (sA σ 20 f) := fun _ => yS_set Y 20 _ (by decide) rfl
theorem yS_21 (Y : YS κ h b cI) {σ : SS} : κ.HP σ (b + 21) = .inl (cI, 33, .inl (σ.1 21)) := by
  rw [Y.1 σ]
  exact ov_at 21 rfl
theorem yS_s21 (Y : YS κ h b cI) {σ : SS} : ∀ f, hset (κ.HP σ) (b + 21) (.inl (cI, 33, .inl f)) = κ.HP (sA σ 21 f) := fun _ => yS_set Y 21 _ (by decide) rfl
end YS
section YM
variable {κ : XCtx MS} {h : Nat → va_E} {b : Nat} {cI cZ : ClassId}
def YM (κ : XCtx MS) (h : Nat → va_E) (b : Nat) (cI cZ : ClassId) : Prop := (∀ σ, κ.HP σ = ov h b (ml κ.S0 cI cZ b σ)) ∧ (∀ σ, b + 8 ≤ κ.HC σ) ∧ κ.tys[0]? = some (cI, .int) ∧ κ.tys[2]? = some (cZ, .boolean)
theorem yM_hp (Y : YM κ h b cI cZ) (σ : MS) : κ.HP σ = ov h b (ml κ.S0 cI cZ b σ) := Y.1 σ
theorem yM_hb (Y : YM κ h b cI cZ) (σ : MS) : b + 8 ≤ κ.HC σ := Y.2.1 σ
theorem yM_ht (Y : YM κ h b cI cZ) : κ.tys[0]? = some (cI, .int) := Y.2.2.1
theorem yM_htz (Y : YM κ h b cI cZ) : κ.tys[2]? = some (cZ, .boolean) := Y.2.2.2
theorem yM_l (Y : YM κ h b cI cZ) {σ : MS} (m : Nat) (hm : m < 8) : b + m < κ.HC σ := Nat.lt_of_lt_of_le (Nat.add_lt_add_left hm b) (Y.2.1 σ)
theorem yM_set (Y : YM κ h b cI cZ) {σ σ1 : MS} (m : Nat) (v : va_E) (hm : m < 8) (e : (ml κ.S0 cI cZ b σ).set m v = ml κ.S0 cI cZ b σ1) : hset (κ.HP σ) (b + m) v = κ.HP σ1 := by
  rw [Y.1 σ, Y.1 σ1]
  exact ov_eqset m v hm e
theorem yM_0 (Y : YM κ h b cI cZ) {σ : MS} : κ.HP σ (b + 0) = .inr (6, [.ref (κ.S0 + (b + 1)), .ref (κ.S0 + (b + 2)), .ref (κ.S0 + (b + 3)), .int (σ.2 0), .ref (κ.S0 + (b + 4)), .int (σ.2 1), .ref (κ.S0 + (b + 5)), .int (σ.2 2), .ref (κ.S0 + (b + 6)), .int (σ.2 3), .int (σ.2 4), .int (σ.2 5), .int (σ.2 6), .ref (κ.S0 + (b + 7)), .int (σ.2 7)]) := by
  rw [Y.1 σ]
  exact ov_at 0 rfl
theorem yM_p0_3 (Y : YM κ h b cI cZ) {σ : MS} : ∀ v, hset (κ.HP σ) (b + 0) (.inr (6, [.ref (κ.S0 + (b + 1)), .ref (κ.S0 + (b + 2)), .ref (κ.S0 + (b + 3)), .int (σ.2 0), .ref (κ.S0 + (b + 4)), .int (σ.2 1), .ref (κ.S0 + (b + 5)), .int (σ.2 2), .ref (κ.S0 + (b + 6)), .int (σ.2 3), .int (σ.2 4), .int (σ.2 5), .int (σ.2 6), .ref (κ.S0 + (b + 7)), .int (σ.2 7)].set 3 (.int v))) = κ.HP (sN σ 0 v) := fun _ => yM_set Y 0 _ (by decide) rfl
theorem yM_p0_5 (Y : YM κ h b cI cZ) {σ : MS} : ∀ v, hset (κ.HP σ) (b + 0) (.inr (6, [.ref (κ.S0 + (b + 1)), .ref (κ.S0 + (b + 2)), .ref (κ.S0 + (b + 3)), .int (σ.2 0), .ref (κ.S0 + (b + 4)), .int (σ.2 1), .ref (κ.S0 + (b + 5)), .int (σ.2 2), .ref (κ.S0 + (b + 6)), .int (σ.2 3), .int (σ.2 4), .int (σ.2 5), .int (σ.2 6), .ref (κ.S0 + (b + 7)), .int (σ.2 7)].set 5 (.int v))) = κ.HP (sN σ 1 v) := fun _ => yM_set Y 0 _ (by decide) rfl
theorem yM_p0_7 (Y : YM κ h b cI cZ) {σ : MS} : ∀ v, hset (κ.HP σ) (b + 0) (.inr (6, [.ref (κ.S0 + (b + 1)), .ref (κ.S0 + (b + 2)), .ref (κ.S0 + (b + 3)), .int (σ.2 0), .ref (κ.S0 + (b + 4)), .int (σ.2 1), .ref (κ.S0 + (b + 5)), .int (σ.2 2), .ref (κ.S0 + (b + 6)), .int (σ.2 3), .int (σ.2 4), .int (σ.2 5), .int (σ.2 6), .ref (κ.S0 + (b + 7)), .int (σ.2 7)].set 7 (.int v))) = κ.HP (sN σ 2 v) := fun _ => yM_set Y 0 _ (by decide) rfl
theorem yM_p0_9 (Y : YM κ h b cI cZ) {σ : MS} : ∀ v, hset (κ.HP σ) (b + 0) (.inr (6, [.ref (κ.S0 + (b + 1)), .ref (κ.S0 + (b + 2)), .ref (κ.S0 + (b + 3)), .int (σ.2 0), .ref (κ.S0 + (b + 4)), .int (σ.2 1), .ref (κ.S0 + (b + 5)), .int (σ.2 2), .ref (κ.S0 + (b + 6)), .int (σ.2 3), .int (σ.2 4), .int (σ.2 5), .int (σ.2 6), .ref (κ.S0 + (b + 7)), .int (σ.2 7)].set 9 (.int v))) = κ.HP (sN σ 3 v) := fun _ => yM_set Y 0 _ (by decide) rfl
theorem yM_p0_10 (Y : YM κ h b cI cZ) {σ : MS} : ∀ v, hset (κ.HP σ) (b + 0) (.inr (6, [.ref (κ.S0 + (b + 1)), .ref (κ.S0 + (b + 2)), .ref (κ.S0 + (b + 3)), .int (σ.2 0), .ref (κ.S0 + (b + 4)), .int (σ.2 1), .ref (κ.S0 + (b + 5)), .int (σ.2 2), .ref (κ.S0 + (b + 6)), .int (σ.2 3), .int (σ.2 4), .int (σ.2 5), .int (σ.2 6), .ref (κ.S0 + (b + 7)), .int (σ.2 7)].set 10 (.int v))) = κ.HP (sN σ 4 v) := fun _ => yM_set Y 0 _ (by decide) rfl
theorem yM_p0_11 (Y : YM κ h b cI cZ) {σ : MS} : ∀ v, hset (κ.HP σ) (b + 0) (.inr (6, [.ref (κ.S0 + (b + 1)), .ref (κ.S0 + (b + 2)), .ref (κ.S0 + (b + 3)), .int (σ.2 0), .ref (κ.S0 + (b + 4)), .int (σ.2 1), .ref (κ.S0 + (b + 5)), .int (σ.2 2), .ref (κ.S0 + (b + 6)), .int (σ.2 3), .int (σ.2 4), .int (σ.2 5), .int (σ.2 6), .ref (κ.S0 + (b + 7)), .int (σ.2 7)].set 11 (.int v))) = κ.HP (sN σ 5 v) := fun _ => yM_set Y 0 _ (by decide) rfl
theorem yM_p0_12 (Y : YM κ h b cI cZ) {σ : MS} : ∀ v, hset (κ.HP σ) (b + 0) (.inr (6, [.ref (κ.S0 + (b + 1)), .ref (κ.S0 + (b + 2)), .ref (κ.S0 + (b + 3)), .int (σ.2 0), .ref (κ.S0 + (b + 4)), .int (σ.2 1), .ref (κ.S0 + (b + 5)), .int (σ.2 2), .ref (κ.S0 + (b + 6)), .int (σ.2 3), .int (σ.2 4), .int (σ.2 5), .int (σ.2 6), .ref (κ.S0 + (b + 7)), .int (σ.2 7)].set 12 (.int v))) = κ.HP (sN σ 6 v) := fun _ => yM_set Y 0 _ (by decide) rfl
theorem yM_p0_14 (Y : YM κ h b cI cZ) {σ : MS} : ∀ v, hset (κ.HP σ) (b + 0) (.inr (6, [.ref (κ.S0 + (b + 1)), .ref (κ.S0 + (b + 2)), .ref (κ.S0 + (b + 3)), .int (σ.2 0), .ref (κ.S0 + (b + 4)), .int (σ.2 1), .ref (κ.S0 + (b + 5)), .int (σ.2 2), .ref (κ.S0 + (b + 6)), .int (σ.2 3), .int (σ.2 4), .int (σ.2 5), .int (σ.2 6), .ref (κ.S0 + (b + 7)), .int (σ.2 7)].set 14 (.int v))) = κ.HP (sN σ 7 v) := fun _ => yM_set Y 0 _ (by decide) rfl
theorem yM_1 (Y : YM κ h b cI cZ) {σ : MS} : κ.HP σ (b + 1) = .inl (cI, 2204, .inl (σ.1 1)) := by
  rw [Y.1 σ]
  exact ov_at 1 rfl
theorem yM_s1 (Y : YM κ h b cI cZ) {σ : MS} : ∀ f, hset (κ.HP σ) (b + 1) (.inl (cI, 2204, .inl f)) = κ.HP (sA σ 1 f) := fun _ => yM_set Y 1 _ (by decide) rfl
theorem yM_2 (Y : YM κ h b cI cZ) {σ : MS} : κ.HP σ (b + 2) = .inl (cI, 2204, .inl (σ.1 2)) := by
  rw [Y.1 σ]
  exact ov_at 2 rfl
theorem yM_s2 (Y : YM κ h b cI cZ) {σ : MS} : ∀ f, hset (κ.HP σ) (b + 2) (.inl (cI, 2204, .inl f)) = κ.HP (sA σ 2 f) := fun _ => yM_set Y 2 _ (by decide) rfl
theorem yM_3 (Y : YM κ h b cI cZ) {σ : MS} : κ.HP σ (b + 3) = .inl (cI, 8816, .inl (σ.1 3)) := by
  rw [Y.1 σ]
  exact ov_at 3 rfl
theorem yM_s3 (Y : YM κ h b cI cZ) {σ : MS} : ∀ f, hset (κ.HP σ) (b + 3) (.inl (cI, 8816, .inl f)) = κ.HP (sA σ 3 f) := fun _ => yM_set Y 3 _ (by decide) rfl
theorem yM_4 (Y : YM κ h b cI cZ) {σ : MS} : κ.HP σ (b + 4) = .inl (cI, 2204, .inl (σ.1 4)) := by
  rw [Y.1 σ]
  exact ov_at 4 rfl
theorem yM_s4 (Y : YM κ h b cI cZ) {σ : MS} : ∀ f, hset (κ.HP σ) (b + 4) (.inl (cI, 2204, .inl f)) = κ.HP (sA σ 4 f) := fun _ => yM_set Y 4 _ (by decide) rfl
theorem yM_5 (Y : YM κ h b cI cZ) {σ : MS} : κ.HP σ (b + 5) = .inl (cI, 60, .inl (σ.1 5)) := by
  rw [Y.1 σ]
  exact ov_at 5 rfl
theorem yM_s5 (Y : YM κ h b cI cZ) {σ : MS} : ∀ f, hset (κ.HP σ) (b + 5) (.inl (cI, 60, .inl f)) = κ.HP (sA σ 5 f) := fun _ => yM_set Y 5 _ (by decide) rfl
theorem yM_6 (Y : YM κ h b cI cZ) {σ : MS} : κ.HP σ (b + 6) = .inl (cZ, 201, .inl (σ.1 6)) := by
  rw [Y.1 σ]
  exact ov_at 6 rfl
theorem yM_s6 (Y : YM κ h b cI cZ) {σ : MS} : ∀ f, hset (κ.HP σ) (b + 6) (.inl (cZ, 201, .inl f)) = κ.HP (sA σ 6 f) := fun _ => yM_set Y 6 _ (by decide) rfl
theorem yM_7 (Y : YM κ h b cI cZ) {σ : MS} : κ.HP σ (b + 7) = .inl (cI, 4, .inl (σ.1 7)) := by
  rw [Y.1 σ]
  exact ov_at 7 rfl
theorem yM_s7 (Y : YM κ h b cI cZ) {σ : MS} : ∀ f, hset (κ.HP σ) (b + 7) (.inl (cI, 4, .inl f)) = κ.HP (sA σ 7 f) := fun _ => yM_set Y 7 _ (by decide) rfl
end YM
section YC
variable {κ : XCtx CS} {h : Nat → va_E} {b : Nat} {cI cC cS' : ClassId}
def YC (κ : XCtx CS) (h : Nat → va_E) (b : Nat) (cI cC cS' : ClassId) : Prop := (∀ σ, κ.HP σ = ov h b (cl κ.S0 cI cC cS' b σ)) ∧ (∀ σ, b + 159 ≤ κ.HC σ) ∧ κ.tys[0]? = some (cI, .int) ∧ κ.tys[1]? = some (cC, .char) ∧ κ.tys[3]? = some (cS', .object "AppendZones$State")
theorem yC_hp (Y : YC κ h b cI cC cS') (σ : CS) : κ.HP σ = ov h b (cl κ.S0 cI cC cS' b σ) := Y.1 σ
theorem yC_hb (Y : YC κ h b cI cC cS') (σ : CS) : b + 159 ≤ κ.HC σ := Y.2.1 σ
theorem yC_ht (Y : YC κ h b cI cC cS') : κ.tys[0]? = some (cI, .int) := Y.2.2.1
theorem yC_htc (Y : YC κ h b cI cC cS') : κ.tys[1]? = some (cC, .char) := Y.2.2.2.1
theorem yC_hts (Y : YC κ h b cI cC cS') : κ.tys[3]? = some (cS', .object "AppendZones$State") := Y.2.2.2.2
theorem yC_l (Y : YC κ h b cI cC cS') {σ : CS} (m : Nat) (hm : m < 159) : b + m < κ.HC σ := Nat.lt_of_lt_of_le (Nat.add_lt_add_left hm b) (Y.2.1 σ)
theorem yC_set (Y : YC κ h b cI cC cS') {σ σ1 : CS} (m : Nat) (v : va_E) (hm : m < 159) (e : (cl κ.S0 cI cC cS' b σ).set m v = cl κ.S0 cI cC cS' b σ1) : hset (κ.HP σ) (b + m) v = κ.HP σ1 := by
  rw [Y.1 σ, Y.1 σ1]
  exact ov_eqset m v (by rw [cl_len]; exact hm) e
theorem yC_e0 (Y : YC κ h b cI cC cS') (σ : CS) : κ.HP σ = ov h b (([] : List va_E) ++ (.inr (5, [.ref (κ.S0 + (b + 1)), .ref (κ.S0 + (b + 23)), .int (σ.2.2 0), .ref (κ.S0 + (b + 45)), .ref (κ.S0 + (b + 157))]) :: (gl κ.S0 cI (b + 1) (σ.1 0) ++ (gl κ.S0 cI (b + 23) (σ.1 2) ++ ([.inr (1, [.ref (κ.S0 + (b + 46)), .int (σ.2.2 1), .int (σ.2.2 2)])] ++ ([.inl (cS', 5, .inr (.inr (.inr (.inr (fun j => if j < 5 then some (κ.S0 + (b + 47 + 22 * j)) else none)))))] ++ (gl κ.S0 cI (b + 47) (σ.1 3) ++ (gl κ.S0 cI (b + 69) (σ.1 4) ++ (gl κ.S0 cI (b + 91) (σ.1 5) ++ (gl κ.S0 cI (b + 113) (σ.1 6) ++ (gl κ.S0 cI (b + 135) (σ.1 7) ++ ([.inr (2, [.ref (κ.S0 + (b + 158)), .int (σ.2.2 3)])] ++ ([.inl (cC, 60, .inl (σ.2.1))])))))))))) : List va_E))) := by
  rw [Y.1 σ]
  simp only [cl, List.append_assoc, List.cons_append, List.nil_append, List.append_nil]
theorem yC_0 (Y : YC κ h b cI cC cS') {σ : CS} : κ.HP σ (b + 0) = .inr (5, [.ref (κ.S0 + (b + 1)), .ref (κ.S0 + (b + 23)), .int (σ.2.2 0), .ref (κ.S0 + (b + 45)), .ref (κ.S0 + (b + 157))]) := by
  rw [yC_e0 Y σ]
  exact ov_get ([] : List va_E) _ (gl κ.S0 cI (b + 1) (σ.1 0) ++ (gl κ.S0 cI (b + 23) (σ.1 2) ++ ([.inr (1, [.ref (κ.S0 + (b + 46)), .int (σ.2.2 1), .int (σ.2.2 2)])] ++ ([.inl (cS', 5, .inr (.inr (.inr (.inr (fun j => if j < 5 then some (κ.S0 + (b + 47 + 22 * j)) else none)))))] ++ (gl κ.S0 cI (b + 47) (σ.1 3) ++ (gl κ.S0 cI (b + 69) (σ.1 4) ++ (gl κ.S0 cI (b + 91) (σ.1 5) ++ (gl κ.S0 cI (b + 113) (σ.1 6) ++ (gl κ.S0 cI (b + 135) (σ.1 7) ++ ([.inr (2, [.ref (κ.S0 + (b + 158)), .int (σ.2.2 3)])] ++ ([.inl (cC, 60, .inl (σ.2.1))])))))))))) : List va_E) 0 (by simp only [List.length_append, gl_len, List.length_cons, List.length_nil])
theorem yC_p0_2 (Y : YC κ h b cI cC cS') {σ : CS} : ∀ v, hset (κ.HP σ) (b + 0) (.inr (5, [.ref (κ.S0 + (b + 1)), .ref (κ.S0 + (b + 23)), .int (σ.2.2 0), .ref (κ.S0 + (b + 45)), .ref (κ.S0 + (b + 157))].set 2 (.int v))) = κ.HP (cN σ 0 v) := fun v => by
  rw [yC_e0 Y σ, yC_e0 Y (cN σ 0 v)]
  exact ov_one ([] : List va_E) _ _ (gl κ.S0 cI (b + 1) (σ.1 0) ++ (gl κ.S0 cI (b + 23) (σ.1 2) ++ ([.inr (1, [.ref (κ.S0 + (b + 46)), .int (σ.2.2 1), .int (σ.2.2 2)])] ++ ([.inl (cS', 5, .inr (.inr (.inr (.inr (fun j => if j < 5 then some (κ.S0 + (b + 47 + 22 * j)) else none)))))] ++ (gl κ.S0 cI (b + 47) (σ.1 3) ++ (gl κ.S0 cI (b + 69) (σ.1 4) ++ (gl κ.S0 cI (b + 91) (σ.1 5) ++ (gl κ.S0 cI (b + 113) (σ.1 6) ++ (gl κ.S0 cI (b + 135) (σ.1 7) ++ ([.inr (2, [.ref (κ.S0 + (b + 158)), .int (σ.2.2 3)])] ++ ([.inl (cC, 60, .inl (σ.2.1))])))))))))) : List va_E) 0 (by simp only [List.length_append, gl_len, List.length_cons, List.length_nil])
theorem yC_e45 (Y : YC κ h b cI cC cS') (σ : CS) : κ.HP σ = ov h b (([.inr (5, [.ref (κ.S0 + (b + 1)), .ref (κ.S0 + (b + 23)), .int (σ.2.2 0), .ref (κ.S0 + (b + 45)), .ref (κ.S0 + (b + 157))])] ++ (gl κ.S0 cI (b + 1) (σ.1 0) ++ (gl κ.S0 cI (b + 23) (σ.1 2))) : List va_E) ++ (.inr (1, [.ref (κ.S0 + (b + 46)), .int (σ.2.2 1), .int (σ.2.2 2)]) :: ([.inl (cS', 5, .inr (.inr (.inr (.inr (fun j => if j < 5 then some (κ.S0 + (b + 47 + 22 * j)) else none)))))] ++ (gl κ.S0 cI (b + 47) (σ.1 3) ++ (gl κ.S0 cI (b + 69) (σ.1 4) ++ (gl κ.S0 cI (b + 91) (σ.1 5) ++ (gl κ.S0 cI (b + 113) (σ.1 6) ++ (gl κ.S0 cI (b + 135) (σ.1 7) ++ ([.inr (2, [.ref (κ.S0 + (b + 158)), .int (σ.2.2 3)])] ++ ([.inl (cC, 60, .inl (σ.2.1))]))))))) : List va_E))) := by
  rw [Y.1 σ]
  simp only [cl, List.append_assoc, List.cons_append, List.nil_append, List.append_nil]
theorem yC_45 (Y : YC κ h b cI cC cS') {σ : CS} : κ.HP σ (b + 45) = .inr (1, [.ref (κ.S0 + (b + 46)), .int (σ.2.2 1), .int (σ.2.2 2)]) := by
  rw [yC_e45 Y σ]
  exact ov_get ([.inr (5, [.ref (κ.S0 + (b + 1)), .ref (κ.S0 + (b + 23)), .int (σ.2.2 0), .ref (κ.S0 + (b + 45)), .ref (κ.S0 + (b + 157))])] ++ (gl κ.S0 cI (b + 1) (σ.1 0) ++ (gl κ.S0 cI (b + 23) (σ.1 2))) : List va_E) _ ([.inl (cS', 5, .inr (.inr (.inr (.inr (fun j => if j < 5 then some (κ.S0 + (b + 47 + 22 * j)) else none)))))] ++ (gl κ.S0 cI (b + 47) (σ.1 3) ++ (gl κ.S0 cI (b + 69) (σ.1 4) ++ (gl κ.S0 cI (b + 91) (σ.1 5) ++ (gl κ.S0 cI (b + 113) (σ.1 6) ++ (gl κ.S0 cI (b + 135) (σ.1 7) ++ ([.inr (2, [.ref (κ.S0 + (b + 158)), .int (σ.2.2 3)])] ++ ([.inl (cC, 60, .inl (σ.2.1))]))))))) : List va_E) 45 (by simp only [List.length_append, gl_len, List.length_cons, List.length_nil])
theorem yC_p45_1 (Y : YC κ h b cI cC cS') {σ : CS} : ∀ v, hset (κ.HP σ) (b + 45) (.inr (1, [.ref (κ.S0 + (b + 46)), .int (σ.2.2 1), .int (σ.2.2 2)].set 1 (.int v))) = κ.HP (cN σ 1 v) := fun v => by
  rw [yC_e45 Y σ, yC_e45 Y (cN σ 1 v)]
  exact ov_one ([.inr (5, [.ref (κ.S0 + (b + 1)), .ref (κ.S0 + (b + 23)), .int (σ.2.2 0), .ref (κ.S0 + (b + 45)), .ref (κ.S0 + (b + 157))])] ++ (gl κ.S0 cI (b + 1) (σ.1 0) ++ (gl κ.S0 cI (b + 23) (σ.1 2))) : List va_E) _ _ ([.inl (cS', 5, .inr (.inr (.inr (.inr (fun j => if j < 5 then some (κ.S0 + (b + 47 + 22 * j)) else none)))))] ++ (gl κ.S0 cI (b + 47) (σ.1 3) ++ (gl κ.S0 cI (b + 69) (σ.1 4) ++ (gl κ.S0 cI (b + 91) (σ.1 5) ++ (gl κ.S0 cI (b + 113) (σ.1 6) ++ (gl κ.S0 cI (b + 135) (σ.1 7) ++ ([.inr (2, [.ref (κ.S0 + (b + 158)), .int (σ.2.2 3)])] ++ ([.inl (cC, 60, .inl (σ.2.1))]))))))) : List va_E) 45 (by simp only [List.length_append, gl_len, List.length_cons, List.length_nil])
theorem yC_p45_2 (Y : YC κ h b cI cC cS') {σ : CS} : ∀ v, hset (κ.HP σ) (b + 45) (.inr (1, [.ref (κ.S0 + (b + 46)), .int (σ.2.2 1), .int (σ.2.2 2)].set 2 (.int v))) = κ.HP (cN σ 2 v) := fun v => by
  rw [yC_e45 Y σ, yC_e45 Y (cN σ 2 v)]
  exact ov_one ([.inr (5, [.ref (κ.S0 + (b + 1)), .ref (κ.S0 + (b + 23)), .int (σ.2.2 0), .ref (κ.S0 + (b + 45)), .ref (κ.S0 + (b + 157))])] ++ (gl κ.S0 cI (b + 1) (σ.1 0) ++ (gl κ.S0 cI (b + 23) (σ.1 2))) : List va_E) _ _ ([.inl (cS', 5, .inr (.inr (.inr (.inr (fun j => if j < 5 then some (κ.S0 + (b + 47 + 22 * j)) else none)))))] ++ (gl κ.S0 cI (b + 47) (σ.1 3) ++ (gl κ.S0 cI (b + 69) (σ.1 4) ++ (gl κ.S0 cI (b + 91) (σ.1 5) ++ (gl κ.S0 cI (b + 113) (σ.1 6) ++ (gl κ.S0 cI (b + 135) (σ.1 7) ++ ([.inr (2, [.ref (κ.S0 + (b + 158)), .int (σ.2.2 3)])] ++ ([.inl (cC, 60, .inl (σ.2.1))]))))))) : List va_E) 45 (by simp only [List.length_append, gl_len, List.length_cons, List.length_nil])
theorem yC_e46 (Y : YC κ h b cI cC cS') (σ : CS) : κ.HP σ = ov h b (([.inr (5, [.ref (κ.S0 + (b + 1)), .ref (κ.S0 + (b + 23)), .int (σ.2.2 0), .ref (κ.S0 + (b + 45)), .ref (κ.S0 + (b + 157))])] ++ (gl κ.S0 cI (b + 1) (σ.1 0) ++ (gl κ.S0 cI (b + 23) (σ.1 2) ++ ([.inr (1, [.ref (κ.S0 + (b + 46)), .int (σ.2.2 1), .int (σ.2.2 2)])]))) : List va_E) ++ (.inl (cS', 5, .inr (.inr (.inr (.inr (fun j => if j < 5 then some (κ.S0 + (b + 47 + 22 * j)) else none))))) :: (gl κ.S0 cI (b + 47) (σ.1 3) ++ (gl κ.S0 cI (b + 69) (σ.1 4) ++ (gl κ.S0 cI (b + 91) (σ.1 5) ++ (gl κ.S0 cI (b + 113) (σ.1 6) ++ (gl κ.S0 cI (b + 135) (σ.1 7) ++ ([.inr (2, [.ref (κ.S0 + (b + 158)), .int (σ.2.2 3)])] ++ ([.inl (cC, 60, .inl (σ.2.1))])))))) : List va_E))) := by
  rw [Y.1 σ]
  simp only [cl, List.append_assoc, List.cons_append, List.nil_append, List.append_nil]
theorem yC_46 (Y : YC κ h b cI cC cS') {σ : CS} : κ.HP σ (b + 46) = .inl (cS', 5, .inr (.inr (.inr (.inr (fun j => if j < 5 then some (κ.S0 + (b + 47 + 22 * j)) else none))))) := by
  rw [yC_e46 Y σ]
  exact ov_get ([.inr (5, [.ref (κ.S0 + (b + 1)), .ref (κ.S0 + (b + 23)), .int (σ.2.2 0), .ref (κ.S0 + (b + 45)), .ref (κ.S0 + (b + 157))])] ++ (gl κ.S0 cI (b + 1) (σ.1 0) ++ (gl κ.S0 cI (b + 23) (σ.1 2) ++ ([.inr (1, [.ref (κ.S0 + (b + 46)), .int (σ.2.2 1), .int (σ.2.2 2)])]))) : List va_E) _ (gl κ.S0 cI (b + 47) (σ.1 3) ++ (gl κ.S0 cI (b + 69) (σ.1 4) ++ (gl κ.S0 cI (b + 91) (σ.1 5) ++ (gl κ.S0 cI (b + 113) (σ.1 6) ++ (gl κ.S0 cI (b + 135) (σ.1 7) ++ ([.inr (2, [.ref (κ.S0 + (b + 158)), .int (σ.2.2 3)])] ++ ([.inl (cC, 60, .inl (σ.2.1))])))))) : List va_E) 46 (by simp only [List.length_append, gl_len, List.length_cons, List.length_nil])
theorem yC_e157 (Y : YC κ h b cI cC cS') (σ : CS) : κ.HP σ = ov h b (([.inr (5, [.ref (κ.S0 + (b + 1)), .ref (κ.S0 + (b + 23)), .int (σ.2.2 0), .ref (κ.S0 + (b + 45)), .ref (κ.S0 + (b + 157))])] ++ (gl κ.S0 cI (b + 1) (σ.1 0) ++ (gl κ.S0 cI (b + 23) (σ.1 2) ++ ([.inr (1, [.ref (κ.S0 + (b + 46)), .int (σ.2.2 1), .int (σ.2.2 2)])] ++ ([.inl (cS', 5, .inr (.inr (.inr (.inr (fun j => if j < 5 then some (κ.S0 + (b + 47 + 22 * j)) else none)))))] ++ (gl κ.S0 cI (b + 47) (σ.1 3) ++ (gl κ.S0 cI (b + 69) (σ.1 4) ++ (gl κ.S0 cI (b + 91) (σ.1 5) ++ (gl κ.S0 cI (b + 113) (σ.1 6) ++ (gl κ.S0 cI (b + 135) (σ.1 7)))))))))) : List va_E) ++ (.inr (2, [.ref (κ.S0 + (b + 158)), .int (σ.2.2 3)]) :: ([.inl (cC, 60, .inl (σ.2.1))] : List va_E))) := by
  rw [Y.1 σ]
  simp only [cl, List.append_assoc, List.cons_append, List.nil_append, List.append_nil]
theorem yC_157 (Y : YC κ h b cI cC cS') {σ : CS} : κ.HP σ (b + 157) = .inr (2, [.ref (κ.S0 + (b + 158)), .int (σ.2.2 3)]) := by
  rw [yC_e157 Y σ]
  exact ov_get ([.inr (5, [.ref (κ.S0 + (b + 1)), .ref (κ.S0 + (b + 23)), .int (σ.2.2 0), .ref (κ.S0 + (b + 45)), .ref (κ.S0 + (b + 157))])] ++ (gl κ.S0 cI (b + 1) (σ.1 0) ++ (gl κ.S0 cI (b + 23) (σ.1 2) ++ ([.inr (1, [.ref (κ.S0 + (b + 46)), .int (σ.2.2 1), .int (σ.2.2 2)])] ++ ([.inl (cS', 5, .inr (.inr (.inr (.inr (fun j => if j < 5 then some (κ.S0 + (b + 47 + 22 * j)) else none)))))] ++ (gl κ.S0 cI (b + 47) (σ.1 3) ++ (gl κ.S0 cI (b + 69) (σ.1 4) ++ (gl κ.S0 cI (b + 91) (σ.1 5) ++ (gl κ.S0 cI (b + 113) (σ.1 6) ++ (gl κ.S0 cI (b + 135) (σ.1 7)))))))))) : List va_E) _ ([.inl (cC, 60, .inl (σ.2.1))] : List va_E) 157 (by simp only [List.length_append, gl_len, List.length_cons, List.length_nil])
theorem yC_p157_1 (Y : YC κ h b cI cC cS') {σ : CS} : ∀ v, hset (κ.HP σ) (b + 157) (.inr (2, [.ref (κ.S0 + (b + 158)), .int (σ.2.2 3)].set 1 (.int v))) = κ.HP (cN σ 3 v) := fun v => by
  rw [yC_e157 Y σ, yC_e157 Y (cN σ 3 v)]
  exact ov_one ([.inr (5, [.ref (κ.S0 + (b + 1)), .ref (κ.S0 + (b + 23)), .int (σ.2.2 0), .ref (κ.S0 + (b + 45)), .ref (κ.S0 + (b + 157))])] ++ (gl κ.S0 cI (b + 1) (σ.1 0) ++ (gl κ.S0 cI (b + 23) (σ.1 2) ++ ([.inr (1, [.ref (κ.S0 + (b + 46)), .int (σ.2.2 1), .int (σ.2.2 2)])] ++ ([.inl (cS', 5, .inr (.inr (.inr (.inr (fun j => if j < 5 then some (κ.S0 + (b + 47 + 22 * j)) else none)))))] ++ (gl κ.S0 cI (b + 47) (σ.1 3) ++ (gl κ.S0 cI (b + 69) (σ.1 4) ++ (gl κ.S0 cI (b + 91) (σ.1 5) ++ (gl κ.S0 cI (b + 113) (σ.1 6) ++ (gl κ.S0 cI (b + 135) (σ.1 7)))))))))) : List va_E) _ _ ([.inl (cC, 60, .inl (σ.2.1))] : List va_E) 157 (by simp only [List.length_append, gl_len, List.length_cons, List.length_nil])
theorem yC_e158 (Y : YC κ h b cI cC cS') (σ : CS) : κ.HP σ = ov h b (([.inr (5, [.ref (κ.S0 + (b + 1)), .ref (κ.S0 + (b + 23)), .int (σ.2.2 0), .ref (κ.S0 + (b + 45)), .ref (κ.S0 + (b + 157))])] ++ (gl κ.S0 cI (b + 1) (σ.1 0) ++ (gl κ.S0 cI (b + 23) (σ.1 2) ++ ([.inr (1, [.ref (κ.S0 + (b + 46)), .int (σ.2.2 1), .int (σ.2.2 2)])] ++ ([.inl (cS', 5, .inr (.inr (.inr (.inr (fun j => if j < 5 then some (κ.S0 + (b + 47 + 22 * j)) else none)))))] ++ (gl κ.S0 cI (b + 47) (σ.1 3) ++ (gl κ.S0 cI (b + 69) (σ.1 4) ++ (gl κ.S0 cI (b + 91) (σ.1 5) ++ (gl κ.S0 cI (b + 113) (σ.1 6) ++ (gl κ.S0 cI (b + 135) (σ.1 7) ++ ([.inr (2, [.ref (κ.S0 + (b + 158)), .int (σ.2.2 3)])])))))))))) : List va_E) ++ (.inl (cC, 60, .inl (σ.2.1)) :: ([] : List va_E))) := by
  rw [Y.1 σ]
  simp only [cl, List.append_assoc, List.cons_append, List.nil_append, List.append_nil]
theorem yC_158 (Y : YC κ h b cI cC cS') {σ : CS} : κ.HP σ (b + 158) = .inl (cC, 60, .inl (σ.2.1)) := by
  rw [yC_e158 Y σ]
  exact ov_get ([.inr (5, [.ref (κ.S0 + (b + 1)), .ref (κ.S0 + (b + 23)), .int (σ.2.2 0), .ref (κ.S0 + (b + 45)), .ref (κ.S0 + (b + 157))])] ++ (gl κ.S0 cI (b + 1) (σ.1 0) ++ (gl κ.S0 cI (b + 23) (σ.1 2) ++ ([.inr (1, [.ref (κ.S0 + (b + 46)), .int (σ.2.2 1), .int (σ.2.2 2)])] ++ ([.inl (cS', 5, .inr (.inr (.inr (.inr (fun j => if j < 5 then some (κ.S0 + (b + 47 + 22 * j)) else none)))))] ++ (gl κ.S0 cI (b + 47) (σ.1 3) ++ (gl κ.S0 cI (b + 69) (σ.1 4) ++ (gl κ.S0 cI (b + 91) (σ.1 5) ++ (gl κ.S0 cI (b + 113) (σ.1 6) ++ (gl κ.S0 cI (b + 135) (σ.1 7) ++ ([.inr (2, [.ref (κ.S0 + (b + 158)), .int (σ.2.2 3)])])))))))))) : List va_E) _ ([] : List va_E) 158 (by simp only [List.length_append, gl_len, List.length_cons, List.length_nil])
theorem yC_s158 (Y : YC κ h b cI cC cS') {σ : CS} : ∀ f, hset (κ.HP σ) (b + 158) (.inl (cC, 60, .inl f)) = κ.HP (cT σ f) := fun f => by
  rw [yC_e158 Y σ, yC_e158 Y (cT σ f)]
  exact ov_one ([.inr (5, [.ref (κ.S0 + (b + 1)), .ref (κ.S0 + (b + 23)), .int (σ.2.2 0), .ref (κ.S0 + (b + 45)), .ref (κ.S0 + (b + 157))])] ++ (gl κ.S0 cI (b + 1) (σ.1 0) ++ (gl κ.S0 cI (b + 23) (σ.1 2) ++ ([.inr (1, [.ref (κ.S0 + (b + 46)), .int (σ.2.2 1), .int (σ.2.2 2)])] ++ ([.inl (cS', 5, .inr (.inr (.inr (.inr (fun j => if j < 5 then some (κ.S0 + (b + 47 + 22 * j)) else none)))))] ++ (gl κ.S0 cI (b + 47) (σ.1 3) ++ (gl κ.S0 cI (b + 69) (σ.1 4) ++ (gl κ.S0 cI (b + 91) (σ.1 5) ++ (gl κ.S0 cI (b + 113) (σ.1 6) ++ (gl κ.S0 cI (b + 135) (σ.1 7) ++ ([.inr (2, [.ref (κ.S0 + (b + 158)), .int (σ.2.2 3)])])))))))))) : List va_E) _ _ ([] : List va_E) 158 (by simp only [List.length_append, gl_len, List.length_cons, List.length_nil])
theorem yC_f0 (Y : YC κ h b cI cC cS') (σ : CS) : κ.HP σ = ov h b (([.inr (5, [.ref (κ.S0 + (b + 1)), .ref (κ.S0 + (b + 23)), .int (σ.2.2 0), .ref (κ.S0 + (b + 45)), .ref (κ.S0 + (b + 157))])] : List va_E) ++ (gl κ.S0 cI (b + 1) (σ.1 0) ++ (gl κ.S0 cI (b + 23) (σ.1 2) ++ ([.inr (1, [.ref (κ.S0 + (b + 46)), .int (σ.2.2 1), .int (σ.2.2 2)])] ++ ([.inl (cS', 5, .inr (.inr (.inr (.inr (fun j => if j < 5 then some (κ.S0 + (b + 47 + 22 * j)) else none)))))] ++ (gl κ.S0 cI (b + 47) (σ.1 3) ++ (gl κ.S0 cI (b + 69) (σ.1 4) ++ (gl κ.S0 cI (b + 91) (σ.1 5) ++ (gl κ.S0 cI (b + 113) (σ.1 6) ++ (gl κ.S0 cI (b + 135) (σ.1 7) ++ ([.inr (2, [.ref (κ.S0 + (b + 158)), .int (σ.2.2 3)])] ++ ([.inl (cC, 60, .inl (σ.2.1))]))))))))) : List va_E))) := by
  rw [Y.1 σ]
  simp only [cl, List.append_assoc, List.cons_append, List.nil_append, List.append_nil]
theorem yC_g0 (Y : YC κ h b cI cC cS') (σ : CS) : κ.HP σ = ov (κ.HP σ) (b + 1) (gl κ.S0 cI (b + 1) (σ.1 0)) := by
  rw [yC_f0 Y σ]
  have e := ov_self (h := h) (b := b) ([.inr (5, [.ref (κ.S0 + (b + 1)), .ref (κ.S0 + (b + 23)), .int (σ.2.2 0), .ref (κ.S0 + (b + 45)), .ref (κ.S0 + (b + 157))])] : List va_E) (gl κ.S0 cI (b + 1) (σ.1 0)) (gl κ.S0 cI (b + 23) (σ.1 2) ++ ([.inr (1, [.ref (κ.S0 + (b + 46)), .int (σ.2.2 1), .int (σ.2.2 2)])] ++ ([.inl (cS', 5, .inr (.inr (.inr (.inr (fun j => if j < 5 then some (κ.S0 + (b + 47 + 22 * j)) else none)))))] ++ (gl κ.S0 cI (b + 47) (σ.1 3) ++ (gl κ.S0 cI (b + 69) (σ.1 4) ++ (gl κ.S0 cI (b + 91) (σ.1 5) ++ (gl κ.S0 cI (b + 113) (σ.1 6) ++ (gl κ.S0 cI (b + 135) (σ.1 7) ++ ([.inr (2, [.ref (κ.S0 + (b + 158)), .int (σ.2.2 3)])] ++ ([.inl (cC, 60, .inl (σ.2.1))]))))))))) : List va_E)
  have hn : (([.inr (5, [.ref (κ.S0 + (b + 1)), .ref (κ.S0 + (b + 23)), .int (σ.2.2 0), .ref (κ.S0 + (b + 45)), .ref (κ.S0 + (b + 157))])] : List va_E)).length = 1 := by simp only [List.length_append, gl_len, List.length_cons, List.length_nil]
  rw [hn] at e
  exact e
theorem yC_G0 (Y : YC κ h b cI cC cS') (σ : CS) (t : SS) : κ.HP (cS σ 0 t) = ov (κ.HP σ) (b + 1) (gl κ.S0 cI (b + 1) t) := by
  rw [yC_f0 Y σ, yC_f0 Y (cS σ 0 t)]
  have e := ov_part (h := h) (b := b) ([.inr (5, [.ref (κ.S0 + (b + 1)), .ref (κ.S0 + (b + 23)), .int (σ.2.2 0), .ref (κ.S0 + (b + 45)), .ref (κ.S0 + (b + 157))])] : List va_E) (gl κ.S0 cI (b + 1) (σ.1 0)) (gl κ.S0 cI (b + 23) (σ.1 2) ++ ([.inr (1, [.ref (κ.S0 + (b + 46)), .int (σ.2.2 1), .int (σ.2.2 2)])] ++ ([.inl (cS', 5, .inr (.inr (.inr (.inr (fun j => if j < 5 then some (κ.S0 + (b + 47 + 22 * j)) else none)))))] ++ (gl κ.S0 cI (b + 47) (σ.1 3) ++ (gl κ.S0 cI (b + 69) (σ.1 4) ++ (gl κ.S0 cI (b + 91) (σ.1 5) ++ (gl κ.S0 cI (b + 113) (σ.1 6) ++ (gl κ.S0 cI (b + 135) (σ.1 7) ++ ([.inr (2, [.ref (κ.S0 + (b + 158)), .int (σ.2.2 3)])] ++ ([.inl (cC, 60, .inl (σ.2.1))]))))))))) : List va_E) (gl κ.S0 cI (b + 1) t) rfl
  have hn : (([.inr (5, [.ref (κ.S0 + (b + 1)), .ref (κ.S0 + (b + 23)), .int (σ.2.2 0), .ref (κ.S0 + (b + 45)), .ref (κ.S0 + (b + 157))])] : List va_E)).length = 1 := by simp only [List.length_append, gl_len, List.length_cons, List.length_nil]
  rw [hn] at e
  exact e.symm
theorem yC_b0 (Y : YC κ h b cI cC cS') (σ : CS) : b + 1 + 22 ≤ κ.HC σ := Nat.le_trans (by omega) (Y.2.1 σ)
theorem yC_l0 (Y : YC κ h b cI cC cS') {σ : CS} (m : Nat) (hm : m < 22) : b + 1 + m < κ.HC σ := by have := Y.2.1 σ; omega
theorem yC_g0_0 (Y : YC κ h b cI cC cS') {σ : CS} : κ.HP σ (b + 1 + 0) = .inr (3, [.ref (κ.S0 + (b + 1 + 1)), .ref (κ.S0 + (b + 1 + 12)), .ref (κ.S0 + (b + 1 + 19)), .ref (κ.S0 + (b + 1 + 20)), .ref (κ.S0 + (b + 1 + 21)), .int ((σ.1 0).2 8), .int ((σ.1 0).2 9), .int ((σ.1 0).2 10)]) := by
  rw [yC_g0 Y σ]
  exact ov_at 0 rfl
theorem yC_g0_1 (Y : YC κ h b cI cC cS') {σ : CS} : κ.HP σ (b + 1 + 1) = .inr (0, [.ref (κ.S0 + (b + 1 + 2)), .ref (κ.S0 + (b + 1 + 3)), .ref (κ.S0 + (b + 1 + 4)), .ref (κ.S0 + (b + 1 + 5)), .ref (κ.S0 + (b + 1 + 6)), .ref (κ.S0 + (b + 1 + 7)), .ref (κ.S0 + (b + 1 + 8)), .ref (κ.S0 + (b + 1 + 9)), .int ((σ.1 0).2 0), .ref (κ.S0 + (b + 1 + 10)), .int ((σ.1 0).2 1), .ref (κ.S0 + (b + 1 + 11)), .int ((σ.1 0).2 2)]) := by
  rw [yC_g0 Y σ]
  exact ov_at 1 rfl
theorem yC_g0_6 (Y : YC κ h b cI cC cS') {σ : CS} : κ.HP σ (b + 1 + 6) = .inl (cI, 201, .inl ((σ.1 0).1 6)) := by
  rw [yC_g0 Y σ]
  exact ov_at 6 rfl
theorem yC_g0_12 (Y : YC κ h b cI cC cS') {σ : CS} : κ.HP σ (b + 1 + 12) = .inr (4, [.ref (κ.S0 + (b + 1 + 13)), .ref (κ.S0 + (b + 1 + 14)), .ref (κ.S0 + (b + 1 + 15)), .ref (κ.S0 + (b + 1 + 16)), .ref (κ.S0 + (b + 1 + 17)), .ref (κ.S0 + (b + 1 + 18)), .int ((σ.1 0).2 3), .int ((σ.1 0).2 4), .int ((σ.1 0).2 5), .int ((σ.1 0).2 6), .int ((σ.1 0).2 7)]) := by
  rw [yC_g0 Y σ]
  exact ov_at 12 rfl
theorem yC_f2 (Y : YC κ h b cI cC cS') (σ : CS) : κ.HP σ = ov h b (([.inr (5, [.ref (κ.S0 + (b + 1)), .ref (κ.S0 + (b + 23)), .int (σ.2.2 0), .ref (κ.S0 + (b + 45)), .ref (κ.S0 + (b + 157))])] ++ (gl κ.S0 cI (b + 1) (σ.1 0)) : List va_E) ++ (gl κ.S0 cI (b + 23) (σ.1 2) ++ ([.inr (1, [.ref (κ.S0 + (b + 46)), .int (σ.2.2 1), .int (σ.2.2 2)])] ++ ([.inl (cS', 5, .inr (.inr (.inr (.inr (fun j => if j < 5 then some (κ.S0 + (b + 47 + 22 * j)) else none)))))] ++ (gl κ.S0 cI (b + 47) (σ.1 3) ++ (gl κ.S0 cI (b + 69) (σ.1 4) ++ (gl κ.S0 cI (b + 91) (σ.1 5) ++ (gl κ.S0 cI (b + 113) (σ.1 6) ++ (gl κ.S0 cI (b + 135) (σ.1 7) ++ ([.inr (2, [.ref (κ.S0 + (b + 158)), .int (σ.2.2 3)])] ++ ([.inl (cC, 60, .inl (σ.2.1))])))))))) : List va_E))) := by
  rw [Y.1 σ]
  simp only [cl, List.append_assoc, List.cons_append, List.nil_append, List.append_nil]
theorem yC_g2 (Y : YC κ h b cI cC cS') (σ : CS) : κ.HP σ = ov (κ.HP σ) (b + 23) (gl κ.S0 cI (b + 23) (σ.1 2)) := by
  rw [yC_f2 Y σ]
  have e := ov_self (h := h) (b := b) ([.inr (5, [.ref (κ.S0 + (b + 1)), .ref (κ.S0 + (b + 23)), .int (σ.2.2 0), .ref (κ.S0 + (b + 45)), .ref (κ.S0 + (b + 157))])] ++ (gl κ.S0 cI (b + 1) (σ.1 0)) : List va_E) (gl κ.S0 cI (b + 23) (σ.1 2)) ([.inr (1, [.ref (κ.S0 + (b + 46)), .int (σ.2.2 1), .int (σ.2.2 2)])] ++ ([.inl (cS', 5, .inr (.inr (.inr (.inr (fun j => if j < 5 then some (κ.S0 + (b + 47 + 22 * j)) else none)))))] ++ (gl κ.S0 cI (b + 47) (σ.1 3) ++ (gl κ.S0 cI (b + 69) (σ.1 4) ++ (gl κ.S0 cI (b + 91) (σ.1 5) ++ (gl κ.S0 cI (b + 113) (σ.1 6) ++ (gl κ.S0 cI (b + 135) (σ.1 7) ++ ([.inr (2, [.ref (κ.S0 + (b + 158)), .int (σ.2.2 3)])] ++ ([.inl (cC, 60, .inl (σ.2.1))])))))))) : List va_E)
  have hn : (([.inr (5, [.ref (κ.S0 + (b + 1)), .ref (κ.S0 + (b + 23)), .int (σ.2.2 0), .ref (κ.S0 + (b + 45)), .ref (κ.S0 + (b + 157))])] ++ (gl κ.S0 cI (b + 1) (σ.1 0)) : List va_E)).length = 23 := by simp only [List.length_append, gl_len, List.length_cons, List.length_nil]
  rw [hn] at e
  exact e
theorem yC_G2 (Y : YC κ h b cI cC cS') (σ : CS) (t : SS) : κ.HP (cS σ 2 t) = ov (κ.HP σ) (b + 23) (gl κ.S0 cI (b + 23) t) := by
  rw [yC_f2 Y σ, yC_f2 Y (cS σ 2 t)]
  have e := ov_part (h := h) (b := b) ([.inr (5, [.ref (κ.S0 + (b + 1)), .ref (κ.S0 + (b + 23)), .int (σ.2.2 0), .ref (κ.S0 + (b + 45)), .ref (κ.S0 + (b + 157))])] ++ (gl κ.S0 cI (b + 1) (σ.1 0)) : List va_E) (gl κ.S0 cI (b + 23) (σ.1 2)) ([.inr (1, [.ref (κ.S0 + (b + 46)), .int (σ.2.2 1), .int (σ.2.2 2)])] ++ ([.inl (cS', 5, .inr (.inr (.inr (.inr (fun j => if j < 5 then some (κ.S0 + (b + 47 + 22 * j)) else none)))))] ++ (gl κ.S0 cI (b + 47) (σ.1 3) ++ (gl κ.S0 cI (b + 69) (σ.1 4) ++ (gl κ.S0 cI (b + 91) (σ.1 5) ++ (gl κ.S0 cI (b + 113) (σ.1 6) ++ (gl κ.S0 cI (b + 135) (σ.1 7) ++ ([.inr (2, [.ref (κ.S0 + (b + 158)), .int (σ.2.2 3)])] ++ ([.inl (cC, 60, .inl (σ.2.1))])))))))) : List va_E) (gl κ.S0 cI (b + 23) t) rfl
  have hn : (([.inr (5, [.ref (κ.S0 + (b + 1)), .ref (κ.S0 + (b + 23)), .int (σ.2.2 0), .ref (κ.S0 + (b + 45)), .ref (κ.S0 + (b + 157))])] ++ (gl κ.S0 cI (b + 1) (σ.1 0)) : List va_E)).length = 23 := by simp only [List.length_append, gl_len, List.length_cons, List.length_nil]
  rw [hn] at e
  exact e.symm
theorem yC_b2 (Y : YC κ h b cI cC cS') (σ : CS) : b + 23 + 22 ≤ κ.HC σ := Nat.le_trans (by omega) (Y.2.1 σ)
theorem yC_l2 (Y : YC κ h b cI cC cS') {σ : CS} (m : Nat) (hm : m < 22) : b + 23 + m < κ.HC σ := by have := Y.2.1 σ; omega
theorem yC_g2_0 (Y : YC κ h b cI cC cS') {σ : CS} : κ.HP σ (b + 23 + 0) = .inr (3, [.ref (κ.S0 + (b + 23 + 1)), .ref (κ.S0 + (b + 23 + 12)), .ref (κ.S0 + (b + 23 + 19)), .ref (κ.S0 + (b + 23 + 20)), .ref (κ.S0 + (b + 23 + 21)), .int ((σ.1 2).2 8), .int ((σ.1 2).2 9), .int ((σ.1 2).2 10)]) := by
  rw [yC_g2 Y σ]
  exact ov_at 0 rfl
theorem yC_g2_1 (Y : YC κ h b cI cC cS') {σ : CS} : κ.HP σ (b + 23 + 1) = .inr (0, [.ref (κ.S0 + (b + 23 + 2)), .ref (κ.S0 + (b + 23 + 3)), .ref (κ.S0 + (b + 23 + 4)), .ref (κ.S0 + (b + 23 + 5)), .ref (κ.S0 + (b + 23 + 6)), .ref (κ.S0 + (b + 23 + 7)), .ref (κ.S0 + (b + 23 + 8)), .ref (κ.S0 + (b + 23 + 9)), .int ((σ.1 2).2 0), .ref (κ.S0 + (b + 23 + 10)), .int ((σ.1 2).2 1), .ref (κ.S0 + (b + 23 + 11)), .int ((σ.1 2).2 2)]) := by
  rw [yC_g2 Y σ]
  exact ov_at 1 rfl
theorem yC_g2_6 (Y : YC κ h b cI cC cS') {σ : CS} : κ.HP σ (b + 23 + 6) = .inl (cI, 201, .inl ((σ.1 2).1 6)) := by
  rw [yC_g2 Y σ]
  exact ov_at 6 rfl
theorem yC_g2_12 (Y : YC κ h b cI cC cS') {σ : CS} : κ.HP σ (b + 23 + 12) = .inr (4, [.ref (κ.S0 + (b + 23 + 13)), .ref (κ.S0 + (b + 23 + 14)), .ref (κ.S0 + (b + 23 + 15)), .ref (κ.S0 + (b + 23 + 16)), .ref (κ.S0 + (b + 23 + 17)), .ref (κ.S0 + (b + 23 + 18)), .int ((σ.1 2).2 3), .int ((σ.1 2).2 4), .int ((σ.1 2).2 5), .int ((σ.1 2).2 6), .int ((σ.1 2).2 7)]) := by
  rw [yC_g2 Y σ]
  exact ov_at 12 rfl
theorem yC_f3 (Y : YC κ h b cI cC cS') (σ : CS) : κ.HP σ = ov h b (([.inr (5, [.ref (κ.S0 + (b + 1)), .ref (κ.S0 + (b + 23)), .int (σ.2.2 0), .ref (κ.S0 + (b + 45)), .ref (κ.S0 + (b + 157))])] ++ (gl κ.S0 cI (b + 1) (σ.1 0) ++ (gl κ.S0 cI (b + 23) (σ.1 2) ++ ([.inr (1, [.ref (κ.S0 + (b + 46)), .int (σ.2.2 1), .int (σ.2.2 2)])] ++ ([.inl (cS', 5, .inr (.inr (.inr (.inr (fun j => if j < 5 then some (κ.S0 + (b + 47 + 22 * j)) else none)))))])))) : List va_E) ++ (gl κ.S0 cI (b + 47) (σ.1 3) ++ (gl κ.S0 cI (b + 69) (σ.1 4) ++ (gl κ.S0 cI (b + 91) (σ.1 5) ++ (gl κ.S0 cI (b + 113) (σ.1 6) ++ (gl κ.S0 cI (b + 135) (σ.1 7) ++ ([.inr (2, [.ref (κ.S0 + (b + 158)), .int (σ.2.2 3)])] ++ ([.inl (cC, 60, .inl (σ.2.1))]))))) : List va_E))) := by
  rw [Y.1 σ]
  simp only [cl, List.append_assoc, List.cons_append, List.nil_append, List.append_nil]
theorem yC_g3 (Y : YC κ h b cI cC cS') (σ : CS) : κ.HP σ = ov (κ.HP σ) (b + 47) (gl κ.S0 cI (b + 47) (σ.1 3)) := by
  rw [yC_f3 Y σ]
  have e := ov_self (h := h) (b := b) ([.inr (5, [.ref (κ.S0 + (b + 1)), .ref (κ.S0 + (b + 23)), .int (σ.2.2 0), .ref (κ.S0 + (b + 45)), .ref (κ.S0 + (b + 157))])] ++ (gl κ.S0 cI (b + 1) (σ.1 0) ++ (gl κ.S0 cI (b + 23) (σ.1 2) ++ ([.inr (1, [.ref (κ.S0 + (b + 46)), .int (σ.2.2 1), .int (σ.2.2 2)])] ++ ([.inl (cS', 5, .inr (.inr (.inr (.inr (fun j => if j < 5 then some (κ.S0 + (b + 47 + 22 * j)) else none)))))])))) : List va_E) (gl κ.S0 cI (b + 47) (σ.1 3)) (gl κ.S0 cI (b + 69) (σ.1 4) ++ (gl κ.S0 cI (b + 91) (σ.1 5) ++ (gl κ.S0 cI (b + 113) (σ.1 6) ++ (gl κ.S0 cI (b + 135) (σ.1 7) ++ ([.inr (2, [.ref (κ.S0 + (b + 158)), .int (σ.2.2 3)])] ++ ([.inl (cC, 60, .inl (σ.2.1))]))))) : List va_E)
  have hn : (([.inr (5, [.ref (κ.S0 + (b + 1)), .ref (κ.S0 + (b + 23)), .int (σ.2.2 0), .ref (κ.S0 + (b + 45)), .ref (κ.S0 + (b + 157))])] ++ (gl κ.S0 cI (b + 1) (σ.1 0) ++ (gl κ.S0 cI (b + 23) (σ.1 2) ++ ([.inr (1, [.ref (κ.S0 + (b + 46)), .int (σ.2.2 1), .int (σ.2.2 2)])] ++ ([.inl (cS', 5, .inr (.inr (.inr (.inr (fun j => if j < 5 then some (κ.S0 + (b + 47 + 22 * j)) else none)))))])))) : List va_E)).length = 47 := by simp only [List.length_append, gl_len, List.length_cons, List.length_nil]
  rw [hn] at e
  exact e
theorem yC_G3 (Y : YC κ h b cI cC cS') (σ : CS) (t : SS) : κ.HP (cS σ 3 t) = ov (κ.HP σ) (b + 47) (gl κ.S0 cI (b + 47) t) := by
  rw [yC_f3 Y σ, yC_f3 Y (cS σ 3 t)]
  have e := ov_part (h := h) (b := b) ([.inr (5, [.ref (κ.S0 + (b + 1)), .ref (κ.S0 + (b + 23)), .int (σ.2.2 0), .ref (κ.S0 + (b + 45)), .ref (κ.S0 + (b + 157))])] ++ (gl κ.S0 cI (b + 1) (σ.1 0) ++ (gl κ.S0 cI (b + 23) (σ.1 2) ++ ([.inr (1, [.ref (κ.S0 + (b + 46)), .int (σ.2.2 1), .int (σ.2.2 2)])] ++ ([.inl (cS', 5, .inr (.inr (.inr (.inr (fun j => if j < 5 then some (κ.S0 + (b + 47 + 22 * j)) else none)))))])))) : List va_E) (gl κ.S0 cI (b + 47) (σ.1 3)) (gl κ.S0 cI (b + 69) (σ.1 4) ++ (gl κ.S0 cI (b + 91) (σ.1 5) ++ (gl κ.S0 cI (b + 113) (σ.1 6) ++ (gl κ.S0 cI (b + 135) (σ.1 7) ++ ([.inr (2, [.ref (κ.S0 + (b + 158)), .int (σ.2.2 3)])] ++ ([.inl (cC, 60, .inl (σ.2.1))]))))) : List va_E) (gl κ.S0 cI (b + 47) t) rfl
  have hn : (([.inr (5, [.ref (κ.S0 + (b + 1)), .ref (κ.S0 + (b + 23)), .int (σ.2.2 0), .ref (κ.S0 + (b + 45)), .ref (κ.S0 + (b + 157))])] ++ (gl κ.S0 cI (b + 1) (σ.1 0) ++ (gl κ.S0 cI (b + 23) (σ.1 2) ++ ([.inr (1, [.ref (κ.S0 + (b + 46)), .int (σ.2.2 1), .int (σ.2.2 2)])] ++ ([.inl (cS', 5, .inr (.inr (.inr (.inr (fun j => if j < 5 then some (κ.S0 + (b + 47 + 22 * j)) else none)))))])))) : List va_E)).length = 47 := by simp only [List.length_append, gl_len, List.length_cons, List.length_nil]
  rw [hn] at e
  exact e.symm
theorem yC_b3 (Y : YC κ h b cI cC cS') (σ : CS) : b + 47 + 22 ≤ κ.HC σ := Nat.le_trans (by omega) (Y.2.1 σ)
theorem yC_l3 (Y : YC κ h b cI cC cS') {σ : CS} (m : Nat) (hm : m < 22) : b + 47 + m < κ.HC σ := by have := Y.2.1 σ; omega
theorem yC_g3_0 (Y : YC κ h b cI cC cS') {σ : CS} : κ.HP σ (b + 47 + 0) = .inr (3, [.ref (κ.S0 + (b + 47 + 1)), .ref (κ.S0 + (b + 47 + 12)), .ref (κ.S0 + (b + 47 + 19)), .ref (κ.S0 + (b + 47 + 20)), .ref (κ.S0 + (b + 47 + 21)), .int ((σ.1 3).2 8), .int ((σ.1 3).2 9), .int ((σ.1 3).2 10)]) := by
  rw [yC_g3 Y σ]
  exact ov_at 0 rfl
theorem yC_g3_1 (Y : YC κ h b cI cC cS') {σ : CS} : κ.HP σ (b + 47 + 1) = .inr (0, [.ref (κ.S0 + (b + 47 + 2)), .ref (κ.S0 + (b + 47 + 3)), .ref (κ.S0 + (b + 47 + 4)), .ref (κ.S0 + (b + 47 + 5)), .ref (κ.S0 + (b + 47 + 6)), .ref (κ.S0 + (b + 47 + 7)), .ref (κ.S0 + (b + 47 + 8)), .ref (κ.S0 + (b + 47 + 9)), .int ((σ.1 3).2 0), .ref (κ.S0 + (b + 47 + 10)), .int ((σ.1 3).2 1), .ref (κ.S0 + (b + 47 + 11)), .int ((σ.1 3).2 2)]) := by
  rw [yC_g3 Y σ]
  exact ov_at 1 rfl
theorem yC_g3_6 (Y : YC κ h b cI cC cS') {σ : CS} : κ.HP σ (b + 47 + 6) = .inl (cI, 201, .inl ((σ.1 3).1 6)) := by
  rw [yC_g3 Y σ]
  exact ov_at 6 rfl
theorem yC_g3_12 (Y : YC κ h b cI cC cS') {σ : CS} : κ.HP σ (b + 47 + 12) = .inr (4, [.ref (κ.S0 + (b + 47 + 13)), .ref (κ.S0 + (b + 47 + 14)), .ref (κ.S0 + (b + 47 + 15)), .ref (κ.S0 + (b + 47 + 16)), .ref (κ.S0 + (b + 47 + 17)), .ref (κ.S0 + (b + 47 + 18)), .int ((σ.1 3).2 3), .int ((σ.1 3).2 4), .int ((σ.1 3).2 5), .int ((σ.1 3).2 6), .int ((σ.1 3).2 7)]) := by
  rw [yC_g3 Y σ]
  exact ov_at 12 rfl
theorem yC_f4 (Y : YC κ h b cI cC cS') (σ : CS) : κ.HP σ = ov h b (([.inr (5, [.ref (κ.S0 + (b + 1)), .ref (κ.S0 + (b + 23)), .int (σ.2.2 0), .ref (κ.S0 + (b + 45)), .ref (κ.S0 + (b + 157))])] ++ (gl κ.S0 cI (b + 1) (σ.1 0) ++ (gl κ.S0 cI (b + 23) (σ.1 2) ++ ([.inr (1, [.ref (κ.S0 + (b + 46)), .int (σ.2.2 1), .int (σ.2.2 2)])] ++ ([.inl (cS', 5, .inr (.inr (.inr (.inr (fun j => if j < 5 then some (κ.S0 + (b + 47 + 22 * j)) else none)))))] ++ (gl κ.S0 cI (b + 47) (σ.1 3)))))) : List va_E) ++ (gl κ.S0 cI (b + 69) (σ.1 4) ++ (gl κ.S0 cI (b + 91) (σ.1 5) ++ (gl κ.S0 cI (b + 113) (σ.1 6) ++ (gl κ.S0 cI (b + 135) (σ.1 7) ++ ([.inr (2, [.ref (κ.S0 + (b + 158)), .int (σ.2.2 3)])] ++ ([.inl (cC, 60, .inl (σ.2.1))])))) : List va_E))) := by
  rw [Y.1 σ]
  simp only [cl, List.append_assoc, List.cons_append, List.nil_append, List.append_nil]
theorem yC_g4 (Y : YC κ h b cI cC cS') (σ : CS) : κ.HP σ = ov (κ.HP σ) (b + 69) (gl κ.S0 cI (b + 69) (σ.1 4)) := by
  rw [yC_f4 Y σ]
  have e := ov_self (h := h) (b := b) ([.inr (5, [.ref (κ.S0 + (b + 1)), .ref (κ.S0 + (b + 23)), .int (σ.2.2 0), .ref (κ.S0 + (b + 45)), .ref (κ.S0 + (b + 157))])] ++ (gl κ.S0 cI (b + 1) (σ.1 0) ++ (gl κ.S0 cI (b + 23) (σ.1 2) ++ ([.inr (1, [.ref (κ.S0 + (b + 46)), .int (σ.2.2 1), .int (σ.2.2 2)])] ++ ([.inl (cS', 5, .inr (.inr (.inr (.inr (fun j => if j < 5 then some (κ.S0 + (b + 47 + 22 * j)) else none)))))] ++ (gl κ.S0 cI (b + 47) (σ.1 3)))))) : List va_E) (gl κ.S0 cI (b + 69) (σ.1 4)) (gl κ.S0 cI (b + 91) (σ.1 5) ++ (gl κ.S0 cI (b + 113) (σ.1 6) ++ (gl κ.S0 cI (b + 135) (σ.1 7) ++ ([.inr (2, [.ref (κ.S0 + (b + 158)), .int (σ.2.2 3)])] ++ ([.inl (cC, 60, .inl (σ.2.1))])))) : List va_E)
  have hn : (([.inr (5, [.ref (κ.S0 + (b + 1)), .ref (κ.S0 + (b + 23)), .int (σ.2.2 0), .ref (κ.S0 + (b + 45)), .ref (κ.S0 + (b + 157))])] ++ (gl κ.S0 cI (b + 1) (σ.1 0) ++ (gl κ.S0 cI (b + 23) (σ.1 2) ++ ([.inr (1, [.ref (κ.S0 + (b + 46)), .int (σ.2.2 1), .int (σ.2.2 2)])] ++ ([.inl (cS', 5, .inr (.inr (.inr (.inr (fun j => if j < 5 then some (κ.S0 + (b + 47 + 22 * j)) else none)))))] ++ (gl κ.S0 cI (b + 47) (σ.1 3)))))) : List va_E)).length = 69 := by simp only [List.length_append, gl_len, List.length_cons, List.length_nil]
  rw [hn] at e
  exact e
theorem yC_G4 (Y : YC κ h b cI cC cS') (σ : CS) (t : SS) : κ.HP (cS σ 4 t) = ov (κ.HP σ) (b + 69) (gl κ.S0 cI (b + 69) t) := by
  rw [yC_f4 Y σ, yC_f4 Y (cS σ 4 t)]
  have e := ov_part (h := h) (b := b) ([.inr (5, [.ref (κ.S0 + (b + 1)), .ref (κ.S0 + (b + 23)), .int (σ.2.2 0), .ref (κ.S0 + (b + 45)), .ref (κ.S0 + (b + 157))])] ++ (gl κ.S0 cI (b + 1) (σ.1 0) ++ (gl κ.S0 cI (b + 23) (σ.1 2) ++ ([.inr (1, [.ref (κ.S0 + (b + 46)), .int (σ.2.2 1), .int (σ.2.2 2)])] ++ ([.inl (cS', 5, .inr (.inr (.inr (.inr (fun j => if j < 5 then some (κ.S0 + (b + 47 + 22 * j)) else none)))))] ++ (gl κ.S0 cI (b + 47) (σ.1 3)))))) : List va_E) (gl κ.S0 cI (b + 69) (σ.1 4)) (gl κ.S0 cI (b + 91) (σ.1 5) ++ (gl κ.S0 cI (b + 113) (σ.1 6) ++ (gl κ.S0 cI (b + 135) (σ.1 7) ++ ([.inr (2, [.ref (κ.S0 + (b + 158)), .int (σ.2.2 3)])] ++ ([.inl (cC, 60, .inl (σ.2.1))])))) : List va_E) (gl κ.S0 cI (b + 69) t) rfl
  have hn : (([.inr (5, [.ref (κ.S0 + (b + 1)), .ref (κ.S0 + (b + 23)), .int (σ.2.2 0), .ref (κ.S0 + (b + 45)), .ref (κ.S0 + (b + 157))])] ++ (gl κ.S0 cI (b + 1) (σ.1 0) ++ (gl κ.S0 cI (b + 23) (σ.1 2) ++ ([.inr (1, [.ref (κ.S0 + (b + 46)), .int (σ.2.2 1), .int (σ.2.2 2)])] ++ ([.inl (cS', 5, .inr (.inr (.inr (.inr (fun j => if j < 5 then some (κ.S0 + (b + 47 + 22 * j)) else none)))))] ++ (gl κ.S0 cI (b + 47) (σ.1 3)))))) : List va_E)).length = 69 := by simp only [List.length_append, gl_len, List.length_cons, List.length_nil]
  rw [hn] at e
  exact e.symm
theorem yC_b4 (Y : YC κ h b cI cC cS') (σ : CS) : b + 69 + 22 ≤ κ.HC σ := Nat.le_trans (by omega) (Y.2.1 σ)
theorem yC_l4 (Y : YC κ h b cI cC cS') {σ : CS} (m : Nat) (hm : m < 22) : b + 69 + m < κ.HC σ := by have := Y.2.1 σ; omega
theorem yC_g4_0 (Y : YC κ h b cI cC cS') {σ : CS} : κ.HP σ (b + 69 + 0) = .inr (3, [.ref (κ.S0 + (b + 69 + 1)), .ref (κ.S0 + (b + 69 + 12)), .ref (κ.S0 + (b + 69 + 19)), .ref (κ.S0 + (b + 69 + 20)), .ref (κ.S0 + (b + 69 + 21)), .int ((σ.1 4).2 8), .int ((σ.1 4).2 9), .int ((σ.1 4).2 10)]) := by
  rw [yC_g4 Y σ]
  exact ov_at 0 rfl
theorem yC_g4_1 (Y : YC κ h b cI cC cS') {σ : CS} : κ.HP σ (b + 69 + 1) = .inr (0, [.ref (κ.S0 + (b + 69 + 2)), .ref (κ.S0 + (b + 69 + 3)), .ref (κ.S0 + (b + 69 + 4)), .ref (κ.S0 + (b + 69 + 5)), .ref (κ.S0 + (b + 69 + 6)), .ref (κ.S0 + (b + 69 + 7)), .ref (κ.S0 + (b + 69 + 8)), .ref (κ.S0 + (b + 69 + 9)), .int ((σ.1 4).2 0), .ref (κ.S0 + (b + 69 + 10)), .int ((σ.1 4).2 1), .ref (κ.S0 + (b + 69 + 11)), .int ((σ.1 4).2 2)]) := by
  rw [yC_g4 Y σ]
  exact ov_at 1 rfl
theorem yC_g4_6 (Y : YC κ h b cI cC cS') {σ : CS} : κ.HP σ (b + 69 + 6) = .inl (cI, 201, .inl ((σ.1 4).1 6)) := by
  rw [yC_g4 Y σ]
  exact ov_at 6 rfl
theorem yC_g4_12 (Y : YC κ h b cI cC cS') {σ : CS} : κ.HP σ (b + 69 + 12) = .inr (4, [.ref (κ.S0 + (b + 69 + 13)), .ref (κ.S0 + (b + 69 + 14)), .ref (κ.S0 + (b + 69 + 15)), .ref (κ.S0 + (b + 69 + 16)), .ref (κ.S0 + (b + 69 + 17)), .ref (κ.S0 + (b + 69 + 18)), .int ((σ.1 4).2 3), .int ((σ.1 4).2 4), .int ((σ.1 4).2 5), .int ((σ.1 4).2 6), .int ((σ.1 4).2 7)]) := by
  rw [yC_g4 Y σ]
  exact ov_at 12 rfl
theorem yC_f5 (Y : YC κ h b cI cC cS') (σ : CS) : κ.HP σ = ov h b (([.inr (5, [.ref (κ.S0 + (b + 1)), .ref (κ.S0 + (b + 23)), .int (σ.2.2 0), .ref (κ.S0 + (b + 45)), .ref (κ.S0 + (b + 157))])] ++ (gl κ.S0 cI (b + 1) (σ.1 0) ++ (gl κ.S0 cI (b + 23) (σ.1 2) ++ ([.inr (1, [.ref (κ.S0 + (b + 46)), .int (σ.2.2 1), .int (σ.2.2 2)])] ++ ([.inl (cS', 5, .inr (.inr (.inr (.inr (fun j => if j < 5 then some (κ.S0 + (b + 47 + 22 * j)) else none)))))] ++ (gl κ.S0 cI (b + 47) (σ.1 3) ++ (gl κ.S0 cI (b + 69) (σ.1 4))))))) : List va_E) ++ (gl κ.S0 cI (b + 91) (σ.1 5) ++ (gl κ.S0 cI (b + 113) (σ.1 6) ++ (gl κ.S0 cI (b + 135) (σ.1 7) ++ ([.inr (2, [.ref (κ.S0 + (b + 158)), .int (σ.2.2 3)])] ++ ([.inl (cC, 60, .inl (σ.2.1))]))) : List va_E))) := by
  rw [Y.1 σ]
  simp only [cl, List.append_assoc, List.cons_append, List.nil_append, List.append_nil]
theorem yC_g5 (Y : YC κ h b cI cC cS') (σ : CS) : κ.HP σ = ov (κ.HP σ) (b + 91) (gl κ.S0 cI (b + 91) (σ.1 5)) := by
  rw [yC_f5 Y σ]
  have e := ov_self (h := h) (b := b) ([.inr (5, [.ref (κ.S0 + (b + 1)), .ref (κ.S0 + (b + 23)), .int (σ.2.2 0), .ref (κ.S0 + (b + 45)), .ref (κ.S0 + (b + 157))])] ++ (gl κ.S0 cI (b + 1) (σ.1 0) ++ (gl κ.S0 cI (b + 23) (σ.1 2) ++ ([.inr (1, [.ref (κ.S0 + (b + 46)), .int (σ.2.2 1), .int (σ.2.2 2)])] ++ ([.inl (cS', 5, .inr (.inr (.inr (.inr (fun j => if j < 5 then some (κ.S0 + (b + 47 + 22 * j)) else none)))))] ++ (gl κ.S0 cI (b + 47) (σ.1 3) ++ (gl κ.S0 cI (b + 69) (σ.1 4))))))) : List va_E) (gl κ.S0 cI (b + 91) (σ.1 5)) (gl κ.S0 cI (b + 113) (σ.1 6) ++ (gl κ.S0 cI (b + 135) (σ.1 7) ++ ([.inr (2, [.ref (κ.S0 + (b + 158)), .int (σ.2.2 3)])] ++ ([.inl (cC, 60, .inl (σ.2.1))]))) : List va_E)
  have hn : (([.inr (5, [.ref (κ.S0 + (b + 1)), .ref (κ.S0 + (b + 23)), .int (σ.2.2 0), .ref (κ.S0 + (b + 45)), .ref (κ.S0 + (b + 157))])] ++ (gl κ.S0 cI (b + 1) (σ.1 0) ++ (gl κ.S0 cI (b + 23) (σ.1 2) ++ ([.inr (1, [.ref (κ.S0 + (b + 46)), .int (σ.2.2 1), .int (σ.2.2 2)])] ++ ([.inl (cS', 5, .inr (.inr (.inr (.inr (fun j => if j < 5 then some (κ.S0 + (b + 47 + 22 * j)) else none)))))] ++ (gl κ.S0 cI (b + 47) (σ.1 3) ++ (gl κ.S0 cI (b + 69) (σ.1 4))))))) : List va_E)).length = 91 := by simp only [List.length_append, gl_len, List.length_cons, List.length_nil]
  rw [hn] at e
  exact e
theorem yC_G5 (Y : YC κ h b cI cC cS') (σ : CS) (t : SS) : κ.HP (cS σ 5 t) = ov (κ.HP σ) (b + 91) (gl κ.S0 cI (b + 91) t) := by
  rw [yC_f5 Y σ, yC_f5 Y (cS σ 5 t)]
  have e := ov_part (h := h) (b := b) ([.inr (5, [.ref (κ.S0 + (b + 1)), .ref (κ.S0 + (b + 23)), .int (σ.2.2 0), .ref (κ.S0 + (b + 45)), .ref (κ.S0 + (b + 157))])] ++ (gl κ.S0 cI (b + 1) (σ.1 0) ++ (gl κ.S0 cI (b + 23) (σ.1 2) ++ ([.inr (1, [.ref (κ.S0 + (b + 46)), .int (σ.2.2 1), .int (σ.2.2 2)])] ++ ([.inl (cS', 5, .inr (.inr (.inr (.inr (fun j => if j < 5 then some (κ.S0 + (b + 47 + 22 * j)) else none)))))] ++ (gl κ.S0 cI (b + 47) (σ.1 3) ++ (gl κ.S0 cI (b + 69) (σ.1 4))))))) : List va_E) (gl κ.S0 cI (b + 91) (σ.1 5)) (gl κ.S0 cI (b + 113) (σ.1 6) ++ (gl κ.S0 cI (b + 135) (σ.1 7) ++ ([.inr (2, [.ref (κ.S0 + (b + 158)), .int (σ.2.2 3)])] ++ ([.inl (cC, 60, .inl (σ.2.1))]))) : List va_E) (gl κ.S0 cI (b + 91) t) rfl
  have hn : (([.inr (5, [.ref (κ.S0 + (b + 1)), .ref (κ.S0 + (b + 23)), .int (σ.2.2 0), .ref (κ.S0 + (b + 45)), .ref (κ.S0 + (b + 157))])] ++ (gl κ.S0 cI (b + 1) (σ.1 0) ++ (gl κ.S0 cI (b + 23) (σ.1 2) ++ ([.inr (1, [.ref (κ.S0 + (b + 46)), .int (σ.2.2 1), .int (σ.2.2 2)])] ++ ([.inl (cS', 5, .inr (.inr (.inr (.inr (fun j => if j < 5 then some (κ.S0 + (b + 47 + 22 * j)) else none)))))] ++ (gl κ.S0 cI (b + 47) (σ.1 3) ++ (gl κ.S0 cI (b + 69) (σ.1 4))))))) : List va_E)).length = 91 := by simp only [List.length_append, gl_len, List.length_cons, List.length_nil]
  rw [hn] at e
  exact e.symm
theorem yC_b5 (Y : YC κ h b cI cC cS') (σ : CS) : b + 91 + 22 ≤ κ.HC σ := Nat.le_trans (by omega) (Y.2.1 σ)
theorem yC_l5 (Y : YC κ h b cI cC cS') {σ : CS} (m : Nat) (hm : m < 22) : b + 91 + m < κ.HC σ := by have := Y.2.1 σ; omega
theorem yC_g5_0 (Y : YC κ h b cI cC cS') {σ : CS} : κ.HP σ (b + 91 + 0) = .inr (3, [.ref (κ.S0 + (b + 91 + 1)), .ref (κ.S0 + (b + 91 + 12)), .ref (κ.S0 + (b + 91 + 19)), .ref (κ.S0 + (b + 91 + 20)), .ref (κ.S0 + (b + 91 + 21)), .int ((σ.1 5).2 8), .int ((σ.1 5).2 9), .int ((σ.1 5).2 10)]) := by
  rw [yC_g5 Y σ]
  exact ov_at 0 rfl
theorem yC_g5_1 (Y : YC κ h b cI cC cS') {σ : CS} : κ.HP σ (b + 91 + 1) = .inr (0, [.ref (κ.S0 + (b + 91 + 2)), .ref (κ.S0 + (b + 91 + 3)), .ref (κ.S0 + (b + 91 + 4)), .ref (κ.S0 + (b + 91 + 5)), .ref (κ.S0 + (b + 91 + 6)), .ref (κ.S0 + (b + 91 + 7)), .ref (κ.S0 + (b + 91 + 8)), .ref (κ.S0 + (b + 91 + 9)), .int ((σ.1 5).2 0), .ref (κ.S0 + (b + 91 + 10)), .int ((σ.1 5).2 1), .ref (κ.S0 + (b + 91 + 11)), .int ((σ.1 5).2 2)]) := by
  rw [yC_g5 Y σ]
  exact ov_at 1 rfl
theorem yC_g5_6 (Y : YC κ h b cI cC cS') {σ : CS} : κ.HP σ (b + 91 + 6) = .inl (cI, 201, .inl ((σ.1 5).1 6)) := by
  rw [yC_g5 Y σ]
  exact ov_at 6 rfl
theorem yC_g5_12 (Y : YC κ h b cI cC cS') {σ : CS} : κ.HP σ (b + 91 + 12) = .inr (4, [.ref (κ.S0 + (b + 91 + 13)), .ref (κ.S0 + (b + 91 + 14)), .ref (κ.S0 + (b + 91 + 15)), .ref (κ.S0 + (b + 91 + 16)), .ref (κ.S0 + (b + 91 + 17)), .ref (κ.S0 + (b + 91 + 18)), .int ((σ.1 5).2 3), .int ((σ.1 5).2 4), .int ((σ.1 5).2 5), .int ((σ.1 5).2 6), .int ((σ.1 5).2 7)]) := by
  rw [yC_g5 Y σ]
  exact ov_at 12 rfl
theorem yC_f6 (Y : YC κ h b cI cC cS') (σ : CS) : κ.HP σ = ov h b (([.inr (5, [.ref (κ.S0 + (b + 1)), .ref (κ.S0 + (b + 23)), .int (σ.2.2 0), .ref (κ.S0 + (b + 45)), .ref (κ.S0 + (b + 157))])] ++ (gl κ.S0 cI (b + 1) (σ.1 0) ++ (gl κ.S0 cI (b + 23) (σ.1 2) ++ ([.inr (1, [.ref (κ.S0 + (b + 46)), .int (σ.2.2 1), .int (σ.2.2 2)])] ++ ([.inl (cS', 5, .inr (.inr (.inr (.inr (fun j => if j < 5 then some (κ.S0 + (b + 47 + 22 * j)) else none)))))] ++ (gl κ.S0 cI (b + 47) (σ.1 3) ++ (gl κ.S0 cI (b + 69) (σ.1 4) ++ (gl κ.S0 cI (b + 91) (σ.1 5)))))))) : List va_E) ++ (gl κ.S0 cI (b + 113) (σ.1 6) ++ (gl κ.S0 cI (b + 135) (σ.1 7) ++ ([.inr (2, [.ref (κ.S0 + (b + 158)), .int (σ.2.2 3)])] ++ ([.inl (cC, 60, .inl (σ.2.1))])) : List va_E))) := by
  rw [Y.1 σ]
  simp only [cl, List.append_assoc, List.cons_append, List.nil_append, List.append_nil]
theorem yC_g6 (Y : YC κ h b cI cC cS') (σ : CS) : κ.HP σ = ov (κ.HP σ) (b + 113) (gl κ.S0 cI (b + 113) (σ.1 6)) := by
  rw [yC_f6 Y σ]
  have e := ov_self (h := h) (b := b) ([.inr (5, [.ref (κ.S0 + (b + 1)), .ref (κ.S0 + (b + 23)), .int (σ.2.2 0), .ref (κ.S0 + (b + 45)), .ref (κ.S0 + (b + 157))])] ++ (gl κ.S0 cI (b + 1) (σ.1 0) ++ (gl κ.S0 cI (b + 23) (σ.1 2) ++ ([.inr (1, [.ref (κ.S0 + (b + 46)), .int (σ.2.2 1), .int (σ.2.2 2)])] ++ ([.inl (cS', 5, .inr (.inr (.inr (.inr (fun j => if j < 5 then some (κ.S0 + (b + 47 + 22 * j)) else none)))))] ++ (gl κ.S0 cI (b + 47) (σ.1 3) ++ (gl κ.S0 cI (b + 69) (σ.1 4) ++ (gl κ.S0 cI (b + 91) (σ.1 5)))))))) : List va_E) (gl κ.S0 cI (b + 113) (σ.1 6)) (gl κ.S0 cI (b + 135) (σ.1 7) ++ ([.inr (2, [.ref (κ.S0 + (b + 158)), .int (σ.2.2 3)])] ++ ([.inl (cC, 60, .inl (σ.2.1))])) : List va_E)
  have hn : (([.inr (5, [.ref (κ.S0 + (b + 1)), .ref (κ.S0 + (b + 23)), .int (σ.2.2 0), .ref (κ.S0 + (b + 45)), .ref (κ.S0 + (b + 157))])] ++ (gl κ.S0 cI (b + 1) (σ.1 0) ++ (gl κ.S0 cI (b + 23) (σ.1 2) ++ ([.inr (1, [.ref (κ.S0 + (b + 46)), .int (σ.2.2 1), .int (σ.2.2 2)])] ++ ([.inl (cS', 5, .inr (.inr (.inr (.inr (fun j => if j < 5 then some (κ.S0 + (b + 47 + 22 * j)) else none)))))] ++ (gl κ.S0 cI (b + 47) (σ.1 3) ++ (gl κ.S0 cI (b + 69) (σ.1 4) ++ (gl κ.S0 cI (b + 91) (σ.1 5)))))))) : List va_E)).length = 113 := by simp only [List.length_append, gl_len, List.length_cons, List.length_nil]
  rw [hn] at e
  exact e
theorem yC_G6 (Y : YC κ h b cI cC cS') (σ : CS) (t : SS) : κ.HP (cS σ 6 t) = ov (κ.HP σ) (b + 113) (gl κ.S0 cI (b + 113) t) := by
  rw [yC_f6 Y σ, yC_f6 Y (cS σ 6 t)]
  have e := ov_part (h := h) (b := b) ([.inr (5, [.ref (κ.S0 + (b + 1)), .ref (κ.S0 + (b + 23)), .int (σ.2.2 0), .ref (κ.S0 + (b + 45)), .ref (κ.S0 + (b + 157))])] ++ (gl κ.S0 cI (b + 1) (σ.1 0) ++ (gl κ.S0 cI (b + 23) (σ.1 2) ++ ([.inr (1, [.ref (κ.S0 + (b + 46)), .int (σ.2.2 1), .int (σ.2.2 2)])] ++ ([.inl (cS', 5, .inr (.inr (.inr (.inr (fun j => if j < 5 then some (κ.S0 + (b + 47 + 22 * j)) else none)))))] ++ (gl κ.S0 cI (b + 47) (σ.1 3) ++ (gl κ.S0 cI (b + 69) (σ.1 4) ++ (gl κ.S0 cI (b + 91) (σ.1 5)))))))) : List va_E) (gl κ.S0 cI (b + 113) (σ.1 6)) (gl κ.S0 cI (b + 135) (σ.1 7) ++ ([.inr (2, [.ref (κ.S0 + (b + 158)), .int (σ.2.2 3)])] ++ ([.inl (cC, 60, .inl (σ.2.1))])) : List va_E) (gl κ.S0 cI (b + 113) t) rfl
  have hn : (([.inr (5, [.ref (κ.S0 + (b + 1)), .ref (κ.S0 + (b + 23)), .int (σ.2.2 0), .ref (κ.S0 + (b + 45)), .ref (κ.S0 + (b + 157))])] ++ (gl κ.S0 cI (b + 1) (σ.1 0) ++ (gl κ.S0 cI (b + 23) (σ.1 2) ++ ([.inr (1, [.ref (κ.S0 + (b + 46)), .int (σ.2.2 1), .int (σ.2.2 2)])] ++ ([.inl (cS', 5, .inr (.inr (.inr (.inr (fun j => if j < 5 then some (κ.S0 + (b + 47 + 22 * j)) else none)))))] ++ (gl κ.S0 cI (b + 47) (σ.1 3) ++ (gl κ.S0 cI (b + 69) (σ.1 4) ++ (gl κ.S0 cI (b + 91) (σ.1 5)))))))) : List va_E)).length = 113 := by simp only [List.length_append, gl_len, List.length_cons, List.length_nil]
  rw [hn] at e
  exact e.symm
theorem yC_b6 (Y : YC κ h b cI cC cS') (σ : CS) : b + 113 + 22 ≤ κ.HC σ := Nat.le_trans (by omega) (Y.2.1 σ)
theorem yC_l6 (Y : YC κ h b cI cC cS') {σ : CS} (m : Nat) (hm : m < 22) : b + 113 + m < κ.HC σ := by have := Y.2.1 σ; omega
theorem yC_g6_0 (Y : YC κ h b cI cC cS') {σ : CS} : κ.HP σ (b + 113 + 0) = .inr (3, [.ref (κ.S0 + (b + 113 + 1)), .ref (κ.S0 + (b + 113 + 12)), .ref (κ.S0 + (b + 113 + 19)), .ref (κ.S0 + (b + 113 + 20)), .ref (κ.S0 + (b + 113 + 21)), .int ((σ.1 6).2 8), .int ((σ.1 6).2 9), .int ((σ.1 6).2 10)]) := by
  rw [yC_g6 Y σ]
  exact ov_at 0 rfl
theorem yC_g6_1 (Y : YC κ h b cI cC cS') {σ : CS} : κ.HP σ (b + 113 + 1) = .inr (0, [.ref (κ.S0 + (b + 113 + 2)), .ref (κ.S0 + (b + 113 + 3)), .ref (κ.S0 + (b + 113 + 4)), .ref (κ.S0 + (b + 113 + 5)), .ref (κ.S0 + (b + 113 + 6)), .ref (κ.S0 + (b + 113 + 7)), .ref (κ.S0 + (b + 113 + 8)), .ref (κ.S0 + (b + 113 + 9)), .int ((σ.1 6).2 0), .ref (κ.S0 + (b + 113 + 10)), .int ((σ.1 6).2 1), .ref (κ.S0 + (b + 113 + 11)), .int ((σ.1 6).2 2)]) := by
  rw [yC_g6 Y σ]
  exact ov_at 1 rfl
theorem yC_g6_6 (Y : YC κ h b cI cC cS') {σ : CS} : κ.HP σ (b + 113 + 6) = .inl (cI, 201, .inl ((σ.1 6).1 6)) := by
  rw [yC_g6 Y σ]
  exact ov_at 6 rfl
theorem yC_g6_12 (Y : YC κ h b cI cC cS') {σ : CS} : κ.HP σ (b + 113 + 12) = .inr (4, [.ref (κ.S0 + (b + 113 + 13)), .ref (κ.S0 + (b + 113 + 14)), .ref (κ.S0 + (b + 113 + 15)), .ref (κ.S0 + (b + 113 + 16)), .ref (κ.S0 + (b + 113 + 17)), .ref (κ.S0 + (b + 113 + 18)), .int ((σ.1 6).2 3), .int ((σ.1 6).2 4), .int ((σ.1 6).2 5), .int ((σ.1 6).2 6), .int ((σ.1 6).2 7)]) := by
  rw [yC_g6 Y σ]
  exact ov_at 12 rfl
theorem yC_f7 (Y : YC κ h b cI cC cS') (σ : CS) : κ.HP σ = ov h b (([.inr (5, [.ref (κ.S0 + (b + 1)), .ref (κ.S0 + (b + 23)), .int (σ.2.2 0), .ref (κ.S0 + (b + 45)), .ref (κ.S0 + (b + 157))])] ++ (gl κ.S0 cI (b + 1) (σ.1 0) ++ (gl κ.S0 cI (b + 23) (σ.1 2) ++ ([.inr (1, [.ref (κ.S0 + (b + 46)), .int (σ.2.2 1), .int (σ.2.2 2)])] ++ ([.inl (cS', 5, .inr (.inr (.inr (.inr (fun j => if j < 5 then some (κ.S0 + (b + 47 + 22 * j)) else none)))))] ++ (gl κ.S0 cI (b + 47) (σ.1 3) ++ (gl κ.S0 cI (b + 69) (σ.1 4) ++ (gl κ.S0 cI (b + 91) (σ.1 5) ++ (gl κ.S0 cI (b + 113) (σ.1 6))))))))) : List va_E) ++ (gl κ.S0 cI (b + 135) (σ.1 7) ++ ([.inr (2, [.ref (κ.S0 + (b + 158)), .int (σ.2.2 3)])] ++ ([.inl (cC, 60, .inl (σ.2.1))]) : List va_E))) := by
  rw [Y.1 σ]
  simp only [cl, List.append_assoc, List.cons_append, List.nil_append, List.append_nil]
theorem yC_g7 (Y : YC κ h b cI cC cS') (σ : CS) : κ.HP σ = ov (κ.HP σ) (b + 135) (gl κ.S0 cI (b + 135) (σ.1 7)) := by
  rw [yC_f7 Y σ]
  have e := ov_self (h := h) (b := b) ([.inr (5, [.ref (κ.S0 + (b + 1)), .ref (κ.S0 + (b + 23)), .int (σ.2.2 0), .ref (κ.S0 + (b + 45)), .ref (κ.S0 + (b + 157))])] ++ (gl κ.S0 cI (b + 1) (σ.1 0) ++ (gl κ.S0 cI (b + 23) (σ.1 2) ++ ([.inr (1, [.ref (κ.S0 + (b + 46)), .int (σ.2.2 1), .int (σ.2.2 2)])] ++ ([.inl (cS', 5, .inr (.inr (.inr (.inr (fun j => if j < 5 then some (κ.S0 + (b + 47 + 22 * j)) else none)))))] ++ (gl κ.S0 cI (b + 47) (σ.1 3) ++ (gl κ.S0 cI (b + 69) (σ.1 4) ++ (gl κ.S0 cI (b + 91) (σ.1 5) ++ (gl κ.S0 cI (b + 113) (σ.1 6))))))))) : List va_E) (gl κ.S0 cI (b + 135) (σ.1 7)) ([.inr (2, [.ref (κ.S0 + (b + 158)), .int (σ.2.2 3)])] ++ ([.inl (cC, 60, .inl (σ.2.1))]) : List va_E)
  have hn : (([.inr (5, [.ref (κ.S0 + (b + 1)), .ref (κ.S0 + (b + 23)), .int (σ.2.2 0), .ref (κ.S0 + (b + 45)), .ref (κ.S0 + (b + 157))])] ++ (gl κ.S0 cI (b + 1) (σ.1 0) ++ (gl κ.S0 cI (b + 23) (σ.1 2) ++ ([.inr (1, [.ref (κ.S0 + (b + 46)), .int (σ.2.2 1), .int (σ.2.2 2)])] ++ ([.inl (cS', 5, .inr (.inr (.inr (.inr (fun j => if j < 5 then some (κ.S0 + (b + 47 + 22 * j)) else none)))))] ++ (gl κ.S0 cI (b + 47) (σ.1 3) ++ (gl κ.S0 cI (b + 69) (σ.1 4) ++ (gl κ.S0 cI (b + 91) (σ.1 5) ++ (gl κ.S0 cI (b + 113) (σ.1 6))))))))) : List va_E)).length = 135 := by simp only [List.length_append, gl_len, List.length_cons, List.length_nil]
  rw [hn] at e
  exact e
theorem yC_G7 (Y : YC κ h b cI cC cS') (σ : CS) (t : SS) : κ.HP (cS σ 7 t) = ov (κ.HP σ) (b + 135) (gl κ.S0 cI (b + 135) t) := by
  rw [yC_f7 Y σ, yC_f7 Y (cS σ 7 t)]
  have e := ov_part (h := h) (b := b) ([.inr (5, [.ref (κ.S0 + (b + 1)), .ref (κ.S0 + (b + 23)), .int (σ.2.2 0), .ref (κ.S0 + (b + 45)), .ref (κ.S0 + (b + 157))])] ++ (gl κ.S0 cI (b + 1) (σ.1 0) ++ (gl κ.S0 cI (b + 23) (σ.1 2) ++ ([.inr (1, [.ref (κ.S0 + (b + 46)), .int (σ.2.2 1), .int (σ.2.2 2)])] ++ ([.inl (cS', 5, .inr (.inr (.inr (.inr (fun j => if j < 5 then some (κ.S0 + (b + 47 + 22 * j)) else none)))))] ++ (gl κ.S0 cI (b + 47) (σ.1 3) ++ (gl κ.S0 cI (b + 69) (σ.1 4) ++ (gl κ.S0 cI (b + 91) (σ.1 5) ++ (gl κ.S0 cI (b + 113) (σ.1 6))))))))) : List va_E) (gl κ.S0 cI (b + 135) (σ.1 7)) ([.inr (2, [.ref (κ.S0 + (b + 158)), .int (σ.2.2 3)])] ++ ([.inl (cC, 60, .inl (σ.2.1))]) : List va_E) (gl κ.S0 cI (b + 135) t) rfl
  have hn : (([.inr (5, [.ref (κ.S0 + (b + 1)), .ref (κ.S0 + (b + 23)), .int (σ.2.2 0), .ref (κ.S0 + (b + 45)), .ref (κ.S0 + (b + 157))])] ++ (gl κ.S0 cI (b + 1) (σ.1 0) ++ (gl κ.S0 cI (b + 23) (σ.1 2) ++ ([.inr (1, [.ref (κ.S0 + (b + 46)), .int (σ.2.2 1), .int (σ.2.2 2)])] ++ ([.inl (cS', 5, .inr (.inr (.inr (.inr (fun j => if j < 5 then some (κ.S0 + (b + 47 + 22 * j)) else none)))))] ++ (gl κ.S0 cI (b + 47) (σ.1 3) ++ (gl κ.S0 cI (b + 69) (σ.1 4) ++ (gl κ.S0 cI (b + 91) (σ.1 5) ++ (gl κ.S0 cI (b + 113) (σ.1 6))))))))) : List va_E)).length = 135 := by simp only [List.length_append, gl_len, List.length_cons, List.length_nil]
  rw [hn] at e
  exact e.symm
theorem yC_b7 (Y : YC κ h b cI cC cS') (σ : CS) : b + 135 + 22 ≤ κ.HC σ := Nat.le_trans (by omega) (Y.2.1 σ)
theorem yC_l7 (Y : YC κ h b cI cC cS') {σ : CS} (m : Nat) (hm : m < 22) : b + 135 + m < κ.HC σ := by have := Y.2.1 σ; omega
theorem yC_g7_0 (Y : YC κ h b cI cC cS') {σ : CS} : κ.HP σ (b + 135 + 0) = .inr (3, [.ref (κ.S0 + (b + 135 + 1)), .ref (κ.S0 + (b + 135 + 12)), .ref (κ.S0 + (b + 135 + 19)), .ref (κ.S0 + (b + 135 + 20)), .ref (κ.S0 + (b + 135 + 21)), .int ((σ.1 7).2 8), .int ((σ.1 7).2 9), .int ((σ.1 7).2 10)]) := by
  rw [yC_g7 Y σ]
  exact ov_at 0 rfl
theorem yC_g7_1 (Y : YC κ h b cI cC cS') {σ : CS} : κ.HP σ (b + 135 + 1) = .inr (0, [.ref (κ.S0 + (b + 135 + 2)), .ref (κ.S0 + (b + 135 + 3)), .ref (κ.S0 + (b + 135 + 4)), .ref (κ.S0 + (b + 135 + 5)), .ref (κ.S0 + (b + 135 + 6)), .ref (κ.S0 + (b + 135 + 7)), .ref (κ.S0 + (b + 135 + 8)), .ref (κ.S0 + (b + 135 + 9)), .int ((σ.1 7).2 0), .ref (κ.S0 + (b + 135 + 10)), .int ((σ.1 7).2 1), .ref (κ.S0 + (b + 135 + 11)), .int ((σ.1 7).2 2)]) := by
  rw [yC_g7 Y σ]
  exact ov_at 1 rfl
theorem yC_g7_6 (Y : YC κ h b cI cC cS') {σ : CS} : κ.HP σ (b + 135 + 6) = .inl (cI, 201, .inl ((σ.1 7).1 6)) := by
  rw [yC_g7 Y σ]
  exact ov_at 6 rfl
theorem yC_g7_12 (Y : YC κ h b cI cC cS') {σ : CS} : κ.HP σ (b + 135 + 12) = .inr (4, [.ref (κ.S0 + (b + 135 + 13)), .ref (κ.S0 + (b + 135 + 14)), .ref (κ.S0 + (b + 135 + 15)), .ref (κ.S0 + (b + 135 + 16)), .ref (κ.S0 + (b + 135 + 17)), .ref (κ.S0 + (b + 135 + 18)), .int ((σ.1 7).2 3), .int ((σ.1 7).2 4), .int ((σ.1 7).2 5), .int ((σ.1 7).2 6), .int ((σ.1 7).2 7)]) := by
  rw [yC_g7 Y σ]
  exact ov_at 12 rfl
end YC
