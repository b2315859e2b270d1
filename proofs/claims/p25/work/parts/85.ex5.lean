/-! PURE (p25): what is told, in numbers -/
theorem q_count0 {c : CS} {A : NS} {o k : Nat} {H : Nat → NS} (h : Tq c A o k H) : f_X5_count c 0 = some (nI (A.2 10)) := by
  unfold f_X5_count f_X3_tellNumber
  rw [if_neg (show ¬ (0 : Int32) = 14 by decide), if_neg (show ¬ (0 : Int32) = 15 by decide), if_pos rfl, oR_some, h.1.1.1 10 (by decide) (by decide)]
theorem q_count1 {c : CS} {A : NS} {o k : Nat} {H : Nat → NS} (h : Tq c A o k H) : f_X5_count c 1 = some (nI (A.2 4)) := by
  unfold f_X5_count f_X3_tellNumber
  rw [if_neg (show ¬ (1 : Int32) = 14 by decide), if_neg (show ¬ (1 : Int32) = 15 by decide), if_neg (show ¬ (1 : Int32) = 0 by decide), if_pos rfl, oR_some, h.1.1.1 4 (by decide) (by decide)]
theorem q_count2 {c : CS} {A : NS} {o k : Nat} {H : Nat → NS} (h : Tq c A o k H) : f_X5_count c 2 = some (nI (A.2 5)) := by
  unfold f_X5_count f_X3_tellNumber
  rw [if_neg (show ¬ (2 : Int32) = 14 by decide), if_neg (show ¬ (2 : Int32) = 15 by decide), if_neg (show ¬ (2 : Int32) = 0 by decide), if_neg (show ¬ (2 : Int32) = 1 by decide), if_pos rfl, oR_some, h.1.1.1 5 (by decide) (by decide)]
theorem q_count3 {c : CS} {A : NS} {o k : Nat} {H : Nat → NS} (h : Tq c A o k H) : f_X5_count c 3 = some (nI (A.2 8)) := by
  unfold f_X5_count f_X3_tellNumber
  rw [if_neg (show ¬ (3 : Int32) = 14 by decide), if_neg (show ¬ (3 : Int32) = 15 by decide), if_neg (show ¬ (3 : Int32) = 0 by decide), if_neg (show ¬ (3 : Int32) = 1 by decide), if_neg (show ¬ (3 : Int32) = 2 by decide), if_pos rfl, oR_some, h.1.1.1 8 (by decide) (by decide)]
theorem q_count5 {c : CS} {A : NS} {o k : Nat} {H : Nat → NS} (h : Tq c A o k H) : f_X5_count c 5 = some (nI (nOpen A)) := by
  have bd := h.2.1.1.b
  have e : f_X4_inPhase (c.1 0) 1 = some (nI (nOpen A)) := w_inPhase h.1.1 (q := 1) (by decide) (fun z _ => bd.2.1 13 z)
  unfold f_X5_count f_X3_tellNumber
  rw [if_neg (show ¬ (5 : Int32) = 14 by decide), if_neg (show ¬ (5 : Int32) = 15 by decide), if_neg (show ¬ (5 : Int32) = 0 by decide), if_neg (show ¬ (5 : Int32) = 1 by decide), if_neg (show ¬ (5 : Int32) = 2 by decide), if_neg (show ¬ (5 : Int32) = 3 by decide), if_neg (show ¬ (5 : Int32) = 4 by decide), if_pos rfl, e, oR_some, oR_some]
theorem q_count6 {c : CS} {A : NS} {o k : Nat} {H : Nat → NS} (h : Tq c A o k H) : f_X5_count c 6 = some (nI (nUse A)) := by
  have bd := h.2.1.1.b
  have e : f_X4_inUse (c.1 0) = some (nI (nUse A)) := w_inUse h.1.1 bd
  unfold f_X5_count f_X3_tellNumber
  rw [if_neg (show ¬ (6 : Int32) = 14 by decide), if_neg (show ¬ (6 : Int32) = 15 by decide), if_neg (show ¬ (6 : Int32) = 0 by decide), if_neg (show ¬ (6 : Int32) = 1 by decide), if_neg (show ¬ (6 : Int32) = 2 by decide), if_neg (show ¬ (6 : Int32) = 3 by decide), if_neg (show ¬ (6 : Int32) = 4 by decide), if_neg (show ¬ (6 : Int32) = 5 by decide), if_pos rfl, e, oR_some, oR_some]
theorem q_count7 {c : CS} {A : NS} {o k : Nat} {H : Nat → NS} (h : Tq c A o k H) : f_X5_count c 7 = some (nI (A.2 0)) := by
  have bd := h.2.1.1.b
  unfold f_X5_count f_X3_tellNumber
  rw [if_neg (show ¬ (7 : Int32) = 14 by decide), if_neg (show ¬ (7 : Int32) = 15 by decide), if_neg (show ¬ (7 : Int32) = 0 by decide), if_neg (show ¬ (7 : Int32) = 1 by decide), if_neg (show ¬ (7 : Int32) = 2 by decide), if_neg (show ¬ (7 : Int32) = 3 by decide), if_neg (show ¬ (7 : Int32) = 4 by decide), if_neg (show ¬ (7 : Int32) = 5 by decide), if_neg (show ¬ (7 : Int32) = 6 by decide), if_pos rfl, oR_some, h.1.1.n0]
theorem q_count8 {c : CS} {A : NS} {o k : Nat} {H : Nat → NS} (h : Tq c A o k H) : f_X5_count c 8 = some (nI (cnt (fun a => decide (A.1 5 a = 0)) (A.2 0))) := by
  have bd := h.2.1.1.b
  have e : f_X0_liveIn (c.1 0) 0 = some (nI (cnt (fun a => decide (A.1 5 a = 0)) (A.2 0))) := w_liveIn h.1.1 bd h.1.2 (q := 0) (by decide) (fun c _ hx => decide_eq_true (Or.inl hx))
  unfold f_X5_count f_X3_tellNumber
  rw [if_neg (show ¬ (8 : Int32) = 14 by decide), if_neg (show ¬ (8 : Int32) = 15 by decide), if_neg (show ¬ (8 : Int32) = 0 by decide), if_neg (show ¬ (8 : Int32) = 1 by decide), if_neg (show ¬ (8 : Int32) = 2 by decide), if_neg (show ¬ (8 : Int32) = 3 by decide), if_neg (show ¬ (8 : Int32) = 4 by decide), if_neg (show ¬ (8 : Int32) = 5 by decide), if_neg (show ¬ (8 : Int32) = 6 by decide), if_neg (show ¬ (8 : Int32) = 7 by decide), if_pos rfl, e, oR_some, oR_some]
theorem q_count9 {c : CS} {A : NS} {o k : Nat} {H : Nat → NS} (h : Tq c A o k H) : f_X5_count c 9 = some (nI (atW A)) := by
  have bd := h.2.1.1.b
  have e : f_X0_liveIn (c.1 0) 1 = some (nI (cnt (fun a => decide (A.1 5 a = 1)) (A.2 0))) := w_liveIn h.1.1 bd h.1.2 (q := 1) (by decide) (fun c _ hx => decide_eq_true (Or.inr hx))
  unfold f_X5_count f_X3_tellNumber
  rw [if_neg (show ¬ (9 : Int32) = 14 by decide), if_neg (show ¬ (9 : Int32) = 15 by decide), if_neg (show ¬ (9 : Int32) = 0 by decide), if_neg (show ¬ (9 : Int32) = 1 by decide), if_neg (show ¬ (9 : Int32) = 2 by decide), if_neg (show ¬ (9 : Int32) = 3 by decide), if_neg (show ¬ (9 : Int32) = 4 by decide), if_neg (show ¬ (9 : Int32) = 5 by decide), if_neg (show ¬ (9 : Int32) = 6 by decide), if_neg (show ¬ (9 : Int32) = 7 by decide), if_neg (show ¬ (9 : Int32) = 8 by decide), if_pos rfl, e, oR_some, oR_some]
  rfl
theorem q_count10 {c : CS} {A : NS} {o k : Nat} {H : Nat → NS} (h : Tq c A o k H) : f_X5_count c 10 = some (nI (A.2 1)) := by
  have bd := h.2.1.1.b
  unfold f_X5_count f_X3_tellNumber
  rw [if_neg (show ¬ (10 : Int32) = 14 by decide), if_neg (show ¬ (10 : Int32) = 15 by decide), if_neg (show ¬ (10 : Int32) = 0 by decide), if_neg (show ¬ (10 : Int32) = 1 by decide), if_neg (show ¬ (10 : Int32) = 2 by decide), if_neg (show ¬ (10 : Int32) = 3 by decide), if_neg (show ¬ (10 : Int32) = 4 by decide), if_neg (show ¬ (10 : Int32) = 5 by decide), if_neg (show ¬ (10 : Int32) = 6 by decide), if_neg (show ¬ (10 : Int32) = 7 by decide), if_neg (show ¬ (10 : Int32) = 8 by decide), if_neg (show ¬ (10 : Int32) = 9 by decide), if_pos rfl, oR_some, h.1.1.1 1 (by decide) (by decide)]
theorem q_count11 {c : CS} {A : NS} {o k : Nat} {H : Nat → NS} (h : Tq c A o k H) : f_X5_count c 11 = some (nI (cnt (fun a => decide (A.1 5 a = 3)) (A.2 0))) := by
  have bd := h.2.1.1.b
  have I := h.2.1.1
  have hcl : ((List.range (A.2 0)).filter (liveP A)).length = cnt (liveP A) (A.2 0) := by
    have := countP_filter_range (fun _ => true) (liveP A) (A.2 0)
    have ft : (List.range (A.2 0)).filter (fun _ => true) = List.range (A.2 0) := List.filter_eq_self.2 fun _ _ => rfl
    rw [ft] at this
    rw [← List.countP_eq_length_filter, this]
    rfl
  have hp := cnt_part (A := A) (A.2 0) fun a ha => (I.a.2 a ha).2.2.2
  have e1 := I.t.1
  unfold f_X5_count f_X3_tellNumber
  rw [if_neg (show ¬ (11 : Int32) = 14 by decide), if_neg (show ¬ (11 : Int32) = 15 by decide), if_neg (show ¬ (11 : Int32) = 0 by decide), if_neg (show ¬ (11 : Int32) = 1 by decide), if_neg (show ¬ (11 : Int32) = 2 by decide), if_neg (show ¬ (11 : Int32) = 3 by decide), if_neg (show ¬ (11 : Int32) = 4 by decide), if_neg (show ¬ (11 : Int32) = 5 by decide), if_neg (show ¬ (11 : Int32) = 6 by decide), if_neg (show ¬ (11 : Int32) = 7 by decide), if_neg (show ¬ (11 : Int32) = 8 by decide), if_neg (show ¬ (11 : Int32) = 9 by decide), if_neg (show ¬ (11 : Int32) = 10 by decide), if_pos rfl, oR_some, h.1.1.n0, h.1.1.1 1 (by decide) (by decide), h.1.2.len, hcl, pk_sub (by omega), pk_sub (by omega), show A.2 0 - A.2 1 - cnt (liveP A) (A.2 0) = cnt (fun a => decide (A.1 5 a = 3)) (A.2 0) by omega]
theorem q_zone0 {c : CS} {A : NS} {o k : Nat} {H : Nat → NS} (h : Tq c A o k H) {z : Nat} (hz : z < 8) : f_X5_zone c (nI z) 0 = some (nI (A.1 13 z)) := by
  unfold f_X5_zone f_X3_tellZone
  rw [w_isZone hz, oR_some, if_neg (show ¬ (1 : Int32) = 0 by decide), if_pos rfl, oA_at hz (by decide), h.1.1.zn (by decide) (by decide) hz, oR_some]
theorem q_zone1 {c : CS} {A : NS} {o k : Nat} {H : Nat → NS} (h : Tq c A o k H) {z : Nat} (hz : z < 8) : f_X5_zone c (nI z) 1 = some (nI (A.1 14 z)) := by
  unfold f_X5_zone f_X3_tellZone
  rw [w_isZone hz, oR_some, if_neg (show ¬ (1 : Int32) = 0 by decide), if_neg (show ¬ (1 : Int32) = 0 by decide), if_pos rfl, oA_at hz (by decide), h.1.1.zn (by decide) (by decide) hz, oR_some]
theorem q_zone3 {c : CS} {A : NS} {o k : Nat} {H : Nat → NS} (h : Tq c A o k H) {z : Nat} (hz : z < 8) : f_X5_zone c (nI z) 3 = some (nI (A.1 16 z)) := by
  unfold f_X5_zone f_X3_tellZone
  rw [w_isZone hz, oR_some, if_neg (show ¬ (1 : Int32) = 0 by decide), if_neg (show ¬ (3 : Int32) = 0 by decide), if_neg (show ¬ (3 : Int32) = 1 by decide), if_neg (show ¬ (3 : Int32) = 2 by decide), if_pos rfl, oA_at hz (by decide), h.1.1.zn (by decide) (by decide) hz, oR_some]
theorem q_zone4 {c : CS} {A : NS} {o k : Nat} {H : Nat → NS} (h : Tq c A o k H) {z : Nat} (hz : z < 8) : f_X5_zone c (nI z) 4 = some (nI (A.1 17 z)) := by
  unfold f_X5_zone f_X3_tellZone
  rw [w_isZone hz, oR_some, if_neg (show ¬ (1 : Int32) = 0 by decide), if_neg (show ¬ (4 : Int32) = 0 by decide), if_neg (show ¬ (4 : Int32) = 1 by decide), if_neg (show ¬ (4 : Int32) = 2 by decide), if_neg (show ¬ (4 : Int32) = 3 by decide), if_pos rfl, oA_at hz (by decide), h.1.1.zn (by decide) (by decide) hz, oR_some]
theorem q_zone5 {c : CS} {A : NS} {o k : Nat} {H : Nat → NS} (h : Tq c A o k H) {z : Nat} (hz : z < 8) : f_X5_zone c (nI z) 5 = some (nI (cnt (rdb A z) (A.2 0))) := by
  have bd := h.2.1.1.b
  unfold f_X5_zone f_X3_tellZone
  rw [w_isZone hz, oR_some, if_neg (show ¬ (1 : Int32) = 0 by decide), if_neg (show ¬ (5 : Int32) = 0 by decide), if_neg (show ¬ (5 : Int32) = 1 by decide), if_neg (show ¬ (5 : Int32) = 2 by decide), if_neg (show ¬ (5 : Int32) = 3 by decide), if_neg (show ¬ (5 : Int32) = 4 by decide), if_pos rfl, oA_at hz (by decide), h.1.1.zn (by decide) (by decide) hz, w_toldInGen h.1.1 bd (by omega) (bd.2.1 17 z), oR_some, oR_some]
  rfl
theorem q_zone6 {c : CS} {A : NS} {o k : Nat} {H : Nat → NS} (h : Tq c A o k H) {z : Nat} (hz : z < 8) : f_X5_zone c (nI z) 6 = some (nI (cnt (fun a => decide (A.1 3 a = z ∧ A.1 5 a = 1)) (A.2 0))) := by
  have e1 : f_X0_liveInZone (c.1 0) (nI z) 1 = some (nI (cnt (fun a => decide (A.1 3 a = z ∧ A.1 5 a = 1)) (A.2 0))) := w_liveInZone h.1.1 h.2.1.1.b h.1.2 (q := 1) (by omega) (by decide) (fun a _ hx => decide_eq_true (Or.inr hx))
  unfold f_X5_zone f_X3_tellZone
  rw [w_isZone hz, oR_some, if_neg (show ¬ (1 : Int32) = 0 by decide), if_neg (show ¬ (6 : Int32) = 0 by decide), if_neg (show ¬ (6 : Int32) = 1 by decide), if_neg (show ¬ (6 : Int32) = 2 by decide), if_neg (show ¬ (6 : Int32) = 3 by decide), if_neg (show ¬ (6 : Int32) = 4 by decide), if_neg (show ¬ (6 : Int32) = 5 by decide), if_pos rfl, e1, oR_some, oR_some]
theorem q_zone7 {c : CS} {A : NS} {o k : Nat} {H : Nat → NS} (h : Tq c A o k H) {z : Nat} (hz : z < 8) : f_X5_zone c (nI z) 7 = some (nI (cnt (fun a => decide (A.1 3 a = z ∧ A.1 5 a = 0)) (A.2 0))) := by
  have e1 : f_X0_liveInZone (c.1 0) (nI z) 0 = some (nI (cnt (fun a => decide (A.1 3 a = z ∧ A.1 5 a = 0)) (A.2 0))) := w_liveInZone h.1.1 h.2.1.1.b h.1.2 (q := 0) (by omega) (by decide) (fun a _ hx => decide_eq_true (Or.inl hx))
  unfold f_X5_zone f_X3_tellZone
  rw [w_isZone hz, oR_some, if_neg (show ¬ (1 : Int32) = 0 by decide), if_neg (show ¬ (7 : Int32) = 0 by decide), if_neg (show ¬ (7 : Int32) = 1 by decide), if_neg (show ¬ (7 : Int32) = 2 by decide), if_neg (show ¬ (7 : Int32) = 3 by decide), if_neg (show ¬ (7 : Int32) = 4 by decide), if_neg (show ¬ (7 : Int32) = 5 by decide), if_neg (show ¬ (7 : Int32) = 6 by decide), if_pos rfl, e1, oR_some, oR_some]
theorem q_num {c : CS} {A : NS} {o k : Nat} {H : Nat → NS} (h : Tq c A o k H) {a : Nat} (ha : a < A.2 0) : f_X0_isNumber (c.1 0) (nI a) = some 1 := by
  have hn := h.2.1.1.a.1
  unfold f_X0_isNumber
  rw [h.1.1.n0, if_neg (nI_pos (by omega)), if_neg (nI_ge ha (by omega))]
  rfl
theorem q_app {c : CS} {A : NS} {o k : Nat} {H : Nat → NS} (h : Tq c A o k H) {a : Nat} (ha : a < A.2 0) (p : Int32) : f_X5_appended c (nI a) p = oR (oJ (κ := Int32 → Option (Int32)) (fun t0_25 => if p = 0 then (some (nI (A.1 2 a))) else (if p = 1 then (some (nI (A.1 3 a))) else (if p = 2 then (some (nI (A.1 4 a))) else (if p = 3 then (some (nI (A.1 5 a))) else (if p = 4 then (if t0_25 = 0 then (some (-5)) else (some ((c.1 0).1 6 a))) else (if p = 5 then (if t0_25 = 0 then (some (-5)) else (some ((c.1 0).1 7 a))) else (if p = 6 then (some (if A.1 5 a = 3 then nI (A.1 8 a) else -5)) else (if p = 7 then (if t0_25 = 0 then (some (-5)) else (some ((c.1 0).1 9 a))) else (some (-2)))))))))) (fun k25 => if A.1 5 a = 2 then (k25 1) else (k25 0))) (fun r => some r) := by
  have hn := h.2.1.1.a.1
  have bd := h.2.1.1.b
  have ha2 : a < 201 := by omega
  have r : ∀ m, 2 ≤ m → m < 6 → (c.1 0).1 m a = nI (A.1 m a) := fun m h2 h6 => h.1.1.ap h2 h6 ha
  have g2 : (nI (A.1 5 a) = 2) ↔ A.1 5 a = 2 := nI_eq (b := 2) (bd.2.1 5 a) (by decide)
  unfold f_X5_appended f_X0_tellAppend
  rw [q_num h ha, oR_some, if_neg (show ¬ (1 : Int32) = 0 by decide)]
  simp only [oJ_to, oA_at ha2 (by decide : (201 : Nat) < 2 ^ 31), r 2 (by decide) (by decide), r 3 (by decide) (by decide), r 4 (by decide) (by decide), r 5 (by decide) (by decide), h.1.1.2.2.2.1 a ha, g2]
theorem q_app1 {c : CS} {A : NS} {o k : Nat} {H : Nat → NS} (h : Tq c A o k H) {a : Nat} (ha : a < A.2 0) : f_X5_appended c (nI a) 1 = some (nI (A.1 3 a)) := by
  rw [q_app h ha, oJ_to]
  split <;> (dsimp only; rw [if_neg (show ¬ (1 : Int32) = 0 by decide), if_pos rfl]; rfl)
theorem q_app2 {c : CS} {A : NS} {o k : Nat} {H : Nat → NS} (h : Tq c A o k H) {a : Nat} (ha : a < A.2 0) : f_X5_appended c (nI a) 2 = some (nI (A.1 4 a)) := by
  rw [q_app h ha, oJ_to]
  split <;> (dsimp only; rw [if_neg (show ¬ (2 : Int32) = 0 by decide), if_neg (show ¬ (2 : Int32) = 1 by decide), if_pos rfl]; rfl)
theorem q_app3 {c : CS} {A : NS} {o k : Nat} {H : Nat → NS} (h : Tq c A o k H) {a : Nat} (ha : a < A.2 0) : f_X5_appended c (nI a) 3 = some (nI (A.1 5 a)) := by
  rw [q_app h ha, oJ_to]
  split <;> (dsimp only; rw [if_neg (show ¬ (3 : Int32) = 0 by decide), if_neg (show ¬ (3 : Int32) = 1 by decide), if_neg (show ¬ (3 : Int32) = 2 by decide), if_pos rfl]; rfl)
theorem q_app4 {c : CS} {A : NS} {o k : Nat} {H : Nat → NS} (h : Tq c A o k H) {a : Nat} (ha : a < A.2 0) (hp : A.1 5 a = 2) : f_X5_appended c (nI a) 4 = some (nI (A.1 6 a)) := by
  rw [q_app h ha, oJ_to]
  rw [if_pos hp]
  dsimp only
  rw [if_neg (show ¬ (4 : Int32) = 0 by decide), if_neg (show ¬ (4 : Int32) = 1 by decide), if_neg (show ¬ (4 : Int32) = 2 by decide), if_neg (show ¬ (4 : Int32) = 3 by decide), if_pos rfl, if_neg (show ¬ (1 : Int32) = 0 by decide), (h.1.1.2.2.1 a ha (Or.inr hp)).1]
  rfl
theorem q_app4n {c : CS} {A : NS} {o k : Nat} {H : Nat → NS} (h : Tq c A o k H) {a : Nat} (ha : a < A.2 0) (hp : ¬ A.1 5 a = 2) : f_X5_appended c (nI a) 4 = some (-5) := by
  rw [q_app h ha, oJ_to]
  rw [if_neg hp]
  dsimp only
  rw [if_neg (show ¬ (4 : Int32) = 0 by decide), if_neg (show ¬ (4 : Int32) = 1 by decide), if_neg (show ¬ (4 : Int32) = 2 by decide), if_neg (show ¬ (4 : Int32) = 3 by decide), if_pos rfl, if_pos rfl]
  rfl
theorem q_app5 {c : CS} {A : NS} {o k : Nat} {H : Nat → NS} (h : Tq c A o k H) {a : Nat} (ha : a < A.2 0) (hp : A.1 5 a = 2) : f_X5_appended c (nI a) 5 = some (nI (A.1 7 a)) := by
  rw [q_app h ha, oJ_to]
  rw [if_pos hp]
  dsimp only
  rw [if_neg (show ¬ (5 : Int32) = 0 by decide), if_neg (show ¬ (5 : Int32) = 1 by decide), if_neg (show ¬ (5 : Int32) = 2 by decide), if_neg (show ¬ (5 : Int32) = 3 by decide), if_neg (show ¬ (5 : Int32) = 4 by decide), if_pos rfl, if_neg (show ¬ (1 : Int32) = 0 by decide), (h.1.1.2.2.1 a ha (Or.inr hp)).2.1]
  rfl
theorem q_app5n {c : CS} {A : NS} {o k : Nat} {H : Nat → NS} (h : Tq c A o k H) {a : Nat} (ha : a < A.2 0) (hp : ¬ A.1 5 a = 2) : f_X5_appended c (nI a) 5 = some (-5) := by
  rw [q_app h ha, oJ_to]
  rw [if_neg hp]
  dsimp only
  rw [if_neg (show ¬ (5 : Int32) = 0 by decide), if_neg (show ¬ (5 : Int32) = 1 by decide), if_neg (show ¬ (5 : Int32) = 2 by decide), if_neg (show ¬ (5 : Int32) = 3 by decide), if_neg (show ¬ (5 : Int32) = 4 by decide), if_pos rfl, if_pos rfl]
  rfl
theorem q_app7 {c : CS} {A : NS} {o k : Nat} {H : Nat → NS} (h : Tq c A o k H) {a : Nat} (ha : a < A.2 0) (hp : A.1 5 a = 2) : f_X5_appended c (nI a) 7 = some (nI (A.1 9 a)) := by
  rw [q_app h ha, oJ_to]
  rw [if_pos hp]
  dsimp only
  rw [if_neg (show ¬ (7 : Int32) = 0 by decide), if_neg (show ¬ (7 : Int32) = 1 by decide), if_neg (show ¬ (7 : Int32) = 2 by decide), if_neg (show ¬ (7 : Int32) = 3 by decide), if_neg (show ¬ (7 : Int32) = 4 by decide), if_neg (show ¬ (7 : Int32) = 5 by decide), if_neg (show ¬ (7 : Int32) = 6 by decide), if_pos rfl, if_neg (show ¬ (1 : Int32) = 0 by decide), (h.1.1.2.2.1 a ha (Or.inr hp)).2.2]
  rfl
theorem q_app7n {c : CS} {A : NS} {o k : Nat} {H : Nat → NS} (h : Tq c A o k H) {a : Nat} (ha : a < A.2 0) (hp : ¬ A.1 5 a = 2) : f_X5_appended c (nI a) 7 = some (-5) := by
  rw [q_app h ha, oJ_to]
  rw [if_neg hp]
  dsimp only
  rw [if_neg (show ¬ (7 : Int32) = 0 by decide), if_neg (show ¬ (7 : Int32) = 1 by decide), if_neg (show ¬ (7 : Int32) = 2 by decide), if_neg (show ¬ (7 : Int32) = 3 by decide), if_neg (show ¬ (7 : Int32) = 4 by decide), if_neg (show ¬ (7 : Int32) = 5 by decide), if_neg (show ¬ (7 : Int32) = 6 by decide), if_pos rfl, if_pos rfl]
  rfl
theorem q_app6 {c : CS} {A : NS} {o k : Nat} {H : Nat → NS} (h : Tq c A o k H) {a : Nat} (ha : a < A.2 0) : f_X5_appended c (nI a) 6 = some (if A.1 5 a = 3 then nI (A.1 8 a) else -5) := by
  rw [q_app h ha, oJ_to]
  split <;> (dsimp only; rw [if_neg (show ¬ (6 : Int32) = 0 by decide), if_neg (show ¬ (6 : Int32) = 1 by decide), if_neg (show ¬ (6 : Int32) = 2 by decide), if_neg (show ¬ (6 : Int32) = 3 by decide), if_neg (show ¬ (6 : Int32) = 4 by decide), if_neg (show ¬ (6 : Int32) = 5 by decide), if_pos rfl]; rfl)
theorem q_wr1 {c : CS} {A : NS} {o k : Nat} {H : Nat → NS} (h : Tq c A o k H) {w : Nat} (hw : w < 4) : f_X5_writer c (nI w) 1 = some (nI (cnt (fun a => decide (A.1 2 a = w ∧ A.1 5 a = 0)) (A.2 0))) := by
  have e : f_X0_ofWriter (c.1 0) (nI w) 0 = some (nI (cnt (fun a => decide (A.1 2 a = w ∧ A.1 5 a = 0)) (A.2 0))) := w_ofWriterC h.1.1 h.2.1.1.b (q := 0) (by omega) (by decide)
  unfold f_X5_writer f_X3_tellWriter
  rw [w_isWriter hw, oR_some, if_neg (show ¬ (1 : Int32) = 0 by decide), if_neg (show ¬ (1 : Int32) = 0 by decide), if_pos rfl, e, oR_some, oR_some]
theorem q_wr2 {c : CS} {A : NS} {o k : Nat} {H : Nat → NS} (h : Tq c A o k H) {w : Nat} (hw : w < 4) : f_X5_writer c (nI w) 2 = some (nI (cnt (fun a => decide (A.1 2 a = w ∧ A.1 5 a = 1)) (A.2 0))) := by
  have e : f_X0_ofWriter (c.1 0) (nI w) 1 = some (nI (cnt (fun a => decide (A.1 2 a = w ∧ A.1 5 a = 1)) (A.2 0))) := w_ofWriterC h.1.1 h.2.1.1.b (q := 1) (by omega) (by decide)
  unfold f_X5_writer f_X3_tellWriter
  rw [w_isWriter hw, oR_some, if_neg (show ¬ (1 : Int32) = 0 by decide), if_neg (show ¬ (2 : Int32) = 0 by decide), if_neg (show ¬ (2 : Int32) = 1 by decide), if_pos rfl, e, oR_some, oR_some]
theorem q_wr3 {c : CS} {A : NS} {o k : Nat} {H : Nat → NS} (h : Tq c A o k H) {w : Nat} (hw : w < 4) : f_X5_writer c (nI w) 3 = some (nI (cnt (fun a => decide (A.1 2 a = w ∧ A.1 5 a = 2)) (A.2 0))) := by
  have e : f_X0_ofWriter (c.1 0) (nI w) 2 = some (nI (cnt (fun a => decide (A.1 2 a = w ∧ A.1 5 a = 2)) (A.2 0))) := w_ofWriterC h.1.1 h.2.1.1.b (q := 2) (by omega) (by decide)
  unfold f_X5_writer f_X3_tellWriter
  rw [w_isWriter hw, oR_some, if_neg (show ¬ (1 : Int32) = 0 by decide), if_neg (show ¬ (3 : Int32) = 0 by decide), if_neg (show ¬ (3 : Int32) = 1 by decide), if_neg (show ¬ (3 : Int32) = 2 by decide), if_pos rfl, e, oR_some, oR_some]
theorem q_wr4 {c : CS} {A : NS} {o k : Nat} {H : Nat → NS} (h : Tq c A o k H) {w : Nat} (hw : w < 4) : f_X5_writer c (nI w) 4 = some (nI (cnt (fun a => decide (A.1 2 a = w ∧ A.1 5 a = 3)) (A.2 0))) := by
  have e : f_X0_ofWriter (c.1 0) (nI w) 3 = some (nI (cnt (fun a => decide (A.1 2 a = w ∧ A.1 5 a = 3)) (A.2 0))) := w_ofWriterC h.1.1 h.2.1.1.b (q := 3) (by omega) (by decide)
  unfold f_X5_writer f_X3_tellWriter
  rw [w_isWriter hw, oR_some, if_neg (show ¬ (1 : Int32) = 0 by decide), if_neg (show ¬ (4 : Int32) = 0 by decide), if_neg (show ¬ (4 : Int32) = 1 by decide), if_neg (show ¬ (4 : Int32) = 2 by decide), if_neg (show ¬ (4 : Int32) = 3 by decide), if_pos rfl, e, oR_some, oR_some]
theorem q_told {c : CS} {A : NS} {o k : Nat} {H : Nat → NS} (h : Tq c A o k H) {q : Nat} (hq : q < A.2 1) : f_X5_told c (nI q) = some (nI (A.1 10 q)) := by
  have ht := h.2.1.1.told
  unfold f_X5_told f_X0_toldAt
  rw [h.1.1.1 1 (by decide) (by decide), if_pos (nI_pos' (by omega)), if_neg (nI_ge hq (by omega)), oA_at (show q < 201 by omega) (by decide), h.1.1.2.2.2.2.1 q hq, oR_some]
theorem q_told_end {c : CS} {A : NS} {o k : Nat} {H : Nat → NS} (h : Tq c A o k H) : f_X5_told c (nI (A.2 1)) = some (-5) := by
  have ht := h.2.1.1.told
  unfold f_X5_told f_X0_toldAt
  rw [h.1.1.1 1 (by decide) (by decide), if_pos (nI_pos' (by omega)), if_pos (nI_le (Nat.le_refl _) (by omega)), oR_some]
theorem q_read1 {c : CS} {A : NS} {o k : Nat} {H : Nat → NS} (h : Tq c A o k H) {z : Nat} (hz : z < 8) {q a : Nat} (hq : q < 2 ^ 31) (ha : a < A.2 0) (hh : hdr A z q a = true) : f_X5_read c (nI z) (nI q) = some (if A.1 5 a = 1 then -4 else nI (A.1 4 a)) := by
  have I := h.2.1.1
  have bd := I.b
  have hn := I.a.1
  obtain ⟨p, p3, p9, p6⟩ := of_decide_eq_true hh
  unfold f_X5_read f_X3_blockAt
  rw [w_isZone hz, oR_some, if_neg (show ¬ (1 : Int32) = 0 by decide), if_pos (show (0 : Int32) ≤ nI q from nI_pos' hq), oA_at hz (by decide), h.1.1.zn (by decide) (by decide) hz]
  rcases w_holder h.1.1 I hz hq with ⟨a', ha', hh', e⟩ | ⟨hno, e⟩
  · obtain ⟨p', p3', p9', p6'⟩ := of_decide_eq_true hh'
    have ea : a' = a := I.h.2.2.1 a' a ha' ha p' p (p3'.trans p3.symm) (p9'.trans p9.symm) (p6'.trans p6.symm)
    subst ea
    have hne : ¬ nI a' = -1 := fun x => by
      have := nI_pos (n := a') (by omega)
      rw [x] at this
      exact this (by decide)
    have g1 : (nI (A.1 5 a') = 1) ↔ A.1 5 a' = 1 := nI_eq (b := 1) (bd.2.1 5 a') (by decide)
    rw [e, oR_some, if_neg hne, oA_at (show a' < 201 by omega) (by decide), h.1.1.ap (by decide) (by decide) ha', oA_at (show a' < 201 by omega) (by decide), h.1.1.ap (by decide) (by decide) ha']
    by_cases c1 : A.1 5 a' = 1
    · rw [if_pos (g1.2 c1), if_pos c1]; rfl
    · rw [if_neg (fun x => c1 (g1.1 x)), if_neg c1]; rfl
  · exact absurd hh (hno a ha)
theorem q_read0 {c : CS} {A : NS} {o k : Nat} {H : Nat → NS} (h : Tq c A o k H) {z : Nat} (hz : z < 8) {q : Nat} (hq : q < 2 ^ 31) (hp : A.1 16 z ≤ q) : f_X5_read c (nI z) (nI q) = some (-5) := by
  have I := h.2.1.1
  unfold f_X5_read f_X3_blockAt
  rw [w_isZone hz, oR_some, if_neg (show ¬ (1 : Int32) = 0 by decide), if_pos (show (0 : Int32) ≤ nI q from nI_pos' hq), oA_at hz (by decide), h.1.1.zn (by decide) (by decide) hz]
  rcases w_holder h.1.1 I hz hq with ⟨a', ha', hh', e⟩ | ⟨hno, e⟩
  · obtain ⟨p', p3', p9', p6'⟩ := of_decide_eq_true hh'
    have := (I.h.1 a' ha' p').2 (by rw [p3']; exact p9')
    rw [p3'] at this
    omega
  · rw [e, oR_some, if_pos rfl]
    rfl
