def f_X5_set (σ : CS) (p1 : Int32) (p2 : Int32) : Option (Int32 × CS) :=
  oV (f_X1_draft σ) (fun t => t) (fun s8 => oW (f_X3_changeNumber (s8.1 0) p1 p2) (cS s8 0) (fun r22 s22 => oW (f_X1_settle s22 r22) (fun t => t) (fun r25 s25 => some (r25, s25))))
set_option maxRecDepth 100000 in
set_option maxHeartbeats 4000000 in
theorem m_X5_set {l : Launch} {G : va_G} {tys : List (ClassId × FieldType)} {S0 : Nat} {h h1 h2 : Nat → va_E} {b cN' : Nat} {cI cC cS' : ClassId} {σ : CS} {τ : CS} {p1 : Int32} {p2 : Int32} {r : Int32} (hb : b + 159 ≤ cN') (ht : tys[0]? = some (cI, .int)) (htc : tys[1]? = some (cC, .char)) (hts : tys[3]? = some (cS', .object "AppendZones$State")) (e1 : h1 = ov h b (cl S0 cI cC cS' b σ)) (e2 : h2 = ov h b (cl S0 cI cC cS' b τ)) (hf : f_X5_set σ p1 p2 = some (r, τ)) : XMet l G tys S0 cN' yX5_set cX5_set 3 (some .int) 5 126 [.ref (S0 + (b + 0)), .int p1, .int p2] h1 cN' (some (.int r)) h2 0 0 := by
  subst e1; subst e2
  refine XMet.ofE (ST := CS) (HP := fun σ => ov h b (cl S0 cI cC cS' b σ)) σ τ (by decide) (Nat.le_of_ble_eq_true rfl) ?_
  intro κ g1 g2 g3 g4 g5 g6 E X hQ
  subst g1; subst g2; subst g3; subst g4
  have Y : YC κ h b cI cC cS' := ⟨fun σ => by rw [g5], fun σ => by rw [g6]; exact hb, ht, htc, hts⟩
  have X : XC κ cX5_set 3 RX5 (some .int) 5 126 := X
  show XG κ σ 0 [(0, .ref (κ.S0 + (b + 0))), (1, .int p1), (2, .int p2)] []
  unfold f_X5_set at hf
  refine x_aload_n X dX5_set_0 rfl 0 rfl ?_
  refine x_getf X fl_X5_26 (yC_0 Y) (yC_l Y 0 (by decide)) rfl dX5_set_1 ?_
  refine x_aload_n X dX5_set_4 rfl 0 rfl ?_
  refine x_getf X fl_X5_12 (yC_0 Y) (yC_l Y 0 (by decide)) rfl dX5_set_5 ?_
  refine x_callD (rest := []) (w := fun t => t) X E.1 hf (fun t hr => x_cV (ci := 1) X cm_X1_draft lkV_X5_37 rfl ⟨Nat.le_of_ble_eq_true rfl, Nat.le_of_ble_eq_true rfl⟩ (yC_45 Y) (yC_l Y 45 (by decide)) (m_X1_draft (yC_hb Y σ) (yC_ht Y) (yC_htc Y) (yC_hts Y) (yC_hp Y _) (yC_hp Y _) hr) rfl rfl (Nat.le_of_ble_eq_true rfl) (x_room E _) dX5_set_8) (fun s8 _ hf => ?_)
  refine x_pop X dX5_set_11 rfl ?_
  refine x_aload_n X dX5_set_12 rfl 0 rfl ?_
  refine x_getf X fl_X5_26 (yC_0 Y) (yC_l Y 0 (by decide)) rfl dX5_set_13 ?_
  refine x_aload_n X dX5_set_16 rfl 0 rfl ?_
  refine x_getf X fl_X5_12 (yC_0 Y) (yC_l Y 0 (by decide)) rfl dX5_set_17 ?_
  refine x_iload_n X dX5_set_20 rfl 1 rfl ?_
  refine x_iload_n X dX5_set_21 rfl 2 rfl ?_
  refine x_callW (rest := [.ref (κ.S0 + (b + 45))]) (w := cS s8 0) X E.1 hf (fun r t hr => x_cV (ci := 3) X cm_X3_changeNumber lkV_X5_41 rfl ⟨Nat.le_of_ble_eq_true rfl, Nat.le_of_ble_eq_true rfl⟩ (yC_g0_0 Y) (yC_l0 Y 0 (by decide)) (m_X3_changeNumber (yC_b0 Y s8) (yC_ht Y) (yC_g0 Y _) (yC_G0 Y _ _) hr) rfl rfl (Nat.le_of_ble_eq_true rfl) (x_room E _) dX5_set_22) (fun r22 s22 hf => ?_)
  refine x_callW (rest := []) (w := fun t => t) X E.1 hf (fun r t hr => x_cV (ci := 1) X cm_X1_settle lkV_X5_45 rfl ⟨Nat.le_of_ble_eq_true rfl, Nat.le_of_ble_eq_true rfl⟩ (yC_45 Y) (yC_l Y 45 (by decide)) (m_X1_settle (yC_hb Y s22) (yC_ht Y) (yC_htc Y) (yC_hts Y) (yC_hp Y _) (yC_hp Y _) hr) rfl rfl (Nat.le_of_ble_eq_true rfl) (x_room E _) dX5_set_25) (fun r25 s25 hf => ?_)
  exact x_iretW (σ0 := σ) X E hQ hf dX5_set_28
def f_X5_setZone (σ : CS) (p1 : Int32) (p2 : Int32) (p3 : Int32) : Option (Int32 × CS) :=
  oV (f_X1_draft σ) (fun t => t) (fun s8 => oJ (κ := Int32 → CS → Option (Int32 × CS)) (fun t0_41 s_41 => oW (f_X1_settle s_41 t0_41) (fun t => t) (fun r41 s41 => some (r41, s41))) (fun k41 => if p2 = 0 then (oW (f_X3_changeCapacity (s8.1 0) p1 p3) (cS s8 0) (fun r38 s38 => k41 r38 s38)) else (oW (f_X3_changeDelay (s8.1 0) p1 p3) (cS s8 0) (fun r26 s26 => k41 r26 s26))))
set_option maxRecDepth 100000 in
set_option maxHeartbeats 4000000 in
theorem m_X5_setZone {l : Launch} {G : va_G} {tys : List (ClassId × FieldType)} {S0 : Nat} {h h1 h2 : Nat → va_E} {b cN' : Nat} {cI cC cS' : ClassId} {σ : CS} {τ : CS} {p1 : Int32} {p2 : Int32} {p3 : Int32} {r : Int32} (hb : b + 159 ≤ cN') (ht : tys[0]? = some (cI, .int)) (htc : tys[1]? = some (cC, .char)) (hts : tys[3]? = some (cS', .object "AppendZones$State")) (e1 : h1 = ov h b (cl S0 cI cC cS' b σ)) (e2 : h2 = ov h b (cl S0 cI cC cS' b τ)) (hf : f_X5_setZone σ p1 p2 p3 = some (r, τ)) : XMet l G tys S0 cN' yX5_setZone cX5_setZone 4 (some .int) 5 126 [.ref (S0 + (b + 0)), .int p1, .int p2, .int p3] h1 cN' (some (.int r)) h2 0 0 := by
  subst e1; subst e2
  refine XMet.ofE (ST := CS) (HP := fun σ => ov h b (cl S0 cI cC cS' b σ)) σ τ (by decide) (Nat.le_of_ble_eq_true rfl) ?_
  intro κ g1 g2 g3 g4 g5 g6 E X hQ
  subst g1; subst g2; subst g3; subst g4
  have Y : YC κ h b cI cC cS' := ⟨fun σ => by rw [g5], fun σ => by rw [g6]; exact hb, ht, htc, hts⟩
  have X : XC κ cX5_setZone 4 RX5 (some .int) 5 126 := X
  show XG κ σ 0 [(0, .ref (κ.S0 + (b + 0))), (1, .int p1), (2, .int p2), (3, .int p3)] []
  unfold f_X5_setZone at hf
  refine x_aload_n X dX5_setZone_0 rfl 0 rfl ?_
  refine x_getf X fl_X5_26 (yC_0 Y) (yC_l Y 0 (by decide)) rfl dX5_setZone_1 ?_
  refine x_aload_n X dX5_setZone_4 rfl 0 rfl ?_
  refine x_getf X fl_X5_12 (yC_0 Y) (yC_l Y 0 (by decide)) rfl dX5_setZone_5 ?_
  refine x_callD (rest := []) (w := fun t => t) X E.1 hf (fun t hr => x_cV (ci := 1) X cm_X1_draft lkV_X5_37 rfl ⟨Nat.le_of_ble_eq_true rfl, Nat.le_of_ble_eq_true rfl⟩ (yC_45 Y) (yC_l Y 45 (by decide)) (m_X1_draft (yC_hb Y σ) (yC_ht Y) (yC_htc Y) (yC_hts Y) (yC_hp Y _) (yC_hp Y _) hr) rfl rfl (Nat.le_of_ble_eq_true rfl) (x_room E _) dX5_setZone_8) (fun s8 _ hf => ?_)
  refine x_pop X dX5_setZone_11 rfl ?_
  refine x_aload_n X dX5_setZone_12 rfl 0 rfl ?_
  refine x_getf X fl_X5_26 (yC_0 Y) (yC_l Y 0 (by decide)) rfl dX5_setZone_13 ?_
  refine x_iload_n X dX5_setZone_16 rfl 2 rfl ?_
  refine x_join (fun k41 => ∀ (t0_41 : Int32) (s_41 : CS), k41 t0_41 s_41 = some (r, τ) → XG κ s_41 41 [] [.int t0_41, .ref (κ.S0 + (b + 45))]) hf (fun t0_41 s_41 hf => ?_) (fun k41 J41 hf => ?_)
  · refine x_callW (rest := []) (w := fun t => t) X E.1 hf (fun r t hr => x_cV (ci := 1) X cm_X1_settle lkV_X5_45 rfl ⟨Nat.le_of_ble_eq_true rfl, Nat.le_of_ble_eq_true rfl⟩ (yC_45 Y) (yC_l Y 45 (by decide)) (m_X1_settle (yC_hb Y s_41) (yC_ht Y) (yC_htc Y) (yC_hts Y) (yC_hp Y _) (yC_hp Y _) hr) rfl rfl (Nat.le_of_ble_eq_true rfl) (x_room E _) dX5_setZone_41) (fun r41 s41 hf => ?_)
    exact x_iretW (σ0 := σ) X E hQ hf dX5_setZone_44
  · refine x_if_eq (tgt := 32) X dX5_setZone_17 (by decide) hf (fun hf => ?_) (fun hf => ?_)
    · refine x_aload_n X dX5_setZone_32 rfl 0 rfl ?_
      refine x_getf X fl_X5_12 (yC_0 Y) (yC_l Y 0 (by decide)) rfl dX5_setZone_33 ?_
      refine x_iload_n X dX5_setZone_36 rfl 1 rfl ?_
      refine x_iload_n X dX5_setZone_37 rfl 3 rfl ?_
      refine x_callW (rest := [.ref (κ.S0 + (b + 45))]) (w := cS s8 0) X E.1 hf (fun r t hr => x_cV (ci := 3) X cm_X3_changeCapacity lkV_X5_52 rfl ⟨Nat.le_of_ble_eq_true rfl, Nat.le_of_ble_eq_true rfl⟩ (yC_g0_0 Y) (yC_l0 Y 0 (by decide)) (m_X3_changeCapacity (yC_b0 Y s8) (yC_ht Y) (yC_g0 Y _) (yC_G0 Y _ _) hr) rfl rfl (Nat.le_of_ble_eq_true rfl) (x_room E _) dX5_setZone_38) (fun r38 s38 hf => ?_)
      refine x_sub [] rfl ?_
      exact J41 r38 s38 hf
    · refine x_aload_n X dX5_setZone_20 rfl 0 rfl ?_
      refine x_getf X fl_X5_12 (yC_0 Y) (yC_l Y 0 (by decide)) rfl dX5_setZone_21 ?_
      refine x_iload_n X dX5_setZone_24 rfl 1 rfl ?_
      refine x_iload_n X dX5_setZone_25 rfl 3 rfl ?_
      refine x_callW (rest := [.ref (κ.S0 + (b + 45))]) (w := cS s8 0) X E.1 hf (fun r t hr => x_cV (ci := 3) X cm_X3_changeDelay lkV_X5_49 rfl ⟨Nat.le_of_ble_eq_true rfl, Nat.le_of_ble_eq_true rfl⟩ (yC_g0_0 Y) (yC_l0 Y 0 (by decide)) (m_X3_changeDelay (yC_b0 Y s8) (yC_ht Y) (yC_g0 Y _) (yC_G0 Y _ _) hr) rfl rfl (Nat.le_of_ble_eq_true rfl) (x_room E _) dX5_setZone_26) (fun r26 s26 hf => ?_)
      refine x_goto (tgt := 41) X dX5_setZone_29 (by decide) ?_
      refine x_sub [] rfl ?_
      exact J41 r26 s26 hf
def f_X5_setWindow (σ : CS) (p1 : Int32) (p2 : Int32) : Option (Int32 × CS) :=
  oV (f_X1_draft σ) (fun t => t) (fun s8 => oW (f_X3_changeWindow (s8.1 0) p1 p2) (cS s8 0) (fun r22 s22 => oW (f_X1_settle s22 r22) (fun t => t) (fun r25 s25 => some (r25, s25))))
set_option maxRecDepth 100000 in
set_option maxHeartbeats 4000000 in
theorem m_X5_setWindow {l : Launch} {G : va_G} {tys : List (ClassId × FieldType)} {S0 : Nat} {h h1 h2 : Nat → va_E} {b cN' : Nat} {cI cC cS' : ClassId} {σ : CS} {τ : CS} {p1 : Int32} {p2 : Int32} {r : Int32} (hb : b + 159 ≤ cN') (ht : tys[0]? = some (cI, .int)) (htc : tys[1]? = some (cC, .char)) (hts : tys[3]? = some (cS', .object "AppendZones$State")) (e1 : h1 = ov h b (cl S0 cI cC cS' b σ)) (e2 : h2 = ov h b (cl S0 cI cC cS' b τ)) (hf : f_X5_setWindow σ p1 p2 = some (r, τ)) : XMet l G tys S0 cN' yX5_setWindow cX5_setWindow 3 (some .int) 5 126 [.ref (S0 + (b + 0)), .int p1, .int p2] h1 cN' (some (.int r)) h2 0 0 := by
  subst e1; subst e2
  refine XMet.ofE (ST := CS) (HP := fun σ => ov h b (cl S0 cI cC cS' b σ)) σ τ (by decide) (Nat.le_of_ble_eq_true rfl) ?_
  intro κ g1 g2 g3 g4 g5 g6 E X hQ
  subst g1; subst g2; subst g3; subst g4
  have Y : YC κ h b cI cC cS' := ⟨fun σ => by rw [g5], fun σ => by rw [g6]; exact hb, ht, htc, hts⟩
  have X : XC κ cX5_setWindow 3 RX5 (some .int) 5 126 := X
  show XG κ σ 0 [(0, .ref (κ.S0 + (b + 0))), (1, .int p1), (2, .int p2)] []
  unfold f_X5_setWindow at hf
  refine x_aload_n X dX5_setWindow_0 rfl 0 rfl ?_
  refine x_getf X fl_X5_26 (yC_0 Y) (yC_l Y 0 (by decide)) rfl dX5_setWindow_1 ?_
  refine x_aload_n X dX5_setWindow_4 rfl 0 rfl ?_
  refine x_getf X fl_X5_12 (yC_0 Y) (yC_l Y 0 (by decide)) rfl dX5_setWindow_5 ?_
  refine x_callD (rest := []) (w := fun t => t) X E.1 hf (fun t hr => x_cV (ci := 1) X cm_X1_draft lkV_X5_37 rfl ⟨Nat.le_of_ble_eq_true rfl, Nat.le_of_ble_eq_true rfl⟩ (yC_45 Y) (yC_l Y 45 (by decide)) (m_X1_draft (yC_hb Y σ) (yC_ht Y) (yC_htc Y) (yC_hts Y) (yC_hp Y _) (yC_hp Y _) hr) rfl rfl (Nat.le_of_ble_eq_true rfl) (x_room E _) dX5_setWindow_8) (fun s8 _ hf => ?_)
  refine x_pop X dX5_setWindow_11 rfl ?_
  refine x_aload_n X dX5_setWindow_12 rfl 0 rfl ?_
  refine x_getf X fl_X5_26 (yC_0 Y) (yC_l Y 0 (by decide)) rfl dX5_setWindow_13 ?_
  refine x_aload_n X dX5_setWindow_16 rfl 0 rfl ?_
  refine x_getf X fl_X5_12 (yC_0 Y) (yC_l Y 0 (by decide)) rfl dX5_setWindow_17 ?_
  refine x_iload_n X dX5_setWindow_20 rfl 1 rfl ?_
  refine x_iload_n X dX5_setWindow_21 rfl 2 rfl ?_
  refine x_callW (rest := [.ref (κ.S0 + (b + 45))]) (w := cS s8 0) X E.1 hf (fun r t hr => x_cV (ci := 3) X cm_X3_changeWindow lkV_X5_55 rfl ⟨Nat.le_of_ble_eq_true rfl, Nat.le_of_ble_eq_true rfl⟩ (yC_g0_0 Y) (yC_l0 Y 0 (by decide)) (m_X3_changeWindow (yC_b0 Y s8) (yC_ht Y) (yC_g0 Y _) (yC_G0 Y _ _) hr) rfl rfl (Nat.le_of_ble_eq_true rfl) (x_room E _) dX5_setWindow_22) (fun r22 s22 hf => ?_)
  refine x_callW (rest := []) (w := fun t => t) X E.1 hf (fun r t hr => x_cV (ci := 1) X cm_X1_settle lkV_X5_45 rfl ⟨Nat.le_of_ble_eq_true rfl, Nat.le_of_ble_eq_true rfl⟩ (yC_45 Y) (yC_l Y 45 (by decide)) (m_X1_settle (yC_hb Y s22) (yC_ht Y) (yC_htc Y) (yC_hts Y) (yC_hp Y _) (yC_hp Y _) hr) rfl rfl (Nat.le_of_ble_eq_true rfl) (x_room E _) dX5_setWindow_25) (fun r25 s25 hf => ?_)
  exact x_iretW (σ0 := σ) X E hQ hf dX5_setWindow_28
def f_X5_append (σ : CS) (p1 : Int32) (p2 : Int32) (p3 : Int32) : Option (Int32 × CS) :=
  oV (f_X1_draft σ) (fun t => t) (fun s8 => oW (f_X3_send (s8.1 0) p1 p2 p3) (cS s8 0) (fun r23 s23 => oW (f_X1_settle s23 r23) (fun t => t) (fun r26 s26 => some (r26, s26))))
set_option maxRecDepth 100000 in
set_option maxHeartbeats 4000000 in
theorem m_X5_append {l : Launch} {G : va_G} {tys : List (ClassId × FieldType)} {S0 : Nat} {h h1 h2 : Nat → va_E} {b cN' : Nat} {cI cC cS' : ClassId} {σ : CS} {τ : CS} {p1 : Int32} {p2 : Int32} {p3 : Int32} {r : Int32} (hb : b + 159 ≤ cN') (ht : tys[0]? = some (cI, .int)) (htc : tys[1]? = some (cC, .char)) (hts : tys[3]? = some (cS', .object "AppendZones$State")) (e1 : h1 = ov h b (cl S0 cI cC cS' b σ)) (e2 : h2 = ov h b (cl S0 cI cC cS' b τ)) (hf : f_X5_append σ p1 p2 p3 = some (r, τ)) : XMet l G tys S0 cN' yX5_append cX5_append 4 (some .int) 5 126 [.ref (S0 + (b + 0)), .int p1, .int p2, .int p3] h1 cN' (some (.int r)) h2 0 0 := by
  subst e1; subst e2
  refine XMet.ofE (ST := CS) (HP := fun σ => ov h b (cl S0 cI cC cS' b σ)) σ τ (by decide) (Nat.le_of_ble_eq_true rfl) ?_
  intro κ g1 g2 g3 g4 g5 g6 E X hQ
  subst g1; subst g2; subst g3; subst g4
  have Y : YC κ h b cI cC cS' := ⟨fun σ => by rw [g5], fun σ => by rw [g6]; exact hb, ht, htc, hts⟩
  have X : XC κ cX5_append 4 RX5 (some .int) 5 126 := X
  show XG κ σ 0 [(0, .ref (κ.S0 + (b + 0))), (1, .int p1), (2, .int p2), (3, .int p3)] []
  unfold f_X5_append at hf
  refine x_aload_n X dX5_append_0 rfl 0 rfl ?_
  refine x_getf X fl_X5_26 (yC_0 Y) (yC_l Y 0 (by decide)) rfl dX5_append_1 ?_
  refine x_aload_n X dX5_append_4 rfl 0 rfl ?_
  refine x_getf X fl_X5_12 (yC_0 Y) (yC_l Y 0 (by decide)) rfl dX5_append_5 ?_
  refine x_callD (rest := []) (w := fun t => t) X E.1 hf (fun t hr => x_cV (ci := 1) X cm_X1_draft lkV_X5_37 rfl ⟨Nat.le_of_ble_eq_true rfl, Nat.le_of_ble_eq_true rfl⟩ (yC_45 Y) (yC_l Y 45 (by decide)) (m_X1_draft (yC_hb Y σ) (yC_ht Y) (yC_htc Y) (yC_hts Y) (yC_hp Y _) (yC_hp Y _) hr) rfl rfl (Nat.le_of_ble_eq_true rfl) (x_room E _) dX5_append_8) (fun s8 _ hf => ?_)
  refine x_pop X dX5_append_11 rfl ?_
  refine x_aload_n X dX5_append_12 rfl 0 rfl ?_
  refine x_getf X fl_X5_26 (yC_0 Y) (yC_l Y 0 (by decide)) rfl dX5_append_13 ?_
  refine x_aload_n X dX5_append_16 rfl 0 rfl ?_
  refine x_getf X fl_X5_12 (yC_0 Y) (yC_l Y 0 (by decide)) rfl dX5_append_17 ?_
  refine x_iload_n X dX5_append_20 rfl 1 rfl ?_
  refine x_iload_n X dX5_append_21 rfl 2 rfl ?_
  refine x_iload_n X dX5_append_22 rfl 3 rfl ?_
  refine x_callW (rest := [.ref (κ.S0 + (b + 45))]) (w := cS s8 0) X E.1 hf (fun r t hr => x_cV (ci := 3) X cm_X3_send lkV_X5_58 rfl ⟨Nat.le_of_ble_eq_true rfl, Nat.le_of_ble_eq_true rfl⟩ (yC_g0_0 Y) (yC_l0 Y 0 (by decide)) (m_X3_send (yC_b0 Y s8) (yC_ht Y) (yC_g0 Y _) (yC_G0 Y _ _) hr) rfl rfl (Nat.le_of_ble_eq_true rfl) (x_room E _) dX5_append_23) (fun r23 s23 hf => ?_)
  refine x_callW (rest := []) (w := fun t => t) X E.1 hf (fun r t hr => x_cV (ci := 1) X cm_X1_settle lkV_X5_45 rfl ⟨Nat.le_of_ble_eq_true rfl, Nat.le_of_ble_eq_true rfl⟩ (yC_45 Y) (yC_l Y 45 (by decide)) (m_X1_settle (yC_hb Y s23) (yC_ht Y) (yC_htc Y) (yC_hts Y) (yC_hp Y _) (yC_hp Y _) hr) rfl rfl (Nat.le_of_ble_eq_true rfl) (x_room E _) dX5_append_26) (fun r26 s26 hf => ?_)
  exact x_iretW (σ0 := σ) X E hQ hf dX5_append_29
def f_X5_reset (σ : CS) (p1 : Int32) : Option (Int32 × CS) :=
  oV (f_X1_draft σ) (fun t => t) (fun s8 => oW (f_X3_wipe (s8.1 0) p1) (cS s8 0) (fun r21 s21 => oW (f_X1_settle s21 r21) (fun t => t) (fun r24 s24 => some (r24, s24))))
set_option maxRecDepth 100000 in
set_option maxHeartbeats 4000000 in
theorem m_X5_reset {l : Launch} {G : va_G} {tys : List (ClassId × FieldType)} {S0 : Nat} {h h1 h2 : Nat → va_E} {b cN' : Nat} {cI cC cS' : ClassId} {σ : CS} {τ : CS} {p1 : Int32} {r : Int32} (hb : b + 159 ≤ cN') (ht : tys[0]? = some (cI, .int)) (htc : tys[1]? = some (cC, .char)) (hts : tys[3]? = some (cS', .object "AppendZones$State")) (e1 : h1 = ov h b (cl S0 cI cC cS' b σ)) (e2 : h2 = ov h b (cl S0 cI cC cS' b τ)) (hf : f_X5_reset σ p1 = some (r, τ)) : XMet l G tys S0 cN' yX5_reset cX5_reset 2 (some .int) 5 126 [.ref (S0 + (b + 0)), .int p1] h1 cN' (some (.int r)) h2 0 0 := by
  subst e1; subst e2
  refine XMet.ofE (ST := CS) (HP := fun σ => ov h b (cl S0 cI cC cS' b σ)) σ τ (by decide) (Nat.le_of_ble_eq_true rfl) ?_
  intro κ g1 g2 g3 g4 g5 g6 E X hQ
  subst g1; subst g2; subst g3; subst g4
  have Y : YC κ h b cI cC cS' := ⟨fun σ => by rw [g5], fun σ => by rw [g6]; exact hb, ht, htc, hts⟩
  have X : XC κ cX5_reset 2 RX5 (some .int) 5 126 := X
  show XG κ σ 0 [(0, .ref (κ.S0 + (b + 0))), (1, .int p1)] []
  unfold f_X5_reset at hf
  refine x_aload_n X dX5_reset_0 rfl 0 rfl ?_
  refine x_getf X fl_X5_26 (yC_0 Y) (yC_l Y 0 (by decide)) rfl dX5_reset_1 ?_
  refine x_aload_n X dX5_reset_4 rfl 0 rfl ?_
  refine x_getf X fl_X5_12 (yC_0 Y) (yC_l Y 0 (by decide)) rfl dX5_reset_5 ?_
  refine x_callD (rest := []) (w := fun t => t) X E.1 hf (fun t hr => x_cV (ci := 1) X cm_X1_draft lkV_X5_37 rfl ⟨Nat.le_of_ble_eq_true rfl, Nat.le_of_ble_eq_true rfl⟩ (yC_45 Y) (yC_l Y 45 (by decide)) (m_X1_draft (yC_hb Y σ) (yC_ht Y) (yC_htc Y) (yC_hts Y) (yC_hp Y _) (yC_hp Y _) hr) rfl rfl (Nat.le_of_ble_eq_true rfl) (x_room E _) dX5_reset_8) (fun s8 _ hf => ?_)
  refine x_pop X dX5_reset_11 rfl ?_
  refine x_aload_n X dX5_reset_12 rfl 0 rfl ?_
  refine x_getf X fl_X5_26 (yC_0 Y) (yC_l Y 0 (by decide)) rfl dX5_reset_13 ?_
  refine x_aload_n X dX5_reset_16 rfl 0 rfl ?_
  refine x_getf X fl_X5_12 (yC_0 Y) (yC_l Y 0 (by decide)) rfl dX5_reset_17 ?_
  refine x_iload_n X dX5_reset_20 rfl 1 rfl ?_
  refine x_callW (rest := [.ref (κ.S0 + (b + 45))]) (w := cS s8 0) X E.1 hf (fun r t hr => x_cV (ci := 3) X cm_X3_wipe lkV_X5_62 rfl ⟨Nat.le_of_ble_eq_true rfl, Nat.le_of_ble_eq_true rfl⟩ (yC_g0_0 Y) (yC_l0 Y 0 (by decide)) (m_X3_wipe (yC_b0 Y s8) (yC_ht Y) (yC_g0 Y _) (yC_G0 Y _ _) hr) rfl rfl (Nat.le_of_ble_eq_true rfl) (x_room E _) dX5_reset_21) (fun r21 s21 hf => ?_)
  refine x_callW (rest := []) (w := fun t => t) X E.1 hf (fun r t hr => x_cV (ci := 1) X cm_X1_settle lkV_X5_45 rfl ⟨Nat.le_of_ble_eq_true rfl, Nat.le_of_ble_eq_true rfl⟩ (yC_45 Y) (yC_l Y 45 (by decide)) (m_X1_settle (yC_hb Y s21) (yC_ht Y) (yC_htc Y) (yC_hts Y) (yC_hp Y _) (yC_hp Y _) hr) rfl rfl (Nat.le_of_ble_eq_true rfl) (x_room E _) dX5_reset_24) (fun r24 s24 hf => ?_)
  exact x_iretW (σ0 := σ) X E hQ hf dX5_reset_27
def f_X5_finish (σ : CS) (p1 : Int32) : Option (Int32 × CS) :=
  oV (f_X1_draft σ) (fun t => t) (fun s8 => oW (f_X3_fill (s8.1 0) p1) (cS s8 0) (fun r21 s21 => oW (f_X1_settle s21 r21) (fun t => t) (fun r24 s24 => some (r24, s24))))
set_option maxRecDepth 100000 in
set_option maxHeartbeats 4000000 in
theorem m_X5_finish {l : Launch} {G : va_G} {tys : List (ClassId × FieldType)} {S0 : Nat} {h h1 h2 : Nat → va_E} {b cN' : Nat} {cI cC cS' : ClassId} {σ : CS} {τ : CS} {p1 : Int32} {r : Int32} (hb : b + 159 ≤ cN') (ht : tys[0]? = some (cI, .int)) (htc : tys[1]? = some (cC, .char)) (hts : tys[3]? = some (cS', .object "AppendZones$State")) (e1 : h1 = ov h b (cl S0 cI cC cS' b σ)) (e2 : h2 = ov h b (cl S0 cI cC cS' b τ)) (hf : f_X5_finish σ p1 = some (r, τ)) : XMet l G tys S0 cN' yX5_finish cX5_finish 2 (some .int) 5 126 [.ref (S0 + (b + 0)), .int p1] h1 cN' (some (.int r)) h2 0 0 := by
  subst e1; subst e2
  refine XMet.ofE (ST := CS) (HP := fun σ => ov h b (cl S0 cI cC cS' b σ)) σ τ (by decide) (Nat.le_of_ble_eq_true rfl) ?_
  intro κ g1 g2 g3 g4 g5 g6 E X hQ
  subst g1; subst g2; subst g3; subst g4
  have Y : YC κ h b cI cC cS' := ⟨fun σ => by rw [g5], fun σ => by rw [g6]; exact hb, ht, htc, hts⟩
  have X : XC κ cX5_finish 2 RX5 (some .int) 5 126 := X
  show XG κ σ 0 [(0, .ref (κ.S0 + (b + 0))), (1, .int p1)] []
  unfold f_X5_finish at hf
  refine x_aload_n X dX5_finish_0 rfl 0 rfl ?_
  refine x_getf X fl_X5_26 (yC_0 Y) (yC_l Y 0 (by decide)) rfl dX5_finish_1 ?_
  refine x_aload_n X dX5_finish_4 rfl 0 rfl ?_
  refine x_getf X fl_X5_12 (yC_0 Y) (yC_l Y 0 (by decide)) rfl dX5_finish_5 ?_
  refine x_callD (rest := []) (w := fun t => t) X E.1 hf (fun t hr => x_cV (ci := 1) X cm_X1_draft lkV_X5_37 rfl ⟨Nat.le_of_ble_eq_true rfl, Nat.le_of_ble_eq_true rfl⟩ (yC_45 Y) (yC_l Y 45 (by decide)) (m_X1_draft (yC_hb Y σ) (yC_ht Y) (yC_htc Y) (yC_hts Y) (yC_hp Y _) (yC_hp Y _) hr) rfl rfl (Nat.le_of_ble_eq_true rfl) (x_room E _) dX5_finish_8) (fun s8 _ hf => ?_)
  refine x_pop X dX5_finish_11 rfl ?_
  refine x_aload_n X dX5_finish_12 rfl 0 rfl ?_
  refine x_getf X fl_X5_26 (yC_0 Y) (yC_l Y 0 (by decide)) rfl dX5_finish_13 ?_
  refine x_aload_n X dX5_finish_16 rfl 0 rfl ?_
  refine x_getf X fl_X5_12 (yC_0 Y) (yC_l Y 0 (by decide)) rfl dX5_finish_17 ?_
  refine x_iload_n X dX5_finish_20 rfl 1 rfl ?_
  refine x_callW (rest := [.ref (κ.S0 + (b + 45))]) (w := cS s8 0) X E.1 hf (fun r t hr => x_cV (ci := 3) X cm_X3_fill lkV_X5_65 rfl ⟨Nat.le_of_ble_eq_true rfl, Nat.le_of_ble_eq_true rfl⟩ (yC_g0_0 Y) (yC_l0 Y 0 (by decide)) (m_X3_fill (yC_b0 Y s8) (yC_ht Y) (yC_g0 Y _) (yC_G0 Y _ _) hr) rfl rfl (Nat.le_of_ble_eq_true rfl) (x_room E _) dX5_finish_21) (fun r21 s21 hf => ?_)
  refine x_callW (rest := []) (w := fun t => t) X E.1 hf (fun r t hr => x_cV (ci := 1) X cm_X1_settle lkV_X5_45 rfl ⟨Nat.le_of_ble_eq_true rfl, Nat.le_of_ble_eq_true rfl⟩ (yC_45 Y) (yC_l Y 45 (by decide)) (m_X1_settle (yC_hb Y s21) (yC_ht Y) (yC_htc Y) (yC_hts Y) (yC_hp Y _) (yC_hp Y _) hr) rfl rfl (Nat.le_of_ble_eq_true rfl) (x_room E _) dX5_finish_24) (fun r24 s24 hf => ?_)
  exact x_iretW (σ0 := σ) X E hQ hf dX5_finish_27
def f_X5_close (σ : CS) (p1 : Int32) : Option (Int32 × CS) :=
  oV (f_X1_draft σ) (fun t => t) (fun s8 => oW (f_X3_shut (s8.1 0) p1) (cS s8 0) (fun r21 s21 => oW (f_X1_settle s21 r21) (fun t => t) (fun r24 s24 => some (r24, s24))))
set_option maxRecDepth 100000 in
set_option maxHeartbeats 4000000 in
theorem m_X5_close {l : Launch} {G : va_G} {tys : List (ClassId × FieldType)} {S0 : Nat} {h h1 h2 : Nat → va_E} {b cN' : Nat} {cI cC cS' : ClassId} {σ : CS} {τ : CS} {p1 : Int32} {r : Int32} (hb : b + 159 ≤ cN') (ht : tys[0]? = some (cI, .int)) (htc : tys[1]? = some (cC, .char)) (hts : tys[3]? = some (cS', .object "AppendZones$State")) (e1 : h1 = ov h b (cl S0 cI cC cS' b σ)) (e2 : h2 = ov h b (cl S0 cI cC cS' b τ)) (hf : f_X5_close σ p1 = some (r, τ)) : XMet l G tys S0 cN' yX5_close cX5_close 2 (some .int) 5 126 [.ref (S0 + (b + 0)), .int p1] h1 cN' (some (.int r)) h2 0 0 := by
  subst e1; subst e2
  refine XMet.ofE (ST := CS) (HP := fun σ => ov h b (cl S0 cI cC cS' b σ)) σ τ (by decide) (Nat.le_of_ble_eq_true rfl) ?_
  intro κ g1 g2 g3 g4 g5 g6 E X hQ
  subst g1; subst g2; subst g3; subst g4
  have Y : YC κ h b cI cC cS' := ⟨fun σ => by rw [g5], fun σ => by rw [g6]; exact hb, ht, htc, hts⟩
  have X : XC κ cX5_close 2 RX5 (some .int) 5 126 := X
  show XG κ σ 0 [(0, .ref (κ.S0 + (b + 0))), (1, .int p1)] []
  unfold f_X5_close at hf
  refine x_aload_n X dX5_close_0 rfl 0 rfl ?_
  refine x_getf X fl_X5_26 (yC_0 Y) (yC_l Y 0 (by decide)) rfl dX5_close_1 ?_
  refine x_aload_n X dX5_close_4 rfl 0 rfl ?_
  refine x_getf X fl_X5_12 (yC_0 Y) (yC_l Y 0 (by decide)) rfl dX5_close_5 ?_
  refine x_callD (rest := []) (w := fun t => t) X E.1 hf (fun t hr => x_cV (ci := 1) X cm_X1_draft lkV_X5_37 rfl ⟨Nat.le_of_ble_eq_true rfl, Nat.le_of_ble_eq_true rfl⟩ (yC_45 Y) (yC_l Y 45 (by decide)) (m_X1_draft (yC_hb Y σ) (yC_ht Y) (yC_htc Y) (yC_hts Y) (yC_hp Y _) (yC_hp Y _) hr) rfl rfl (Nat.le_of_ble_eq_true rfl) (x_room E _) dX5_close_8) (fun s8 _ hf => ?_)
  refine x_pop X dX5_close_11 rfl ?_
  refine x_aload_n X dX5_close_12 rfl 0 rfl ?_
  refine x_getf X fl_X5_26 (yC_0 Y) (yC_l Y 0 (by decide)) rfl dX5_close_13 ?_
  refine x_aload_n X dX5_close_16 rfl 0 rfl ?_
  refine x_getf X fl_X5_12 (yC_0 Y) (yC_l Y 0 (by decide)) rfl dX5_close_17 ?_
  refine x_iload_n X dX5_close_20 rfl 1 rfl ?_
  refine x_callW (rest := [.ref (κ.S0 + (b + 45))]) (w := cS s8 0) X E.1 hf (fun r t hr => x_cV (ci := 3) X cm_X3_shut lkV_X5_68 rfl ⟨Nat.le_of_ble_eq_true rfl, Nat.le_of_ble_eq_true rfl⟩ (yC_g0_0 Y) (yC_l0 Y 0 (by decide)) (m_X3_shut (yC_b0 Y s8) (yC_ht Y) (yC_g0 Y _) (yC_G0 Y _ _) hr) rfl rfl (Nat.le_of_ble_eq_true rfl) (x_room E _) dX5_close_21) (fun r21 s21 hf => ?_)
  refine x_callW (rest := []) (w := fun t => t) X E.1 hf (fun r t hr => x_cV (ci := 1) X cm_X1_settle lkV_X5_45 rfl ⟨Nat.le_of_ble_eq_true rfl, Nat.le_of_ble_eq_true rfl⟩ (yC_45 Y) (yC_l Y 45 (by decide)) (m_X1_settle (yC_hb Y s21) (yC_ht Y) (yC_htc Y) (yC_hts Y) (yC_hp Y _) (yC_hp Y _) hr) rfl rfl (Nat.le_of_ble_eq_true rfl) (x_room E _) dX5_close_24) (fun r24 s24 hf => ?_)
  exact x_iretW (σ0 := σ) X E hQ hf dX5_close_27
def f_X5_pass (σ : CS) (p1 : Int32) : Option (Int32 × CS) :=
  oV (f_X1_draft σ) (fun t => t) (fun s8 => oW (f_X3_letPass (s8.1 0) p1) (cS s8 0) (fun r21 s21 => oW (f_X1_settle s21 r21) (fun t => t) (fun r24 s24 => some (r24, s24))))
set_option maxRecDepth 100000 in
set_option maxHeartbeats 4000000 in
theorem m_X5_pass {l : Launch} {G : va_G} {tys : List (ClassId × FieldType)} {S0 : Nat} {h h1 h2 : Nat → va_E} {b cN' : Nat} {cI cC cS' : ClassId} {σ : CS} {τ : CS} {p1 : Int32} {r : Int32} (hb : b + 159 ≤ cN') (ht : tys[0]? = some (cI, .int)) (htc : tys[1]? = some (cC, .char)) (hts : tys[3]? = some (cS', .object "AppendZones$State")) (e1 : h1 = ov h b (cl S0 cI cC cS' b σ)) (e2 : h2 = ov h b (cl S0 cI cC cS' b τ)) (hf : f_X5_pass σ p1 = some (r, τ)) : XMet l G tys S0 cN' yX5_pass cX5_pass 2 (some .int) 5 126 [.ref (S0 + (b + 0)), .int p1] h1 cN' (some (.int r)) h2 0 0 := by
  subst e1; subst e2
  refine XMet.ofE (ST := CS) (HP := fun σ => ov h b (cl S0 cI cC cS' b σ)) σ τ (by decide) (Nat.le_of_ble_eq_true rfl) ?_
  intro κ g1 g2 g3 g4 g5 g6 E X hQ
  subst g1; subst g2; subst g3; subst g4
  have Y : YC κ h b cI cC cS' := ⟨fun σ => by rw [g5], fun σ => by rw [g6]; exact hb, ht, htc, hts⟩
  have X : XC κ cX5_pass 2 RX5 (some .int) 5 126 := X
  show XG κ σ 0 [(0, .ref (κ.S0 + (b + 0))), (1, .int p1)] []
  unfold f_X5_pass at hf
  refine x_aload_n X dX5_pass_0 rfl 0 rfl ?_
  refine x_getf X fl_X5_26 (yC_0 Y) (yC_l Y 0 (by decide)) rfl dX5_pass_1 ?_
  refine x_aload_n X dX5_pass_4 rfl 0 rfl ?_
  refine x_getf X fl_X5_12 (yC_0 Y) (yC_l Y 0 (by decide)) rfl dX5_pass_5 ?_
  refine x_callD (rest := []) (w := fun t => t) X E.1 hf (fun t hr => x_cV (ci := 1) X cm_X1_draft lkV_X5_37 rfl ⟨Nat.le_of_ble_eq_true rfl, Nat.le_of_ble_eq_true rfl⟩ (yC_45 Y) (yC_l Y 45 (by decide)) (m_X1_draft (yC_hb Y σ) (yC_ht Y) (yC_htc Y) (yC_hts Y) (yC_hp Y _) (yC_hp Y _) hr) rfl rfl (Nat.le_of_ble_eq_true rfl) (x_room E _) dX5_pass_8) (fun s8 _ hf => ?_)
  refine x_pop X dX5_pass_11 rfl ?_
  refine x_aload_n X dX5_pass_12 rfl 0 rfl ?_
  refine x_getf X fl_X5_26 (yC_0 Y) (yC_l Y 0 (by decide)) rfl dX5_pass_13 ?_
  refine x_aload_n X dX5_pass_16 rfl 0 rfl ?_
  refine x_getf X fl_X5_12 (yC_0 Y) (yC_l Y 0 (by decide)) rfl dX5_pass_17 ?_
  refine x_iload_n X dX5_pass_20 rfl 1 rfl ?_
  refine x_callW (rest := [.ref (κ.S0 + (b + 45))]) (w := cS s8 0) X E.1 hf (fun r t hr => x_cV (ci := 3) X cm_X3_letPass lkV_X5_71 rfl ⟨Nat.le_of_ble_eq_true rfl, Nat.le_of_ble_eq_true rfl⟩ (yC_g0_0 Y) (yC_l0 Y 0 (by decide)) (m_X3_letPass (yC_b0 Y s8) (yC_ht Y) (yC_g0 Y _) (yC_G0 Y _ _) hr) rfl rfl (Nat.le_of_ble_eq_true rfl) (x_room E _) dX5_pass_21) (fun r21 s21 hf => ?_)
  refine x_callW (rest := []) (w := fun t => t) X E.1 hf (fun r t hr => x_cV (ci := 1) X cm_X1_settle lkV_X5_45 rfl ⟨Nat.le_of_ble_eq_true rfl, Nat.le_of_ble_eq_true rfl⟩ (yC_45 Y) (yC_l Y 45 (by decide)) (m_X1_settle (yC_hb Y s21) (yC_ht Y) (yC_htc Y) (yC_hts Y) (yC_hp Y _) (yC_hp Y _) hr) rfl rfl (Nat.le_of_ble_eq_true rfl) (x_room E _) dX5_pass_24) (fun r24 s24 hf => ?_)
  exact x_iretW (σ0 := σ) X E hQ hf dX5_pass_27
def f_X5_undo (σ : CS)  : Option (Int32 × CS) :=
  oW (f_X1_stepBack σ) (fun t => t) (fun r8 s8 => some (r8, s8))
set_option maxRecDepth 100000 in
set_option maxHeartbeats 4000000 in
theorem m_X5_undo {l : Launch} {G : va_G} {tys : List (ClassId × FieldType)} {S0 : Nat} {h h1 h2 : Nat → va_E} {b cN' : Nat} {cI cC cS' : ClassId} {σ : CS} {τ : CS}  {r : Int32} (hb : b + 159 ≤ cN') (ht : tys[0]? = some (cI, .int)) (htc : tys[1]? = some (cC, .char)) (hts : tys[3]? = some (cS', .object "AppendZones$State")) (e1 : h1 = ov h b (cl S0 cI cC cS' b σ)) (e2 : h2 = ov h b (cl S0 cI cC cS' b τ)) (hf : f_X5_undo σ = some (r, τ)) : XMet l G tys S0 cN' yX5_undo cX5_undo 1 (some .int) 5 125 [.ref (S0 + (b + 0))] h1 cN' (some (.int r)) h2 0 0 := by
  subst e1; subst e2
  refine XMet.ofE (ST := CS) (HP := fun σ => ov h b (cl S0 cI cC cS' b σ)) σ τ (by decide) (Nat.le_of_ble_eq_true rfl) ?_
  intro κ g1 g2 g3 g4 g5 g6 E X hQ
  subst g1; subst g2; subst g3; subst g4
  have Y : YC κ h b cI cC cS' := ⟨fun σ => by rw [g5], fun σ => by rw [g6]; exact hb, ht, htc, hts⟩
  have X : XC κ cX5_undo 1 RX5 (some .int) 5 125 := X
  show XG κ σ 0 [(0, .ref (κ.S0 + (b + 0)))] []
  unfold f_X5_undo at hf
  refine x_aload_n X dX5_undo_0 rfl 0 rfl ?_
  refine x_getf X fl_X5_26 (yC_0 Y) (yC_l Y 0 (by decide)) rfl dX5_undo_1 ?_
  refine x_aload_n X dX5_undo_4 rfl 0 rfl ?_
  refine x_getf X fl_X5_12 (yC_0 Y) (yC_l Y 0 (by decide)) rfl dX5_undo_5 ?_
  refine x_callW (rest := []) (w := fun t => t) X E.1 hf (fun r t hr => x_cV (ci := 1) X cm_X1_stepBack lkV_X5_99 rfl ⟨Nat.le_of_ble_eq_true rfl, Nat.le_of_ble_eq_true rfl⟩ (yC_45 Y) (yC_l Y 45 (by decide)) (m_X1_stepBack (yC_hb Y σ) (yC_ht Y) (yC_htc Y) (yC_hts Y) (yC_hp Y _) (yC_hp Y _) hr) rfl rfl (Nat.le_of_ble_eq_true rfl) (x_room E _) dX5_undo_8) (fun r8 s8 hf => ?_)
  exact x_iretW (σ0 := σ) X E hQ hf dX5_undo_11
def f_X5_read (σ : CS) (p1 : Int32) (p2 : Int32) : Option (Int32) :=
  oR (f_X3_blockAt (σ.1 0) p1 p2) (fun r6 => some r6)
set_option maxRecDepth 100000 in
set_option maxHeartbeats 4000000 in
theorem m_X5_read {l : Launch} {G : va_G} {tys : List (ClassId × FieldType)} {S0 : Nat} {h h1 h2 : Nat → va_E} {b cN' : Nat} {cI cC cS' : ClassId} {σ : CS} {p1 : Int32} {p2 : Int32} {r : Int32} (hb : b + 159 ≤ cN') (ht : tys[0]? = some (cI, .int)) (htc : tys[1]? = some (cC, .char)) (hts : tys[3]? = some (cS', .object "AppendZones$State")) (e1 : h1 = ov h b (cl S0 cI cC cS' b σ)) (e2 : h2 = ov h b (cl S0 cI cC cS' b σ)) (hf : f_X5_read σ p1 p2 = some r) : XMet l G tys S0 cN' yX5_read cX5_read 3 (some .int) 2 47 [.ref (S0 + (b + 0)), .int p1, .int p2] h1 cN' (some (.int r)) h2 0 0 := by
  subst e1; subst e2
  refine XMet.ofE (ST := CS) (HP := fun σ => ov h b (cl S0 cI cC cS' b σ)) σ σ (by decide) (Nat.le_of_ble_eq_true rfl) ?_
  intro κ g1 g2 g3 g4 g5 g6 E X hQ
  subst g1; subst g2; subst g3; subst g4
  have Y : YC κ h b cI cC cS' := ⟨fun σ => by rw [g5], fun σ => by rw [g6]; exact hb, ht, htc, hts⟩
  have X : XC κ cX5_read 3 RX5 (some .int) 2 47 := X
  show XG κ σ 0 [(0, .ref (κ.S0 + (b + 0))), (1, .int p1), (2, .int p2)] []
  unfold f_X5_read at hf
  refine x_aload_n X dX5_read_0 rfl 0 rfl ?_
  refine x_getf X fl_X5_12 (yC_0 Y) (yC_l Y 0 (by decide)) rfl dX5_read_1 ?_
  refine x_iload_n X dX5_read_4 rfl 1 rfl ?_
  refine x_iload_n X dX5_read_5 rfl 2 rfl ?_
  refine x_callR (rest := []) X hf (fun r hr => x_cV (ci := 3) X cm_X3_blockAt lkV_X5_109 rfl ⟨Nat.le_of_ble_eq_true rfl, Nat.le_of_ble_eq_true rfl⟩ (yC_g0_0 Y) (yC_l0 Y 0 (by decide)) (m_X3_blockAt (yC_b0 Y σ) (yC_ht Y) (yC_g0 Y _) (yC_g0 Y _) hr) rfl rfl (Nat.le_of_ble_eq_true rfl) (x_room E _) dX5_read_6) (fun r6 hf => ?_)
  exact x_iretR (σ0 := σ) X E hQ hf dX5_read_9
def f_X5_zone (σ : CS) (p1 : Int32) (p2 : Int32) : Option (Int32) :=
  oR (f_X3_tellZone (σ.1 0) p1 p2) (fun r6 => some r6)
set_option maxRecDepth 100000 in
set_option maxHeartbeats 4000000 in
theorem m_X5_zone {l : Launch} {G : va_G} {tys : List (ClassId × FieldType)} {S0 : Nat} {h h1 h2 : Nat → va_E} {b cN' : Nat} {cI cC cS' : ClassId} {σ : CS} {p1 : Int32} {p2 : Int32} {r : Int32} (hb : b + 159 ≤ cN') (ht : tys[0]? = some (cI, .int)) (htc : tys[1]? = some (cC, .char)) (hts : tys[3]? = some (cS', .object "AppendZones$State")) (e1 : h1 = ov h b (cl S0 cI cC cS' b σ)) (e2 : h2 = ov h b (cl S0 cI cC cS' b σ)) (hf : f_X5_zone σ p1 p2 = some r) : XMet l G tys S0 cN' yX5_zone cX5_zone 3 (some .int) 4 91 [.ref (S0 + (b + 0)), .int p1, .int p2] h1 cN' (some (.int r)) h2 0 0 := by
  subst e1; subst e2
  refine XMet.ofE (ST := CS) (HP := fun σ => ov h b (cl S0 cI cC cS' b σ)) σ σ (by decide) (Nat.le_of_ble_eq_true rfl) ?_
  intro κ g1 g2 g3 g4 g5 g6 E X hQ
  subst g1; subst g2; subst g3; subst g4
  have Y : YC κ h b cI cC cS' := ⟨fun σ => by rw [g5], fun σ => by rw [g6]; exact hb, ht, htc, hts⟩
  have X : XC κ cX5_zone 3 RX5 (some .int) 4 91 := X
  show XG κ σ 0 [(0, .ref (κ.S0 + (b + 0))), (1, .int p1), (2, .int p2)] []
  unfold f_X5_zone at hf
  refine x_aload_n X dX5_zone_0 rfl 0 rfl ?_
  refine x_getf X fl_X5_12 (yC_0 Y) (yC_l Y 0 (by decide)) rfl dX5_zone_1 ?_
  refine x_iload_n X dX5_zone_4 rfl 1 rfl ?_
  refine x_iload_n X dX5_zone_5 rfl 2 rfl ?_
  refine x_callR (rest := []) X hf (fun r hr => x_cV (ci := 3) X cm_X3_tellZone lkV_X5_112 rfl ⟨Nat.le_of_ble_eq_true rfl, Nat.le_of_ble_eq_true rfl⟩ (yC_g0_0 Y) (yC_l0 Y 0 (by decide)) (m_X3_tellZone (yC_b0 Y σ) (yC_ht Y) (yC_g0 Y _) (yC_g0 Y _) hr) rfl rfl (Nat.le_of_ble_eq_true rfl) (x_room E _) dX5_zone_6) (fun r6 hf => ?_)
  exact x_iretR (σ0 := σ) X E hQ hf dX5_zone_9
def f_X5_appended (σ : CS) (p1 : Int32) (p2 : Int32) : Option (Int32) :=
  oR (f_X0_tellAppend (σ.1 0) p1 p2) (fun r9 => some r9)
set_option maxRecDepth 100000 in
set_option maxHeartbeats 4000000 in
theorem m_X5_appended {l : Launch} {G : va_G} {tys : List (ClassId × FieldType)} {S0 : Nat} {h h1 h2 : Nat → va_E} {b cN' : Nat} {cI cC cS' : ClassId} {σ : CS} {p1 : Int32} {p2 : Int32} {r : Int32} (hb : b + 159 ≤ cN') (ht : tys[0]? = some (cI, .int)) (htc : tys[1]? = some (cC, .char)) (hts : tys[3]? = some (cS', .object "AppendZones$State")) (e1 : h1 = ov h b (cl S0 cI cC cS' b σ)) (e2 : h2 = ov h b (cl S0 cI cC cS' b σ)) (hf : f_X5_appended σ p1 p2 = some r) : XMet l G tys S0 cN' yX5_appended cX5_appended 3 (some .int) 2 44 [.ref (S0 + (b + 0)), .int p1, .int p2] h1 cN' (some (.int r)) h2 0 0 := by
  subst e1; subst e2
  refine XMet.ofE (ST := CS) (HP := fun σ => ov h b (cl S0 cI cC cS' b σ)) σ σ (by decide) (Nat.le_of_ble_eq_true rfl) ?_
  intro κ g1 g2 g3 g4 g5 g6 E X hQ
  subst g1; subst g2; subst g3; subst g4
  have Y : YC κ h b cI cC cS' := ⟨fun σ => by rw [g5], fun σ => by rw [g6]; exact hb, ht, htc, hts⟩
  have X : XC κ cX5_appended 3 RX5 (some .int) 2 44 := X
  show XG κ σ 0 [(0, .ref (κ.S0 + (b + 0))), (1, .int p1), (2, .int p2)] []
  unfold f_X5_appended at hf
  refine x_aload_n X dX5_appended_0 rfl 0 rfl ?_
  refine x_getf X fl_X5_12 (yC_0 Y) (yC_l Y 0 (by decide)) rfl dX5_appended_1 ?_
  refine x_getf X fl_X5_115 (yC_g0_0 Y) (yC_l0 Y 0 (by decide)) rfl dX5_appended_4 ?_
  refine x_iload_n X dX5_appended_7 rfl 1 rfl ?_
  refine x_iload_n X dX5_appended_8 rfl 2 rfl ?_
  refine x_callR (rest := []) X hf (fun r hr => x_cV (ci := 0) X cm_X0_tellAppend lkV_X5_119 rfl ⟨Nat.le_of_ble_eq_true rfl, Nat.le_of_ble_eq_true rfl⟩ (yC_g0_1 Y) (yC_l0 Y 1 (by decide)) (m_X0_tellAppend (yC_b0 Y σ) (yC_ht Y) (yC_g0 Y _) (yC_g0 Y _) hr) rfl rfl (Nat.le_of_ble_eq_true rfl) (x_room E _) dX5_appended_9) (fun r9 hf => ?_)
  exact x_iretR (σ0 := σ) X E hQ hf dX5_appended_12
def f_X5_writer (σ : CS) (p1 : Int32) (p2 : Int32) : Option (Int32) :=
  oR (f_X3_tellWriter (σ.1 0) p1 p2) (fun r6 => some r6)
set_option maxRecDepth 100000 in
set_option maxHeartbeats 4000000 in
theorem m_X5_writer {l : Launch} {G : va_G} {tys : List (ClassId × FieldType)} {S0 : Nat} {h h1 h2 : Nat → va_E} {b cN' : Nat} {cI cC cS' : ClassId} {σ : CS} {p1 : Int32} {p2 : Int32} {r : Int32} (hb : b + 159 ≤ cN') (ht : tys[0]? = some (cI, .int)) (htc : tys[1]? = some (cC, .char)) (hts : tys[3]? = some (cS', .object "AppendZones$State")) (e1 : h1 = ov h b (cl S0 cI cC cS' b σ)) (e2 : h2 = ov h b (cl S0 cI cC cS' b σ)) (hf : f_X5_writer σ p1 p2 = some r) : XMet l G tys S0 cN' yX5_writer cX5_writer 3 (some .int) 2 46 [.ref (S0 + (b + 0)), .int p1, .int p2] h1 cN' (some (.int r)) h2 0 0 := by
  subst e1; subst e2
  refine XMet.ofE (ST := CS) (HP := fun σ => ov h b (cl S0 cI cC cS' b σ)) σ σ (by decide) (Nat.le_of_ble_eq_true rfl) ?_
  intro κ g1 g2 g3 g4 g5 g6 E X hQ
  subst g1; subst g2; subst g3; subst g4
  have Y : YC κ h b cI cC cS' := ⟨fun σ => by rw [g5], fun σ => by rw [g6]; exact hb, ht, htc, hts⟩
  have X : XC κ cX5_writer 3 RX5 (some .int) 2 46 := X
  show XG κ σ 0 [(0, .ref (κ.S0 + (b + 0))), (1, .int p1), (2, .int p2)] []
  unfold f_X5_writer at hf
  refine x_aload_n X dX5_writer_0 rfl 0 rfl ?_
  refine x_getf X fl_X5_12 (yC_0 Y) (yC_l Y 0 (by decide)) rfl dX5_writer_1 ?_
  refine x_iload_n X dX5_writer_4 rfl 1 rfl ?_
  refine x_iload_n X dX5_writer_5 rfl 2 rfl ?_
  refine x_callR (rest := []) X hf (fun r hr => x_cV (ci := 3) X cm_X3_tellWriter lkV_X5_124 rfl ⟨Nat.le_of_ble_eq_true rfl, Nat.le_of_ble_eq_true rfl⟩ (yC_g0_0 Y) (yC_l0 Y 0 (by decide)) (m_X3_tellWriter (yC_b0 Y σ) (yC_ht Y) (yC_g0 Y _) (yC_g0 Y _) hr) rfl rfl (Nat.le_of_ble_eq_true rfl) (x_room E _) dX5_writer_6) (fun r6 hf => ?_)
  exact x_iretR (σ0 := σ) X E hQ hf dX5_writer_9
def f_X5_told (σ : CS) (p1 : Int32) : Option (Int32) :=
  oR (f_X0_toldAt (σ.1 0) p1) (fun r8 => some r8)
set_option maxRecDepth 100000 in
set_option maxHeartbeats 4000000 in
theorem m_X5_told {l : Launch} {G : va_G} {tys : List (ClassId × FieldType)} {S0 : Nat} {h h1 h2 : Nat → va_E} {b cN' : Nat} {cI cC cS' : ClassId} {σ : CS} {p1 : Int32} {r : Int32} (hb : b + 159 ≤ cN') (ht : tys[0]? = some (cI, .int)) (htc : tys[1]? = some (cC, .char)) (hts : tys[3]? = some (cS', .object "AppendZones$State")) (e1 : h1 = ov h b (cl S0 cI cC cS' b σ)) (e2 : h2 = ov h b (cl S0 cI cC cS' b σ)) (hf : f_X5_told σ p1 = some r) : XMet l G tys S0 cN' yX5_told cX5_told 2 (some .int) 1 21 [.ref (S0 + (b + 0)), .int p1] h1 cN' (some (.int r)) h2 0 0 := by
  subst e1; subst e2
  refine XMet.ofE (ST := CS) (HP := fun σ => ov h b (cl S0 cI cC cS' b σ)) σ σ (by decide) (Nat.le_of_ble_eq_true rfl) ?_
  intro κ g1 g2 g3 g4 g5 g6 E X hQ
  subst g1; subst g2; subst g3; subst g4
  have Y : YC κ h b cI cC cS' := ⟨fun σ => by rw [g5], fun σ => by rw [g6]; exact hb, ht, htc, hts⟩
  have X : XC κ cX5_told 2 RX5 (some .int) 1 21 := X
  show XG κ σ 0 [(0, .ref (κ.S0 + (b + 0))), (1, .int p1)] []
  unfold f_X5_told at hf
  refine x_aload_n X dX5_told_0 rfl 0 rfl ?_
  refine x_getf X fl_X5_12 (yC_0 Y) (yC_l Y 0 (by decide)) rfl dX5_told_1 ?_
  refine x_getf X fl_X5_115 (yC_g0_0 Y) (yC_l0 Y 0 (by decide)) rfl dX5_told_4 ?_
  refine x_iload_n X dX5_told_7 rfl 1 rfl ?_
  refine x_callR (rest := []) X hf (fun r hr => x_cV (ci := 0) X cm_X0_toldAt lkV_X5_127 rfl ⟨Nat.le_of_ble_eq_true rfl, Nat.le_of_ble_eq_true rfl⟩ (yC_g0_1 Y) (yC_l0 Y 1 (by decide)) (m_X0_toldAt (yC_b0 Y σ) (yC_ht Y) (yC_g0 Y _) (yC_g0 Y _) hr) rfl rfl (Nat.le_of_ble_eq_true rfl) (x_room E _) dX5_told_8) (fun r8 hf => ?_)
  exact x_iretR (σ0 := σ) X E hQ hf dX5_told_11
def f_X5_toldIn (σ : CS) (p1 : Int32) : Option (Int32 × CS) :=
  oR (f_X0_isNumber (σ.1 0) p1) (fun r8 => if r8 = 0 then (some ((-1), σ)) else (oR (f_X0_isLive (σ.1 0) p1) (fun r24 => if r24 = 0 then (some ((-4), σ)) else (oV (f_X1_draft σ) (fun t => t) (fun s41 => oW (f_X3_ticksUntilTold (s41.1 (3 + hk σ)) p1) (cS s41 (3 + hk σ)) (fun r45 s45 => some (r45, s45)))))))
set_option maxRecDepth 100000 in
set_option maxHeartbeats 4000000 in
theorem m_X5_toldIn {l : Launch} {G : va_G} {tys : List (ClassId × FieldType)} {S0 : Nat} {h h1 h2 : Nat → va_E} {b cN' : Nat} {cI cC cS' : ClassId} {σ : CS} {τ : CS} {p1 : Int32} {r : Int32} (hb : b + 159 ≤ cN') (ht : tys[0]? = some (cI, .int)) (htc : tys[1]? = some (cC, .char)) (hts : tys[3]? = some (cS', .object "AppendZones$State")) (e1 : h1 = ov h b (cl S0 cI cC cS' b σ)) (e2 : h2 = ov h b (cl S0 cI cC cS' b τ)) (hf : f_X5_toldIn σ p1 = some (r, τ)) : XMet l G tys S0 cN' yX5_toldIn cX5_toldIn 2 (some .int) 5 126 [.ref (S0 + (b + 0)), .int p1] h1 cN' (some (.int r)) h2 0 0 := by
  subst e1; subst e2
  refine XMet.ofE (ST := CS) (HP := fun σ => ov h b (cl S0 cI cC cS' b σ)) σ τ (by decide) (Nat.le_of_ble_eq_true rfl) ?_
  intro κ g1 g2 g3 g4 g5 g6 E X hQ
  subst g1; subst g2; subst g3; subst g4
  have Y : YC κ h b cI cC cS' := ⟨fun σ => by rw [g5], fun σ => by rw [g6]; exact hb, ht, htc, hts⟩
  have X : XC κ cX5_toldIn 2 RX5 (some .int) 5 126 := X
  show XG κ σ 0 [(0, .ref (κ.S0 + (b + 0))), (1, .int p1)] []
  unfold f_X5_toldIn at hf
  refine x_aload_n X dX5_toldIn_0 rfl 0 rfl ?_
  refine x_getf X fl_X5_12 (yC_0 Y) (yC_l Y 0 (by decide)) rfl dX5_toldIn_1 ?_
  refine x_getf X fl_X5_115 (yC_g0_0 Y) (yC_l0 Y 0 (by decide)) rfl dX5_toldIn_4 ?_
  refine x_iload_n X dX5_toldIn_7 rfl 1 rfl ?_
  refine x_callR (rest := []) X hf (fun r hr => x_cV (ci := 0) X cm_X0_isNumber lkV_X5_130 rfl ⟨Nat.le_of_ble_eq_true rfl, Nat.le_of_ble_eq_true rfl⟩ (yC_g0_1 Y) (yC_l0 Y 1 (by decide)) (m_X0_isNumber (yC_b0 Y σ) (yC_ht Y) (yC_g0 Y _) (yC_g0 Y _) hr) rfl rfl (Nat.le_of_ble_eq_true rfl) (x_room E _) dX5_toldIn_8) (fun r8 hf => ?_)
  refine x_if_ne (tgt := 16) X dX5_toldIn_11 (by decide) hf (fun hf => ?_) (fun hf => ?_)
  · refine x_aload_n X dX5_toldIn_16 rfl 0 rfl ?_
    refine x_getf X fl_X5_12 (yC_0 Y) (yC_l Y 0 (by decide)) rfl dX5_toldIn_17 ?_
    refine x_getf X fl_X5_115 (yC_g0_0 Y) (yC_l0 Y 0 (by decide)) rfl dX5_toldIn_20 ?_
    refine x_iload_n X dX5_toldIn_23 rfl 1 rfl ?_
    refine x_callR (rest := []) X hf (fun r hr => x_cV (ci := 0) X cm_X0_isLive lkV_X5_134 rfl ⟨Nat.le_of_ble_eq_true rfl, Nat.le_of_ble_eq_true rfl⟩ (yC_g0_1 Y) (yC_l0 Y 1 (by decide)) (m_X0_isLive (yC_b0 Y σ) (yC_ht Y) (yC_g0 Y _) (yC_g0 Y _) hr) rfl rfl (Nat.le_of_ble_eq_true rfl) (x_room E _) dX5_toldIn_24) (fun r24 hf => ?_)
    refine x_if_ne (tgt := 33) X dX5_toldIn_27 (by decide) hf (fun hf => ?_) (fun hf => ?_)
    · refine x_aload_n X dX5_toldIn_33 rfl 0 rfl ?_
      refine x_getf X fl_X5_26 (yC_0 Y) (yC_l Y 0 (by decide)) rfl dX5_toldIn_34 ?_
      refine x_aload_n X dX5_toldIn_37 rfl 0 rfl ?_
      refine x_getf X fl_X5_12 (yC_0 Y) (yC_l Y 0 (by decide)) rfl dX5_toldIn_38 ?_
      refine x_callD (rest := []) (w := fun t => t) X E.1 hf (fun t hr => x_cV (ci := 1) X cm_X1_draft lkV_X5_37 rfl ⟨Nat.le_of_ble_eq_true rfl, Nat.le_of_ble_eq_true rfl⟩ (yC_45 Y) (yC_l Y 45 (by decide)) (m_X1_draft (yC_hb Y σ) (yC_ht Y) (yC_htc Y) (yC_hts Y) (yC_hp Y _) (yC_hp Y _) hr) rfl rfl (Nat.le_of_ble_eq_true rfl) (x_room E _) dX5_toldIn_41) (fun s41 hdr hf => ?_)
      have hlt := f_X1_draft_lt hdr
      refine x_iload_n X dX5_toldIn_44 rfl 1 rfl ?_
      refine x_callW (rest := []) (w := cS s41 (3 + hk σ)) X E.1 hf (fun r t hr => x_cV (ci := 3) X cm_X3_ticksUntilTold lkV_X5_137 rfl ⟨Nat.le_of_ble_eq_true rfl, Nat.le_of_ble_eq_true rfl⟩ (yC_gk_0 Y (hk σ) hlt) (yC_lkm Y (hk σ) hlt 0 (by decide)) (m_X3_ticksUntilTold (yC_bk Y s41 (hk σ) hlt) (yC_ht Y) (yC_gk Y _ (hk σ) hlt) (yC_Gk Y _ _ (hk σ) hlt) hr) rfl rfl (Nat.le_of_ble_eq_true rfl) (x_room E _) dX5_toldIn_45) (fun r45 s45 hf => ?_)
      exact x_iretW (σ0 := σ) X E hQ hf dX5_toldIn_48
    · refine x_bipush (v := (-4)) X dX5_toldIn_30 (by decide) ?_
      exact x_iretW (σ0 := σ) X E hQ hf dX5_toldIn_32
  · refine x_iconst (v := (-1)) X dX5_toldIn_14 (by decide) ?_
    exact x_iretW (σ0 := σ) X E hQ hf dX5_toldIn_15
def f_X5_would (σ : CS) (p1 : Int32) (p2 : Int32) : Option (Int32 × CS) :=
  oR (f_X5_isZone p1) (fun r1 => if r1 = 0 then (some ((-1), σ)) else (if p2 < 0 then (some ((-2), σ)) else (if p2 ≤ 1 then (oV (f_X1_draft σ) (fun t => t) (fun s29 => oW (f_X0_add (s29.1 (3 + hk σ)) 0 p1 0) (cS s29 (3 + hk σ)) (fun r40 s40 => if r40 = (-1) then (some ((-5), s40)) else (oW (f_X3_ticksUntilTold (s40.1 (3 + hk σ)) r40) (cS s40 (3 + hk σ)) (fun r57 s57 => if r57 = (-5) then (some ((-5), s57)) else (if p2 = 0 then (oA 201 ((s57.1 (3 + hk σ)).1 6) r40 (fun x85 => some (x85, s57))) else (some (r57, s57)))))))) else (some ((-2), σ)))))
set_option maxRecDepth 100000 in
set_option maxHeartbeats 4000000 in
theorem m_X5_would {l : Launch} {G : va_G} {tys : List (ClassId × FieldType)} {S0 : Nat} {h h1 h2 : Nat → va_E} {b cN' : Nat} {cI cC cS' : ClassId} {σ : CS} {τ : CS} {p1 : Int32} {p2 : Int32} {r : Int32} (hb : b + 159 ≤ cN') (ht : tys[0]? = some (cI, .int)) (htc : tys[1]? = some (cC, .char)) (hts : tys[3]? = some (cS', .object "AppendZones$State")) (e1 : h1 = ov h b (cl S0 cI cC cS' b σ)) (e2 : h2 = ov h b (cl S0 cI cC cS' b τ)) (hf : f_X5_would σ p1 p2 = some (r, τ)) : XMet l G tys S0 cN' yX5_would cX5_would 6 (some .int) 5 126 [.ref (S0 + (b + 0)), .int p1, .int p2] h1 cN' (some (.int r)) h2 0 0 := by
  subst e1; subst e2
  refine XMet.ofE (ST := CS) (HP := fun σ => ov h b (cl S0 cI cC cS' b σ)) σ τ (by decide) (Nat.le_of_ble_eq_true rfl) ?_
  intro κ g1 g2 g3 g4 g5 g6 E X hQ
  subst g1; subst g2; subst g3; subst g4
  have Y : YC κ h b cI cC cS' := ⟨fun σ => by rw [g5], fun σ => by rw [g6]; exact hb, ht, htc, hts⟩
  have X : XC κ cX5_would 6 RX5 (some .int) 5 126 := X
  show XG κ σ 0 [(0, .ref (κ.S0 + (b + 0))), (1, .int p1), (2, .int p2)] []
  unfold f_X5_would at hf
  refine x_iload_n X dX5_would_0 rfl 1 rfl ?_
  refine x_callR (rest := []) X hf (fun r hr => x_cS X cm_X5_isZone lkS_X5_140 ⟨Nat.le_of_ble_eq_true rfl, Nat.le_of_ble_eq_true rfl⟩ (m_X5_isZone hr) rfl rfl (Nat.le_of_ble_eq_true rfl) (x_room E _) dX5_would_1) (fun r1 hf => ?_)
  refine x_if_ne (tgt := 9) X dX5_would_4 (by decide) hf (fun hf => ?_) (fun hf => ?_)
  · refine x_iload_n X dX5_would_9 rfl 2 rfl ?_
    refine x_if_lt (tgt := 18) X dX5_would_10 (by decide) hf (fun hf => ?_) (fun hf => ?_)
    · refine x_bipush (v := (-2)) X dX5_would_18 (by decide) ?_
      exact x_iretW (σ0 := σ) X E hQ hf dX5_would_20
    · refine x_iload_n X dX5_would_13 rfl 2 rfl ?_
      refine x_iconst (v := 1) X dX5_would_14 (by decide) ?_
      refine x_icmp_le (tgt := 21) X dX5_would_15 (by decide) hf (fun hf => ?_) (fun hf => ?_)
      · refine x_aload_n X dX5_would_21 rfl 0 rfl ?_
        refine x_getf X fl_X5_26 (yC_0 Y) (yC_l Y 0 (by decide)) rfl dX5_would_22 ?_
        refine x_aload_n X dX5_would_25 rfl 0 rfl ?_
        refine x_getf X fl_X5_12 (yC_0 Y) (yC_l Y 0 (by decide)) rfl dX5_would_26 ?_
        refine x_callD (rest := []) (w := fun t => t) X E.1 hf (fun t hr => x_cV (ci := 1) X cm_X1_draft lkV_X5_37 rfl ⟨Nat.le_of_ble_eq_true rfl, Nat.le_of_ble_eq_true rfl⟩ (yC_45 Y) (yC_l Y 45 (by decide)) (m_X1_draft (yC_hb Y σ) (yC_ht Y) (yC_htc Y) (yC_hts Y) (yC_hp Y _) (yC_hp Y _) hr) rfl rfl (Nat.le_of_ble_eq_true rfl) (x_room E _) dX5_would_29) (fun s29 hdr hf => ?_)
        have hlt := f_X1_draft_lt hdr
        refine x_astore_n (lv' := [(3, .ref (κ.S0 + (b + 47 + 22 * hk σ))), (0, .ref (κ.S0 + (b + 0))), (1, .int p1), (2, .int p2)]) X dX5_would_32 rfl (by decide) rfl ?_
        refine x_aload_n X dX5_would_33 rfl 0 rfl ?_
        refine x_getf X fl_X5_115 (yC_gk_0 Y (hk σ) hlt) (yC_lkm Y (hk σ) hlt 0 (by decide)) rfl dX5_would_34 ?_
        refine x_iconst (v := 0) X dX5_would_37 (by decide) ?_
        refine x_iload_n X dX5_would_38 rfl 2 rfl ?_
        refine x_iconst (v := 0) X dX5_would_39 (by decide) ?_
        refine x_callW (rest := []) (w := cS s29 (3 + hk σ)) X E.1 hf (fun r t hr => x_cV (ci := 0) X cm_X0_add lkV_X5_143 rfl ⟨Nat.le_of_ble_eq_true rfl, Nat.le_of_ble_eq_true rfl⟩ (yC_gk_1 Y (hk σ) hlt) (yC_lkm Y (hk σ) hlt 1 (by decide)) (m_X0_add (yC_bk Y s29 (hk σ) hlt) (yC_ht Y) (yC_gk Y _ (hk σ) hlt) (yC_Gk Y _ _ (hk σ) hlt) hr) rfl rfl (Nat.le_of_ble_eq_true rfl) (x_room E _) dX5_would_40) (fun r40 s40 hf => ?_)
        refine x_istore (lv' := [(4, .int r40), (3, .ref (κ.S0 + (b + 47 + 22 * hk σ))), (0, .ref (κ.S0 + (b + 0))), (1, .int p1), (2, .int p2)]) X dX5_would_43 (by decide) rfl ?_
        refine x_iload X dX5_would_45 0 rfl ?_
        refine x_iconst (v := (-1)) X dX5_would_47 (by decide) ?_
        refine x_icmp_ne (tgt := 54) X dX5_would_48 (by decide) hf (fun hf => ?_) (fun hf => ?_)
        · refine x_aload_n X dX5_would_54 rfl 1 rfl ?_
          refine x_iload X dX5_would_55 0 rfl ?_
          refine x_callW (rest := []) (w := cS s40 (3 + hk σ)) X E.1 hf (fun r t hr => x_cV (ci := 3) X cm_X3_ticksUntilTold lkV_X5_137 rfl ⟨Nat.le_of_ble_eq_true rfl, Nat.le_of_ble_eq_true rfl⟩ (yC_gk_0 Y (hk σ) hlt) (yC_lkm Y (hk σ) hlt 0 (by decide)) (m_X3_ticksUntilTold (yC_bk Y s40 (hk σ) hlt) (yC_ht Y) (yC_gk Y _ (hk σ) hlt) (yC_Gk Y _ _ (hk σ) hlt) hr) rfl rfl (Nat.le_of_ble_eq_true rfl) (x_room E _) dX5_would_57) (fun r57 s57 hf => ?_)
          refine x_istore (lv' := [(5, .int r57), (4, .int r40), (3, .ref (κ.S0 + (b + 47 + 22 * hk σ))), (0, .ref (κ.S0 + (b + 0))), (1, .int p1), (2, .int p2)]) X dX5_would_60 (by decide) rfl ?_
          refine x_iload X dX5_would_62 0 rfl ?_
          refine x_bipush (v := (-5)) X dX5_would_64 (by decide) ?_
          refine x_icmp_ne (tgt := 72) X dX5_would_66 (by decide) hf (fun hf => ?_) (fun hf => ?_)
          · refine x_iload_n X dX5_would_72 rfl 5 rfl ?_
            refine x_if_ne (tgt := 89) X dX5_would_73 (by decide) hf (fun hf => ?_) (fun hf => ?_)
            · refine x_iload X dX5_would_89 0 rfl ?_
              exact x_iretW (σ0 := σ) X E hQ hf dX5_would_91
            · refine x_aload_n X dX5_would_76 rfl 2 rfl ?_
              refine x_getf X fl_X5_115 (yC_gk_0 Y (hk σ) hlt) (yC_lkm Y (hk σ) hlt 0 (by decide)) rfl dX5_would_77 ?_
              refine x_getf X fl_X5_145 (yC_gk_1 Y (hk σ) hlt) (yC_lkm Y (hk σ) hlt 1 (by decide)) rfl dX5_would_80 ?_
              refine x_iload X dX5_would_83 1 rfl ?_
              refine x_iald X 0 (yC_ht Y) (yC_gk_6 Y (hk σ) hlt) (yC_lkm Y (hk σ) hlt 6 (by decide)) dX5_would_85 hf (fun x85 hf => ?_)
              refine x_goto (tgt := 91) X dX5_would_86 (by decide) ?_
              exact x_iretW (σ0 := σ) X E hQ hf dX5_would_91
          · refine x_bipush (v := (-5)) X dX5_would_69 (by decide) ?_
            exact x_iretW (σ0 := σ) X E hQ hf dX5_would_71
        · refine x_bipush (v := (-5)) X dX5_would_51 (by decide) ?_
          exact x_iretW (σ0 := σ) X E hQ hf dX5_would_53
      · refine x_bipush (v := (-2)) X dX5_would_18 (by decide) ?_
        exact x_iretW (σ0 := σ) X E hQ hf dX5_would_20
  · refine x_iconst (v := (-1)) X dX5_would_7 (by decide) ?_
    exact x_iretW (σ0 := σ) X E hQ hf dX5_would_8
def f_X5_count (σ : CS) (p1 : Int32) : Option (Int32) :=
  if p1 = 14 then (some (σ.2.2 2)) else (if p1 = 15 then (some (σ.2.2 3)) else (oR (f_X3_tellNumber (σ.1 0) p1) (fun r49 => some r49)))
set_option maxRecDepth 100000 in
set_option maxHeartbeats 4000000 in
theorem m_X5_count {l : Launch} {G : va_G} {tys : List (ClassId × FieldType)} {S0 : Nat} {h h1 h2 : Nat → va_E} {b cN' : Nat} {cI cC cS' : ClassId} {σ : CS} {p1 : Int32} {r : Int32} (hb : b + 159 ≤ cN') (ht : tys[0]? = some (cI, .int)) (htc : tys[1]? = some (cC, .char)) (hts : tys[3]? = some (cS', .object "AppendZones$State")) (e1 : h1 = ov h b (cl S0 cI cC cS' b σ)) (e2 : h2 = ov h b (cl S0 cI cC cS' b σ)) (hf : f_X5_count σ p1 = some r) : XMet l G tys S0 cN' yX5_count cX5_count 2 (some .int) 2 44 [.ref (S0 + (b + 0)), .int p1] h1 cN' (some (.int r)) h2 0 0 := by
  subst e1; subst e2
  refine XMet.ofE (ST := CS) (HP := fun σ => ov h b (cl S0 cI cC cS' b σ)) σ σ (by decide) (Nat.le_of_ble_eq_true rfl) ?_
  intro κ g1 g2 g3 g4 g5 g6 E X hQ
  subst g1; subst g2; subst g3; subst g4
  have Y : YC κ h b cI cC cS' := ⟨fun σ => by rw [g5], fun σ => by rw [g6]; exact hb, ht, htc, hts⟩
  have X : XC κ cX5_count 2 RX5 (some .int) 2 44 := X
  show XG κ σ 0 [(0, .ref (κ.S0 + (b + 0))), (1, .int p1)] []
  unfold f_X5_count at hf
  refine x_iload_n X dX5_count_0 rfl 1 rfl ?_
  refine x_if hf (fun c14 hf => ?_) (fun c14 hf => ?_)
  · refine x_lookup (off := 27) (tgt := 28) X dX5_count_1 rfl (by rw [c14]; rfl) (by decide) ?_
    refine x_aload_n X dX5_count_28 rfl 0 rfl ?_
    refine x_getf X fl_X5_26 (yC_0 Y) (yC_l Y 0 (by decide)) rfl dX5_count_29 ?_
    refine x_getf X fl_X5_149 (yC_45 Y) (yC_l Y 45 (by decide)) rfl dX5_count_32 ?_
    exact x_iretR (σ0 := σ) X E hQ hf dX5_count_35
  · refine x_if hf (fun c15 hf => ?_) (fun c15 hf => ?_)
    · refine x_lookup (off := 35) (tgt := 36) X dX5_count_1 rfl (by rw [c15]; rfl) (by decide) ?_
      refine x_aload_n X dX5_count_36 rfl 0 rfl ?_
      refine x_getf X fl_X5_33 (yC_0 Y) (yC_l Y 0 (by decide)) rfl dX5_count_37 ?_
      refine x_getf X fl_X5_78 (yC_157 Y) (yC_l Y 157 (by decide)) rfl dX5_count_40 ?_
      exact x_iretR (σ0 := σ) X E hQ hf dX5_count_43
    · refine x_lookup (off := 43) (tgt := 44) X dX5_count_1 rfl ((lv_osw c14 rfl).trans ((lv_osw c15 rfl).trans rfl)) (by decide) ?_
      refine x_aload_n X dX5_count_44 rfl 0 rfl ?_
      refine x_getf X fl_X5_12 (yC_0 Y) (yC_l Y 0 (by decide)) rfl dX5_count_45 ?_
      refine x_iload_n X dX5_count_48 rfl 1 rfl ?_
      refine x_callR (rest := []) X hf (fun r hr => x_cV (ci := 3) X cm_X3_tellNumber lkV_X5_152 rfl ⟨Nat.le_of_ble_eq_true rfl, Nat.le_of_ble_eq_true rfl⟩ (yC_g0_0 Y) (yC_l0 Y 0 (by decide)) (m_X3_tellNumber (yC_b0 Y σ) (yC_ht Y) (yC_g0 Y _) (yC_g0 Y _) hr) rfl rfl (Nat.le_of_ble_eq_true rfl) (x_room E _) dX5_count_49) (fun r49 hf => ?_)
      exact x_iretR (σ0 := σ) X E hQ hf dX5_count_52
