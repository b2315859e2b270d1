/-! The history's slots: which of the five States is the free one is a number; its cells lie behind one another -/
def hidx (σ : CS) : Int32 := (σ.2.2 1 + σ.2.2 2) - (σ.2.2 1 + σ.2.2 2) / 5 * 5
def hk (σ : CS) : Nat := (hidx σ).toNatClampNeg
def f_X1_draft (σ : CS) : Option CS := if ¬ (hidx σ < 0 ∨ 5 ≤ (hidx σ).toNatClampNeg) then oV (f_X3_copyFrom (σ.1 (3 + hk σ)) (σ.1 0)) (cS σ (3 + hk σ)) some else none
def f_X1_takeDraftBack (σ : CS) : Option CS := if ¬ (hidx σ < 0 ∨ 5 ≤ (hidx σ).toNatClampNeg) then oV (f_X3_copyFrom (σ.1 0) (σ.1 (3 + hk σ))) (cS σ 0) some else none
def f_X1_stepBack (σ : CS) : Option (Int32 × CS) := if σ.2.2 2 = 0 then some ((-5), σ) else oN (σ.2.2 2 - 1) (cN σ 2) (fun s => if ¬ (hidx s < 0 ∨ 5 ≤ (hidx s).toNatClampNeg) then oV (f_X3_copyFrom (s.1 0) (s.1 (3 + hk s))) (cS s 0) (fun t => some (t.2.2 2, t)) else none)
section HI
variable {κ : XCtx CS} {h : Nat → va_E} {b : Nat} {cI cC cS' : ClassId}
theorem yC_gk (Y : YC κ h b cI cC cS') (σ : CS) (k : Nat) (hk : k < 5) : κ.HP σ = ov (κ.HP σ) (b + 47 + 22 * k) (gl κ.S0 cI (b + 47 + 22 * k) (σ.1 (3 + k))) := by
  rcases (by omega : k = 0 ∨ k = 1 ∨ k = 2 ∨ k = 3 ∨ k = 4) with rfl | rfl | rfl | rfl | rfl
  · exact yC_g3 Y σ
  · exact yC_g4 Y σ
  · exact yC_g5 Y σ
  · exact yC_g6 Y σ
  · exact yC_g7 Y σ
theorem yC_Gk (Y : YC κ h b cI cC cS') (σ : CS) (t : SS) (k : Nat) (hk : k < 5) : κ.HP (cS σ (3 + k) t) = ov (κ.HP σ) (b + 47 + 22 * k) (gl κ.S0 cI (b + 47 + 22 * k) t) := by
  rcases (by omega : k = 0 ∨ k = 1 ∨ k = 2 ∨ k = 3 ∨ k = 4) with rfl | rfl | rfl | rfl | rfl
  · exact yC_G3 Y σ t
  · exact yC_G4 Y σ t
  · exact yC_G5 Y σ t
  · exact yC_G6 Y σ t
  · exact yC_G7 Y σ t
theorem yC_bk (Y : YC κ h b cI cC cS') (σ : CS) (k : Nat) (hk : k < 5) : b + 47 + 22 * k + 22 ≤ κ.HC σ := by have := Y.2.1 σ; omega
theorem yC_lk (Y : YC κ h b cI cC cS') {σ : CS} (k : Nat) (hk : k < 5) : b + 47 + 22 * k < κ.HC σ := by have := Y.2.1 σ; omega
theorem yC_ok (Y : YC κ h b cI cC cS') {σ : CS} (k : Nat) (hk : k < 5) : ∃ fs, κ.HP σ (b + 47 + 22 * k) = .inr (3, fs) := ⟨_, (congrFun (yC_gk Y σ k hk) (b + 47 + 22 * k + 0)).trans (ov_at 0 rfl)⟩
theorem yC_gk_0 (Y : YC κ h b cI cC cS') {σ : CS} (k : Nat) (hk : k < 5) : κ.HP σ (b + 47 + 22 * k + 0) = .inr (3, [.ref (κ.S0 + (b + 47 + 22 * k + 1)), .ref (κ.S0 + (b + 47 + 22 * k + 12)), .ref (κ.S0 + (b + 47 + 22 * k + 19)), .ref (κ.S0 + (b + 47 + 22 * k + 20)), .ref (κ.S0 + (b + 47 + 22 * k + 21)), .int ((σ.1 (3 + k)).2 8), .int ((σ.1 (3 + k)).2 9), .int ((σ.1 (3 + k)).2 10)]) := (congrFun (yC_gk Y σ k hk) (b + 47 + 22 * k + 0)).trans (ov_at 0 rfl)
theorem yC_gk_1 (Y : YC κ h b cI cC cS') {σ : CS} (k : Nat) (hk : k < 5) : κ.HP σ (b + 47 + 22 * k + 1) = .inr (0, [.ref (κ.S0 + (b + 47 + 22 * k + 2)), .ref (κ.S0 + (b + 47 + 22 * k + 3)), .ref (κ.S0 + (b + 47 + 22 * k + 4)), .ref (κ.S0 + (b + 47 + 22 * k + 5)), .ref (κ.S0 + (b + 47 + 22 * k + 6)), .ref (κ.S0 + (b + 47 + 22 * k + 7)), .ref (κ.S0 + (b + 47 + 22 * k + 8)), .ref (κ.S0 + (b + 47 + 22 * k + 9)), .int ((σ.1 (3 + k)).2 0), .ref (κ.S0 + (b + 47 + 22 * k + 10)), .int ((σ.1 (3 + k)).2 1), .ref (κ.S0 + (b + 47 + 22 * k + 11)), .int ((σ.1 (3 + k)).2 2)]) := (congrFun (yC_gk Y σ k hk) (b + 47 + 22 * k + 1)).trans (ov_at 1 rfl)
theorem yC_gk_6 (Y : YC κ h b cI cC cS') {σ : CS} (k : Nat) (hk : k < 5) : κ.HP σ (b + 47 + 22 * k + 6) = .inl (cI, 201, .inl ((σ.1 (3 + k)).1 6)) := (congrFun (yC_gk Y σ k hk) (b + 47 + 22 * k + 6)).trans (ov_at 6 rfl)
theorem yC_gk_12 (Y : YC κ h b cI cC cS') {σ : CS} (k : Nat) (hk : k < 5) : κ.HP σ (b + 47 + 22 * k + 12) = .inr (4, [.ref (κ.S0 + (b + 47 + 22 * k + 13)), .ref (κ.S0 + (b + 47 + 22 * k + 14)), .ref (κ.S0 + (b + 47 + 22 * k + 15)), .ref (κ.S0 + (b + 47 + 22 * k + 16)), .ref (κ.S0 + (b + 47 + 22 * k + 17)), .ref (κ.S0 + (b + 47 + 22 * k + 18)), .int ((σ.1 (3 + k)).2 3), .int ((σ.1 (3 + k)).2 4), .int ((σ.1 (3 + k)).2 5), .int ((σ.1 (3 + k)).2 6), .int ((σ.1 (3 + k)).2 7)]) := (congrFun (yC_gk Y σ k hk) (b + 47 + 22 * k + 12)).trans (ov_at 12 rfl)
theorem yC_lkm (Y : YC κ h b cI cC cS') {σ : CS} (k : Nat) (hk : k < 5) (m : Nat) (hm : m < 22) : b + 47 + 22 * k + m < κ.HC σ := by have := Y.2.1 σ; omega
end HI
theorem f_X1_draft_lt {σ τ : CS} (h : ∃ t, f_X1_draft σ = some t ∧ (fun t : CS => t) t = τ) : hk σ < 5 := by
  obtain ⟨t, e, -⟩ := h
  unfold f_X1_draft at e
  split at e
  next hin => exact Nat.not_le.mp fun q => hin (Or.inr q)
  next => cases e
set_option maxRecDepth 100000 in
set_option maxHeartbeats 4000000 in
theorem m_X1_slotBehind {l : Launch} {G : va_G} {tys : List (ClassId × FieldType)} {S0 : Nat} {h h1 h2 : Nat → va_E} {b cN' : Nat} {cI cC cS' : ClassId} {σ : CS} (hb : b + 159 ≤ cN') (ht : tys[0]? = some (cI, .int)) (htc : tys[1]? = some (cC, .char)) (hts : tys[3]? = some (cS', .object "AppendZones$State")) (e1 : h1 = ov h b (cl S0 cI cC cS' b σ)) (e2 : h2 = ov h b (cl S0 cI cC cS' b σ)) (hin : ¬ (hidx σ < 0 ∨ 5 ≤ (hidx σ).toNatClampNeg)) : XMet l G tys S0 cN' yX1_slotBehind cX1_slotBehind 1 (some (.object "AppendZones$State")) 0 0 [.ref (S0 + (b + 45))] h1 cN' (some (.ref (S0 + (b + 47 + 22 * hk σ)))) h2 0 0 := by
  subst e1; subst e2
  refine XMet.ofE (ST := CS) (HP := fun σ => ov h b (cl S0 cI cC cS' b σ)) σ σ (by decide) (Nat.le_of_ble_eq_true rfl) ?_
  intro κ g1 g2 g3 g4 g5 g6 E X hQ
  subst g1; subst g2; subst g3; subst g4
  have Y : YC κ h b cI cC cS' := ⟨fun σ => by rw [g5], fun σ => by rw [g6]; exact hb, ht, htc, hts⟩
  have X : XC κ cX1_slotBehind 1 RX1 (some (.object "AppendZones$State")) 0 0 := X
  show XG κ σ 0 [(0, .ref (κ.S0 + (b + 45)))] []
  refine x_aload_n X dX1_slotBehind_0 rfl 0 rfl ?_
  refine x_getf X fl_X1_13 (yC_45 Y) (yC_l Y 45 (by decide)) rfl dX1_slotBehind_1 ?_
  refine x_aload_n X dX1_slotBehind_4 rfl 0 rfl ?_
  refine x_getf X fl_X1_17 (yC_45 Y) (yC_l Y 45 (by decide)) rfl dX1_slotBehind_5 ?_
  refine x_aload_n X dX1_slotBehind_8 rfl 0 rfl ?_
  refine x_getf X fl_X1_21 (yC_45 Y) (yC_l Y 45 (by decide)) rfl dX1_slotBehind_9 ?_
  refine x_iadd X dX1_slotBehind_12 ?_
  refine x_iconst (v := 5) X dX1_slotBehind_13 (by decide) ?_
  refine x_irem X dX1_slotBehind_14 (by decide) ?_
  have hlt : (hidx σ).toNatClampNeg < 5 := Nat.not_le.mp fun q => hin (Or.inr q)
  refine x_aald X 3 (yC_hts Y) (yC_46 Y) (yC_l Y 46 (by decide)) hin (a := κ.S0 + (b + 47 + 22 * hk σ)) (if_pos hlt) dX1_slotBehind_15 ?_
  exact x_aret0 X hQ rfl (E.1.1 _ _) ⟨Nat.le_of_eq (E.2 _).1, Nat.le_of_eq (E.2 _).2⟩ dX1_slotBehind_16
set_option maxRecDepth 100000 in
set_option maxHeartbeats 4000000 in
theorem m_X1_draft {l : Launch} {G : va_G} {tys : List (ClassId × FieldType)} {S0 : Nat} {h h1 h2 : Nat → va_E} {b cN' : Nat} {cI cC cS' : ClassId} {σ τ : CS} (hb : b + 159 ≤ cN') (ht : tys[0]? = some (cI, .int)) (htc : tys[1]? = some (cC, .char)) (hts : tys[3]? = some (cS', .object "AppendZones$State")) (e1 : h1 = ov h b (cl S0 cI cC cS' b σ)) (e2 : h2 = ov h b (cl S0 cI cC cS' b τ)) (hf : f_X1_draft σ = some τ) : XMet l G tys S0 cN' yX1_draft cX1_draft 3 (some (.object "AppendZones$State")) 4 104 [.ref (S0 + (b + 45)), .ref (S0 + (b + 1))] h1 cN' (some (.ref (S0 + (b + 47 + 22 * hk σ)))) h2 0 0 := by
  subst e1; subst e2
  refine XMet.ofE (ST := CS) (HP := fun σ => ov h b (cl S0 cI cC cS' b σ)) σ τ (by decide) (Nat.le_of_ble_eq_true rfl) ?_
  intro κ g1 g2 g3 g4 g5 g6 E X hQ
  subst g1; subst g2; subst g3; subst g4
  have Y : YC κ h b cI cC cS' := ⟨fun σ => by rw [g5], fun σ => by rw [g6]; exact hb, ht, htc, hts⟩
  have X : XC κ cX1_draft 3 RX1 (some (.object "AppendZones$State")) 4 104 := X
  show XG κ σ 0 [(0, .ref (κ.S0 + (b + 45))), (1, .ref (κ.S0 + (b + 1)))] []
  unfold f_X1_draft at hf
  split at hf
  next hin =>
    have hlt : hk σ < 5 := Nat.not_le.mp fun q => hin (Or.inr q)
    obtain ⟨fs, hfs⟩ := yC_ok Y (σ := σ) (hk σ) hlt
    refine x_aload_n X dX1_draft_0 rfl 0 rfl ?_
    refine x_callk (G := κ.G) (rest := []) (σ1 := σ) (x_cV (ci := 1) X cm_X1_slotBehind lkV_X1_25 rfl ⟨Nat.le_of_ble_eq_true rfl, Nat.le_of_ble_eq_true rfl⟩ (yC_45 Y) (yC_l Y 45 (by decide)) (m_X1_slotBehind (yC_hb Y σ) (yC_ht Y) (yC_htc Y) (yC_hts Y) (yC_hp Y _) (yC_hp Y _) hin) rfl rfl (Nat.le_of_ble_eq_true rfl) (x_room E _) dX1_draft_1) X rfl rfl (Nat.le_refl _) rfl rfl ?_
    refine x_astore_n (lv' := [(2, .ref (κ.S0 + (b + 47 + 22 * hk σ))), (0, .ref (κ.S0 + (b + 45))), (1, .ref (κ.S0 + (b + 1)))]) X dX1_draft_4 rfl (by decide) rfl ?_
    refine x_aload_n X dX1_draft_5 rfl 0 rfl ?_
    refine x_aload_n X dX1_draft_6 rfl 2 rfl ?_
    refine x_callV (rest := []) (w := cS σ (3 + hk σ)) X E.1 hf (fun t hr => x_cV (ci := 3) X cm_X3_copyFrom lkV_X1_29 rfl ⟨Nat.le_of_ble_eq_true rfl, Nat.le_of_ble_eq_true rfl⟩ hfs (yC_lk Y (hk σ) hlt) (m_X3_copyFrom (b := b + 47 + 22 * hk σ) (c := b + 1) (by omega) (yC_bk Y σ _ hlt) (yC_b0 Y σ) (yC_ht Y) (yC_gk Y _ _ hlt) (yC_g0 Y _) (yC_Gk Y _ _ _ hlt) hr) rfl rfl (Nat.le_of_ble_eq_true rfl) (x_room E _) dX1_draft_7) (fun s7 hf => ?_)
    refine x_aload_n X dX1_draft_10 rfl 0 rfl ?_
    cases hf
    exact x_aret0 X hQ rfl (E.1.1 _ _) ⟨Nat.le_of_eq (E.2 _).1, Nat.le_of_eq (E.2 _).2⟩ dX1_draft_11
  next => cases hf
set_option maxRecDepth 100000 in
set_option maxHeartbeats 4000000 in
theorem m_X1_stepBack {l : Launch} {G : va_G} {tys : List (ClassId × FieldType)} {S0 : Nat} {h h1 h2 : Nat → va_E} {b cN' : Nat} {cI cC cS' : ClassId} {σ τ : CS} {r : Int32} (hb : b + 159 ≤ cN') (ht : tys[0]? = some (cI, .int)) (htc : tys[1]? = some (cC, .char)) (hts : tys[3]? = some (cS', .object "AppendZones$State")) (e1 : h1 = ov h b (cl S0 cI cC cS' b σ)) (e2 : h2 = ov h b (cl S0 cI cC cS' b τ)) (hf : f_X1_stepBack σ = some (r, τ)) : XMet l G tys S0 cN' yX1_stepBack cX1_stepBack 2 (some .int) 4 104 [.ref (S0 + (b + 45)), .ref (S0 + (b + 1))] h1 cN' (some (.int r)) h2 0 0 := by
  subst e1; subst e2
  refine XMet.ofE (ST := CS) (HP := fun σ => ov h b (cl S0 cI cC cS' b σ)) σ τ (by decide) (Nat.le_of_ble_eq_true rfl) ?_
  intro κ g1 g2 g3 g4 g5 g6 E X hQ
  subst g1; subst g2; subst g3; subst g4
  have Y : YC κ h b cI cC cS' := ⟨fun σ => by rw [g5], fun σ => by rw [g6]; exact hb, ht, htc, hts⟩
  have X : XC κ cX1_stepBack 2 RX1 (some .int) 4 104 := X
  show XG κ σ 0 [(0, .ref (κ.S0 + (b + 45))), (1, .ref (κ.S0 + (b + 1)))] []
  unfold f_X1_stepBack at hf
  refine x_aload_n X dX1_stepBack_0 rfl 0 rfl ?_
  refine x_getf X fl_X1_21 (yC_45 Y) (yC_l Y 45 (by decide)) rfl dX1_stepBack_1 ?_
  refine x_if_ne (tgt := 10) X dX1_stepBack_4 (by decide) hf (fun hf => ?_) (fun hf => ?_)
  · refine x_aload_n X dX1_stepBack_10 rfl 0 rfl ?_
    refine x_dup X dX1_stepBack_11 rfl ?_
    refine x_getf X fl_X1_21 (yC_45 Y) (yC_l Y 45 (by decide)) rfl dX1_stepBack_12 ?_
    refine x_iconst (v := 1) X dX1_stepBack_15 (by decide) ?_
    refine x_isub X dX1_stepBack_16 ?_
    refine x_putI (w := cN σ 2) X E.1 fp_X1_21 (yC_45 Y) (yC_l Y 45 (by decide)) (Nat.le_of_ble_eq_true rfl) (yC_p45_2 Y) dX1_stepBack_17 hf (fun s17 hf => ?_)
    split at hf
    next hin =>
      have hlt : hk s17 < 5 := Nat.not_le.mp fun q => hin (Or.inr q)
      refine x_aload_n X dX1_stepBack_20 rfl 1 rfl ?_
      refine x_aload_n X dX1_stepBack_21 rfl 0 rfl ?_
      refine x_callk (G := κ.G) (rest := [.ref (κ.S0 + (b + 1))]) (σ1 := s17) (x_cV (ci := 1) X cm_X1_slotBehind lkV_X1_25 rfl ⟨Nat.le_of_ble_eq_true rfl, Nat.le_of_ble_eq_true rfl⟩ (yC_45 Y) (yC_l Y 45 (by decide)) (m_X1_slotBehind (yC_hb Y s17) (yC_ht Y) (yC_htc Y) (yC_hts Y) (yC_hp Y _) (yC_hp Y _) hin) rfl rfl (Nat.le_of_ble_eq_true rfl) (x_room E _) dX1_stepBack_22) X rfl rfl (Nat.le_refl _) rfl rfl ?_
      refine x_callV (rest := []) (w := cS s17 0) X E.1 hf (fun t hr => x_cV (ci := 3) X cm_X3_copyFrom lkV_X1_29 rfl ⟨Nat.le_of_ble_eq_true rfl, Nat.le_of_ble_eq_true rfl⟩ (yC_g0_0 Y) (yC_l0 Y 0 (by decide)) (m_X3_copyFrom (b := b + 1) (c := b + 47 + 22 * hk s17) (by omega) (yC_b0 Y s17) (yC_bk Y s17 _ hlt) (yC_ht Y) (yC_g0 Y _) (yC_gk Y _ _ hlt) (yC_G0 Y _ _) hr) rfl rfl (Nat.le_of_ble_eq_true rfl) (x_room E _) dX1_stepBack_25) (fun s25 hf => ?_)
      refine x_aload_n X dX1_stepBack_28 rfl 0 rfl ?_
      refine x_getf X fl_X1_21 (yC_45 Y) (yC_l Y 45 (by decide)) rfl dX1_stepBack_29 ?_
      exact x_iretW (σ0 := σ) X E hQ hf dX1_stepBack_32
    next => cases hf
  · refine x_bipush (v := (-5)) X dX1_stepBack_7 (by decide) ?_
    exact x_iretW (σ0 := σ) X E hQ hf dX1_stepBack_9
