/-! The copies of a State: two groups of cells, b that is written, c that is read -/
section YT
variable {κ : XCtx SS} {h : Nat → va_E} {b c : Nat} {cI : ClassId} {τ0 : SS}
def YT (κ : XCtx SS) (c : Nat) (cI : ClassId) (τ0 : SS) : Prop := (∀ σ, κ.HP σ = ov (κ.HP σ) c (gl κ.S0 cI c τ0)) ∧ (∀ σ, c + 22 ≤ κ.HC σ)
theorem yT_eo (Y : YT κ c cI τ0) (σ : SS) : κ.HP σ = ov (κ.HP σ) c (gl κ.S0 cI c τ0) := Y.1 σ
theorem yT_hb (Y : YT κ c cI τ0) (σ : SS) : c + 22 ≤ κ.HC σ := Y.2 σ
theorem yT_l (Y : YT κ c cI τ0) {σ : SS} (m : Nat) (hm : m < 22) : c + m < κ.HC σ := Nat.lt_of_lt_of_le (Nat.add_lt_add_left hm c) (Y.2 σ)
theorem YT.of {σ0 : SS} (hdj : c + 22 ≤ b ∨ b + 22 ≤ c) (Y : YS κ h b cI) (hc : ∀ σ, c + 22 ≤ κ.HC σ) (eo : ov h b (gl κ.S0 cI b σ0) = ov (ov h b (gl κ.S0 cI b σ0)) c (gl κ.S0 cI c τ0)) : YT κ c cI τ0 := by
  refine ⟨fun σ => ?_, hc⟩
  rw [Y.1 σ]
  funext i
  have e := congrFun eo i
  unfold ov at e ⊢
  have l1 : (gl κ.S0 cI c τ0).length = 22 := rfl
  have l2 : (gl κ.S0 cI b σ).length = 22 := rfl
  have l3 : (gl κ.S0 cI b σ0).length = 22 := rfl
  by_cases h1 : c ≤ i ∧ i < c + (gl κ.S0 cI c τ0).length
  · rw [if_pos h1] at e ⊢
    have h2 : ¬ (b ≤ i ∧ i < b + (gl κ.S0 cI b σ).length) := by omega
    have h3 : ¬ (b ≤ i ∧ i < b + (gl κ.S0 cI b σ0).length) := by omega
    rw [if_neg h2]
    rw [if_neg h3] at e
    exact e
  · rw [if_neg h1]
theorem yT_0 (Y : YT κ c cI τ0) {σ : SS} : κ.HP σ (c + 0) = .inr (3, [.ref (κ.S0 + (c + 1)), .ref (κ.S0 + (c + 12)), .ref (κ.S0 + (c + 19)), .ref (κ.S0 + (c + 20)), .ref (κ.S0 + (c + 21)), .int (τ0.2 8), .int (τ0.2 9), .int (τ0.2 10)]) := (congrFun (Y.1 σ) (c + 0)).trans (ov_at 0 rfl)
theorem yT_1 (Y : YT κ c cI τ0) {σ : SS} : κ.HP σ (c + 1) = .inr (0, [.ref (κ.S0 + (c + 2)), .ref (κ.S0 + (c + 3)), .ref (κ.S0 + (c + 4)), .ref (κ.S0 + (c + 5)), .ref (κ.S0 + (c + 6)), .ref (κ.S0 + (c + 7)), .ref (κ.S0 + (c + 8)), .ref (κ.S0 + (c + 9)), .int (τ0.2 0), .ref (κ.S0 + (c + 10)), .int (τ0.2 1), .ref (κ.S0 + (c + 11)), .int (τ0.2 2)]) := (congrFun (Y.1 σ) (c + 1)).trans (ov_at 1 rfl)
theorem yT_2 (Y : YT κ c cI τ0) {σ : SS} : κ.HP σ (c + 2) = .inl (cI, 201, .inl (τ0.1 2)) := (congrFun (Y.1 σ) (c + 2)).trans (ov_at 2 rfl)
theorem yT_3 (Y : YT κ c cI τ0) {σ : SS} : κ.HP σ (c + 3) = .inl (cI, 201, .inl (τ0.1 3)) := (congrFun (Y.1 σ) (c + 3)).trans (ov_at 3 rfl)
theorem yT_4 (Y : YT κ c cI τ0) {σ : SS} : κ.HP σ (c + 4) = .inl (cI, 201, .inl (τ0.1 4)) := (congrFun (Y.1 σ) (c + 4)).trans (ov_at 4 rfl)
theorem yT_5 (Y : YT κ c cI τ0) {σ : SS} : κ.HP σ (c + 5) = .inl (cI, 201, .inl (τ0.1 5)) := (congrFun (Y.1 σ) (c + 5)).trans (ov_at 5 rfl)
theorem yT_6 (Y : YT κ c cI τ0) {σ : SS} : κ.HP σ (c + 6) = .inl (cI, 201, .inl (τ0.1 6)) := (congrFun (Y.1 σ) (c + 6)).trans (ov_at 6 rfl)
theorem yT_7 (Y : YT κ c cI τ0) {σ : SS} : κ.HP σ (c + 7) = .inl (cI, 201, .inl (τ0.1 7)) := (congrFun (Y.1 σ) (c + 7)).trans (ov_at 7 rfl)
theorem yT_8 (Y : YT κ c cI τ0) {σ : SS} : κ.HP σ (c + 8) = .inl (cI, 201, .inl (τ0.1 8)) := (congrFun (Y.1 σ) (c + 8)).trans (ov_at 8 rfl)
theorem yT_9 (Y : YT κ c cI τ0) {σ : SS} : κ.HP σ (c + 9) = .inl (cI, 201, .inl (τ0.1 9)) := (congrFun (Y.1 σ) (c + 9)).trans (ov_at 9 rfl)
theorem yT_10 (Y : YT κ c cI τ0) {σ : SS} : κ.HP σ (c + 10) = .inl (cI, 201, .inl (τ0.1 10)) := (congrFun (Y.1 σ) (c + 10)).trans (ov_at 10 rfl)
theorem yT_11 (Y : YT κ c cI τ0) {σ : SS} : κ.HP σ (c + 11) = .inl (cI, 33, .inl (τ0.1 11)) := (congrFun (Y.1 σ) (c + 11)).trans (ov_at 11 rfl)
theorem yT_12 (Y : YT κ c cI τ0) {σ : SS} : κ.HP σ (c + 12) = .inr (4, [.ref (κ.S0 + (c + 13)), .ref (κ.S0 + (c + 14)), .ref (κ.S0 + (c + 15)), .ref (κ.S0 + (c + 16)), .ref (κ.S0 + (c + 17)), .ref (κ.S0 + (c + 18)), .int (τ0.2 3), .int (τ0.2 4), .int (τ0.2 5), .int (τ0.2 6), .int (τ0.2 7)]) := (congrFun (Y.1 σ) (c + 12)).trans (ov_at 12 rfl)
theorem yT_13 (Y : YT κ c cI τ0) {σ : SS} : κ.HP σ (c + 13) = .inl (cI, 8, .inl (τ0.1 13)) := (congrFun (Y.1 σ) (c + 13)).trans (ov_at 13 rfl)
theorem yT_14 (Y : YT κ c cI τ0) {σ : SS} : κ.HP σ (c + 14) = .inl (cI, 8, .inl (τ0.1 14)) := (congrFun (Y.1 σ) (c + 14)).trans (ov_at 14 rfl)
theorem yT_15 (Y : YT κ c cI τ0) {σ : SS} : κ.HP σ (c + 15) = .inl (cI, 8, .inl (τ0.1 15)) := (congrFun (Y.1 σ) (c + 15)).trans (ov_at 15 rfl)
theorem yT_16 (Y : YT κ c cI τ0) {σ : SS} : κ.HP σ (c + 16) = .inl (cI, 8, .inl (τ0.1 16)) := (congrFun (Y.1 σ) (c + 16)).trans (ov_at 16 rfl)
theorem yT_17 (Y : YT κ c cI τ0) {σ : SS} : κ.HP σ (c + 17) = .inl (cI, 8, .inl (τ0.1 17)) := (congrFun (Y.1 σ) (c + 17)).trans (ov_at 17 rfl)
theorem yT_18 (Y : YT κ c cI τ0) {σ : SS} : κ.HP σ (c + 18) = .inl (cI, 8, .inl (τ0.1 18)) := (congrFun (Y.1 σ) (c + 18)).trans (ov_at 18 rfl)
theorem yT_19 (Y : YT κ c cI τ0) {σ : SS} : κ.HP σ (c + 19) = .inl (cI, 4, .inl (τ0.1 19)) := (congrFun (Y.1 σ) (c + 19)).trans (ov_at 19 rfl)
theorem yT_20 (Y : YT κ c cI τ0) {σ : SS} : κ.HP σ (c + 20) = .inl (cI, 4, .inl (τ0.1 20)) := (congrFun (Y.1 σ) (c + 20)).trans (ov_at 20 rfl)
theorem yT_21 (Y : YT κ c cI τ0) {σ : SS} : κ.HP σ (c + 21) = .inl (cI, 33, .inl (τ0.1 21)) := (congrFun (Y.1 σ) (c + 21)).trans (ov_at 21 rfl)
end YT
def f_X0_copyFrom (σ : SS) (τ0 : SS)  : Option (SS) :=
  oN (τ0.2 0) (sN σ 0) (fun s5 => oN (τ0.2 1) (sN s5 1) (fun s13 => oN (τ0.2 2) (sN s13 2) (fun s21 => oV (some (sA s21 2 (cpy 201 201 (s21.2 0) (τ0.1 2) (s21.1 2)))) (fun t => t) (fun s36 => oV (some (sA s36 3 (cpy 201 201 (s36.2 0) (τ0.1 3) (s36.1 3)))) (fun t => t) (fun s51 => oV (some (sA s51 4 (cpy 201 201 (s51.2 0) (τ0.1 4) (s51.1 4)))) (fun t => t) (fun s66 => oV (some (sA s66 5 (cpy 201 201 (s66.2 0) (τ0.1 5) (s66.1 5)))) (fun t => t) (fun s81 => oV (some (sA s81 6 (cpy 201 201 (s81.2 0) (τ0.1 6) (s81.1 6)))) (fun t => t) (fun s96 => oV (some (sA s96 7 (cpy 201 201 (s96.2 0) (τ0.1 7) (s96.1 7)))) (fun t => t) (fun s111 => oV (some (sA s111 8 (cpy 201 201 (s111.2 0) (τ0.1 8) (s111.1 8)))) (fun t => t) (fun s126 => oV (some (sA s126 9 (cpy 201 201 (s126.2 0) (τ0.1 9) (s126.1 9)))) (fun t => t) (fun s141 => oV (some (sA s141 10 (cpy 201 201 (s141.2 1) (τ0.1 10) (s141.1 10)))) (fun t => t) (fun s156 => oV (some (sA s156 11 (cpy 33 33 (s156.2 2) (τ0.1 11) (s156.1 11)))) (fun t => t) (fun s171 => some s171)))))))))))))
set_option maxRecDepth 100000 in
set_option maxHeartbeats 4000000 in
theorem m_X0_copyFrom {l : Launch} {G : va_G} {tys : List (ClassId × FieldType)} {S0 : Nat} {h h1 h2 : Nat → va_E} {b c cN' : Nat} {cI : ClassId} {σ τ0 : SS} {τ : SS}  (hdj : c + 22 ≤ b ∨ b + 22 ≤ c) (hb : b + 22 ≤ cN') (hc : c + 22 ≤ cN') (ht : tys[0]? = some (cI, .int)) (e1 : h1 = ov h b (gl S0 cI b σ)) (eo : h1 = ov h1 c (gl S0 cI c τ0)) (e2 : h2 = ov h b (gl S0 cI b τ)) (hf : f_X0_copyFrom σ τ0 = some τ) : XMet l G tys S0 cN' yX0_copyFrom cX0_copyFrom 2 none 2 62 [.ref (S0 + (b + 1)), .ref (S0 + (c + 1))] h1 cN' none h2 0 0 := by
  subst e1; subst e2
  refine XMet.ofE (ST := SS) (HP := fun σ => ov h b (gl S0 cI b σ)) σ τ (by decide) (Nat.le_of_ble_eq_true rfl) ?_
  intro κ g1 g2 g3 g4 g5 g6 E X hQ
  subst g1; subst g2; subst g3; subst g4
  have Y : YS κ h b cI := ⟨fun σ => by rw [g5], fun σ => by rw [g6]; exact hb, ht⟩
  have Yc : YT κ c cI τ0 := YT.of hdj Y (fun σ => by rw [g6]; exact hc) eo
  have X : XC κ cX0_copyFrom 2 RX0 none 2 62 := X
  show XG κ σ 0 [(0, .ref (κ.S0 + (b + 1))), (1, .ref (κ.S0 + (c + 1)))] []
  unfold f_X0_copyFrom at hf
  refine x_aload_n X dX0_copyFrom_0 rfl 0 rfl ?_
  refine x_aload_n X dX0_copyFrom_1 rfl 1 rfl ?_
  refine x_getf X fl_X0_36 (yT_1 Yc) (yT_l Yc 1 (by decide)) rfl dX0_copyFrom_2 ?_
  refine x_putI (w := sN σ 0) X E.1 fp_X0_36 (yS_1 Y) (yS_l Y 1 (by decide)) (Nat.le_of_ble_eq_true rfl) (yS_p1_8 Y) dX0_copyFrom_5 hf (fun s5 hf => ?_)
  refine x_aload_n X dX0_copyFrom_8 rfl 0 rfl ?_
  refine x_aload_n X dX0_copyFrom_9 rfl 1 rfl ?_
  refine x_getf X fl_X0_43 (yT_1 Yc) (yT_l Yc 1 (by decide)) rfl dX0_copyFrom_10 ?_
  refine x_putI (w := sN s5 1) X E.1 fp_X0_43 (yS_1 Y) (yS_l Y 1 (by decide)) (Nat.le_of_ble_eq_true rfl) (yS_p1_10 Y) dX0_copyFrom_13 hf (fun s13 hf => ?_)
  refine x_aload_n X dX0_copyFrom_16 rfl 0 rfl ?_
  refine x_aload_n X dX0_copyFrom_17 rfl 1 rfl ?_
  refine x_getf X fl_X0_49 (yT_1 Yc) (yT_l Yc 1 (by decide)) rfl dX0_copyFrom_18 ?_
  refine x_putI (w := sN s13 2) X E.1 fp_X0_49 (yS_1 Y) (yS_l Y 1 (by decide)) (Nat.le_of_ble_eq_true rfl) (yS_p1_12 Y) dX0_copyFrom_21 hf (fun s21 hf => ?_)
  refine x_aload_n X dX0_copyFrom_24 rfl 1 rfl ?_
  refine x_getf X fl_X0_9 (yT_1 Yc) (yT_l Yc 1 (by decide)) rfl dX0_copyFrom_25 ?_
  refine x_aload_n X dX0_copyFrom_28 rfl 0 rfl ?_
  refine x_getf X fl_X0_9 (yS_1 Y) (yS_l Y 1 (by decide)) rfl dX0_copyFrom_29 ?_
  refine x_aload_n X dX0_copyFrom_32 rfl 0 rfl ?_
  refine x_getf X fl_X0_36 (yS_1 Y) (yS_l Y 1 (by decide)) rfl dX0_copyFrom_33 ?_
  refine x_callV (rest := []) (w := fun t => t) X E.1 hf (fun t hr => by cases hr; exact x_cSN X cm_X5_copy lkN_X0_52 ⟨Nat.le_of_ble_eq_true rfl, Nat.le_of_ble_eq_true rfl⟩ (m_X5_copy (yS_ht Y) (yT_l Yc 2 (by decide)) (yS_l Y 2 (by decide)) ⟨by decide, by decide⟩ (yT_2 Yc) (yS_2 Y) (yS_s2 Y _)) rfl rfl (Nat.le_of_ble_eq_true rfl) (x_room E _) dX0_copyFrom_36) (fun s36 hf => ?_)
  refine x_aload_n X dX0_copyFrom_39 rfl 1 rfl ?_
  refine x_getf X fl_X0_15 (yT_1 Yc) (yT_l Yc 1 (by decide)) rfl dX0_copyFrom_40 ?_
  refine x_aload_n X dX0_copyFrom_43 rfl 0 rfl ?_
  refine x_getf X fl_X0_15 (yS_1 Y) (yS_l Y 1 (by decide)) rfl dX0_copyFrom_44 ?_
  refine x_aload_n X dX0_copyFrom_47 rfl 0 rfl ?_
  refine x_getf X fl_X0_36 (yS_1 Y) (yS_l Y 1 (by decide)) rfl dX0_copyFrom_48 ?_
  refine x_callV (rest := []) (w := fun t => t) X E.1 hf (fun t hr => by cases hr; exact x_cSN X cm_X5_copy lkN_X0_52 ⟨Nat.le_of_ble_eq_true rfl, Nat.le_of_ble_eq_true rfl⟩ (m_X5_copy (yS_ht Y) (yT_l Yc 3 (by decide)) (yS_l Y 3 (by decide)) ⟨by decide, by decide⟩ (yT_3 Yc) (yS_3 Y) (yS_s3 Y _)) rfl rfl (Nat.le_of_ble_eq_true rfl) (x_room E _) dX0_copyFrom_51) (fun s51 hf => ?_)
  refine x_aload_n X dX0_copyFrom_54 rfl 1 rfl ?_
  refine x_getf X fl_X0_18 (yT_1 Yc) (yT_l Yc 1 (by decide)) rfl dX0_copyFrom_55 ?_
  refine x_aload_n X dX0_copyFrom_58 rfl 0 rfl ?_
  refine x_getf X fl_X0_18 (yS_1 Y) (yS_l Y 1 (by decide)) rfl dX0_copyFrom_59 ?_
  refine x_aload_n X dX0_copyFrom_62 rfl 0 rfl ?_
  refine x_getf X fl_X0_36 (yS_1 Y) (yS_l Y 1 (by decide)) rfl dX0_copyFrom_63 ?_
  refine x_callV (rest := []) (w := fun t => t) X E.1 hf (fun t hr => by cases hr; exact x_cSN X cm_X5_copy lkN_X0_52 ⟨Nat.le_of_ble_eq_true rfl, Nat.le_of_ble_eq_true rfl⟩ (m_X5_copy (yS_ht Y) (yT_l Yc 4 (by decide)) (yS_l Y 4 (by decide)) ⟨by decide, by decide⟩ (yT_4 Yc) (yS_4 Y) (yS_s4 Y _)) rfl rfl (Nat.le_of_ble_eq_true rfl) (x_room E _) dX0_copyFrom_66) (fun s66 hf => ?_)
  refine x_aload_n X dX0_copyFrom_69 rfl 1 rfl ?_
  refine x_getf X fl_X0_21 (yT_1 Yc) (yT_l Yc 1 (by decide)) rfl dX0_copyFrom_70 ?_
  refine x_aload_n X dX0_copyFrom_73 rfl 0 rfl ?_
  refine x_getf X fl_X0_21 (yS_1 Y) (yS_l Y 1 (by decide)) rfl dX0_copyFrom_74 ?_
  refine x_aload_n X dX0_copyFrom_77 rfl 0 rfl ?_
  refine x_getf X fl_X0_36 (yS_1 Y) (yS_l Y 1 (by decide)) rfl dX0_copyFrom_78 ?_
  refine x_callV (rest := []) (w := fun t => t) X E.1 hf (fun t hr => by cases hr; exact x_cSN X cm_X5_copy lkN_X0_52 ⟨Nat.le_of_ble_eq_true rfl, Nat.le_of_ble_eq_true rfl⟩ (m_X5_copy (yS_ht Y) (yT_l Yc 5 (by decide)) (yS_l Y 5 (by decide)) ⟨by decide, by decide⟩ (yT_5 Yc) (yS_5 Y) (yS_s5 Y _)) rfl rfl (Nat.le_of_ble_eq_true rfl) (x_room E _) dX0_copyFrom_81) (fun s81 hf => ?_)
  refine x_aload_n X dX0_copyFrom_84 rfl 1 rfl ?_
  refine x_getf X fl_X0_24 (yT_1 Yc) (yT_l Yc 1 (by decide)) rfl dX0_copyFrom_85 ?_
  refine x_aload_n X dX0_copyFrom_88 rfl 0 rfl ?_
  refine x_getf X fl_X0_24 (yS_1 Y) (yS_l Y 1 (by decide)) rfl dX0_copyFrom_89 ?_
  refine x_aload_n X dX0_copyFrom_92 rfl 0 rfl ?_
  refine x_getf X fl_X0_36 (yS_1 Y) (yS_l Y 1 (by decide)) rfl dX0_copyFrom_93 ?_
  refine x_callV (rest := []) (w := fun t => t) X E.1 hf (fun t hr => by cases hr; exact x_cSN X cm_X5_copy lkN_X0_52 ⟨Nat.le_of_ble_eq_true rfl, Nat.le_of_ble_eq_true rfl⟩ (m_X5_copy (yS_ht Y) (yT_l Yc 6 (by decide)) (yS_l Y 6 (by decide)) ⟨by decide, by decide⟩ (yT_6 Yc) (yS_6 Y) (yS_s6 Y _)) rfl rfl (Nat.le_of_ble_eq_true rfl) (x_room E _) dX0_copyFrom_96) (fun s96 hf => ?_)
  refine x_aload_n X dX0_copyFrom_99 rfl 1 rfl ?_
  refine x_getf X fl_X0_27 (yT_1 Yc) (yT_l Yc 1 (by decide)) rfl dX0_copyFrom_100 ?_
  refine x_aload_n X dX0_copyFrom_103 rfl 0 rfl ?_
  refine x_getf X fl_X0_27 (yS_1 Y) (yS_l Y 1 (by decide)) rfl dX0_copyFrom_104 ?_
  refine x_aload_n X dX0_copyFrom_107 rfl 0 rfl ?_
  refine x_getf X fl_X0_36 (yS_1 Y) (yS_l Y 1 (by decide)) rfl dX0_copyFrom_108 ?_
  refine x_callV (rest := []) (w := fun t => t) X E.1 hf (fun t hr => by cases hr; exact x_cSN X cm_X5_copy lkN_X0_52 ⟨Nat.le_of_ble_eq_true rfl, Nat.le_of_ble_eq_true rfl⟩ (m_X5_copy (yS_ht Y) (yT_l Yc 7 (by decide)) (yS_l Y 7 (by decide)) ⟨by decide, by decide⟩ (yT_7 Yc) (yS_7 Y) (yS_s7 Y _)) rfl rfl (Nat.le_of_ble_eq_true rfl) (x_room E _) dX0_copyFrom_111) (fun s111 hf => ?_)
  refine x_aload_n X dX0_copyFrom_114 rfl 1 rfl ?_
  refine x_getf X fl_X0_30 (yT_1 Yc) (yT_l Yc 1 (by decide)) rfl dX0_copyFrom_115 ?_
  refine x_aload_n X dX0_copyFrom_118 rfl 0 rfl ?_
  refine x_getf X fl_X0_30 (yS_1 Y) (yS_l Y 1 (by decide)) rfl dX0_copyFrom_119 ?_
  refine x_aload_n X dX0_copyFrom_122 rfl 0 rfl ?_
  refine x_getf X fl_X0_36 (yS_1 Y) (yS_l Y 1 (by decide)) rfl dX0_copyFrom_123 ?_
  refine x_callV (rest := []) (w := fun t => t) X E.1 hf (fun t hr => by cases hr; exact x_cSN X cm_X5_copy lkN_X0_52 ⟨Nat.le_of_ble_eq_true rfl, Nat.le_of_ble_eq_true rfl⟩ (m_X5_copy (yS_ht Y) (yT_l Yc 8 (by decide)) (yS_l Y 8 (by decide)) ⟨by decide, by decide⟩ (yT_8 Yc) (yS_8 Y) (yS_s8 Y _)) rfl rfl (Nat.le_of_ble_eq_true rfl) (x_room E _) dX0_copyFrom_126) (fun s126 hf => ?_)
  refine x_aload_n X dX0_copyFrom_129 rfl 1 rfl ?_
  refine x_getf X fl_X0_33 (yT_1 Yc) (yT_l Yc 1 (by decide)) rfl dX0_copyFrom_130 ?_
  refine x_aload_n X dX0_copyFrom_133 rfl 0 rfl ?_
  refine x_getf X fl_X0_33 (yS_1 Y) (yS_l Y 1 (by decide)) rfl dX0_copyFrom_134 ?_
  refine x_aload_n X dX0_copyFrom_137 rfl 0 rfl ?_
  refine x_getf X fl_X0_36 (yS_1 Y) (yS_l Y 1 (by decide)) rfl dX0_copyFrom_138 ?_
  refine x_callV (rest := []) (w := fun t => t) X E.1 hf (fun t hr => by cases hr; exact x_cSN X cm_X5_copy lkN_X0_52 ⟨Nat.le_of_ble_eq_true rfl, Nat.le_of_ble_eq_true rfl⟩ (m_X5_copy (yS_ht Y) (yT_l Yc 9 (by decide)) (yS_l Y 9 (by decide)) ⟨by decide, by decide⟩ (yT_9 Yc) (yS_9 Y) (yS_s9 Y _)) rfl rfl (Nat.le_of_ble_eq_true rfl) (x_room E _) dX0_copyFrom_141) (fun s141 hf => ?_)
  refine x_aload_n X dX0_copyFrom_144 rfl 1 rfl ?_
  refine x_getf X fl_X0_40 (yT_1 Yc) (yT_l Yc 1 (by decide)) rfl dX0_copyFrom_145 ?_
  refine x_aload_n X dX0_copyFrom_148 rfl 0 rfl ?_
  refine x_getf X fl_X0_40 (yS_1 Y) (yS_l Y 1 (by decide)) rfl dX0_copyFrom_149 ?_
  refine x_aload_n X dX0_copyFrom_152 rfl 0 rfl ?_
  refine x_getf X fl_X0_43 (yS_1 Y) (yS_l Y 1 (by decide)) rfl dX0_copyFrom_153 ?_
  refine x_callV (rest := []) (w := fun t => t) X E.1 hf (fun t hr => by cases hr; exact x_cSN X cm_X5_copy lkN_X0_52 ⟨Nat.le_of_ble_eq_true rfl, Nat.le_of_ble_eq_true rfl⟩ (m_X5_copy (yS_ht Y) (yT_l Yc 10 (by decide)) (yS_l Y 10 (by decide)) ⟨by decide, by decide⟩ (yT_10 Yc) (yS_10 Y) (yS_s10 Y _)) rfl rfl (Nat.le_of_ble_eq_true rfl) (x_room E _) dX0_copyFrom_156) (fun s156 hf => ?_)
  refine x_aload_n X dX0_copyFrom_159 rfl 1 rfl ?_
  refine x_getf X fl_X0_46 (yT_1 Yc) (yT_l Yc 1 (by decide)) rfl dX0_copyFrom_160 ?_
  refine x_aload_n X dX0_copyFrom_163 rfl 0 rfl ?_
  refine x_getf X fl_X0_46 (yS_1 Y) (yS_l Y 1 (by decide)) rfl dX0_copyFrom_164 ?_
  refine x_aload_n X dX0_copyFrom_167 rfl 0 rfl ?_
  refine x_getf X fl_X0_49 (yS_1 Y) (yS_l Y 1 (by decide)) rfl dX0_copyFrom_168 ?_
  refine x_callV (rest := []) (w := fun t => t) X E.1 hf (fun t hr => by cases hr; exact x_cSN X cm_X5_copy lkN_X0_52 ⟨Nat.le_of_ble_eq_true rfl, Nat.le_of_ble_eq_true rfl⟩ (m_X5_copy (yS_ht Y) (yT_l Yc 11 (by decide)) (yS_l Y 11 (by decide)) ⟨by decide, by decide⟩ (yT_11 Yc) (yS_11 Y) (yS_s11 Y _)) rfl rfl (Nat.le_of_ble_eq_true rfl) (x_room E _) dX0_copyFrom_171) (fun s171 hf => ?_)
  exact x_vretV (σ0 := σ) X E hQ hf dX0_copyFrom_174
def f_X4_copyFrom (σ : SS) (τ0 : SS)  : Option (SS) :=
  oV (some (sA σ 13 (cpy 8 8 8 (τ0.1 13) (σ.1 13)))) (fun t => t) (fun s10 => oV (some (sA s10 14 (cpy 8 8 8 (τ0.1 14) (s10.1 14)))) (fun t => t) (fun s23 => oV (some (sA s23 15 (cpy 8 8 8 (τ0.1 15) (s23.1 15)))) (fun t => t) (fun s36 => oV (some (sA s36 16 (cpy 8 8 8 (τ0.1 16) (s36.1 16)))) (fun t => t) (fun s49 => oV (some (sA s49 17 (cpy 8 8 8 (τ0.1 17) (s49.1 17)))) (fun t => t) (fun s62 => oV (some (sA s62 18 (cpy 8 8 8 (τ0.1 18) (s62.1 18)))) (fun t => t) (fun s75 => oN (τ0.2 3) (sN s75 3) (fun s83 => oN (τ0.2 4) (sN s83 4) (fun s91 => oN (τ0.2 5) (sN s91 5) (fun s99 => oN (τ0.2 6) (sN s99 6) (fun s107 => oN (τ0.2 7) (sN s107 7) (fun s115 => some s115)))))))))))
set_option maxRecDepth 100000 in
set_option maxHeartbeats 4000000 in
theorem m_X4_copyFrom {l : Launch} {G : va_G} {tys : List (ClassId × FieldType)} {S0 : Nat} {h h1 h2 : Nat → va_E} {b c cN' : Nat} {cI : ClassId} {σ τ0 : SS} {τ : SS}  (hdj : c + 22 ≤ b ∨ b + 22 ≤ c) (hb : b + 22 ≤ cN') (hc : c + 22 ≤ cN') (ht : tys[0]? = some (cI, .int)) (e1 : h1 = ov h b (gl S0 cI b σ)) (eo : h1 = ov h1 c (gl S0 cI c τ0)) (e2 : h2 = ov h b (gl S0 cI b τ)) (hf : f_X4_copyFrom σ τ0 = some τ) : XMet l G tys S0 cN' yX4_copyFrom cX4_copyFrom 2 none 2 62 [.ref (S0 + (b + 12)), .ref (S0 + (c + 12))] h1 cN' none h2 0 0 := by
  subst e1; subst e2
  refine XMet.ofE (ST := SS) (HP := fun σ => ov h b (gl S0 cI b σ)) σ τ (by decide) (Nat.le_of_ble_eq_true rfl) ?_
  intro κ g1 g2 g3 g4 g5 g6 E X hQ
  subst g1; subst g2; subst g3; subst g4
  have Y : YS κ h b cI := ⟨fun σ => by rw [g5], fun σ => by rw [g6]; exact hb, ht⟩
  have Yc : YT κ c cI τ0 := YT.of hdj Y (fun σ => by rw [g6]; exact hc) eo
  have X : XC κ cX4_copyFrom 2 RX4 none 2 62 := X
  show XG κ σ 0 [(0, .ref (κ.S0 + (b + 12))), (1, .ref (κ.S0 + (c + 12)))] []
  unfold f_X4_copyFrom at hf
  refine x_aload_n X dX4_copyFrom_0 rfl 1 rfl ?_
  refine x_getf X fl_X4_9 (yT_12 Yc) (yT_l Yc 12 (by decide)) rfl dX4_copyFrom_1 ?_
  refine x_aload_n X dX4_copyFrom_4 rfl 0 rfl ?_
  refine x_getf X fl_X4_9 (yS_12 Y) (yS_l Y 12 (by decide)) rfl dX4_copyFrom_5 ?_
  refine x_bipush (v := 8) X dX4_copyFrom_8 (by decide) ?_
  refine x_callV (rest := []) (w := fun t => t) X E.1 hf (fun t hr => by cases hr; exact x_cSN X cm_X5_copy lkN_X4_46 ⟨Nat.le_of_ble_eq_true rfl, Nat.le_of_ble_eq_true rfl⟩ (m_X5_copy (yS_ht Y) (yT_l Yc 13 (by decide)) (yS_l Y 13 (by decide)) ⟨by decide, by decide⟩ (yT_13 Yc) (yS_13 Y) (yS_s13 Y _)) rfl rfl (Nat.le_of_ble_eq_true rfl) (x_room E _) dX4_copyFrom_10) (fun s10 hf => ?_)
  refine x_aload_n X dX4_copyFrom_13 rfl 1 rfl ?_
  refine x_getf X fl_X4_15 (yT_12 Yc) (yT_l Yc 12 (by decide)) rfl dX4_copyFrom_14 ?_
  refine x_aload_n X dX4_copyFrom_17 rfl 0 rfl ?_
  refine x_getf X fl_X4_15 (yS_12 Y) (yS_l Y 12 (by decide)) rfl dX4_copyFrom_18 ?_
  refine x_bipush (v := 8) X dX4_copyFrom_21 (by decide) ?_
  refine x_callV (rest := []) (w := fun t => t) X E.1 hf (fun t hr => by cases hr; exact x_cSN X cm_X5_copy lkN_X4_46 ⟨Nat.le_of_ble_eq_true rfl, Nat.le_of_ble_eq_true rfl⟩ (m_X5_copy (yS_ht Y) (yT_l Yc 14 (by decide)) (yS_l Y 14 (by decide)) ⟨by decide, by decide⟩ (yT_14 Yc) (yS_14 Y) (yS_s14 Y _)) rfl rfl (Nat.le_of_ble_eq_true rfl) (x_room E _) dX4_copyFrom_23) (fun s23 hf => ?_)
  refine x_aload_n X dX4_copyFrom_26 rfl 1 rfl ?_
  refine x_getf X fl_X4_18 (yT_12 Yc) (yT_l Yc 12 (by decide)) rfl dX4_copyFrom_27 ?_
  refine x_aload_n X dX4_copyFrom_30 rfl 0 rfl ?_
  refine x_getf X fl_X4_18 (yS_12 Y) (yS_l Y 12 (by decide)) rfl dX4_copyFrom_31 ?_
  refine x_bipush (v := 8) X dX4_copyFrom_34 (by decide) ?_
  refine x_callV (rest := []) (w := fun t => t) X E.1 hf (fun t hr => by cases hr; exact x_cSN X cm_X5_copy lkN_X4_46 ⟨Nat.le_of_ble_eq_true rfl, Nat.le_of_ble_eq_true rfl⟩ (m_X5_copy (yS_ht Y) (yT_l Yc 15 (by decide)) (yS_l Y 15 (by decide)) ⟨by decide, by decide⟩ (yT_15 Yc) (yS_15 Y) (yS_s15 Y _)) rfl rfl (Nat.le_of_ble_eq_true rfl) (x_room E _) dX4_copyFrom_36) (fun s36 hf => ?_)
  refine x_aload_n X dX4_copyFrom_39 rfl 1 rfl ?_
  refine x_getf X fl_X4_21 (yT_12 Yc) (yT_l Yc 12 (by decide)) rfl dX4_copyFrom_40 ?_
  refine x_aload_n X dX4_copyFrom_43 rfl 0 rfl ?_
  refine x_getf X fl_X4_21 (yS_12 Y) (yS_l Y 12 (by decide)) rfl dX4_copyFrom_44 ?_
  refine x_bipush (v := 8) X dX4_copyFrom_47 (by decide) ?_
  refine x_callV (rest := []) (w := fun t => t) X E.1 hf (fun t hr => by cases hr; exact x_cSN X cm_X5_copy lkN_X4_46 ⟨Nat.le_of_ble_eq_true rfl, Nat.le_of_ble_eq_true rfl⟩ (m_X5_copy (yS_ht Y) (yT_l Yc 16 (by decide)) (yS_l Y 16 (by decide)) ⟨by decide, by decide⟩ (yT_16 Yc) (yS_16 Y) (yS_s16 Y _)) rfl rfl (Nat.le_of_ble_eq_true rfl) (x_room E _) dX4_copyFrom_49) (fun s49 hf => ?_)
  refine x_aload_n X dX4_copyFrom_52 rfl 1 rfl ?_
  refine x_getf X fl_X4_24 (yT_12 Yc) (yT_l Yc 12 (by decide)) rfl dX4_copyFrom_53 ?_
  refine x_aload_n X dX4_copyFrom_56 rfl 0 rfl ?_
  refine x_getf X fl_X4_24 (yS_12 Y) (yS_l Y 12 (by decide)) rfl dX4_copyFrom_57 ?_
  refine x_bipush (v := 8) X dX4_copyFrom_60 (by decide) ?_
  refine x_callV (rest := []) (w := fun t => t) X E.1 hf (fun t hr => by cases hr; exact x_cSN X cm_X5_copy lkN_X4_46 ⟨Nat.le_of_ble_eq_true rfl, Nat.le_of_ble_eq_true rfl⟩ (m_X5_copy (yS_ht Y) (yT_l Yc 17 (by decide)) (yS_l Y 17 (by decide)) ⟨by decide, by decide⟩ (yT_17 Yc) (yS_17 Y) (yS_s17 Y _)) rfl rfl (Nat.le_of_ble_eq_true rfl) (x_room E _) dX4_copyFrom_62) (fun s62 hf => ?_)
  refine x_aload_n X dX4_copyFrom_65 rfl 1 rfl ?_
  refine x_getf X fl_X4_27 (yT_12 Yc) (yT_l Yc 12 (by decide)) rfl dX4_copyFrom_66 ?_
  refine x_aload_n X dX4_copyFrom_69 rfl 0 rfl ?_
  refine x_getf X fl_X4_27 (yS_12 Y) (yS_l Y 12 (by decide)) rfl dX4_copyFrom_70 ?_
  refine x_bipush (v := 8) X dX4_copyFrom_73 (by decide) ?_
  refine x_callV (rest := []) (w := fun t => t) X E.1 hf (fun t hr => by cases hr; exact x_cSN X cm_X5_copy lkN_X4_46 ⟨Nat.le_of_ble_eq_true rfl, Nat.le_of_ble_eq_true rfl⟩ (m_X5_copy (yS_ht Y) (yT_l Yc 18 (by decide)) (yS_l Y 18 (by decide)) ⟨by decide, by decide⟩ (yT_18 Yc) (yS_18 Y) (yS_s18 Y _)) rfl rfl (Nat.le_of_ble_eq_true rfl) (x_room E _) dX4_copyFrom_75) (fun s75 hf => ?_)
  refine x_aload_n X dX4_copyFrom_78 rfl 0 rfl ?_
  refine x_aload_n X dX4_copyFrom_79 rfl 1 rfl ?_
  refine x_getf X fl_X4_30 (yT_12 Yc) (yT_l Yc 12 (by decide)) rfl dX4_copyFrom_80 ?_
  refine x_putI (w := sN s75 3) X E.1 fp_X4_30 (yS_12 Y) (yS_l Y 12 (by decide)) (Nat.le_of_ble_eq_true rfl) (yS_p12_6 Y) dX4_copyFrom_83 hf (fun s83 hf => ?_)
  refine x_aload_n X dX4_copyFrom_86 rfl 0 rfl ?_
  refine x_aload_n X dX4_copyFrom_87 rfl 1 rfl ?_
  refine x_getf X fl_X4_34 (yT_12 Yc) (yT_l Yc 12 (by decide)) rfl dX4_copyFrom_88 ?_
  refine x_putI (w := sN s83 4) X E.1 fp_X4_34 (yS_12 Y) (yS_l Y 12 (by decide)) (Nat.le_of_ble_eq_true rfl) (yS_p12_7 Y) dX4_copyFrom_91 hf (fun s91 hf => ?_)
  refine x_aload_n X dX4_copyFrom_94 rfl 0 rfl ?_
  refine x_aload_n X dX4_copyFrom_95 rfl 1 rfl ?_
  refine x_getf X fl_X4_37 (yT_12 Yc) (yT_l Yc 12 (by decide)) rfl dX4_copyFrom_96 ?_
  refine x_putI (w := sN s91 5) X E.1 fp_X4_37 (yS_12 Y) (yS_l Y 12 (by decide)) (Nat.le_of_ble_eq_true rfl) (yS_p12_8 Y) dX4_copyFrom_99 hf (fun s99 hf => ?_)
  refine x_aload_n X dX4_copyFrom_102 rfl 0 rfl ?_
  refine x_aload_n X dX4_copyFrom_103 rfl 1 rfl ?_
  refine x_getf X fl_X4_40 (yT_12 Yc) (yT_l Yc 12 (by decide)) rfl dX4_copyFrom_104 ?_
  refine x_putI (w := sN s99 6) X E.1 fp_X4_40 (yS_12 Y) (yS_l Y 12 (by decide)) (Nat.le_of_ble_eq_true rfl) (yS_p12_9 Y) dX4_copyFrom_107 hf (fun s107 hf => ?_)
  refine x_aload_n X dX4_copyFrom_110 rfl 0 rfl ?_
  refine x_aload_n X dX4_copyFrom_111 rfl 1 rfl ?_
  refine x_getf X fl_X4_43 (yT_12 Yc) (yT_l Yc 12 (by decide)) rfl dX4_copyFrom_112 ?_
  refine x_putI (w := sN s107 7) X E.1 fp_X4_43 (yS_12 Y) (yS_l Y 12 (by decide)) (Nat.le_of_ble_eq_true rfl) (yS_p12_10 Y) dX4_copyFrom_115 hf (fun s115 hf => ?_)
  exact x_vretV (σ0 := σ) X E hQ hf dX4_copyFrom_118
def f_X3_copyFrom (σ : SS) (τ0 : SS)  : Option (SS) :=
  oV (f_X0_copyFrom σ τ0) (fun t => t) (fun s8 => oV (f_X4_copyFrom s8 τ0) (fun t => t) (fun s19 => oV (some (sA s19 19 (cpy 4 4 4 (τ0.1 19) (s19.1 19)))) (fun t => t) (fun s31 => oV (some (sA s31 20 (cpy 4 4 4 (τ0.1 20) (s31.1 20)))) (fun t => t) (fun s43 => oN (τ0.2 8) (sN s43 8) (fun s51 => oN (τ0.2 9) (sN s51 9) (fun s59 => oN (τ0.2 10) (sN s59 10) (fun s67 => some s67)))))))
set_option maxRecDepth 100000 in
set_option maxHeartbeats 4000000 in
theorem m_X3_copyFrom {l : Launch} {G : va_G} {tys : List (ClassId × FieldType)} {S0 : Nat} {h h1 h2 : Nat → va_E} {b c cN' : Nat} {cI : ClassId} {σ τ0 : SS} {τ : SS}  (hdj : c + 22 ≤ b ∨ b + 22 ≤ c) (hb : b + 22 ≤ cN') (hc : c + 22 ≤ cN') (ht : tys[0]? = some (cI, .int)) (e1 : h1 = ov h b (gl S0 cI b σ)) (eo : h1 = ov h1 c (gl S0 cI c τ0)) (e2 : h2 = ov h b (gl S0 cI b τ)) (hf : f_X3_copyFrom σ τ0 = some τ) : XMet l G tys S0 cN' yX3_copyFrom cX3_copyFrom 2 none 3 83 [.ref (S0 + (b + 0)), .ref (S0 + (c + 0))] h1 cN' none h2 0 0 := by
  subst e1; subst e2
  refine XMet.ofE (ST := SS) (HP := fun σ => ov h b (gl S0 cI b σ)) σ τ (by decide) (Nat.le_of_ble_eq_true rfl) ?_
  intro κ g1 g2 g3 g4 g5 g6 E X hQ
  subst g1; subst g2; subst g3; subst g4
  have Y : YS κ h b cI := ⟨fun σ => by rw [g5], fun σ => by rw [g6]; exact hb, ht⟩
  have Yc : YT κ c cI τ0 := YT.of hdj Y (fun σ => by rw [g6]; exact hc) eo
  have X : XC κ cX3_copyFrom 2 RX3 none 3 83 := X
  show XG κ σ 0 [(0, .ref (κ.S0 + (b + 0))), (1, .ref (κ.S0 + (c + 0)))] []
  unfold f_X3_copyFrom at hf
  refine x_aload_n X dX3_copyFrom_0 rfl 0 rfl ?_
  refine x_getf X fl_X3_12 (yS_0 Y) (yS_l Y 0 (by decide)) rfl dX3_copyFrom_1 ?_
  refine x_aload_n X dX3_copyFrom_4 rfl 1 rfl ?_
  refine x_getf X fl_X3_12 (yT_0 Yc) (yT_l Yc 0 (by decide)) rfl dX3_copyFrom_5 ?_
  refine x_callV (rest := []) (w := fun t => t) X E.1 hf (fun t hr => x_cV (ci := 0) X cm_X0_copyFrom lkV_X3_45 rfl ⟨Nat.le_of_ble_eq_true rfl, Nat.le_of_ble_eq_true rfl⟩ (yS_1 Y) (yS_l Y 1 (by decide)) (m_X0_copyFrom hdj (yS_hb Y σ) (yT_hb Yc σ) (yS_ht Y) (yS_hp Y _) (yT_eo Yc _) (yS_hp Y _) hr) rfl rfl (Nat.le_of_ble_eq_true rfl) (x_room E _) dX3_copyFrom_8) (fun s8 hf => ?_)
  refine x_aload_n X dX3_copyFrom_11 rfl 0 rfl ?_
  refine x_getf X fl_X3_21 (yS_0 Y) (yS_l Y 0 (by decide)) rfl dX3_copyFrom_12 ?_
  refine x_aload_n X dX3_copyFrom_15 rfl 1 rfl ?_
  refine x_getf X fl_X3_21 (yT_0 Yc) (yT_l Yc 0 (by decide)) rfl dX3_copyFrom_16 ?_
  refine x_callV (rest := []) (w := fun t => t) X E.1 hf (fun t hr => x_cV (ci := 4) X cm_X4_copyFrom lkV_X3_49 rfl ⟨Nat.le_of_ble_eq_true rfl, Nat.le_of_ble_eq_true rfl⟩ (yS_12 Y) (yS_l Y 12 (by decide)) (m_X4_copyFrom hdj (yS_hb Y s8) (yT_hb Yc s8) (yS_ht Y) (yS_hp Y _) (yT_eo Yc _) (yS_hp Y _) hr) rfl rfl (Nat.le_of_ble_eq_true rfl) (x_room E _) dX3_copyFrom_19) (fun s19 hf => ?_)
  refine x_aload_n X dX3_copyFrom_22 rfl 1 rfl ?_
  refine x_getf X fl_X3_25 (yT_0 Yc) (yT_l Yc 0 (by decide)) rfl dX3_copyFrom_23 ?_
  refine x_aload_n X dX3_copyFrom_26 rfl 0 rfl ?_
  refine x_getf X fl_X3_25 (yS_0 Y) (yS_l Y 0 (by decide)) rfl dX3_copyFrom_27 ?_
  refine x_iconst (v := 4) X dX3_copyFrom_30 (by decide) ?_
  refine x_callV (rest := []) (w := fun t => t) X E.1 hf (fun t hr => by cases hr; exact x_cSN X cm_X5_copy lkN_X3_52 ⟨Nat.le_of_ble_eq_true rfl, Nat.le_of_ble_eq_true rfl⟩ (m_X5_copy (yS_ht Y) (yT_l Yc 19 (by decide)) (yS_l Y 19 (by decide)) ⟨by decide, by decide⟩ (yT_19 Yc) (yS_19 Y) (yS_s19 Y _)) rfl rfl (Nat.le_of_ble_eq_true rfl) (x_room E _) dX3_copyFrom_31) (fun s31 hf => ?_)
  refine x_aload_n X dX3_copyFrom_34 rfl 1 rfl ?_
  refine x_getf X fl_X3_29 (yT_0 Yc) (yT_l Yc 0 (by decide)) rfl dX3_copyFrom_35 ?_
  refine x_aload_n X dX3_copyFrom_38 rfl 0 rfl ?_
  refine x_getf X fl_X3_29 (yS_0 Y) (yS_l Y 0 (by decide)) rfl dX3_copyFrom_39 ?_
  refine x_iconst (v := 4) X dX3_copyFrom_42 (by decide) ?_
  refine x_callV (rest := []) (w := fun t => t) X E.1 hf (fun t hr => by cases hr; exact x_cSN X cm_X5_copy lkN_X3_52 ⟨Nat.le_of_ble_eq_true rfl, Nat.le_of_ble_eq_true rfl⟩ (m_X5_copy (yS_ht Y) (yT_l Yc 20 (by decide)) (yS_l Y 20 (by decide)) ⟨by decide, by decide⟩ (yT_20 Yc) (yS_20 Y) (yS_s20 Y _)) rfl rfl (Nat.le_of_ble_eq_true rfl) (x_room E _) dX3_copyFrom_43) (fun s43 hf => ?_)
  refine x_aload_n X dX3_copyFrom_46 rfl 0 rfl ?_
  refine x_aload_n X dX3_copyFrom_47 rfl 1 rfl ?_
  refine x_getf X fl_X3_35 (yT_0 Yc) (yT_l Yc 0 (by decide)) rfl dX3_copyFrom_48 ?_
  refine x_putI (w := sN s43 8) X E.1 fp_X3_35 (yS_0 Y) (yS_l Y 0 (by decide)) (Nat.le_of_ble_eq_true rfl) (yS_p0_5 Y) dX3_copyFrom_51 hf (fun s51 hf => ?_)
  refine x_aload_n X dX3_copyFrom_54 rfl 0 rfl ?_
  refine x_aload_n X dX3_copyFrom_55 rfl 1 rfl ?_
  refine x_getf X fl_X3_39 (yT_0 Yc) (yT_l Yc 0 (by decide)) rfl dX3_copyFrom_56 ?_
  refine x_putI (w := sN s51 9) X E.1 fp_X3_39 (yS_0 Y) (yS_l Y 0 (by decide)) (Nat.le_of_ble_eq_true rfl) (yS_p0_6 Y) dX3_copyFrom_59 hf (fun s59 hf => ?_)
  refine x_aload_n X dX3_copyFrom_62 rfl 0 rfl ?_
  refine x_aload_n X dX3_copyFrom_63 rfl 1 rfl ?_
  refine x_getf X fl_X3_42 (yT_0 Yc) (yT_l Yc 0 (by decide)) rfl dX3_copyFrom_64 ?_
  refine x_putI (w := sN s59 10) X E.1 fp_X3_42 (yS_0 Y) (yS_l Y 0 (by decide)) (Nat.le_of_ble_eq_true rfl) (yS_p0_7 Y) dX3_copyFrom_67 hf (fun s67 hf => ?_)
  exact x_vretV (σ0 := σ) X E hQ hf dX3_copyFrom_70
