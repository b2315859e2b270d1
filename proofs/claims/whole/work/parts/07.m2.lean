def f_X2_valueFrom (σ : CS) (p1 : Int32) : Option (Int32) :=
  oR (f_X2_digit σ p1) (fun r2 => oR (f_X2_sign σ (p1 + 1)) (fun r10 => if r10 = 59 then (some r2) else (oR (f_X2_digit σ (p1 + 1)) (fun r30 => some ((r2 * 10) + r30)))))
set_option maxRecDepth 100000 in
set_option maxHeartbeats 4000000 in
theorem m_X2_valueFrom {l : Launch} {G : va_G} {tys : List (ClassId × FieldType)} {S0 : Nat} {h h1 h2 : Nat → va_E} {b cN' : Nat} {cI cC cS' : ClassId} {σ : CS} {p1 : Int32} {r : Int32} (hb : b + 159 ≤ cN') (ht : tys[0]? = some (cI, .int)) (htc : tys[1]? = some (cC, .char)) (hts : tys[3]? = some (cS', .object "AppendZones$State")) (e1 : h1 = ov h b (cl S0 cI cC cS' b σ)) (e2 : h2 = ov h b (cl S0 cI cC cS' b σ)) (hf : f_X2_valueFrom σ p1 = some r) : XMet l G tys S0 cN' yX2_valueFrom cX2_valueFrom 3 (some .int) 2 42 [.ref (S0 + (b + 157)), .int p1] h1 cN' (some (.int r)) h2 0 0 := by
  subst e1; subst e2
  refine XMet.ofE (ST := CS) (HP := fun σ => ov h b (cl S0 cI cC cS' b σ)) σ σ (by decide) (Nat.le_of_ble_eq_true rfl) ?_
  intro κ g1 g2 g3 g4 g5 g6 E X hQ
  subst g1; subst g2; subst g3; subst g4
  have Y : YC κ h b cI cC cS' := ⟨fun σ => by rw [g5], fun σ => by rw [g6]; exact hb, ht, htc, hts⟩
  have X : XC κ cX2_valueFrom 3 RX2 (some .int) 2 42 := X
  show XG κ σ 0 [(0, .ref (κ.S0 + (b + 157))), (1, .int p1)] []
  unfold f_X2_valueFrom at hf
  refine x_aload_n X dX2_valueFrom_0 rfl 0 rfl ?_
  refine x_iload_n X dX2_valueFrom_1 rfl 1 rfl ?_
  refine x_callR (rest := []) X hf (fun r hr => x_cV (ci := 2) X cm_X2_digit lkV_X2_35 rfl ⟨Nat.le_of_ble_eq_true rfl, Nat.le_of_ble_eq_true rfl⟩ (yC_157 Y) (yC_l Y 157 (by decide)) (m_X2_digit (yC_hb Y σ) (yC_ht Y) (yC_htc Y) (yC_hts Y) (yC_hp Y _) (yC_hp Y _) hr) rfl rfl (Nat.le_of_ble_eq_true rfl) (x_room E _) dX2_valueFrom_2) (fun r2 hf => ?_)
  refine x_istore_n (lv' := [(2, .int r2), (0, .ref (κ.S0 + (b + 157))), (1, .int p1)]) X dX2_valueFrom_5 rfl (by decide) rfl ?_
  refine x_aload_n X dX2_valueFrom_6 rfl 1 rfl ?_
  refine x_iload_n X dX2_valueFrom_7 rfl 2 rfl ?_
  refine x_iconst (v := 1) X dX2_valueFrom_8 (by decide) ?_
  refine x_iadd X dX2_valueFrom_9 ?_
  refine x_callR (rest := []) X hf (fun r hr => x_cV (ci := 2) X cm_X2_sign lkV_X2_31 rfl ⟨Nat.le_of_ble_eq_true rfl, Nat.le_of_ble_eq_true rfl⟩ (yC_157 Y) (yC_l Y 157 (by decide)) (m_X2_sign (yC_hb Y σ) (yC_ht Y) (yC_htc Y) (yC_hts Y) (yC_hp Y _) (yC_hp Y _) hr) rfl rfl (Nat.le_of_ble_eq_true rfl) (x_room E _) dX2_valueFrom_10) (fun r10 hf => ?_)
  refine x_bipush (v := 59) X dX2_valueFrom_13 (by decide) ?_
  refine x_icmp_ne (tgt := 22) X dX2_valueFrom_15 (by decide) hf (fun hf => ?_) (fun hf => ?_)
  · refine x_iload_n X dX2_valueFrom_22 rfl 0 rfl ?_
    refine x_bipush (v := 10) X dX2_valueFrom_23 (by decide) ?_
    refine x_imul X dX2_valueFrom_25 ?_
    refine x_aload_n X dX2_valueFrom_26 rfl 1 rfl ?_
    refine x_iload_n X dX2_valueFrom_27 rfl 2 rfl ?_
    refine x_iconst (v := 1) X dX2_valueFrom_28 (by decide) ?_
    refine x_iadd X dX2_valueFrom_29 ?_
    refine x_callR (rest := [.int (r2 * 10)]) X hf (fun r hr => x_cV (ci := 2) X cm_X2_digit lkV_X2_35 rfl ⟨Nat.le_of_ble_eq_true rfl, Nat.le_of_ble_eq_true rfl⟩ (yC_157 Y) (yC_l Y 157 (by decide)) (m_X2_digit (yC_hb Y σ) (yC_ht Y) (yC_htc Y) (yC_hts Y) (yC_hp Y _) (yC_hp Y _) hr) rfl rfl (Nat.le_of_ble_eq_true rfl) (x_room E _) dX2_valueFrom_30) (fun r30 hf => ?_)
    refine x_iadd X dX2_valueFrom_33 ?_
    exact x_iretR (σ0 := σ) X E hQ hf dX2_valueFrom_34
  · refine x_iload_n X dX2_valueFrom_18 rfl 0 rfl ?_
    refine x_goto (tgt := 34) X dX2_valueFrom_19 (by decide) ?_
    exact x_iretR (σ0 := σ) X E hQ hf dX2_valueFrom_34
def f_X2_behindOrder_L2 (σ : CS) (kX2 : Int32 → Option (Int32)) : Nat → Int32 → Option (Int32)
  | 0, _ => none
  | n + 1, v2_2 =>
    if (σ.2.2 3) ≤ v2_2 then (kX2 v2_2) else (oA 60 (σ.2.1) v2_2 (fun x15 => if x15 = 59 then (kX2 v2_2) else (f_X2_behindOrder_L2 σ kX2 n (v2_2 + 1))))
def f_X2_behindOrder (σ : CS) (p1 : Int32) : Option (Int32) :=
  f_X2_behindOrder_L2 σ (fun w2_27 => some w2_27) FU p1
set_option maxRecDepth 100000 in
set_option maxHeartbeats 4000000 in
theorem m_X2_behindOrder {l : Launch} {G : va_G} {tys : List (ClassId × FieldType)} {S0 : Nat} {h h1 h2 : Nat → va_E} {b cN' : Nat} {cI cC cS' : ClassId} {σ : CS} {p1 : Int32} {r : Int32} (hb : b + 159 ≤ cN') (ht : tys[0]? = some (cI, .int)) (htc : tys[1]? = some (cC, .char)) (hts : tys[3]? = some (cS', .object "AppendZones$State")) (e1 : h1 = ov h b (cl S0 cI cC cS' b σ)) (e2 : h2 = ov h b (cl S0 cI cC cS' b σ)) (hf : f_X2_behindOrder σ p1 = some r) : XMet l G tys S0 cN' yX2_behindOrder cX2_behindOrder 3 (some .int) 0 0 [.ref (S0 + (b + 157)), .int p1] h1 cN' (some (.int r)) h2 0 0 := by
  subst e1; subst e2
  refine XMet.ofE (ST := CS) (HP := fun σ => ov h b (cl S0 cI cC cS' b σ)) σ σ (by decide) (Nat.le_of_ble_eq_true rfl) ?_
  intro κ g1 g2 g3 g4 g5 g6 E X hQ
  subst g1; subst g2; subst g3; subst g4
  have Y : YC κ h b cI cC cS' := ⟨fun σ => by rw [g5], fun σ => by rw [g6]; exact hb, ht, htc, hts⟩
  have X : XC κ cX2_behindOrder 3 RX2 (some .int) 0 0 := X
  show XG κ σ 0 [(0, .ref (κ.S0 + (b + 157))), (1, .int p1)] []
  unfold f_X2_behindOrder at hf
  refine x_iload_n X dX2_behindOrder_0 rfl 1 rfl ?_
  refine x_istore_n (lv' := [(2, .int p1), (0, .ref (κ.S0 + (b + 157))), (1, .int p1)]) X dX2_behindOrder_1 rfl (by decide) rfl ?_
  refine x_kont (b := fun kX2 => f_X2_behindOrder_L2 σ kX2 FU p1) (fun kX2 => ∀ (w2_27 : Int32), kX2 w2_27 = some r → XG κ σ 27 [(2, .int w2_27)] []) hf (fun w2_27 hf => ?_) (fun kX2 JX2 hf => ?_)
  · refine x_iload_n X dX2_behindOrder_27 rfl 0 rfl ?_
    exact x_iretR (σ0 := σ) X E hQ hf dX2_behindOrder_28
  · have LL : ∀ (n : Nat) (v2_2 : Int32), f_X2_behindOrder_L2 σ kX2 n v2_2 = some r → XG κ σ 2 [(0, .ref (κ.S0 + (b + 157))), (2, .int v2_2)] [] := by
      intro n
      induction n with
      | zero => intro v2_2 hf; rw [f_X2_behindOrder_L2] at hf; cases hf
      | succ n ih2 =>
        intro v2_2 hf
        rw [f_X2_behindOrder_L2] at hf
        refine x_iload_n X dX2_behindOrder_2 rfl 1 rfl ?_
        refine x_aload_n X dX2_behindOrder_3 rfl 0 rfl ?_
        refine x_getf X fl_X2_15 (yC_157 Y) (yC_l Y 157 (by decide)) rfl dX2_behindOrder_4 ?_
        refine x_icmp_ge (tgt := 27) X dX2_behindOrder_7 (by decide) hf (fun hf => ?_) (fun hf => ?_)
        · refine x_sub [1] rfl ?_
          exact JX2 v2_2 hf
        · refine x_aload_n X dX2_behindOrder_10 rfl 0 rfl ?_
          refine x_getf X fl_X2_9 (yC_157 Y) (yC_l Y 157 (by decide)) rfl dX2_behindOrder_11 ?_
          refine x_iload_n X dX2_behindOrder_14 rfl 1 rfl ?_
          refine x_cald X 1 (yC_htc Y) (yC_158 Y) (yC_l Y 158 (by decide)) dX2_behindOrder_15 hf (fun x15 hf => ?_)
          refine x_bipush (v := 59) X dX2_behindOrder_16 (by decide) ?_
          refine x_icmp_eq (tgt := 27) X dX2_behindOrder_18 (by decide) hf (fun hf => ?_) (fun hf => ?_)
          · refine x_sub [1] rfl ?_
            exact JX2 v2_2 hf
          · refine x_iinc (v := v2_2 + 1) (lv' := [(2, .int (v2_2 + 1)), (0, .ref (κ.S0 + (b + 157)))]) X dX2_behindOrder_21 1 rfl rfl (by decide) rfl ?_
            refine x_goto (tgt := 2) X dX2_behindOrder_24 (by decide) ?_
            refine x_sub [1, 0] rfl ?_
            exact ih2 (v2_2 + 1) hf
    refine x_sub [1, 0] rfl ?_
    exact LL FU p1 hf
def f_X2_add (σ : CS) (p1 : Int32) : Option (Int32 × CS) :=
  if (σ.2.2 3) < 60 then (oS 60 (σ.2.1) (σ.2.2 3) (vp_nar .char p1) (cT σ) (fun s21 => oN ((s21.2.2 3) + 1) (cN s21 3) (fun s29 => some ((s29.2.2 3), s29)))) else (some ((-3), σ))
set_option maxRecDepth 100000 in
set_option maxHeartbeats 4000000 in
theorem m_X2_add {l : Launch} {G : va_G} {tys : List (ClassId × FieldType)} {S0 : Nat} {h h1 h2 : Nat → va_E} {b cN' : Nat} {cI cC cS' : ClassId} {σ : CS} {τ : CS} {p1 : Int32} {r : Int32} (hb : b + 159 ≤ cN') (ht : tys[0]? = some (cI, .int)) (htc : tys[1]? = some (cC, .char)) (hts : tys[3]? = some (cS', .object "AppendZones$State")) (e1 : h1 = ov h b (cl S0 cI cC cS' b σ)) (e2 : h2 = ov h b (cl S0 cI cC cS' b τ)) (hf : f_X2_add σ p1 = some (r, τ)) : XMet l G tys S0 cN' yX2_add cX2_add 2 (some .int) 0 0 [.ref (S0 + (b + 157)), .int p1] h1 cN' (some (.int r)) h2 0 0 := by
  subst e1; subst e2
  refine XMet.ofE (ST := CS) (HP := fun σ => ov h b (cl S0 cI cC cS' b σ)) σ τ (by decide) (Nat.le_of_ble_eq_true rfl) ?_
  intro κ g1 g2 g3 g4 g5 g6 E X hQ
  subst g1; subst g2; subst g3; subst g4
  have Y : YC κ h b cI cC cS' := ⟨fun σ => by rw [g5], fun σ => by rw [g6]; exact hb, ht, htc, hts⟩
  have X : XC κ cX2_add 2 RX2 (some .int) 0 0 := X
  show XG κ σ 0 [(0, .ref (κ.S0 + (b + 157))), (1, .int p1)] []
  unfold f_X2_add at hf
  refine x_aload_n X dX2_add_0 rfl 0 rfl ?_
  refine x_getf X fl_X2_15 (yC_157 Y) (yC_l Y 157 (by decide)) rfl dX2_add_1 ?_
  refine x_bipush (v := 60) X dX2_add_4 (by decide) ?_
  refine x_icmp_lt (tgt := 12) X dX2_add_6 (by decide) hf (fun hf => ?_) (fun hf => ?_)
  · refine x_aload_n X dX2_add_12 rfl 0 rfl ?_
    refine x_getf X fl_X2_9 (yC_157 Y) (yC_l Y 157 (by decide)) rfl dX2_add_13 ?_
    refine x_aload_n X dX2_add_16 rfl 0 rfl ?_
    refine x_getf X fl_X2_15 (yC_157 Y) (yC_l Y 157 (by decide)) rfl dX2_add_17 ?_
    refine x_iload_n X dX2_add_20 rfl 1 rfl ?_
    refine x_cast (w := cT σ) X E.1 1 (yC_htc Y) (yC_158 Y) (yC_l Y 158 (by decide)) (yC_s158 Y) dX2_add_21 hf (fun s21 hf => ?_)
    refine x_aload_n X dX2_add_22 rfl 0 rfl ?_
    refine x_dup X dX2_add_23 rfl ?_
    refine x_getf X fl_X2_15 (yC_157 Y) (yC_l Y 157 (by decide)) rfl dX2_add_24 ?_
    refine x_iconst (v := 1) X dX2_add_27 (by decide) ?_
    refine x_iadd X dX2_add_28 ?_
    refine x_putI (w := cN s21 3) X E.1 fp_X2_15 (yC_157 Y) (yC_l Y 157 (by decide)) (Nat.le_of_ble_eq_true rfl) (yC_p157_1 Y) dX2_add_29 hf (fun s29 hf => ?_)
    refine x_aload_n X dX2_add_32 rfl 0 rfl ?_
    refine x_getf X fl_X2_15 (yC_157 Y) (yC_l Y 157 (by decide)) rfl dX2_add_33 ?_
    exact x_iretW (σ0 := σ) X E hQ hf dX2_add_36
  · refine x_bipush (v := (-3)) X dX2_add_9 (by decide) ?_
    exact x_iretW (σ0 := σ) X E hQ hf dX2_add_11
def f_X2_empty (σ : CS)  : Option (Int32 × CS) :=
  oN 0 (cN σ 3) (fun s7 => some ((σ.2.2 3), s7))
set_option maxRecDepth 100000 in
set_option maxHeartbeats 4000000 in
theorem m_X2_empty {l : Launch} {G : va_G} {tys : List (ClassId × FieldType)} {S0 : Nat} {h h1 h2 : Nat → va_E} {b cN' : Nat} {cI cC cS' : ClassId} {σ : CS} {τ : CS}  {r : Int32} (hb : b + 159 ≤ cN') (ht : tys[0]? = some (cI, .int)) (htc : tys[1]? = some (cC, .char)) (hts : tys[3]? = some (cS', .object "AppendZones$State")) (e1 : h1 = ov h b (cl S0 cI cC cS' b σ)) (e2 : h2 = ov h b (cl S0 cI cC cS' b τ)) (hf : f_X2_empty σ = some (r, τ)) : XMet l G tys S0 cN' yX2_empty cX2_empty 2 (some .int) 0 0 [.ref (S0 + (b + 157))] h1 cN' (some (.int r)) h2 0 0 := by
  subst e1; subst e2
  refine XMet.ofE (ST := CS) (HP := fun σ => ov h b (cl S0 cI cC cS' b σ)) σ τ (by decide) (Nat.le_of_ble_eq_true rfl) ?_
  intro κ g1 g2 g3 g4 g5 g6 E X hQ
  subst g1; subst g2; subst g3; subst g4
  have Y : YC κ h b cI cC cS' := ⟨fun σ => by rw [g5], fun σ => by rw [g6]; exact hb, ht, htc, hts⟩
  have X : XC κ cX2_empty 2 RX2 (some .int) 0 0 := X
  show XG κ σ 0 [(0, .ref (κ.S0 + (b + 157)))] []
  unfold f_X2_empty at hf
  refine x_aload_n X dX2_empty_0 rfl 0 rfl ?_
  refine x_getf X fl_X2_15 (yC_157 Y) (yC_l Y 157 (by decide)) rfl dX2_empty_1 ?_
  refine x_istore_n (lv' := [(1, .int (σ.2.2 3)), (0, .ref (κ.S0 + (b + 157)))]) X dX2_empty_4 rfl (by decide) rfl ?_
  refine x_aload_n X dX2_empty_5 rfl 1 rfl ?_
  refine x_iconst (v := 0) X dX2_empty_6 (by decide) ?_
  refine x_putI (w := cN σ 3) X E.1 fp_X2_15 (yC_157 Y) (yC_l Y 157 (by decide)) (Nat.le_of_ble_eq_true rfl) (yC_p157_1 Y) dX2_empty_7 hf (fun s7 hf => ?_)
  refine x_iload_n X dX2_empty_10 rfl 0 rfl ?_
  exact x_iretW (σ0 := σ) X E hQ hf dX2_empty_11
def f_X0_holderOf_L3 (σ : SS) (p1 : Int32) (p2 : Int32) (p3 : Int32) (kX3 : Option (Int32)) : Nat → Int32 → Option (Int32)
  | 0, _ => none
  | n + 1, v4_3 =>
    if (σ.2 0) ≤ v4_3 then kX3 else (oA 201 (σ.1 3) v4_3 (fun x18 => oJ (κ := Option (Int32)) (f_X0_holderOf_L3 σ p1 p2 p3 kX3 n (v4_3 + 1)) (fun k70 => if x18 = p1 then (oA 201 (σ.1 9) v4_3 (fun x29 => if x29 = p2 then (oA 201 (σ.1 6) v4_3 (fun x40 => if x40 = p3 then (oA 201 (σ.1 5) v4_3 (fun x51 => if x51 = 2 then (some v4_3) else (oA 201 (σ.1 5) v4_3 (fun x62 => if x62 = 1 then (some v4_3) else k70)))) else k70)) else k70)) else k70)))
def f_X0_holderOf (σ : SS) (p1 : Int32) (p2 : Int32) (p3 : Int32) : Option (Int32) :=
  f_X0_holderOf_L3 σ p1 p2 p3 (some (-1)) FU 0
set_option maxRecDepth 100000 in
set_option maxHeartbeats 4000000 in
theorem m_X0_holderOf {l : Launch} {G : va_G} {tys : List (ClassId × FieldType)} {S0 : Nat} {h h1 h2 : Nat → va_E} {b cN' : Nat} {cI : ClassId} {σ : SS} {p1 : Int32} {p2 : Int32} {p3 : Int32} {r : Int32} (hb : b + 22 ≤ cN') (ht : tys[0]? = some (cI, .int)) (e1 : h1 = ov h b (gl S0 cI b σ)) (e2 : h2 = ov h b (gl S0 cI b σ)) (hf : f_X0_holderOf σ p1 p2 p3 = some r) : XMet l G tys S0 cN' yX0_holderOf cX0_holderOf 5 (some .int) 0 0 [.ref (S0 + (b + 1)), .int p1, .int p2, .int p3] h1 cN' (some (.int r)) h2 0 0 := by
  subst e1; subst e2
  refine XMet.ofE (ST := SS) (HP := fun σ => ov h b (gl S0 cI b σ)) σ σ (by decide) (Nat.le_of_ble_eq_true rfl) ?_
  intro κ g1 g2 g3 g4 g5 g6 E X hQ
  subst g1; subst g2; subst g3; subst g4
  have Y : YS κ h b cI := ⟨fun σ => by rw [g5], fun σ => by rw [g6]; exact hb, ht⟩
  have X : XC κ cX0_holderOf 5 RX0 (some .int) 0 0 := X
  show XG κ σ 0 [(0, .ref (κ.S0 + (b + 1))), (1, .int p1), (2, .int p2), (3, .int p3)] []
  unfold f_X0_holderOf at hf
  refine x_iconst (v := 0) X dX0_holderOf_0 (by decide) ?_
  refine x_istore (lv' := [(4, .int 0), (0, .ref (κ.S0 + (b + 1))), (1, .int p1), (2, .int p2), (3, .int p3)]) X dX0_holderOf_1 (by decide) rfl ?_
  refine x_kont (b := fun kX3 => f_X0_holderOf_L3 σ p1 p2 p3 kX3 FU 0) (fun kX3 => kX3 = some r → XG κ σ 76 [] []) hf (fun hf => ?_) (fun kX3 JX3 hf => ?_)
  · refine x_iconst (v := (-1)) X dX0_holderOf_76 (by decide) ?_
    exact x_iretR (σ0 := σ) X E hQ hf dX0_holderOf_77
  · have LL : ∀ (n : Nat) (v4_3 : Int32), f_X0_holderOf_L3 σ p1 p2 p3 kX3 n v4_3 = some r → XG κ σ 3 [(0, .ref (κ.S0 + (b + 1))), (1, .int p1), (2, .int p2), (3, .int p3), (4, .int v4_3)] [] := by
      intro n
      induction n with
      | zero => intro v4_3 hf; rw [f_X0_holderOf_L3] at hf; cases hf
      | succ n ih3 =>
        intro v4_3 hf
        rw [f_X0_holderOf_L3] at hf
        refine x_iload X dX0_holderOf_3 4 rfl ?_
        refine x_aload_n X dX0_holderOf_5 rfl 0 rfl ?_
        refine x_getf X fl_X0_36 (yS_1 Y) (yS_l Y 1 (by decide)) rfl dX0_holderOf_6 ?_
        refine x_icmp_ge (tgt := 76) X dX0_holderOf_9 (by decide) hf (fun hf => ?_) (fun hf => ?_)
        · refine x_sub [] rfl ?_
          exact JX3 hf
        · refine x_aload_n X dX0_holderOf_12 rfl 0 rfl ?_
          refine x_getf X fl_X0_15 (yS_1 Y) (yS_l Y 1 (by decide)) rfl dX0_holderOf_13 ?_
          refine x_iload X dX0_holderOf_16 4 rfl ?_
          refine x_iald X 0 (yS_ht Y) (yS_3 Y) (yS_l Y 3 (by decide)) dX0_holderOf_18 hf (fun x18 hf => ?_)
          refine x_iload_n X dX0_holderOf_19 rfl 1 rfl ?_
          refine x_join (fun k70 => k70 = some r → XG κ σ 70 [(0, .ref (κ.S0 + (b + 1))), (1, .int p1), (2, .int p2), (3, .int p3), (4, .int v4_3)] []) hf (fun hf => ?_) (fun k70 J70 hf => ?_)
          · refine x_iinc (v := v4_3 + 1) (lv' := [(4, .int (v4_3 + 1)), (0, .ref (κ.S0 + (b + 1))), (1, .int p1), (2, .int p2), (3, .int p3)]) X dX0_holderOf_70 4 rfl rfl (by decide) rfl ?_
            refine x_goto (tgt := 3) X dX0_holderOf_73 (by decide) ?_
            refine x_sub [1, 2, 3, 4, 0] rfl ?_
            exact ih3 (v4_3 + 1) hf
          · refine x_icmp_ne (tgt := 70) X dX0_holderOf_20 (by decide) hf (fun hf => ?_) (fun hf => ?_)
            · exact J70 hf
            · refine x_aload_n X dX0_holderOf_23 rfl 0 rfl ?_
              refine x_getf X fl_X0_33 (yS_1 Y) (yS_l Y 1 (by decide)) rfl dX0_holderOf_24 ?_
              refine x_iload X dX0_holderOf_27 4 rfl ?_
              refine x_iald X 0 (yS_ht Y) (yS_9 Y) (yS_l Y 9 (by decide)) dX0_holderOf_29 hf (fun x29 hf => ?_)
              refine x_iload_n X dX0_holderOf_30 rfl 2 rfl ?_
              refine x_icmp_ne (tgt := 70) X dX0_holderOf_31 (by decide) hf (fun hf => ?_) (fun hf => ?_)
              · exact J70 hf
              · refine x_aload_n X dX0_holderOf_34 rfl 0 rfl ?_
                refine x_getf X fl_X0_24 (yS_1 Y) (yS_l Y 1 (by decide)) rfl dX0_holderOf_35 ?_
                refine x_iload X dX0_holderOf_38 4 rfl ?_
                refine x_iald X 0 (yS_ht Y) (yS_6 Y) (yS_l Y 6 (by decide)) dX0_holderOf_40 hf (fun x40 hf => ?_)
                refine x_iload_n X dX0_holderOf_41 rfl 3 rfl ?_
                refine x_icmp_ne (tgt := 70) X dX0_holderOf_42 (by decide) hf (fun hf => ?_) (fun hf => ?_)
                · exact J70 hf
                · refine x_aload_n X dX0_holderOf_45 rfl 0 rfl ?_
                  refine x_getf X fl_X0_21 (yS_1 Y) (yS_l Y 1 (by decide)) rfl dX0_holderOf_46 ?_
                  refine x_iload X dX0_holderOf_49 4 rfl ?_
                  refine x_iald X 0 (yS_ht Y) (yS_5 Y) (yS_l Y 5 (by decide)) dX0_holderOf_51 hf (fun x51 hf => ?_)
                  refine x_iconst (v := 2) X dX0_holderOf_52 (by decide) ?_
                  refine x_icmp_eq (tgt := 67) X dX0_holderOf_53 (by decide) hf (fun hf => ?_) (fun hf => ?_)
                  · refine x_iload X dX0_holderOf_67 4 rfl ?_
                    exact x_iretR (σ0 := σ) X E hQ hf dX0_holderOf_69
                  · refine x_aload_n X dX0_holderOf_56 rfl 0 rfl ?_
                    refine x_getf X fl_X0_21 (yS_1 Y) (yS_l Y 1 (by decide)) rfl dX0_holderOf_57 ?_
                    refine x_iload X dX0_holderOf_60 4 rfl ?_
                    refine x_iald X 0 (yS_ht Y) (yS_5 Y) (yS_l Y 5 (by decide)) dX0_holderOf_62 hf (fun x62 hf => ?_)
                    refine x_iconst (v := 1) X dX0_holderOf_63 (by decide) ?_
                    refine x_icmp_ne (tgt := 70) X dX0_holderOf_64 (by decide) hf (fun hf => ?_) (fun hf => ?_)
                    · exact J70 hf
                    · refine x_iload X dX0_holderOf_67 4 rfl ?_
                      exact x_iretR (σ0 := σ) X E hQ hf dX0_holderOf_69
    refine x_sub [1, 2, 3, 4, 0] rfl ?_
    exact LL FU 0 hf
def f_X3_blockAt (σ : SS) (p1 : Int32) (p2 : Int32) : Option (Int32) :=
  oR (f_X5_isZone p1) (fun r1 => if r1 = 0 then (some (-1)) else (if 0 ≤ p2 then (oA 8 (σ.1 17) p1 (fun x29 => oR (f_X0_holderOf σ p1 x29 p2) (fun r31 => if r31 = (-1) then (some (-5)) else (oA 201 (σ.1 5) r31 (fun x51 => if x51 = 1 then (some (-4)) else (oA 201 (σ.1 4) r31 (fun x69 => some x69))))))) else (some (-2))))
set_option maxRecDepth 100000 in
set_option maxHeartbeats 4000000 in
theorem m_X3_blockAt {l : Launch} {G : va_G} {tys : List (ClassId × FieldType)} {S0 : Nat} {h h1 h2 : Nat → va_E} {b cN' : Nat} {cI : ClassId} {σ : SS} {p1 : Int32} {p2 : Int32} {r : Int32} (hb : b + 22 ≤ cN') (ht : tys[0]? = some (cI, .int)) (e1 : h1 = ov h b (gl S0 cI b σ)) (e2 : h2 = ov h b (gl S0 cI b σ)) (hf : f_X3_blockAt σ p1 p2 = some r) : XMet l G tys S0 cN' yX3_blockAt cX3_blockAt 4 (some .int) 1 24 [.ref (S0 + (b + 0)), .int p1, .int p2] h1 cN' (some (.int r)) h2 0 0 := by
  subst e1; subst e2
  refine XMet.ofE (ST := SS) (HP := fun σ => ov h b (gl S0 cI b σ)) σ σ (by decide) (Nat.le_of_ble_eq_true rfl) ?_
  intro κ g1 g2 g3 g4 g5 g6 E X hQ
  subst g1; subst g2; subst g3; subst g4
  have Y : YS κ h b cI := ⟨fun σ => by rw [g5], fun σ => by rw [g6]; exact hb, ht⟩
  have X : XC κ cX3_blockAt 4 RX3 (some .int) 1 24 := X
  show XG κ σ 0 [(0, .ref (κ.S0 + (b + 0))), (1, .int p1), (2, .int p2)] []
  unfold f_X3_blockAt at hf
  refine x_iload_n X dX3_blockAt_0 rfl 1 rfl ?_
  refine x_callR (rest := []) X hf (fun r hr => x_cSN X cm_X5_isZone lkN_X3_86 ⟨Nat.le_of_ble_eq_true rfl, Nat.le_of_ble_eq_true rfl⟩ (m_X5_isZone hr) rfl rfl (Nat.le_of_ble_eq_true rfl) (x_room E _) dX3_blockAt_1) (fun r1 hf => ?_)
  refine x_if_ne (tgt := 9) X dX3_blockAt_4 (by decide) hf (fun hf => ?_) (fun hf => ?_)
  · refine x_iload_n X dX3_blockAt_9 rfl 2 rfl ?_
    refine x_if_ge (tgt := 16) X dX3_blockAt_10 (by decide) hf (fun hf => ?_) (fun hf => ?_)
    · refine x_aload_n X dX3_blockAt_16 rfl 0 rfl ?_
      refine x_getf X fl_X3_12 (yS_0 Y) (yS_l Y 0 (by decide)) rfl dX3_blockAt_17 ?_
      refine x_iload_n X dX3_blockAt_20 rfl 1 rfl ?_
      refine x_aload_n X dX3_blockAt_21 rfl 0 rfl ?_
      refine x_getf X fl_X3_21 (yS_0 Y) (yS_l Y 0 (by decide)) rfl dX3_blockAt_22 ?_
      refine x_getf X fl_X3_113 (yS_12 Y) (yS_l Y 12 (by decide)) rfl dX3_blockAt_25 ?_
      refine x_iload_n X dX3_blockAt_28 rfl 1 rfl ?_
      refine x_iald X 0 (yS_ht Y) (yS_17 Y) (yS_l Y 17 (by decide)) dX3_blockAt_29 hf (fun x29 hf => ?_)
      refine x_iload_n X dX3_blockAt_30 rfl 2 rfl ?_
      refine x_callR (rest := []) X hf (fun r hr => x_cV (ci := 0) X cm_X0_holderOf lkV_X3_198 rfl ⟨Nat.le_of_ble_eq_true rfl, Nat.le_of_ble_eq_true rfl⟩ (yS_1 Y) (yS_l Y 1 (by decide)) (m_X0_holderOf (yS_hb Y σ) (yS_ht Y) (yS_hp Y _) (yS_hp Y _) hr) rfl rfl (Nat.le_of_ble_eq_true rfl) (x_room E _) dX3_blockAt_31) (fun r31 hf => ?_)
      refine x_istore_n (lv' := [(3, .int r31), (0, .ref (κ.S0 + (b + 0))), (1, .int p1), (2, .int p2)]) X dX3_blockAt_34 rfl (by decide) rfl ?_
      refine x_iload_n X dX3_blockAt_35 rfl 0 rfl ?_
      refine x_iconst (v := (-1)) X dX3_blockAt_36 (by decide) ?_
      refine x_icmp_ne (tgt := 43) X dX3_blockAt_37 (by decide) hf (fun hf => ?_) (fun hf => ?_)
      · refine x_aload_n X dX3_blockAt_43 rfl 1 rfl ?_
        refine x_getf X fl_X3_12 (yS_0 Y) (yS_l Y 0 (by decide)) rfl dX3_blockAt_44 ?_
        refine x_getf X fl_X3_159 (yS_1 Y) (yS_l Y 1 (by decide)) rfl dX3_blockAt_47 ?_
        refine x_iload_n X dX3_blockAt_50 rfl 0 rfl ?_
        refine x_iald X 0 (yS_ht Y) (yS_5 Y) (yS_l Y 5 (by decide)) dX3_blockAt_51 hf (fun x51 hf => ?_)
        refine x_iconst (v := 1) X dX3_blockAt_52 (by decide) ?_
        refine x_icmp_ne (tgt := 61) X dX3_blockAt_53 (by decide) hf (fun hf => ?_) (fun hf => ?_)
        · refine x_aload_n X dX3_blockAt_61 rfl 1 rfl ?_
          refine x_getf X fl_X3_12 (yS_0 Y) (yS_l Y 0 (by decide)) rfl dX3_blockAt_62 ?_
          refine x_getf X fl_X3_201 (yS_1 Y) (yS_l Y 1 (by decide)) rfl dX3_blockAt_65 ?_
          refine x_iload_n X dX3_blockAt_68 rfl 0 rfl ?_
          refine x_iald X 0 (yS_ht Y) (yS_4 Y) (yS_l Y 4 (by decide)) dX3_blockAt_69 hf (fun x69 hf => ?_)
          exact x_iretR (σ0 := σ) X E hQ hf dX3_blockAt_70
        · refine x_bipush (v := (-4)) X dX3_blockAt_56 (by decide) ?_
          refine x_goto (tgt := 70) X dX3_blockAt_58 (by decide) ?_
          exact x_iretR (σ0 := σ) X E hQ hf dX3_blockAt_70
      · refine x_bipush (v := (-5)) X dX3_blockAt_40 (by decide) ?_
        exact x_iretR (σ0 := σ) X E hQ hf dX3_blockAt_42
    · refine x_bipush (v := (-2)) X dX3_blockAt_13 (by decide) ?_
      exact x_iretR (σ0 := σ) X E hQ hf dX3_blockAt_15
  · refine x_iconst (v := (-1)) X dX3_blockAt_7 (by decide) ?_
    exact x_iretR (σ0 := σ) X E hQ hf dX3_blockAt_8
def f_X3_readableFromStart_L2 (σ : SS) (p1 : Int32) (kX2 : Int32 → Option (Int32)) : Nat → Int32 → Option (Int32)
  | 0, _ => none
  | n + 1, v2_2 =>
    oA 8 (σ.1 16) p1 (fun x11 => if x11 ≤ v2_2 then (kX2 v2_2) else (oR (f_X3_blockAt σ p1 v2_2) (fun r18 => if r18 < 0 then (kX2 v2_2) else (f_X3_readableFromStart_L2 σ p1 kX2 n (v2_2 + 1)))))
def f_X3_readableFromStart (σ : SS) (p1 : Int32) : Option (Int32) :=
  f_X3_readableFromStart_L2 σ p1 (fun w2_30 => some w2_30) FU 0
set_option maxRecDepth 100000 in
set_option maxHeartbeats 4000000 in
theorem m_X3_readableFromStart {l : Launch} {G : va_G} {tys : List (ClassId × FieldType)} {S0 : Nat} {h h1 h2 : Nat → va_E} {b cN' : Nat} {cI : ClassId} {σ : SS} {p1 : Int32} {r : Int32} (hb : b + 22 ≤ cN') (ht : tys[0]? = some (cI, .int)) (e1 : h1 = ov h b (gl S0 cI b σ)) (e2 : h2 = ov h b (gl S0 cI b σ)) (hf : f_X3_readableFromStart σ p1 = some r) : XMet l G tys S0 cN' yX3_readableFromStart cX3_readableFromStart 3 (some .int) 2 47 [.ref (S0 + (b + 0)), .int p1] h1 cN' (some (.int r)) h2 0 0 := by
  subst e1; subst e2
  refine XMet.ofE (ST := SS) (HP := fun σ => ov h b (gl S0 cI b σ)) σ σ (by decide) (Nat.le_of_ble_eq_true rfl) ?_
  intro κ g1 g2 g3 g4 g5 g6 E X hQ
  subst g1; subst g2; subst g3; subst g4
  have Y : YS κ h b cI := ⟨fun σ => by rw [g5], fun σ => by rw [g6]; exact hb, ht⟩
  have X : XC κ cX3_readableFromStart 3 RX3 (some .int) 2 47 := X
  show XG κ σ 0 [(0, .ref (κ.S0 + (b + 0))), (1, .int p1)] []
  unfold f_X3_readableFromStart at hf
  refine x_iconst (v := 0) X dX3_readableFromStart_0 (by decide) ?_
  refine x_istore_n (lv' := [(2, .int 0), (0, .ref (κ.S0 + (b + 0))), (1, .int p1)]) X dX3_readableFromStart_1 rfl (by decide) rfl ?_
  refine x_kont (b := fun kX2 => f_X3_readableFromStart_L2 σ p1 kX2 FU 0) (fun kX2 => ∀ (w2_30 : Int32), kX2 w2_30 = some r → XG κ σ 30 [(2, .int w2_30)] []) hf (fun w2_30 hf => ?_) (fun kX2 JX2 hf => ?_)
  · refine x_iload_n X dX3_readableFromStart_30 rfl 0 rfl ?_
    exact x_iretR (σ0 := σ) X E hQ hf dX3_readableFromStart_31
  · have LL : ∀ (n : Nat) (v2_2 : Int32), f_X3_readableFromStart_L2 σ p1 kX2 n v2_2 = some r → XG κ σ 2 [(0, .ref (κ.S0 + (b + 0))), (1, .int p1), (2, .int v2_2)] [] := by
      intro n
      induction n with
      | zero => intro v2_2 hf; rw [f_X3_readableFromStart_L2] at hf; cases hf
      | succ n ih2 =>
        intro v2_2 hf
        rw [f_X3_readableFromStart_L2] at hf
        refine x_iload_n X dX3_readableFromStart_2 rfl 2 rfl ?_
        refine x_aload_n X dX3_readableFromStart_3 rfl 0 rfl ?_
        refine x_getf X fl_X3_21 (yS_0 Y) (yS_l Y 0 (by decide)) rfl dX3_readableFromStart_4 ?_
        refine x_getf X fl_X3_204 (yS_12 Y) (yS_l Y 12 (by decide)) rfl dX3_readableFromStart_7 ?_
        refine x_iload_n X dX3_readableFromStart_10 rfl 1 rfl ?_
        refine x_iald X 0 (yS_ht Y) (yS_16 Y) (yS_l Y 16 (by decide)) dX3_readableFromStart_11 hf (fun x11 hf => ?_)
        refine x_icmp_ge (tgt := 30) X dX3_readableFromStart_12 (by decide) hf (fun hf => ?_) (fun hf => ?_)
        · refine x_sub [2] rfl ?_
          exact JX2 v2_2 hf
        · refine x_aload_n X dX3_readableFromStart_15 rfl 0 rfl ?_
          refine x_iload_n X dX3_readableFromStart_16 rfl 1 rfl ?_
          refine x_iload_n X dX3_readableFromStart_17 rfl 2 rfl ?_
          refine x_callR (rest := []) X hf (fun r hr => x_cV (ci := 3) X cm_X3_blockAt lkV_X3_210 rfl ⟨Nat.le_of_ble_eq_true rfl, Nat.le_of_ble_eq_true rfl⟩ (yS_0 Y) (yS_l Y 0 (by decide)) (m_X3_blockAt (yS_hb Y σ) (yS_ht Y) (yS_hp Y _) (yS_hp Y _) hr) rfl rfl (Nat.le_of_ble_eq_true rfl) (x_room E _) dX3_readableFromStart_18) (fun r18 hf => ?_)
          refine x_if_lt (tgt := 30) X dX3_readableFromStart_21 (by decide) hf (fun hf => ?_) (fun hf => ?_)
          · refine x_sub [2] rfl ?_
            exact JX2 v2_2 hf
          · refine x_iinc (v := v2_2 + 1) (lv' := [(2, .int (v2_2 + 1)), (0, .ref (κ.S0 + (b + 0))), (1, .int p1)]) X dX3_readableFromStart_24 2 rfl rfl (by decide) rfl ?_
            refine x_goto (tgt := 2) X dX3_readableFromStart_27 (by decide) ?_
            refine x_sub [1, 2, 0] rfl ?_
            exact ih2 (v2_2 + 1) hf
    refine x_sub [1, 2, 0] rfl ?_
    exact LL FU 0 hf
def f_X3_tellZone (σ : SS) (p1 : Int32) (p2 : Int32) : Option (Int32) :=
  oR (f_X5_isZone p1) (fun r1 => if r1 = 0 then (some (-1)) else (if p2 = 0 then (oA 8 (σ.1 13) p1 (fun x68 => some x68)) else (if p2 = 1 then (oA 8 (σ.1 14) p1 (fun x78 => some x78)) else (if p2 = 2 then (oA 8 (σ.1 15) p1 (fun x88 => some x88)) else (if p2 = 3 then (oA 8 (σ.1 16) p1 (fun x98 => some x98)) else (if p2 = 4 then (oA 8 (σ.1 17) p1 (fun x108 => some x108)) else (if p2 = 5 then (oA 8 (σ.1 17) p1 (fun x123 => oR (f_X0_toldInGeneration σ p1 x123) (fun r124 => some r124))) else (if p2 = 6 then (oR (f_X0_liveInZone σ p1 1) (fun r134 => some r134)) else (if p2 = 7 then (oR (f_X0_liveInZone σ p1 0) (fun r144 => some r144)) else (if p2 = 8 then (oR (f_X3_readableFromStart σ p1) (fun r150 => some r150)) else (some (-2))))))))))))
set_option maxRecDepth 100000 in
set_option maxHeartbeats 4000000 in
theorem m_X3_tellZone {l : Launch} {G : va_G} {tys : List (ClassId × FieldType)} {S0 : Nat} {h h1 h2 : Nat → va_E} {b cN' : Nat} {cI : ClassId} {σ : SS} {p1 : Int32} {p2 : Int32} {r : Int32} (hb : b + 22 ≤ cN') (ht : tys[0]? = some (cI, .int)) (e1 : h1 = ov h b (gl S0 cI b σ)) (e2 : h2 = ov h b (gl S0 cI b σ)) (hf : f_X3_tellZone σ p1 p2 = some r) : XMet l G tys S0 cN' yX3_tellZone cX3_tellZone 3 (some .int) 3 69 [.ref (S0 + (b + 0)), .int p1, .int p2] h1 cN' (some (.int r)) h2 0 0 := by
  subst e1; subst e2
  refine XMet.ofE (ST := SS) (HP := fun σ => ov h b (gl S0 cI b σ)) σ σ (by decide) (Nat.le_of_ble_eq_true rfl) ?_
  intro κ g1 g2 g3 g4 g5 g6 E X hQ
  subst g1; subst g2; subst g3; subst g4
  have Y : YS κ h b cI := ⟨fun σ => by rw [g5], fun σ => by rw [g6]; exact hb, ht⟩
  have X : XC κ cX3_tellZone 3 RX3 (some .int) 3 69 := X
  show XG κ σ 0 [(0, .ref (κ.S0 + (b + 0))), (1, .int p1), (2, .int p2)] []
  unfold f_X3_tellZone at hf
  refine x_iload_n X dX3_tellZone_0 rfl 1 rfl ?_
  refine x_callR (rest := []) X hf (fun r hr => x_cSN X cm_X5_isZone lkN_X3_86 ⟨Nat.le_of_ble_eq_true rfl, Nat.le_of_ble_eq_true rfl⟩ (m_X5_isZone hr) rfl rfl (Nat.le_of_ble_eq_true rfl) (x_room E _) dX3_tellZone_1) (fun r1 hf => ?_)
  refine x_if_ne (tgt := 9) X dX3_tellZone_4 (by decide) hf (fun hf => ?_) (fun hf => ?_)
  · refine x_iload_n X dX3_tellZone_9 rfl 2 rfl ?_
    refine x_if hf (fun c0 hf => ?_) (fun c0 hf => ?_)
    · refine x_tabIn (off := 50) (tgt := 60) X dX3_tellZone_10 (by rw [c0]; decide) (by rw [c0]; decide) (by rw [c0]; rfl) (by decide) ?_
      refine x_aload_n X dX3_tellZone_60 rfl 0 rfl ?_
      refine x_getf X fl_X3_21 (yS_0 Y) (yS_l Y 0 (by decide)) rfl dX3_tellZone_61 ?_
      refine x_getf X fl_X3_93 (yS_12 Y) (yS_l Y 12 (by decide)) rfl dX3_tellZone_64 ?_
      refine x_iload_n X dX3_tellZone_67 rfl 1 rfl ?_
      refine x_iald X 0 (yS_ht Y) (yS_13 Y) (yS_l Y 13 (by decide)) dX3_tellZone_68 hf (fun x68 hf => ?_)
      exact x_iretR (σ0 := σ) X E hQ hf dX3_tellZone_69
    · refine x_if hf (fun c1 hf => ?_) (fun c1 hf => ?_)
      · refine x_tabIn (off := 60) (tgt := 70) X dX3_tellZone_10 (by rw [c1]; decide) (by rw [c1]; decide) (by rw [c1]; rfl) (by decide) ?_
        refine x_aload_n X dX3_tellZone_70 rfl 0 rfl ?_
        refine x_getf X fl_X3_21 (yS_0 Y) (yS_l Y 0 (by decide)) rfl dX3_tellZone_71 ?_
        refine x_getf X fl_X3_96 (yS_12 Y) (yS_l Y 12 (by decide)) rfl dX3_tellZone_74 ?_
        refine x_iload_n X dX3_tellZone_77 rfl 1 rfl ?_
        refine x_iald X 0 (yS_ht Y) (yS_14 Y) (yS_l Y 14 (by decide)) dX3_tellZone_78 hf (fun x78 hf => ?_)
        exact x_iretR (σ0 := σ) X E hQ hf dX3_tellZone_79
      · refine x_if hf (fun c2 hf => ?_) (fun c2 hf => ?_)
        · refine x_tabIn (off := 70) (tgt := 80) X dX3_tellZone_10 (by rw [c2]; decide) (by rw [c2]; decide) (by rw [c2]; rfl) (by decide) ?_
          refine x_aload_n X dX3_tellZone_80 rfl 0 rfl ?_
          refine x_getf X fl_X3_21 (yS_0 Y) (yS_l Y 0 (by decide)) rfl dX3_tellZone_81 ?_
          refine x_getf X fl_X3_90 (yS_12 Y) (yS_l Y 12 (by decide)) rfl dX3_tellZone_84 ?_
          refine x_iload_n X dX3_tellZone_87 rfl 1 rfl ?_
          refine x_iald X 0 (yS_ht Y) (yS_15 Y) (yS_l Y 15 (by decide)) dX3_tellZone_88 hf (fun x88 hf => ?_)
          exact x_iretR (σ0 := σ) X E hQ hf dX3_tellZone_89
        · refine x_if hf (fun c3 hf => ?_) (fun c3 hf => ?_)
          · refine x_tabIn (off := 80) (tgt := 90) X dX3_tellZone_10 (by rw [c3]; decide) (by rw [c3]; decide) (by rw [c3]; rfl) (by decide) ?_
            refine x_aload_n X dX3_tellZone_90 rfl 0 rfl ?_
            refine x_getf X fl_X3_21 (yS_0 Y) (yS_l Y 0 (by decide)) rfl dX3_tellZone_91 ?_
            refine x_getf X fl_X3_204 (yS_12 Y) (yS_l Y 12 (by decide)) rfl dX3_tellZone_94 ?_
            refine x_iload_n X dX3_tellZone_97 rfl 1 rfl ?_
            refine x_iald X 0 (yS_ht Y) (yS_16 Y) (yS_l Y 16 (by decide)) dX3_tellZone_98 hf (fun x98 hf => ?_)
            exact x_iretR (σ0 := σ) X E hQ hf dX3_tellZone_99
          · refine x_if hf (fun c4 hf => ?_) (fun c4 hf => ?_)
            · refine x_tabIn (off := 90) (tgt := 100) X dX3_tellZone_10 (by rw [c4]; decide) (by rw [c4]; decide) (by rw [c4]; rfl) (by decide) ?_
              refine x_aload_n X dX3_tellZone_100 rfl 0 rfl ?_
              refine x_getf X fl_X3_21 (yS_0 Y) (yS_l Y 0 (by decide)) rfl dX3_tellZone_101 ?_
              refine x_getf X fl_X3_113 (yS_12 Y) (yS_l Y 12 (by decide)) rfl dX3_tellZone_104 ?_
              refine x_iload_n X dX3_tellZone_107 rfl 1 rfl ?_
              refine x_iald X 0 (yS_ht Y) (yS_17 Y) (yS_l Y 17 (by decide)) dX3_tellZone_108 hf (fun x108 hf => ?_)
              exact x_iretR (σ0 := σ) X E hQ hf dX3_tellZone_109
            · refine x_if hf (fun c5 hf => ?_) (fun c5 hf => ?_)
              · refine x_tabIn (off := 100) (tgt := 110) X dX3_tellZone_10 (by rw [c5]; decide) (by rw [c5]; decide) (by rw [c5]; rfl) (by decide) ?_
                refine x_aload_n X dX3_tellZone_110 rfl 0 rfl ?_
                refine x_getf X fl_X3_12 (yS_0 Y) (yS_l Y 0 (by decide)) rfl dX3_tellZone_111 ?_
                refine x_iload_n X dX3_tellZone_114 rfl 1 rfl ?_
                refine x_aload_n X dX3_tellZone_115 rfl 0 rfl ?_
                refine x_getf X fl_X3_21 (yS_0 Y) (yS_l Y 0 (by decide)) rfl dX3_tellZone_116 ?_
                refine x_getf X fl_X3_113 (yS_12 Y) (yS_l Y 12 (by decide)) rfl dX3_tellZone_119 ?_
                refine x_iload_n X dX3_tellZone_122 rfl 1 rfl ?_
                refine x_iald X 0 (yS_ht Y) (yS_17 Y) (yS_l Y 17 (by decide)) dX3_tellZone_123 hf (fun x123 hf => ?_)
                refine x_callR (rest := []) X hf (fun r hr => x_cV (ci := 0) X cm_X0_toldInGeneration lkV_X3_116 rfl ⟨Nat.le_of_ble_eq_true rfl, Nat.le_of_ble_eq_true rfl⟩ (yS_1 Y) (yS_l Y 1 (by decide)) (m_X0_toldInGeneration (yS_hb Y σ) (yS_ht Y) (yS_hp Y _) (yS_hp Y _) hr) rfl rfl (Nat.le_of_ble_eq_true rfl) (x_room E _) dX3_tellZone_124) (fun r124 hf => ?_)
                exact x_iretR (σ0 := σ) X E hQ hf dX3_tellZone_127
              · refine x_if hf (fun c6 hf => ?_) (fun c6 hf => ?_)
                · refine x_tabIn (off := 118) (tgt := 128) X dX3_tellZone_10 (by rw [c6]; decide) (by rw [c6]; decide) (by rw [c6]; rfl) (by decide) ?_
                  refine x_aload_n X dX3_tellZone_128 rfl 0 rfl ?_
                  refine x_getf X fl_X3_12 (yS_0 Y) (yS_l Y 0 (by decide)) rfl dX3_tellZone_129 ?_
                  refine x_iload_n X dX3_tellZone_132 rfl 1 rfl ?_
                  refine x_iconst (v := 1) X dX3_tellZone_133 (by decide) ?_
                  refine x_callR (rest := []) X hf (fun r hr => x_cV (ci := 0) X cm_X0_liveInZone lkV_X3_126 rfl ⟨Nat.le_of_ble_eq_true rfl, Nat.le_of_ble_eq_true rfl⟩ (yS_1 Y) (yS_l Y 1 (by decide)) (m_X0_liveInZone (yS_hb Y σ) (yS_ht Y) (yS_hp Y _) (yS_hp Y _) hr) rfl rfl (Nat.le_of_ble_eq_true rfl) (x_room E _) dX3_tellZone_134) (fun r134 hf => ?_)
                  exact x_iretR (σ0 := σ) X E hQ hf dX3_tellZone_137
                · refine x_if hf (fun c7 hf => ?_) (fun c7 hf => ?_)
                  · refine x_tabIn (off := 128) (tgt := 138) X dX3_tellZone_10 (by rw [c7]; decide) (by rw [c7]; decide) (by rw [c7]; rfl) (by decide) ?_
                    refine x_aload_n X dX3_tellZone_138 rfl 0 rfl ?_
                    refine x_getf X fl_X3_12 (yS_0 Y) (yS_l Y 0 (by decide)) rfl dX3_tellZone_139 ?_
                    refine x_iload_n X dX3_tellZone_142 rfl 1 rfl ?_
                    refine x_iconst (v := 0) X dX3_tellZone_143 (by decide) ?_
                    refine x_callR (rest := []) X hf (fun r hr => x_cV (ci := 0) X cm_X0_liveInZone lkV_X3_126 rfl ⟨Nat.le_of_ble_eq_true rfl, Nat.le_of_ble_eq_true rfl⟩ (yS_1 Y) (yS_l Y 1 (by decide)) (m_X0_liveInZone (yS_hb Y σ) (yS_ht Y) (yS_hp Y _) (yS_hp Y _) hr) rfl rfl (Nat.le_of_ble_eq_true rfl) (x_room E _) dX3_tellZone_144) (fun r144 hf => ?_)
                    exact x_iretR (σ0 := σ) X E hQ hf dX3_tellZone_147
                  · refine x_if hf (fun c8 hf => ?_) (fun c8 hf => ?_)
                    · refine x_tabIn (off := 138) (tgt := 148) X dX3_tellZone_10 (by rw [c8]; decide) (by rw [c8]; decide) (by rw [c8]; rfl) (by decide) ?_
                      refine x_aload_n X dX3_tellZone_148 rfl 0 rfl ?_
                      refine x_iload_n X dX3_tellZone_149 rfl 1 rfl ?_
                      refine x_callR (rest := []) X hf (fun r hr => x_cV (ci := 3) X cm_X3_readableFromStart lkV_X3_207 rfl ⟨Nat.le_of_ble_eq_true rfl, Nat.le_of_ble_eq_true rfl⟩ (yS_0 Y) (yS_l Y 0 (by decide)) (m_X3_readableFromStart (yS_hb Y σ) (yS_ht Y) (yS_hp Y _) (yS_hp Y _) hr) rfl rfl (Nat.le_of_ble_eq_true rfl) (x_room E _) dX3_tellZone_150) (fun r150 hf => ?_)
                      exact x_iretR (σ0 := σ) X E hQ hf dX3_tellZone_153
                    · refine x_tabOut (tgt := 154) X dX3_tellZone_10 (by have h0 := lv_neT c0 (a := 0) rfl; have h1 := lv_neT c1 (a := 1) rfl; have h2 := lv_neT c2 (a := 2) rfl; have h3 := lv_neT c3 (a := 3) rfl; have h4 := lv_neT c4 (a := 4) rfl; have h5 := lv_neT c5 (a := 5) rfl; have h6 := lv_neT c6 (a := 6) rfl; have h7 := lv_neT c7 (a := 7) rfl; have h8 := lv_neT c8 (a := 8) rfl; omega) (by decide) ?_
                      refine x_bipush (v := (-2)) X dX3_tellZone_154 (by decide) ?_
                      exact x_iretR (σ0 := σ) X E hQ hf dX3_tellZone_156
  · refine x_iconst (v := (-1)) X dX3_tellZone_7 (by decide) ?_
    exact x_iretR (σ0 := σ) X E hQ hf dX3_tellZone_8
def f_X0_isNumber (σ : SS) (p1 : Int32) : Option (Int32) :=
  if p1 < 0 then (oB 0) else (if (σ.2 0) ≤ p1 then (oB 0) else (oB 1))
set_option maxRecDepth 100000 in
set_option maxHeartbeats 4000000 in
theorem m_X0_isNumber {l : Launch} {G : va_G} {tys : List (ClassId × FieldType)} {S0 : Nat} {h h1 h2 : Nat → va_E} {b cN' : Nat} {cI : ClassId} {σ : SS} {p1 : Int32} {r : Int32} (hb : b + 22 ≤ cN') (ht : tys[0]? = some (cI, .int)) (e1 : h1 = ov h b (gl S0 cI b σ)) (e2 : h2 = ov h b (gl S0 cI b σ)) (hf : f_X0_isNumber σ p1 = some r) : XMet l G tys S0 cN' yX0_isNumber cX0_isNumber 2 (some .boolean) 0 0 [.ref (S0 + (b + 1)), .int p1] h1 cN' (some (.int r)) h2 0 0 := by
  subst e1; subst e2
  refine XMet.ofE (ST := SS) (HP := fun σ => ov h b (gl S0 cI b σ)) σ σ (by decide) (Nat.le_of_ble_eq_true rfl) ?_
  intro κ g1 g2 g3 g4 g5 g6 E X hQ
  subst g1; subst g2; subst g3; subst g4
  have Y : YS κ h b cI := ⟨fun σ => by rw [g5], fun σ => by rw [g6]; exact hb, ht⟩
  have X : XC κ cX0_isNumber 2 RX0 (some .boolean) 0 0 := X
  show XG κ σ 0 [(0, .ref (κ.S0 + (b + 1))), (1, .int p1)] []
  unfold f_X0_isNumber at hf
  refine x_iload_n X dX0_isNumber_0 rfl 1 rfl ?_
  refine x_if_lt (tgt := 16) X dX0_isNumber_1 (by decide) hf (fun hf => ?_) (fun hf => ?_)
  · refine x_iconst (v := 0) X dX0_isNumber_16 (by decide) ?_
    exact x_zretR (σ0 := σ) X E hQ hf dX0_isNumber_17
  · refine x_iload_n X dX0_isNumber_4 rfl 1 rfl ?_
    refine x_aload_n X dX0_isNumber_5 rfl 0 rfl ?_
    refine x_getf X fl_X0_36 (yS_1 Y) (yS_l Y 1 (by decide)) rfl dX0_isNumber_6 ?_
    refine x_icmp_ge (tgt := 16) X dX0_isNumber_9 (by decide) hf (fun hf => ?_) (fun hf => ?_)
    · refine x_iconst (v := 0) X dX0_isNumber_16 (by decide) ?_
      exact x_zretR (σ0 := σ) X E hQ hf dX0_isNumber_17
    · refine x_iconst (v := 1) X dX0_isNumber_12 (by decide) ?_
      refine x_goto (tgt := 17) X dX0_isNumber_13 (by decide) ?_
      exact x_zretR (σ0 := σ) X E hQ hf dX0_isNumber_17
def f_X0_tellAppend (σ : SS) (p1 : Int32) (p2 : Int32) : Option (Int32) :=
  oR (f_X0_isNumber σ p1) (fun r2 => if r2 = 0 then (some (-1)) else (oA 201 (σ.1 5) p1 (fun x15 => oJ (κ := Int32 → Option (Int32)) (fun t0_25 => if p2 = 0 then (oA 201 (σ.1 2) p1 (fun x77 => some x77)) else (if p2 = 1 then (oA 201 (σ.1 3) p1 (fun x84 => some x84)) else (if p2 = 2 then (oA 201 (σ.1 4) p1 (fun x91 => some x91)) else (if p2 = 3 then (oA 201 (σ.1 5) p1 (fun x98 => some x98)) else (if p2 = 4 then (if t0_25 = 0 then (some (-5)) else (oA 201 (σ.1 6) p1 (fun x109 => some x109))) else (if p2 = 5 then (if t0_25 = 0 then (some (-5)) else (oA 201 (σ.1 7) p1 (fun x125 => some x125))) else (if p2 = 6 then (oA 201 (σ.1 8) p1 (fun x137 => some x137)) else (if p2 = 7 then (if t0_25 = 0 then (some (-5)) else (oA 201 (σ.1 9) p1 (fun x148 => some x148))) else (some (-2)))))))))) (fun k25 => if x15 = 2 then (k25 1) else (k25 0)))))
set_option maxRecDepth 100000 in
set_option maxHeartbeats 4000000 in
theorem m_X0_tellAppend {l : Launch} {G : va_G} {tys : List (ClassId × FieldType)} {S0 : Nat} {h h1 h2 : Nat → va_E} {b cN' : Nat} {cI : ClassId} {σ : SS} {p1 : Int32} {p2 : Int32} {r : Int32} (hb : b + 22 ≤ cN') (ht : tys[0]? = some (cI, .int)) (e1 : h1 = ov h b (gl S0 cI b σ)) (e2 : h2 = ov h b (gl S0 cI b σ)) (hf : f_X0_tellAppend σ p1 p2 = some r) : XMet l G tys S0 cN' yX0_tellAppend cX0_tellAppend 4 (some .int) 1 21 [.ref (S0 + (b + 1)), .int p1, .int p2] h1 cN' (some (.int r)) h2 0 0 := by
  subst e1; subst e2
  refine XMet.ofE (ST := SS) (HP := fun σ => ov h b (gl S0 cI b σ)) σ σ (by decide) (Nat.le_of_ble_eq_true rfl) ?_
  intro κ g1 g2 g3 g4 g5 g6 E X hQ
  subst g1; subst g2; subst g3; subst g4
  have Y : YS κ h b cI := ⟨fun σ => by rw [g5], fun σ => by rw [g6]; exact hb, ht⟩
  have X : XC κ cX0_tellAppend 4 RX0 (some .int) 1 21 := X
  show XG κ σ 0 [(0, .ref (κ.S0 + (b + 1))), (1, .int p1), (2, .int p2)] []
  unfold f_X0_tellAppend at hf
  refine x_aload_n X dX0_tellAppend_0 rfl 0 rfl ?_
  refine x_iload_n X dX0_tellAppend_1 rfl 1 rfl ?_
  refine x_callR (rest := []) X hf (fun r hr => x_cV (ci := 0) X cm_X0_isNumber lkV_X0_67 rfl ⟨Nat.le_of_ble_eq_true rfl, Nat.le_of_ble_eq_true rfl⟩ (yS_1 Y) (yS_l Y 1 (by decide)) (m_X0_isNumber (yS_hb Y σ) (yS_ht Y) (yS_hp Y _) (yS_hp Y _) hr) rfl rfl (Nat.le_of_ble_eq_true rfl) (x_room E _) dX0_tellAppend_2) (fun r2 hf => ?_)
  refine x_if_ne (tgt := 10) X dX0_tellAppend_5 (by decide) hf (fun hf => ?_) (fun hf => ?_)
  · refine x_aload_n X dX0_tellAppend_10 rfl 0 rfl ?_
    refine x_getf X fl_X0_21 (yS_1 Y) (yS_l Y 1 (by decide)) rfl dX0_tellAppend_11 ?_
    refine x_iload_n X dX0_tellAppend_14 rfl 1 rfl ?_
    refine x_iald X 0 (yS_ht Y) (yS_5 Y) (yS_l Y 5 (by decide)) dX0_tellAppend_15 hf (fun x15 hf => ?_)
    refine x_iconst (v := 2) X dX0_tellAppend_16 (by decide) ?_
    refine x_join (fun k25 => ∀ (t0_25 : Int32), k25 t0_25 = some r → XG κ σ 25 [(0, .ref (κ.S0 + (b + 1))), (1, .int p1), (2, .int p2)] [.int t0_25]) hf (fun t0_25 hf => ?_) (fun k25 J25 hf => ?_)
    · refine x_istore_n (lv' := [(3, .int t0_25), (0, .ref (κ.S0 + (b + 1))), (1, .int p1), (2, .int p2)]) X dX0_tellAppend_25 rfl (by decide) rfl ?_
      refine x_iload_n X dX0_tellAppend_26 rfl 3 rfl ?_
      refine x_if hf (fun c0 hf => ?_) (fun c0 hf => ?_)
      · refine x_tabIn (off := 45) (tgt := 72) X dX0_tellAppend_27 (by rw [c0]; decide) (by rw [c0]; decide) (by rw [c0]; rfl) (by decide) ?_
        refine x_aload_n X dX0_tellAppend_72 rfl 1 rfl ?_
        refine x_getf X fl_X0_9 (yS_1 Y) (yS_l Y 1 (by decide)) rfl dX0_tellAppend_73 ?_
        refine x_iload_n X dX0_tellAppend_76 rfl 2 rfl ?_
        refine x_iald X 0 (yS_ht Y) (yS_2 Y) (yS_l Y 2 (by decide)) dX0_tellAppend_77 hf (fun x77 hf => ?_)
        exact x_iretR (σ0 := σ) X E hQ hf dX0_tellAppend_78
      · refine x_if hf (fun c1 hf => ?_) (fun c1 hf => ?_)
        · refine x_tabIn (off := 52) (tgt := 79) X dX0_tellAppend_27 (by rw [c1]; decide) (by rw [c1]; decide) (by rw [c1]; rfl) (by decide) ?_
          refine x_aload_n X dX0_tellAppend_79 rfl 1 rfl ?_
          refine x_getf X fl_X0_15 (yS_1 Y) (yS_l Y 1 (by decide)) rfl dX0_tellAppend_80 ?_
          refine x_iload_n X dX0_tellAppend_83 rfl 2 rfl ?_
          refine x_iald X 0 (yS_ht Y) (yS_3 Y) (yS_l Y 3 (by decide)) dX0_tellAppend_84 hf (fun x84 hf => ?_)
          exact x_iretR (σ0 := σ) X E hQ hf dX0_tellAppend_85
        · refine x_if hf (fun c2 hf => ?_) (fun c2 hf => ?_)
          · refine x_tabIn (off := 59) (tgt := 86) X dX0_tellAppend_27 (by rw [c2]; decide) (by rw [c2]; decide) (by rw [c2]; rfl) (by decide) ?_
            refine x_aload_n X dX0_tellAppend_86 rfl 1 rfl ?_
            refine x_getf X fl_X0_18 (yS_1 Y) (yS_l Y 1 (by decide)) rfl dX0_tellAppend_87 ?_
            refine x_iload_n X dX0_tellAppend_90 rfl 2 rfl ?_
            refine x_iald X 0 (yS_ht Y) (yS_4 Y) (yS_l Y 4 (by decide)) dX0_tellAppend_91 hf (fun x91 hf => ?_)
            exact x_iretR (σ0 := σ) X E hQ hf dX0_tellAppend_92
          · refine x_if hf (fun c3 hf => ?_) (fun c3 hf => ?_)
            · refine x_tabIn (off := 66) (tgt := 93) X dX0_tellAppend_27 (by rw [c3]; decide) (by rw [c3]; decide) (by rw [c3]; rfl) (by decide) ?_
              refine x_aload_n X dX0_tellAppend_93 rfl 1 rfl ?_
              refine x_getf X fl_X0_21 (yS_1 Y) (yS_l Y 1 (by decide)) rfl dX0_tellAppend_94 ?_
              refine x_iload_n X dX0_tellAppend_97 rfl 2 rfl ?_
              refine x_iald X 0 (yS_ht Y) (yS_5 Y) (yS_l Y 5 (by decide)) dX0_tellAppend_98 hf (fun x98 hf => ?_)
              exact x_iretR (σ0 := σ) X E hQ hf dX0_tellAppend_99
            · refine x_if hf (fun c4 hf => ?_) (fun c4 hf => ?_)
              · refine x_tabIn (off := 73) (tgt := 100) X dX0_tellAppend_27 (by rw [c4]; decide) (by rw [c4]; decide) (by rw [c4]; rfl) (by decide) ?_
                refine x_iload_n X dX0_tellAppend_100 rfl 0 rfl ?_
                refine x_if_eq (tgt := 113) X dX0_tellAppend_101 (by decide) hf (fun hf => ?_) (fun hf => ?_)
                · refine x_bipush (v := (-5)) X dX0_tellAppend_113 (by decide) ?_
                  exact x_iretR (σ0 := σ) X E hQ hf dX0_tellAppend_115
                · refine x_aload_n X dX0_tellAppend_104 rfl 1 rfl ?_
                  refine x_getf X fl_X0_24 (yS_1 Y) (yS_l Y 1 (by decide)) rfl dX0_tellAppend_105 ?_
                  refine x_iload_n X dX0_tellAppend_108 rfl 2 rfl ?_
                  refine x_iald X 0 (yS_ht Y) (yS_6 Y) (yS_l Y 6 (by decide)) dX0_tellAppend_109 hf (fun x109 hf => ?_)
                  refine x_goto (tgt := 115) X dX0_tellAppend_110 (by decide) ?_
                  exact x_iretR (σ0 := σ) X E hQ hf dX0_tellAppend_115
              · refine x_if hf (fun c5 hf => ?_) (fun c5 hf => ?_)
                · refine x_tabIn (off := 89) (tgt := 116) X dX0_tellAppend_27 (by rw [c5]; decide) (by rw [c5]; decide) (by rw [c5]; rfl) (by decide) ?_
                  refine x_iload_n X dX0_tellAppend_116 rfl 0 rfl ?_
                  refine x_if_eq (tgt := 129) X dX0_tellAppend_117 (by decide) hf (fun hf => ?_) (fun hf => ?_)
                  · refine x_bipush (v := (-5)) X dX0_tellAppend_129 (by decide) ?_
                    exact x_iretR (σ0 := σ) X E hQ hf dX0_tellAppend_131
                  · refine x_aload_n X dX0_tellAppend_120 rfl 1 rfl ?_
                    refine x_getf X fl_X0_27 (yS_1 Y) (yS_l Y 1 (by decide)) rfl dX0_tellAppend_121 ?_
                    refine x_iload_n X dX0_tellAppend_124 rfl 2 rfl ?_
                    refine x_iald X 0 (yS_ht Y) (yS_7 Y) (yS_l Y 7 (by decide)) dX0_tellAppend_125 hf (fun x125 hf => ?_)
                    refine x_goto (tgt := 131) X dX0_tellAppend_126 (by decide) ?_
                    exact x_iretR (σ0 := σ) X E hQ hf dX0_tellAppend_131
                · refine x_if hf (fun c6 hf => ?_) (fun c6 hf => ?_)
                  · refine x_tabIn (off := 105) (tgt := 132) X dX0_tellAppend_27 (by rw [c6]; decide) (by rw [c6]; decide) (by rw [c6]; rfl) (by decide) ?_
                    refine x_aload_n X dX0_tellAppend_132 rfl 1 rfl ?_
                    refine x_getf X fl_X0_30 (yS_1 Y) (yS_l Y 1 (by decide)) rfl dX0_tellAppend_133 ?_
                    refine x_iload_n X dX0_tellAppend_136 rfl 2 rfl ?_
                    refine x_iald X 0 (yS_ht Y) (yS_8 Y) (yS_l Y 8 (by decide)) dX0_tellAppend_137 hf (fun x137 hf => ?_)
                    exact x_iretR (σ0 := σ) X E hQ hf dX0_tellAppend_138
                  · refine x_if hf (fun c7 hf => ?_) (fun c7 hf => ?_)
                    · refine x_tabIn (off := 112) (tgt := 139) X dX0_tellAppend_27 (by rw [c7]; decide) (by rw [c7]; decide) (by rw [c7]; rfl) (by decide) ?_
                      refine x_iload_n X dX0_tellAppend_139 rfl 0 rfl ?_
                      refine x_if_eq (tgt := 152) X dX0_tellAppend_140 (by decide) hf (fun hf => ?_) (fun hf => ?_)
                      · refine x_bipush (v := (-5)) X dX0_tellAppend_152 (by decide) ?_
                        exact x_iretR (σ0 := σ) X E hQ hf dX0_tellAppend_154
                      · refine x_aload_n X dX0_tellAppend_143 rfl 1 rfl ?_
                        refine x_getf X fl_X0_33 (yS_1 Y) (yS_l Y 1 (by decide)) rfl dX0_tellAppend_144 ?_
                        refine x_iload_n X dX0_tellAppend_147 rfl 2 rfl ?_
                        refine x_iald X 0 (yS_ht Y) (yS_9 Y) (yS_l Y 9 (by decide)) dX0_tellAppend_148 hf (fun x148 hf => ?_)
                        refine x_goto (tgt := 154) X dX0_tellAppend_149 (by decide) ?_
                        exact x_iretR (σ0 := σ) X E hQ hf dX0_tellAppend_154
                    · refine x_tabOut (tgt := 155) X dX0_tellAppend_27 (by have h0 := lv_neT c0 (a := 0) rfl; have h1 := lv_neT c1 (a := 1) rfl; have h2 := lv_neT c2 (a := 2) rfl; have h3 := lv_neT c3 (a := 3) rfl; have h4 := lv_neT c4 (a := 4) rfl; have h5 := lv_neT c5 (a := 5) rfl; have h6 := lv_neT c6 (a := 6) rfl; have h7 := lv_neT c7 (a := 7) rfl; omega) (by decide) ?_
                      refine x_bipush (v := (-2)) X dX0_tellAppend_155 (by decide) ?_
                      exact x_iretR (σ0 := σ) X E hQ hf dX0_tellAppend_157
    · refine x_icmp_ne (tgt := 24) X dX0_tellAppend_17 (by decide) hf (fun hf => ?_) (fun hf => ?_)
      · refine x_iconst (v := 0) X dX0_tellAppend_24 (by decide) ?_
        exact J25 0 hf
      · refine x_iconst (v := 1) X dX0_tellAppend_20 (by decide) ?_
        refine x_goto (tgt := 25) X dX0_tellAppend_21 (by decide) ?_
        exact J25 1 hf
  · refine x_iconst (v := (-1)) X dX0_tellAppend_8 (by decide) ?_
    exact x_iretR (σ0 := σ) X E hQ hf dX0_tellAppend_9
def f_X3_tellWriter (σ : SS) (p1 : Int32) (p2 : Int32) : Option (Int32) :=
  oR (f_X5_isWriter p1) (fun r1 => if r1 = 0 then (some (-1)) else (if p2 = 0 then (oA 4 (σ.1 19) p1 (fun x53 => some x53)) else (if p2 = 1 then (oR (f_X0_ofWriter σ p1 0) (fun r61 => some r61)) else (if p2 = 2 then (oR (f_X0_ofWriter σ p1 1) (fun r71 => some r71)) else (if p2 = 3 then (oR (f_X0_ofWriter σ p1 2) (fun r81 => some r81)) else (if p2 = 4 then (oR (f_X0_ofWriter σ p1 3) (fun r91 => some r91)) else (if p2 = 5 then (oA 4 (σ.1 20) p1 (fun x100 => some x100)) else (some (-2)))))))))
set_option maxRecDepth 100000 in
set_option maxHeartbeats 4000000 in
theorem m_X3_tellWriter {l : Launch} {G : va_G} {tys : List (ClassId × FieldType)} {S0 : Nat} {h h1 h2 : Nat → va_E} {b cN' : Nat} {cI : ClassId} {σ : SS} {p1 : Int32} {p2 : Int32} {r : Int32} (hb : b + 22 ≤ cN') (ht : tys[0]? = some (cI, .int)) (e1 : h1 = ov h b (gl S0 cI b σ)) (e2 : h2 = ov h b (gl S0 cI b σ)) (hf : f_X3_tellWriter σ p1 p2 = some r) : XMet l G tys S0 cN' yX3_tellWriter cX3_tellWriter 3 (some .int) 1 24 [.ref (S0 + (b + 0)), .int p1, .int p2] h1 cN' (some (.int r)) h2 0 0 := by
  subst e1; subst e2
  refine XMet.ofE (ST := SS) (HP := fun σ => ov h b (gl S0 cI b σ)) σ σ (by decide) (Nat.le_of_ble_eq_true rfl) ?_
  intro κ g1 g2 g3 g4 g5 g6 E X hQ
  subst g1; subst g2; subst g3; subst g4
  have Y : YS κ h b cI := ⟨fun σ => by rw [g5], fun σ => by rw [g6]; exact hb, ht⟩
  have X : XC κ cX3_tellWriter 3 RX3 (some .int) 1 24 := X
  show XG κ σ 0 [(0, .ref (κ.S0 + (b + 0))), (1, .int p1), (2, .int p2)] []
  unfold f_X3_tellWriter at hf
  refine x_iload_n X dX3_tellWriter_0 rfl 1 rfl ?_
  refine x_callR (rest := []) X hf (fun r hr => x_cSN X cm_X5_isWriter lkN_X3_99 ⟨Nat.le_of_ble_eq_true rfl, Nat.le_of_ble_eq_true rfl⟩ (m_X5_isWriter hr) rfl rfl (Nat.le_of_ble_eq_true rfl) (x_room E _) dX3_tellWriter_1) (fun r1 hf => ?_)
  refine x_if_ne (tgt := 9) X dX3_tellWriter_4 (by decide) hf (fun hf => ?_) (fun hf => ?_)
  · refine x_iload_n X dX3_tellWriter_9 rfl 2 rfl ?_
    refine x_if hf (fun c0 hf => ?_) (fun c0 hf => ?_)
    · refine x_tabIn (off := 38) (tgt := 48) X dX3_tellWriter_10 (by rw [c0]; decide) (by rw [c0]; decide) (by rw [c0]; rfl) (by decide) ?_
      refine x_aload_n X dX3_tellWriter_48 rfl 0 rfl ?_
      refine x_getf X fl_X3_25 (yS_0 Y) (yS_l Y 0 (by decide)) rfl dX3_tellWriter_49 ?_
      refine x_iload_n X dX3_tellWriter_52 rfl 1 rfl ?_
      refine x_iald X 0 (yS_ht Y) (yS_19 Y) (yS_l Y 19 (by decide)) dX3_tellWriter_53 hf (fun x53 hf => ?_)
      exact x_iretR (σ0 := σ) X E hQ hf dX3_tellWriter_54
    · refine x_if hf (fun c1 hf => ?_) (fun c1 hf => ?_)
      · refine x_tabIn (off := 45) (tgt := 55) X dX3_tellWriter_10 (by rw [c1]; decide) (by rw [c1]; decide) (by rw [c1]; rfl) (by decide) ?_
        refine x_aload_n X dX3_tellWriter_55 rfl 0 rfl ?_
        refine x_getf X fl_X3_12 (yS_0 Y) (yS_l Y 0 (by decide)) rfl dX3_tellWriter_56 ?_
        refine x_iload_n X dX3_tellWriter_59 rfl 1 rfl ?_
        refine x_iconst (v := 0) X dX3_tellWriter_60 (by decide) ?_
        refine x_callR (rest := []) X hf (fun r hr => x_cV (ci := 0) X cm_X0_ofWriter lkV_X3_102 rfl ⟨Nat.le_of_ble_eq_true rfl, Nat.le_of_ble_eq_true rfl⟩ (yS_1 Y) (yS_l Y 1 (by decide)) (m_X0_ofWriter (yS_hb Y σ) (yS_ht Y) (yS_hp Y _) (yS_hp Y _) hr) rfl rfl (Nat.le_of_ble_eq_true rfl) (x_room E _) dX3_tellWriter_61) (fun r61 hf => ?_)
        exact x_iretR (σ0 := σ) X E hQ hf dX3_tellWriter_64
      · refine x_if hf (fun c2 hf => ?_) (fun c2 hf => ?_)
        · refine x_tabIn (off := 55) (tgt := 65) X dX3_tellWriter_10 (by rw [c2]; decide) (by rw [c2]; decide) (by rw [c2]; rfl) (by decide) ?_
          refine x_aload_n X dX3_tellWriter_65 rfl 0 rfl ?_
          refine x_getf X fl_X3_12 (yS_0 Y) (yS_l Y 0 (by decide)) rfl dX3_tellWriter_66 ?_
          refine x_iload_n X dX3_tellWriter_69 rfl 1 rfl ?_
          refine x_iconst (v := 1) X dX3_tellWriter_70 (by decide) ?_
          refine x_callR (rest := []) X hf (fun r hr => x_cV (ci := 0) X cm_X0_ofWriter lkV_X3_102 rfl ⟨Nat.le_of_ble_eq_true rfl, Nat.le_of_ble_eq_true rfl⟩ (yS_1 Y) (yS_l Y 1 (by decide)) (m_X0_ofWriter (yS_hb Y σ) (yS_ht Y) (yS_hp Y _) (yS_hp Y _) hr) rfl rfl (Nat.le_of_ble_eq_true rfl) (x_room E _) dX3_tellWriter_71) (fun r71 hf => ?_)
          exact x_iretR (σ0 := σ) X E hQ hf dX3_tellWriter_74
        · refine x_if hf (fun c3 hf => ?_) (fun c3 hf => ?_)
          · refine x_tabIn (off := 65) (tgt := 75) X dX3_tellWriter_10 (by rw [c3]; decide) (by rw [c3]; decide) (by rw [c3]; rfl) (by decide) ?_
            refine x_aload_n X dX3_tellWriter_75 rfl 0 rfl ?_
            refine x_getf X fl_X3_12 (yS_0 Y) (yS_l Y 0 (by decide)) rfl dX3_tellWriter_76 ?_
            refine x_iload_n X dX3_tellWriter_79 rfl 1 rfl ?_
            refine x_iconst (v := 2) X dX3_tellWriter_80 (by decide) ?_
            refine x_callR (rest := []) X hf (fun r hr => x_cV (ci := 0) X cm_X0_ofWriter lkV_X3_102 rfl ⟨Nat.le_of_ble_eq_true rfl, Nat.le_of_ble_eq_true rfl⟩ (yS_1 Y) (yS_l Y 1 (by decide)) (m_X0_ofWriter (yS_hb Y σ) (yS_ht Y) (yS_hp Y _) (yS_hp Y _) hr) rfl rfl (Nat.le_of_ble_eq_true rfl) (x_room E _) dX3_tellWriter_81) (fun r81 hf => ?_)
            exact x_iretR (σ0 := σ) X E hQ hf dX3_tellWriter_84
          · refine x_if hf (fun c4 hf => ?_) (fun c4 hf => ?_)
            · refine x_tabIn (off := 75) (tgt := 85) X dX3_tellWriter_10 (by rw [c4]; decide) (by rw [c4]; decide) (by rw [c4]; rfl) (by decide) ?_
              refine x_aload_n X dX3_tellWriter_85 rfl 0 rfl ?_
              refine x_getf X fl_X3_12 (yS_0 Y) (yS_l Y 0 (by decide)) rfl dX3_tellWriter_86 ?_
              refine x_iload_n X dX3_tellWriter_89 rfl 1 rfl ?_
              refine x_iconst (v := 3) X dX3_tellWriter_90 (by decide) ?_
              refine x_callR (rest := []) X hf (fun r hr => x_cV (ci := 0) X cm_X0_ofWriter lkV_X3_102 rfl ⟨Nat.le_of_ble_eq_true rfl, Nat.le_of_ble_eq_true rfl⟩ (yS_1 Y) (yS_l Y 1 (by decide)) (m_X0_ofWriter (yS_hb Y σ) (yS_ht Y) (yS_hp Y _) (yS_hp Y _) hr) rfl rfl (Nat.le_of_ble_eq_true rfl) (x_room E _) dX3_tellWriter_91) (fun r91 hf => ?_)
              exact x_iretR (σ0 := σ) X E hQ hf dX3_tellWriter_94
            · refine x_if hf (fun c5 hf => ?_) (fun c5 hf => ?_)
              · refine x_tabIn (off := 85) (tgt := 95) X dX3_tellWriter_10 (by rw [c5]; decide) (by rw [c5]; decide) (by rw [c5]; rfl) (by decide) ?_
                refine x_aload_n X dX3_tellWriter_95 rfl 0 rfl ?_
                refine x_getf X fl_X3_29 (yS_0 Y) (yS_l Y 0 (by decide)) rfl dX3_tellWriter_96 ?_
                refine x_iload_n X dX3_tellWriter_99 rfl 1 rfl ?_
                refine x_iald X 0 (yS_ht Y) (yS_20 Y) (yS_l Y 20 (by decide)) dX3_tellWriter_100 hf (fun x100 hf => ?_)
                exact x_iretR (σ0 := σ) X E hQ hf dX3_tellWriter_101
              · refine x_tabOut (tgt := 102) X dX3_tellWriter_10 (by have h0 := lv_neT c0 (a := 0) rfl; have h1 := lv_neT c1 (a := 1) rfl; have h2 := lv_neT c2 (a := 2) rfl; have h3 := lv_neT c3 (a := 3) rfl; have h4 := lv_neT c4 (a := 4) rfl; have h5 := lv_neT c5 (a := 5) rfl; omega) (by decide) ?_
                refine x_bipush (v := (-2)) X dX3_tellWriter_102 (by decide) ?_
                exact x_iretR (σ0 := σ) X E hQ hf dX3_tellWriter_104
  · refine x_iconst (v := (-1)) X dX3_tellWriter_7 (by decide) ?_
    exact x_iretR (σ0 := σ) X E hQ hf dX3_tellWriter_8
def f_X0_toldAt (σ : SS) (p1 : Int32) : Option (Int32) :=
  if 0 ≤ p1 then (if (σ.2 1) ≤ p1 then (some (-5)) else (oA 201 (σ.1 10) p1 (fun x20 => some x20))) else (some (-2))
set_option maxRecDepth 100000 in
set_option maxHeartbeats 4000000 in
theorem m_X0_toldAt {l : Launch} {G : va_G} {tys : List (ClassId × FieldType)} {S0 : Nat} {h h1 h2 : Nat → va_E} {b cN' : Nat} {cI : ClassId} {σ : SS} {p1 : Int32} {r : Int32} (hb : b + 22 ≤ cN') (ht : tys[0]? = some (cI, .int)) (e1 : h1 = ov h b (gl S0 cI b σ)) (e2 : h2 = ov h b (gl S0 cI b σ)) (hf : f_X0_toldAt σ p1 = some r) : XMet l G tys S0 cN' yX0_toldAt cX0_toldAt 2 (some .int) 0 0 [.ref (S0 + (b + 1)), .int p1] h1 cN' (some (.int r)) h2 0 0 := by
  subst e1; subst e2
  refine XMet.ofE (ST := SS) (HP := fun σ => ov h b (gl S0 cI b σ)) σ σ (by decide) (Nat.le_of_ble_eq_true rfl) ?_
  intro κ g1 g2 g3 g4 g5 g6 E X hQ
  subst g1; subst g2; subst g3; subst g4
  have Y : YS κ h b cI := ⟨fun σ => by rw [g5], fun σ => by rw [g6]; exact hb, ht⟩
  have X : XC κ cX0_toldAt 2 RX0 (some .int) 0 0 := X
  show XG κ σ 0 [(0, .ref (κ.S0 + (b + 1))), (1, .int p1)] []
  unfold f_X0_toldAt at hf
  refine x_iload_n X dX0_toldAt_0 rfl 1 rfl ?_
  refine x_if_ge (tgt := 7) X dX0_toldAt_1 (by decide) hf (fun hf => ?_) (fun hf => ?_)
  · refine x_iload_n X dX0_toldAt_7 rfl 1 rfl ?_
    refine x_aload_n X dX0_toldAt_8 rfl 0 rfl ?_
    refine x_getf X fl_X0_43 (yS_1 Y) (yS_l Y 1 (by decide)) rfl dX0_toldAt_9 ?_
    refine x_icmp_ge (tgt := 24) X dX0_toldAt_12 (by decide) hf (fun hf => ?_) (fun hf => ?_)
    · refine x_bipush (v := (-5)) X dX0_toldAt_24 (by decide) ?_
      exact x_iretR (σ0 := σ) X E hQ hf dX0_toldAt_26
    · refine x_aload_n X dX0_toldAt_15 rfl 0 rfl ?_
      refine x_getf X fl_X0_40 (yS_1 Y) (yS_l Y 1 (by decide)) rfl dX0_toldAt_16 ?_
      refine x_iload_n X dX0_toldAt_19 rfl 1 rfl ?_
      refine x_iald X 0 (yS_ht Y) (yS_10 Y) (yS_l Y 10 (by decide)) dX0_toldAt_20 hf (fun x20 hf => ?_)
      refine x_goto (tgt := 26) X dX0_toldAt_21 (by decide) ?_
      exact x_iretR (σ0 := σ) X E hQ hf dX0_toldAt_26
  · refine x_bipush (v := (-2)) X dX0_toldAt_4 (by decide) ?_
    exact x_iretR (σ0 := σ) X E hQ hf dX0_toldAt_6
def f_X3_ticksUntilTold_L2 (p1 : Int32) (kX2 : SS → Option (Int32 × SS)) : Nat → Int32 → SS → Option (Int32 × SS)
  | 0, _, _ => none
  | n + 1, v2_2, s2 =>
    if 999 < v2_2 then (kX2 s2) else (oV (f_X3_letOnePass s2) (fun t => t) (fun s10 => oA 201 (s10.1 5) p1 (fun x21 => if x21 = 2 then (some (v2_2, s10)) else (oA 201 (s10.1 5) p1 (fun x36 => if x36 = 3 then (some ((-5), s10)) else (oR (f_X0_liveIn s10 1) (fun r46 => if r46 = 0 then (some ((-5), s10)) else (f_X3_ticksUntilTold_L2 p1 kX2 n (v2_2 + 1) s10))))))))
def f_X3_ticksUntilTold (σ : SS) (p1 : Int32) : Option (Int32 × SS) :=
  f_X3_ticksUntilTold_L2 p1 (fun sx61 => some ((-5), sx61)) FU 1 σ
set_option maxRecDepth 100000 in
set_option maxHeartbeats 4000000 in
theorem m_X3_ticksUntilTold {l : Launch} {G : va_G} {tys : List (ClassId × FieldType)} {S0 : Nat} {h h1 h2 : Nat → va_E} {b cN' : Nat} {cI : ClassId} {σ : SS} {τ : SS} {p1 : Int32} {r : Int32} (hb : b + 22 ≤ cN') (ht : tys[0]? = some (cI, .int)) (e1 : h1 = ov h b (gl S0 cI b σ)) (e2 : h2 = ov h b (gl S0 cI b τ)) (hf : f_X3_ticksUntilTold σ p1 = some (r, τ)) : XMet l G tys S0 cN' yX3_ticksUntilTold cX3_ticksUntilTold 3 (some .int) 4 93 [.ref (S0 + (b + 0)), .int p1] h1 cN' (some (.int r)) h2 0 0 := by
  subst e1; subst e2
  refine XMet.ofE (ST := SS) (HP := fun σ => ov h b (gl S0 cI b σ)) σ τ (by decide) (Nat.le_of_ble_eq_true rfl) ?_
  intro κ g1 g2 g3 g4 g5 g6 E X hQ
  subst g1; subst g2; subst g3; subst g4
  have Y : YS κ h b cI := ⟨fun σ => by rw [g5], fun σ => by rw [g6]; exact hb, ht⟩
  have X : XC κ cX3_ticksUntilTold 3 RX3 (some .int) 4 93 := X
  show XG κ σ 0 [(0, .ref (κ.S0 + (b + 0))), (1, .int p1)] []
  unfold f_X3_ticksUntilTold at hf
  refine x_iconst (v := 1) X dX3_ticksUntilTold_0 (by decide) ?_
  refine x_istore_n (lv' := [(2, .int 1), (0, .ref (κ.S0 + (b + 0))), (1, .int p1)]) X dX3_ticksUntilTold_1 rfl (by decide) rfl ?_
  refine x_kont (b := fun kX2 => f_X3_ticksUntilTold_L2 p1 kX2 FU 1 σ) (fun kX2 => ∀  (sx61 : SS), kX2 sx61 = some (r, τ) → XG κ sx61 61 [] []) hf (fun sx61 hf => ?_) (fun kX2 JX2 hf => ?_)
  · refine x_bipush (v := (-5)) X dX3_ticksUntilTold_61 (by decide) ?_
    exact x_iretW (σ0 := σ) X E hQ hf dX3_ticksUntilTold_63
  · have LL : ∀ (n : Nat) (v2_2 : Int32) (s2 : SS), f_X3_ticksUntilTold_L2 p1 kX2 n v2_2 s2 = some (r, τ) → XG κ s2 2 [(0, .ref (κ.S0 + (b + 0))), (1, .int p1), (2, .int v2_2)] [] := by
      intro n
      induction n with
      | zero => intro v2_2 s2 hf; rw [f_X3_ticksUntilTold_L2] at hf; cases hf
      | succ n ih2 =>
        intro v2_2 s2 hf
        rw [f_X3_ticksUntilTold_L2] at hf
        refine x_iload_n X dX3_ticksUntilTold_2 rfl 2 rfl ?_
        refine x_sipush (v := 999) X dX3_ticksUntilTold_3 (by decide) ?_
        refine x_icmp_gt (tgt := 61) X dX3_ticksUntilTold_6 (by decide) hf (fun hf => ?_) (fun hf => ?_)
        · refine x_sub [] rfl ?_
          exact JX2 s2 hf
        · refine x_aload_n X dX3_ticksUntilTold_9 rfl 0 rfl ?_
          refine x_callV (rest := []) (w := fun t => t) X E.1 hf (fun t hr => x_cV (ci := 3) X cm_X3_letOnePass lkV_X3_132 rfl ⟨Nat.le_of_ble_eq_true rfl, Nat.le_of_ble_eq_true rfl⟩ (yS_0 Y) (yS_l Y 0 (by decide)) (m_X3_letOnePass (yS_hb Y s2) (yS_ht Y) (yS_hp Y _) (yS_hp Y _) hr) rfl rfl (Nat.le_of_ble_eq_true rfl) (x_room E _) dX3_ticksUntilTold_10) (fun s10 hf => ?_)
          refine x_aload_n X dX3_ticksUntilTold_13 rfl 0 rfl ?_
          refine x_getf X fl_X3_12 (yS_0 Y) (yS_l Y 0 (by decide)) rfl dX3_ticksUntilTold_14 ?_
          refine x_getf X fl_X3_159 (yS_1 Y) (yS_l Y 1 (by decide)) rfl dX3_ticksUntilTold_17 ?_
          refine x_iload_n X dX3_ticksUntilTold_20 rfl 1 rfl ?_
          refine x_iald X 0 (yS_ht Y) (yS_5 Y) (yS_l Y 5 (by decide)) dX3_ticksUntilTold_21 hf (fun x21 hf => ?_)
          refine x_iconst (v := 2) X dX3_ticksUntilTold_22 (by decide) ?_
          refine x_icmp_ne (tgt := 28) X dX3_ticksUntilTold_23 (by decide) hf (fun hf => ?_) (fun hf => ?_)
          · refine x_aload_n X dX3_ticksUntilTold_28 rfl 0 rfl ?_
            refine x_getf X fl_X3_12 (yS_0 Y) (yS_l Y 0 (by decide)) rfl dX3_ticksUntilTold_29 ?_
            refine x_getf X fl_X3_159 (yS_1 Y) (yS_l Y 1 (by decide)) rfl dX3_ticksUntilTold_32 ?_
            refine x_iload_n X dX3_ticksUntilTold_35 rfl 1 rfl ?_
            refine x_iald X 0 (yS_ht Y) (yS_5 Y) (yS_l Y 5 (by decide)) dX3_ticksUntilTold_36 hf (fun x36 hf => ?_)
            refine x_iconst (v := 3) X dX3_ticksUntilTold_37 (by decide) ?_
            refine x_icmp_eq (tgt := 52) X dX3_ticksUntilTold_38 (by decide) hf (fun hf => ?_) (fun hf => ?_)
            · refine x_bipush (v := (-5)) X dX3_ticksUntilTold_52 (by decide) ?_
              exact x_iretW (σ0 := σ) X E hQ hf dX3_ticksUntilTold_54
            · refine x_aload_n X dX3_ticksUntilTold_41 rfl 0 rfl ?_
              refine x_getf X fl_X3_12 (yS_0 Y) (yS_l Y 0 (by decide)) rfl dX3_ticksUntilTold_42 ?_
              refine x_iconst (v := 1) X dX3_ticksUntilTold_45 (by decide) ?_
              refine x_callR (rest := []) X hf (fun r hr => x_cV (ci := 0) X cm_X0_liveIn lkV_X3_176 rfl ⟨Nat.le_of_ble_eq_true rfl, Nat.le_of_ble_eq_true rfl⟩ (yS_1 Y) (yS_l Y 1 (by decide)) (m_X0_liveIn (yS_hb Y s10) (yS_ht Y) (yS_hp Y _) (yS_hp Y _) hr) rfl rfl (Nat.le_of_ble_eq_true rfl) (x_room E _) dX3_ticksUntilTold_46) (fun r46 hf => ?_)
              refine x_if_ne (tgt := 55) X dX3_ticksUntilTold_49 (by decide) hf (fun hf => ?_) (fun hf => ?_)
              · refine x_iinc (v := v2_2 + 1) (lv' := [(2, .int (v2_2 + 1)), (0, .ref (κ.S0 + (b + 0))), (1, .int p1)]) X dX3_ticksUntilTold_55 2 rfl rfl (by decide) rfl ?_
                refine x_goto (tgt := 2) X dX3_ticksUntilTold_58 (by decide) ?_
                refine x_sub [1, 2, 0] rfl ?_
                exact ih2 (v2_2 + 1) s10 hf
              · refine x_bipush (v := (-5)) X dX3_ticksUntilTold_52 (by decide) ?_
                exact x_iretW (σ0 := σ) X E hQ hf dX3_ticksUntilTold_54
          · refine x_iload_n X dX3_ticksUntilTold_26 rfl 2 rfl ?_
            exact x_iretW (σ0 := σ) X E hQ hf dX3_ticksUntilTold_27
    refine x_sub [1, 2, 0] rfl ?_
    exact LL FU 1 σ hf
def f_X3_tellNumber (σ : SS) (p1 : Int32) : Option (Int32) :=
  if p1 = 0 then (some (σ.2 10)) else (if p1 = 1 then (some (σ.2 4)) else (if p1 = 2 then (some (σ.2 5)) else (if p1 = 3 then (some (σ.2 8)) else (if p1 = 4 then (some (σ.2 9)) else (if p1 = 5 then (oR (f_X4_inPhase σ 1) (fun r108 => some r108)) else (if p1 = 6 then (oR (f_X4_inUse σ) (fun r116 => some r116)) else (if p1 = 7 then (some (σ.2 0)) else (if p1 = 8 then (oR (f_X0_liveIn σ 0) (fun r133 => some r133)) else (if p1 = 9 then (oR (f_X0_liveIn σ 1) (fun r142 => some r142)) else (if p1 = 10 then (some (σ.2 1)) else (if p1 = 11 then (some (((σ.2 0) - (σ.2 1)) - (σ.2 2))) else (if p1 = 12 then (some (σ.2 7)) else (if p1 = 13 then (some (σ.2 6)) else (some (-2)))))))))))))))
set_option maxRecDepth 100000 in
set_option maxHeartbeats 4000000 in
theorem m_X3_tellNumber {l : Launch} {G : va_G} {tys : List (ClassId × FieldType)} {S0 : Nat} {h h1 h2 : Nat → va_E} {b cN' : Nat} {cI : ClassId} {σ : SS} {p1 : Int32} {r : Int32} (hb : b + 22 ≤ cN') (ht : tys[0]? = some (cI, .int)) (e1 : h1 = ov h b (gl S0 cI b σ)) (e2 : h2 = ov h b (gl S0 cI b σ)) (hf : f_X3_tellNumber σ p1 = some r) : XMet l G tys S0 cN' yX3_tellNumber cX3_tellNumber 2 (some .int) 1 23 [.ref (S0 + (b + 0)), .int p1] h1 cN' (some (.int r)) h2 0 0 := by
  subst e1; subst e2
  refine XMet.ofE (ST := SS) (HP := fun σ => ov h b (gl S0 cI b σ)) σ σ (by decide) (Nat.le_of_ble_eq_true rfl) ?_
  intro κ g1 g2 g3 g4 g5 g6 E X hQ
  subst g1; subst g2; subst g3; subst g4
  have Y : YS κ h b cI := ⟨fun σ => by rw [g5], fun σ => by rw [g6]; exact hb, ht⟩
  have X : XC κ cX3_tellNumber 2 RX3 (some .int) 1 23 := X
  show XG κ σ 0 [(0, .ref (κ.S0 + (b + 0))), (1, .int p1)] []
  unfold f_X3_tellNumber at hf
  refine x_iload_n X dX3_tellNumber_0 rfl 1 rfl ?_
  refine x_if hf (fun c0 hf => ?_) (fun c0 hf => ?_)
  · refine x_tabIn (off := 71) (tgt := 72) X dX3_tellNumber_1 (by rw [c0]; decide) (by rw [c0]; decide) (by rw [c0]; rfl) (by decide) ?_
    refine x_aload_n X dX3_tellNumber_72 rfl 0 rfl ?_
    refine x_getf X fl_X3_42 (yS_0 Y) (yS_l Y 0 (by decide)) rfl dX3_tellNumber_73 ?_
    exact x_iretR (σ0 := σ) X E hQ hf dX3_tellNumber_76
  · refine x_if hf (fun c1 hf => ?_) (fun c1 hf => ?_)
    · refine x_tabIn (off := 76) (tgt := 77) X dX3_tellNumber_1 (by rw [c1]; decide) (by rw [c1]; decide) (by rw [c1]; rfl) (by decide) ?_
      refine x_aload_n X dX3_tellNumber_77 rfl 0 rfl ?_
      refine x_getf X fl_X3_21 (yS_0 Y) (yS_l Y 0 (by decide)) rfl dX3_tellNumber_78 ?_
      refine x_getf X fl_X3_69 (yS_12 Y) (yS_l Y 12 (by decide)) rfl dX3_tellNumber_81 ?_
      exact x_iretR (σ0 := σ) X E hQ hf dX3_tellNumber_84
    · refine x_if hf (fun c2 hf => ?_) (fun c2 hf => ?_)
      · refine x_tabIn (off := 84) (tgt := 85) X dX3_tellNumber_1 (by rw [c2]; decide) (by rw [c2]; decide) (by rw [c2]; rfl) (by decide) ?_
        refine x_aload_n X dX3_tellNumber_85 rfl 0 rfl ?_
        refine x_getf X fl_X3_21 (yS_0 Y) (yS_l Y 0 (by decide)) rfl dX3_tellNumber_86 ?_
        refine x_getf X fl_X3_79 (yS_12 Y) (yS_l Y 12 (by decide)) rfl dX3_tellNumber_89 ?_
        exact x_iretR (σ0 := σ) X E hQ hf dX3_tellNumber_92
      · refine x_if hf (fun c3 hf => ?_) (fun c3 hf => ?_)
        · refine x_tabIn (off := 92) (tgt := 93) X dX3_tellNumber_1 (by rw [c3]; decide) (by rw [c3]; decide) (by rw [c3]; rfl) (by decide) ?_
          refine x_aload_n X dX3_tellNumber_93 rfl 0 rfl ?_
          refine x_getf X fl_X3_35 (yS_0 Y) (yS_l Y 0 (by decide)) rfl dX3_tellNumber_94 ?_
          exact x_iretR (σ0 := σ) X E hQ hf dX3_tellNumber_97
        · refine x_if hf (fun c4 hf => ?_) (fun c4 hf => ?_)
          · refine x_tabIn (off := 97) (tgt := 98) X dX3_tellNumber_1 (by rw [c4]; decide) (by rw [c4]; decide) (by rw [c4]; rfl) (by decide) ?_
            refine x_aload_n X dX3_tellNumber_98 rfl 0 rfl ?_
            refine x_getf X fl_X3_39 (yS_0 Y) (yS_l Y 0 (by decide)) rfl dX3_tellNumber_99 ?_
            exact x_iretR (σ0 := σ) X E hQ hf dX3_tellNumber_102
          · refine x_if hf (fun c5 hf => ?_) (fun c5 hf => ?_)
            · refine x_tabIn (off := 102) (tgt := 103) X dX3_tellNumber_1 (by rw [c5]; decide) (by rw [c5]; decide) (by rw [c5]; rfl) (by decide) ?_
              refine x_aload_n X dX3_tellNumber_103 rfl 0 rfl ?_
              refine x_getf X fl_X3_21 (yS_0 Y) (yS_l Y 0 (by decide)) rfl dX3_tellNumber_104 ?_
              refine x_iconst (v := 1) X dX3_tellNumber_107 (by decide) ?_
              refine x_callR (rest := []) X hf (fun r hr => x_cV (ci := 4) X cm_X4_inPhase lkV_X3_76 rfl ⟨Nat.le_of_ble_eq_true rfl, Nat.le_of_ble_eq_true rfl⟩ (yS_12 Y) (yS_l Y 12 (by decide)) (m_X4_inPhase (yS_hb Y σ) (yS_ht Y) (yS_hp Y _) (yS_hp Y _) hr) rfl rfl (Nat.le_of_ble_eq_true rfl) (x_room E _) dX3_tellNumber_108) (fun r108 hf => ?_)
              exact x_iretR (σ0 := σ) X E hQ hf dX3_tellNumber_111
            · refine x_if hf (fun c6 hf => ?_) (fun c6 hf => ?_)
              · refine x_tabIn (off := 111) (tgt := 112) X dX3_tellNumber_1 (by rw [c6]; decide) (by rw [c6]; decide) (by rw [c6]; rfl) (by decide) ?_
                refine x_aload_n X dX3_tellNumber_112 rfl 0 rfl ?_
                refine x_getf X fl_X3_21 (yS_0 Y) (yS_l Y 0 (by decide)) rfl dX3_tellNumber_113 ?_
                refine x_callR (rest := []) X hf (fun r hr => x_cV (ci := 4) X cm_X4_inUse lkV_X3_82 rfl ⟨Nat.le_of_ble_eq_true rfl, Nat.le_of_ble_eq_true rfl⟩ (yS_12 Y) (yS_l Y 12 (by decide)) (m_X4_inUse (yS_hb Y σ) (yS_ht Y) (yS_hp Y _) (yS_hp Y _) hr) rfl rfl (Nat.le_of_ble_eq_true rfl) (x_room E _) dX3_tellNumber_116) (fun r116 hf => ?_)
                exact x_iretR (σ0 := σ) X E hQ hf dX3_tellNumber_119
              · refine x_if hf (fun c7 hf => ?_) (fun c7 hf => ?_)
                · refine x_tabIn (off := 119) (tgt := 120) X dX3_tellNumber_1 (by rw [c7]; decide) (by rw [c7]; decide) (by rw [c7]; rfl) (by decide) ?_
                  refine x_aload_n X dX3_tellNumber_120 rfl 0 rfl ?_
                  refine x_getf X fl_X3_12 (yS_0 Y) (yS_l Y 0 (by decide)) rfl dX3_tellNumber_121 ?_
                  refine x_getf X fl_X3_106 (yS_1 Y) (yS_l Y 1 (by decide)) rfl dX3_tellNumber_124 ?_
                  exact x_iretR (σ0 := σ) X E hQ hf dX3_tellNumber_127
                · refine x_if hf (fun c8 hf => ?_) (fun c8 hf => ?_)
                  · refine x_tabIn (off := 127) (tgt := 128) X dX3_tellNumber_1 (by rw [c8]; decide) (by rw [c8]; decide) (by rw [c8]; rfl) (by decide) ?_
                    refine x_aload_n X dX3_tellNumber_128 rfl 0 rfl ?_
                    refine x_getf X fl_X3_12 (yS_0 Y) (yS_l Y 0 (by decide)) rfl dX3_tellNumber_129 ?_
                    refine x_iconst (v := 0) X dX3_tellNumber_132 (by decide) ?_
                    refine x_callR (rest := []) X hf (fun r hr => x_cV (ci := 0) X cm_X0_liveIn lkV_X3_176 rfl ⟨Nat.le_of_ble_eq_true rfl, Nat.le_of_ble_eq_true rfl⟩ (yS_1 Y) (yS_l Y 1 (by decide)) (m_X0_liveIn (yS_hb Y σ) (yS_ht Y) (yS_hp Y _) (yS_hp Y _) hr) rfl rfl (Nat.le_of_ble_eq_true rfl) (x_room E _) dX3_tellNumber_133) (fun r133 hf => ?_)
                    exact x_iretR (σ0 := σ) X E hQ hf dX3_tellNumber_136
                  · refine x_if hf (fun c9 hf => ?_) (fun c9 hf => ?_)
                    · refine x_tabIn (off := 136) (tgt := 137) X dX3_tellNumber_1 (by rw [c9]; decide) (by rw [c9]; decide) (by rw [c9]; rfl) (by decide) ?_
                      refine x_aload_n X dX3_tellNumber_137 rfl 0 rfl ?_
                      refine x_getf X fl_X3_12 (yS_0 Y) (yS_l Y 0 (by decide)) rfl dX3_tellNumber_138 ?_
                      refine x_iconst (v := 1) X dX3_tellNumber_141 (by decide) ?_
                      refine x_callR (rest := []) X hf (fun r hr => x_cV (ci := 0) X cm_X0_liveIn lkV_X3_176 rfl ⟨Nat.le_of_ble_eq_true rfl, Nat.le_of_ble_eq_true rfl⟩ (yS_1 Y) (yS_l Y 1 (by decide)) (m_X0_liveIn (yS_hb Y σ) (yS_ht Y) (yS_hp Y _) (yS_hp Y _) hr) rfl rfl (Nat.le_of_ble_eq_true rfl) (x_room E _) dX3_tellNumber_142) (fun r142 hf => ?_)
                      exact x_iretR (σ0 := σ) X E hQ hf dX3_tellNumber_145
                    · refine x_if hf (fun c10 hf => ?_) (fun c10 hf => ?_)
                      · refine x_tabIn (off := 145) (tgt := 146) X dX3_tellNumber_1 (by rw [c10]; decide) (by rw [c10]; decide) (by rw [c10]; rfl) (by decide) ?_
                        refine x_aload_n X dX3_tellNumber_146 rfl 0 rfl ?_
                        refine x_getf X fl_X3_12 (yS_0 Y) (yS_l Y 0 (by decide)) rfl dX3_tellNumber_147 ?_
                        refine x_getf X fl_X3_129 (yS_1 Y) (yS_l Y 1 (by decide)) rfl dX3_tellNumber_150 ?_
                        exact x_iretR (σ0 := σ) X E hQ hf dX3_tellNumber_153
                      · refine x_if hf (fun c11 hf => ?_) (fun c11 hf => ?_)
                        · refine x_tabIn (off := 153) (tgt := 154) X dX3_tellNumber_1 (by rw [c11]; decide) (by rw [c11]; decide) (by rw [c11]; rfl) (by decide) ?_
                          refine x_aload_n X dX3_tellNumber_154 rfl 0 rfl ?_
                          refine x_getf X fl_X3_12 (yS_0 Y) (yS_l Y 0 (by decide)) rfl dX3_tellNumber_155 ?_
                          refine x_getf X fl_X3_106 (yS_1 Y) (yS_l Y 1 (by decide)) rfl dX3_tellNumber_158 ?_
                          refine x_aload_n X dX3_tellNumber_161 rfl 0 rfl ?_
                          refine x_getf X fl_X3_12 (yS_0 Y) (yS_l Y 0 (by decide)) rfl dX3_tellNumber_162 ?_
                          refine x_getf X fl_X3_129 (yS_1 Y) (yS_l Y 1 (by decide)) rfl dX3_tellNumber_165 ?_
                          refine x_isub X dX3_tellNumber_168 ?_
                          refine x_aload_n X dX3_tellNumber_169 rfl 0 rfl ?_
                          refine x_getf X fl_X3_12 (yS_0 Y) (yS_l Y 0 (by decide)) rfl dX3_tellNumber_170 ?_
                          refine x_getf X fl_X3_153 (yS_1 Y) (yS_l Y 1 (by decide)) rfl dX3_tellNumber_173 ?_
                          refine x_isub X dX3_tellNumber_176 ?_
                          exact x_iretR (σ0 := σ) X E hQ hf dX3_tellNumber_177
                        · refine x_if hf (fun c12 hf => ?_) (fun c12 hf => ?_)
                          · refine x_tabIn (off := 177) (tgt := 178) X dX3_tellNumber_1 (by rw [c12]; decide) (by rw [c12]; decide) (by rw [c12]; rfl) (by decide) ?_
                            refine x_aload_n X dX3_tellNumber_178 rfl 0 rfl ?_
                            refine x_getf X fl_X3_21 (yS_0 Y) (yS_l Y 0 (by decide)) rfl dX3_tellNumber_179 ?_
                            refine x_getf X fl_X3_192 (yS_12 Y) (yS_l Y 12 (by decide)) rfl dX3_tellNumber_182 ?_
                            exact x_iretR (σ0 := σ) X E hQ hf dX3_tellNumber_185
                          · refine x_if hf (fun c13 hf => ?_) (fun c13 hf => ?_)
                            · refine x_tabIn (off := 185) (tgt := 186) X dX3_tellNumber_1 (by rw [c13]; decide) (by rw [c13]; decide) (by rw [c13]; rfl) (by decide) ?_
                              refine x_aload_n X dX3_tellNumber_186 rfl 0 rfl ?_
                              refine x_getf X fl_X3_21 (yS_0 Y) (yS_l Y 0 (by decide)) rfl dX3_tellNumber_187 ?_
                              refine x_getf X fl_X3_147 (yS_12 Y) (yS_l Y 12 (by decide)) rfl dX3_tellNumber_190 ?_
                              exact x_iretR (σ0 := σ) X E hQ hf dX3_tellNumber_193
                            · refine x_tabOut (tgt := 194) X dX3_tellNumber_1 (by have h0 := lv_neT c0 (a := 0) rfl; have h1 := lv_neT c1 (a := 1) rfl; have h2 := lv_neT c2 (a := 2) rfl; have h3 := lv_neT c3 (a := 3) rfl; have h4 := lv_neT c4 (a := 4) rfl; have h5 := lv_neT c5 (a := 5) rfl; have h6 := lv_neT c6 (a := 6) rfl; have h7 := lv_neT c7 (a := 7) rfl; have h8 := lv_neT c8 (a := 8) rfl; have h9 := lv_neT c9 (a := 9) rfl; have h10 := lv_neT c10 (a := 10) rfl; have h11 := lv_neT c11 (a := 11) rfl; have h12 := lv_neT c12 (a := 12) rfl; have h13 := lv_neT c13 (a := 13) rfl; omega) (by decide) ?_
                              refine x_bipush (v := (-2)) X dX3_tellNumber_194 (by decide) ?_
                              exact x_iretR (σ0 := σ) X E hQ hf dX3_tellNumber_196
def f_X6_of (p0 : Int32) (p1 : Int32) : Option (Int32) :=
  some ((10 + (22 * p0)) + p1)
set_option maxRecDepth 100000 in
set_option maxHeartbeats 4000000 in
theorem m_X6_of {l : Launch} {G : va_G} {tys : List (ClassId × FieldType)} {S0 : Nat} {h1 : Nat → va_E} {cN' : Nat} {p0 : Int32} {p1 : Int32} {r : Int32}  (hf : f_X6_of p0 p1 = some r) : XMet l G tys S0 cN' yX6_of cX6_of 2 (some .int) 0 0 [.int p0, .int p1] h1 cN' (some (.int r)) h1 0 0 := by
  refine XMet.ofE (ST := Unit) (HP := fun _ => h1) () () (by decide) (Nat.le_of_ble_eq_true rfl) ?_
  intro κ g1 g2 g3 g4 g5 g6 E X hQ
  subst g1; subst g2; subst g3; subst g4
  have X : XC κ cX6_of 2 RX6 (some .int) 0 0 := X
  show XG κ () 0 [(0, .int p0), (1, .int p1)] []
  unfold f_X6_of at hf
  refine x_bipush (v := 10) X dX6_of_0 (by decide) ?_
  refine x_bipush (v := 22) X dX6_of_2 (by decide) ?_
  refine x_iload_n X dX6_of_4 rfl 0 rfl ?_
  refine x_imul X dX6_of_5 ?_
  refine x_iadd X dX6_of_6 ?_
  refine x_iload_n X dX6_of_7 rfl 1 rfl ?_
  refine x_iadd X dX6_of_8 ?_
  exact x_iretR (σ0 := ()) X E hQ hf dX6_of_9
def f_X6_sweep_L2 (p1 : Int32) (kX2 : MS → Option (MS)) : Nat → Int32 → MS → Option (MS)
  | 0, _, _ => none
  | n + 1, v2_2, s2 =>
    if 16 ≤ v2_2 then (kX2 s2) else (oR (f_X6_of p1 (6 + v2_2)) (fun r17 => oS 2204 (s2.1 1) r17 (-5) (sA s2 1) (fun s22 => f_X6_sweep_L2 p1 kX2 n (v2_2 + 1) s22)))
def f_X6_sweep (σ : MS) (p1 : Int32) : Option (MS) :=
  f_X6_sweep_L2 p1 (fun sx29 => some sx29) FU 0 σ
set_option maxRecDepth 100000 in
set_option maxHeartbeats 4000000 in
theorem m_X6_sweep {l : Launch} {G : va_G} {tys : List (ClassId × FieldType)} {S0 : Nat} {h h1 h2 : Nat → va_E} {b cN' : Nat} {cI cZ : ClassId} {σ : MS} {τ : MS} {p1 : Int32} (hb : b + 8 ≤ cN') (ht : tys[0]? = some (cI, .int)) (htz : tys[2]? = some (cZ, .boolean)) (e1 : h1 = ov h b (ml S0 cI cZ b σ)) (e2 : h2 = ov h b (ml S0 cI cZ b τ)) (hf : f_X6_sweep σ p1 = some τ) : XMet l G tys S0 cN' yX6_sweep cX6_sweep 3 none 1 21 [.ref (S0 + (b + 0)), .int p1] h1 cN' none h2 0 0 := by
  subst e1; subst e2
  refine XMet.ofE (ST := MS) (HP := fun σ => ov h b (ml S0 cI cZ b σ)) σ τ (by decide) (Nat.le_of_ble_eq_true rfl) ?_
  intro κ g1 g2 g3 g4 g5 g6 E X hQ
  subst g1; subst g2; subst g3; subst g4
  have Y : YM κ h b cI cZ := ⟨fun σ => by rw [g5], fun σ => by rw [g6]; exact hb, ht, htz⟩
  have X : XC κ cX6_sweep 3 RX6 none 1 21 := X
  show XG κ σ 0 [(0, .ref (κ.S0 + (b + 0))), (1, .int p1)] []
  unfold f_X6_sweep at hf
  refine x_iconst (v := 0) X dX6_sweep_0 (by decide) ?_
  refine x_istore_n (lv' := [(2, .int 0), (0, .ref (κ.S0 + (b + 0))), (1, .int p1)]) X dX6_sweep_1 rfl (by decide) rfl ?_
  refine x_kont (b := fun kX2 => f_X6_sweep_L2 p1 kX2 FU 0 σ) (fun kX2 => ∀  (sx29 : MS), kX2 sx29 = some τ → XG κ sx29 29 [] []) hf (fun sx29 hf => ?_) (fun kX2 JX2 hf => ?_)
  · exact x_vretV (σ0 := σ) X E hQ hf dX6_sweep_29
  · have LL : ∀ (n : Nat) (v2_2 : Int32) (s2 : MS), f_X6_sweep_L2 p1 kX2 n v2_2 s2 = some τ → XG κ s2 2 [(0, .ref (κ.S0 + (b + 0))), (1, .int p1), (2, .int v2_2)] [] := by
      intro n
      induction n with
      | zero => intro v2_2 s2 hf; rw [f_X6_sweep_L2] at hf; cases hf
      | succ n ih2 =>
        intro v2_2 s2 hf
        rw [f_X6_sweep_L2] at hf
        refine x_iload_n X dX6_sweep_2 rfl 2 rfl ?_
        refine x_bipush (v := 16) X dX6_sweep_3 (by decide) ?_
        refine x_icmp_ge (tgt := 29) X dX6_sweep_5 (by decide) hf (fun hf => ?_) (fun hf => ?_)
        · refine x_sub [] rfl ?_
          exact JX2 s2 hf
        · refine x_aload_n X dX6_sweep_8 rfl 0 rfl ?_
          refine x_getf X fl_X6_7 (yM_0 Y) (yM_l Y 0 (by decide)) rfl dX6_sweep_9 ?_
          refine x_iload_n X dX6_sweep_12 rfl 1 rfl ?_
          refine x_bipush (v := 6) X dX6_sweep_13 (by decide) ?_
          refine x_iload_n X dX6_sweep_15 rfl 2 rfl ?_
          refine x_iadd X dX6_sweep_16 ?_
          refine x_callR (rest := [.ref (κ.S0 + (b + 1))]) X hf (fun r hr => x_cS X cm_X6_of lkS_X6_32 ⟨Nat.le_of_ble_eq_true rfl, Nat.le_of_ble_eq_true rfl⟩ (m_X6_of hr) rfl rfl (Nat.le_of_ble_eq_true rfl) (x_room E _) dX6_sweep_17) (fun r17 hf => ?_)
          refine x_bipush (v := (-5)) X dX6_sweep_20 (by decide) ?_
          refine x_iast (w := sA s2 1) X E.1 0 (yM_ht Y) (yM_1 Y) (yM_l Y 1 (by decide)) (yM_s1 Y) dX6_sweep_22 hf (fun s22 hf => ?_)
          refine x_iinc (v := v2_2 + 1) (lv' := [(2, .int (v2_2 + 1)), (0, .ref (κ.S0 + (b + 0))), (1, .int p1)]) X dX6_sweep_23 2 rfl rfl (by decide) rfl ?_
          refine x_goto (tgt := 2) X dX6_sweep_26 (by decide) ?_
          refine x_sub [1, 2, 0] rfl ?_
          exact ih2 (v2_2 + 1) s22 hf
    refine x_sub [1, 2, 0] rfl ?_
    exact LL FU 0 σ hf
def f_X6_ofWriter (p0 : Int32) (p1 : Int32) : Option (Int32) :=
  some ((186 + (2 * p0)) + p1)
set_option maxRecDepth 100000 in
set_option maxHeartbeats 4000000 in
theorem m_X6_ofWriter {l : Launch} {G : va_G} {tys : List (ClassId × FieldType)} {S0 : Nat} {h1 : Nat → va_E} {cN' : Nat} {p0 : Int32} {p1 : Int32} {r : Int32}  (hf : f_X6_ofWriter p0 p1 = some r) : XMet l G tys S0 cN' yX6_ofWriter cX6_ofWriter 2 (some .int) 0 0 [.int p0, .int p1] h1 cN' (some (.int r)) h1 0 0 := by
  refine XMet.ofE (ST := Unit) (HP := fun _ => h1) () () (by decide) (Nat.le_of_ble_eq_true rfl) ?_
  intro κ g1 g2 g3 g4 g5 g6 E X hQ
  subst g1; subst g2; subst g3; subst g4
  have X : XC κ cX6_ofWriter 2 RX6 (some .int) 0 0 := X
  show XG κ () 0 [(0, .int p0), (1, .int p1)] []
  unfold f_X6_ofWriter at hf
  refine x_sipush (v := 186) X dX6_ofWriter_0 (by decide) ?_
  refine x_iconst (v := 2) X dX6_ofWriter_3 (by decide) ?_
  refine x_iload_n X dX6_ofWriter_4 rfl 0 rfl ?_
  refine x_imul X dX6_ofWriter_5 ?_
  refine x_iadd X dX6_ofWriter_6 ?_
  refine x_iload_n X dX6_ofWriter_7 rfl 1 rfl ?_
  refine x_iadd X dX6_ofWriter_8 ?_
  exact x_iretR (σ0 := ()) X E hQ hf dX6_ofWriter_9
def f_X6_in (p0 : Int32) (p1 : Int32) (p2 : Int32) : Option (Int32) :=
  if p0 < p1 then (oB 0) else (if p2 < p0 then (oB 0) else (oB 1))
set_option maxRecDepth 100000 in
set_option maxHeartbeats 4000000 in
theorem m_X6_in {l : Launch} {G : va_G} {tys : List (ClassId × FieldType)} {S0 : Nat} {h1 : Nat → va_E} {cN' : Nat} {p0 : Int32} {p1 : Int32} {p2 : Int32} {r : Int32}  (hf : f_X6_in p0 p1 p2 = some r) : XMet l G tys S0 cN' yX6_in cX6_in 3 (some .boolean) 0 0 [.int p0, .int p1, .int p2] h1 cN' (some (.int r)) h1 0 0 := by
  refine XMet.ofE (ST := Unit) (HP := fun _ => h1) () () (by decide) (Nat.le_of_ble_eq_true rfl) ?_
  intro κ g1 g2 g3 g4 g5 g6 E X hQ
  subst g1; subst g2; subst g3; subst g4
  have X : XC κ cX6_in 3 RX6 (some .boolean) 0 0 := X
  show XG κ () 0 [(0, .int p0), (1, .int p1), (2, .int p2)] []
  unfold f_X6_in at hf
  refine x_iload_n X dX6_in_0 rfl 0 rfl ?_
  refine x_iload_n X dX6_in_1 rfl 1 rfl ?_
  refine x_icmp_lt (tgt := 14) X dX6_in_2 (by decide) hf (fun hf => ?_) (fun hf => ?_)
  · refine x_iconst (v := 0) X dX6_in_14 (by decide) ?_
    exact x_zretR (σ0 := ()) X E hQ hf dX6_in_15
  · refine x_iload_n X dX6_in_5 rfl 0 rfl ?_
    refine x_iload_n X dX6_in_6 rfl 2 rfl ?_
    refine x_icmp_gt (tgt := 14) X dX6_in_7 (by decide) hf (fun hf => ?_) (fun hf => ?_)
    · refine x_iconst (v := 0) X dX6_in_14 (by decide) ?_
      exact x_zretR (σ0 := ()) X E hQ hf dX6_in_15
    · refine x_iconst (v := 1) X dX6_in_10 (by decide) ?_
      refine x_goto (tgt := 15) X dX6_in_11 (by decide) ?_
      exact x_zretR (σ0 := ()) X E hQ hf dX6_in_15
def f_X6_isZone (p0 : Int32) : Option (Int32) :=
  oR (f_X6_in p0 0 7) (fun r4 => oB r4)
set_option maxRecDepth 100000 in
set_option maxHeartbeats 4000000 in
theorem m_X6_isZone {l : Launch} {G : va_G} {tys : List (ClassId × FieldType)} {S0 : Nat} {h1 : Nat → va_E} {cN' : Nat} {p0 : Int32} {r : Int32}  (hf : f_X6_isZone p0 = some r) : XMet l G tys S0 cN' yX6_isZone cX6_isZone 1 (some .boolean) 1 22 [.int p0] h1 cN' (some (.int r)) h1 0 0 := by
  refine XMet.ofE (ST := Unit) (HP := fun _ => h1) () () (by decide) (Nat.le_of_ble_eq_true rfl) ?_
  intro κ g1 g2 g3 g4 g5 g6 E X hQ
  subst g1; subst g2; subst g3; subst g4
  have X : XC κ cX6_isZone 1 RX6 (some .boolean) 1 22 := X
  show XG κ () 0 [(0, .int p0)] []
  unfold f_X6_isZone at hf
  refine x_iload_n X dX6_isZone_0 rfl 0 rfl ?_
  refine x_iconst (v := 0) X dX6_isZone_1 (by decide) ?_
  refine x_bipush (v := 7) X dX6_isZone_2 (by decide) ?_
  refine x_callR (rest := []) X hf (fun r hr => x_cS X cm_X6_in lkS_X6_43 ⟨Nat.le_of_ble_eq_true rfl, Nat.le_of_ble_eq_true rfl⟩ (m_X6_in hr) rfl rfl (Nat.le_of_ble_eq_true rfl) (x_room E _) dX6_isZone_4) (fun r4 hf => ?_)
  exact x_zretR (σ0 := ()) X E hQ hf dX6_isZone_7
def f_X6_isWriter (p0 : Int32) : Option (Int32) :=
  oR (f_X6_in p0 0 3) (fun r3 => oB r3)
set_option maxRecDepth 100000 in
set_option maxHeartbeats 4000000 in
theorem m_X6_isWriter {l : Launch} {G : va_G} {tys : List (ClassId × FieldType)} {S0 : Nat} {h1 : Nat → va_E} {cN' : Nat} {p0 : Int32} {r : Int32}  (hf : f_X6_isWriter p0 = some r) : XMet l G tys S0 cN' yX6_isWriter cX6_isWriter 1 (some .boolean) 1 22 [.int p0] h1 cN' (some (.int r)) h1 0 0 := by
  refine XMet.ofE (ST := Unit) (HP := fun _ => h1) () () (by decide) (Nat.le_of_ble_eq_true rfl) ?_
  intro κ g1 g2 g3 g4 g5 g6 E X hQ
  subst g1; subst g2; subst g3; subst g4
  have X : XC κ cX6_isWriter 1 RX6 (some .boolean) 1 22 := X
  show XG κ () 0 [(0, .int p0)] []
  unfold f_X6_isWriter at hf
  refine x_iload_n X dX6_isWriter_0 rfl 0 rfl ?_
  refine x_iconst (v := 0) X dX6_isWriter_1 (by decide) ?_
  refine x_iconst (v := 3) X dX6_isWriter_2 (by decide) ?_
  refine x_callR (rest := []) X hf (fun r hr => x_cS X cm_X6_in lkS_X6_43 ⟨Nat.le_of_ble_eq_true rfl, Nat.le_of_ble_eq_true rfl⟩ (m_X6_in hr) rfl rfl (Nat.le_of_ble_eq_true rfl) (x_room E _) dX6_isWriter_3) (fun r3 hf => ?_)
  exact x_zretR (σ0 := ()) X E hQ hf dX6_isWriter_6
def f_X6_isAppend (σ : MS) (p1 : Int32) : Option (Int32) :=
  oA 2204 (σ.1 1) 5 (fun x7 => oR (f_X6_in p1 0 (x7 - 1)) (fun r10 => oB r10))
set_option maxRecDepth 100000 in
set_option maxHeartbeats 4000000 in
theorem m_X6_isAppend {l : Launch} {G : va_G} {tys : List (ClassId × FieldType)} {S0 : Nat} {h h1 h2 : Nat → va_E} {b cN' : Nat} {cI cZ : ClassId} {σ : MS} {p1 : Int32} {r : Int32} (hb : b + 8 ≤ cN') (ht : tys[0]? = some (cI, .int)) (htz : tys[2]? = some (cZ, .boolean)) (e1 : h1 = ov h b (ml S0 cI cZ b σ)) (e2 : h2 = ov h b (ml S0 cI cZ b σ)) (hf : f_X6_isAppend σ p1 = some r) : XMet l G tys S0 cN' yX6_isAppend cX6_isAppend 2 (some .boolean) 1 22 [.ref (S0 + (b + 0)), .int p1] h1 cN' (some (.int r)) h2 0 0 := by
  subst e1; subst e2
  refine XMet.ofE (ST := MS) (HP := fun σ => ov h b (ml S0 cI cZ b σ)) σ σ (by decide) (Nat.le_of_ble_eq_true rfl) ?_
  intro κ g1 g2 g3 g4 g5 g6 E X hQ
  subst g1; subst g2; subst g3; subst g4
  have Y : YM κ h b cI cZ := ⟨fun σ => by rw [g5], fun σ => by rw [g6]; exact hb, ht, htz⟩
  have X : XC κ cX6_isAppend 2 RX6 (some .boolean) 1 22 := X
  show XG κ σ 0 [(0, .ref (κ.S0 + (b + 0))), (1, .int p1)] []
  unfold f_X6_isAppend at hf
  refine x_iload_n X dX6_isAppend_0 rfl 1 rfl ?_
  refine x_iconst (v := 0) X dX6_isAppend_1 (by decide) ?_
  refine x_aload_n X dX6_isAppend_2 rfl 0 rfl ?_
  refine x_getf X fl_X6_7 (yM_0 Y) (yM_l Y 0 (by decide)) rfl dX6_isAppend_3 ?_
  refine x_iconst (v := 5) X dX6_isAppend_6 (by decide) ?_
  refine x_iald X 0 (yM_ht Y) (yM_1 Y) (yM_l Y 1 (by decide)) dX6_isAppend_7 hf (fun x7 hf => ?_)
  refine x_iconst (v := 1) X dX6_isAppend_8 (by decide) ?_
  refine x_isub X dX6_isAppend_9 ?_
  refine x_callR (rest := []) X hf (fun r hr => x_cS X cm_X6_in lkS_X6_43 ⟨Nat.le_of_ble_eq_true rfl, Nat.le_of_ble_eq_true rfl⟩ (m_X6_in hr) rfl rfl (Nat.le_of_ble_eq_true rfl) (x_room E _) dX6_isAppend_10) (fun r10 hf => ?_)
  exact x_zretR (σ0 := σ) X E hQ hf dX6_isAppend_13
def f_X6_ofAppend (p0 : Int32) (p1 : Int32) : Option (Int32) :=
  some ((194 + (9 * p0)) + p1)
set_option maxRecDepth 100000 in
set_option maxHeartbeats 4000000 in
theorem m_X6_ofAppend {l : Launch} {G : va_G} {tys : List (ClassId × FieldType)} {S0 : Nat} {h1 : Nat → va_E} {cN' : Nat} {p0 : Int32} {p1 : Int32} {r : Int32}  (hf : f_X6_ofAppend p0 p1 = some r) : XMet l G tys S0 cN' yX6_ofAppend cX6_ofAppend 2 (some .int) 0 0 [.int p0, .int p1] h1 cN' (some (.int r)) h1 0 0 := by
  refine XMet.ofE (ST := Unit) (HP := fun _ => h1) () () (by decide) (Nat.le_of_ble_eq_true rfl) ?_
  intro κ g1 g2 g3 g4 g5 g6 E X hQ
  subst g1; subst g2; subst g3; subst g4
  have X : XC κ cX6_ofAppend 2 RX6 (some .int) 0 0 := X
  show XG κ () 0 [(0, .int p0), (1, .int p1)] []
  unfold f_X6_ofAppend at hf
  refine x_sipush (v := 194) X dX6_ofAppend_0 (by decide) ?_
  refine x_bipush (v := 9) X dX6_ofAppend_3 (by decide) ?_
  refine x_iload_n X dX6_ofAppend_5 rfl 0 rfl ?_
  refine x_imul X dX6_ofAppend_6 ?_
  refine x_iadd X dX6_ofAppend_7 ?_
  refine x_iload_n X dX6_ofAppend_8 rfl 1 rfl ?_
  refine x_iadd X dX6_ofAppend_9 ?_
  exact x_iretR (σ0 := ()) X E hQ hf dX6_ofAppend_10
def f_X6_know_L51  (kX51 : MS → Option (MS)) : Nat → Int32 → MS → Option (MS)
  | 0, _, _ => none
  | n + 1, v1_51, s51 =>
    if 2204 ≤ v1_51 then (kX51 s51) else (oA 2204 (s51.1 1) v1_51 (fun x77 => oS 8816 (s51.1 3) ((2204 * (s51.2 0)) + v1_51) x77 (sA s51 3) (fun s78 => f_X6_know_L51 kX51 n (v1_51 + 1) s78)))
def f_X6_know_L10  (kX10 : MS → Option (MS)) : Nat → Int32 → MS → Option (MS)
  | 0, _, _ => none
  | n + 1, v1_10, s10 =>
    if 6612 ≤ v1_10 then (kX10 s10) else (oA 8816 (s10.1 3) (2204 + v1_10) (fun x31 => oS 8816 (s10.1 3) v1_10 x31 (sA s10 3) (fun s32 => f_X6_know_L10 kX10 n (v1_10 + 1) s32)))
def f_X6_know (σ : MS)  : Option (MS) :=
  oJ (κ := MS → Option (MS)) (fun s_49 => f_X6_know_L51 (fun sx85 => oN ((sx85.2 0) + 1) (sN sx85 0) (fun s92 => some s92)) FU 0 s_49) (fun k49 => if (σ.2 0) = 4 then (f_X6_know_L10 (fun sx39 => oN ((sx39.2 0) - 1) (sN sx39 0) (fun s46 => k49 s46)) FU 0 σ) else (k49 σ))
set_option maxRecDepth 100000 in
set_option maxHeartbeats 4000000 in
theorem m_X6_know {l : Launch} {G : va_G} {tys : List (ClassId × FieldType)} {S0 : Nat} {h h1 h2 : Nat → va_E} {b cN' : Nat} {cI cZ : ClassId} {σ : MS} {τ : MS}  (hb : b + 8 ≤ cN') (ht : tys[0]? = some (cI, .int)) (htz : tys[2]? = some (cZ, .boolean)) (e1 : h1 = ov h b (ml S0 cI cZ b σ)) (e2 : h2 = ov h b (ml S0 cI cZ b τ)) (hf : f_X6_know σ = some τ) : XMet l G tys S0 cN' yX6_know cX6_know 2 none 0 0 [.ref (S0 + (b + 0))] h1 cN' none h2 0 0 := by
  subst e1; subst e2
  refine XMet.ofE (ST := MS) (HP := fun σ => ov h b (ml S0 cI cZ b σ)) σ τ (by decide) (Nat.le_of_ble_eq_true rfl) ?_
  intro κ g1 g2 g3 g4 g5 g6 E X hQ
  subst g1; subst g2; subst g3; subst g4
  have Y : YM κ h b cI cZ := ⟨fun σ => by rw [g5], fun σ => by rw [g6]; exact hb, ht, htz⟩
  have X : XC κ cX6_know 2 RX6 none 0 0 := X
  show XG κ σ 0 [(0, .ref (κ.S0 + (b + 0)))] []
  unfold f_X6_know at hf
  refine x_aload_n X dX6_know_0 rfl 0 rfl ?_
  refine x_getf X fl_X6_47 (yM_0 Y) (yM_l Y 0 (by decide)) rfl dX6_know_1 ?_
  refine x_iconst (v := 4) X dX6_know_4 (by decide) ?_
  refine x_join (fun k49 => ∀  (s_49 : MS), k49 s_49 = some τ → XG κ s_49 49 [(0, .ref (κ.S0 + (b + 0)))] []) hf (fun s_49 hf => ?_) (fun k49 J49 hf => ?_)
  · refine x_iconst (v := 0) X dX6_know_49 (by decide) ?_
    refine x_istore_n (lv' := [(1, .int 0), (0, .ref (κ.S0 + (b + 0)))]) X dX6_know_50 rfl (by decide) rfl ?_
    refine x_kont (b := fun kX51 => f_X6_know_L51 kX51 FU 0 s_49) (fun kX51 => ∀  (sx85 : MS), kX51 sx85 = some τ → XG κ sx85 85 [(0, .ref (κ.S0 + (b + 0)))] []) hf (fun sx85 hf => ?_) (fun kX51 JX51 hf => ?_)
    · refine x_aload_n X dX6_know_85 rfl 0 rfl ?_
      refine x_dup X dX6_know_86 rfl ?_
      refine x_getf X fl_X6_47 (yM_0 Y) (yM_l Y 0 (by decide)) rfl dX6_know_87 ?_
      refine x_iconst (v := 1) X dX6_know_90 (by decide) ?_
      refine x_iadd X dX6_know_91 ?_
      refine x_putI (w := sN sx85 0) X E.1 fp_X6_47 (yM_0 Y) (yM_l Y 0 (by decide)) (Nat.le_of_ble_eq_true rfl) (yM_p0_3 Y) dX6_know_92 hf (fun s92 hf => ?_)
      exact x_vretV (σ0 := σ) X E hQ hf dX6_know_95
    · have LL : ∀ (n : Nat) (v1_51 : Int32) (s51 : MS), f_X6_know_L51 kX51 n v1_51 s51 = some τ → XG κ s51 51 [(0, .ref (κ.S0 + (b + 0))), (1, .int v1_51)] [] := by
        intro n
        induction n with
        | zero => intro v1_51 s51 hf; rw [f_X6_know_L51] at hf; cases hf
        | succ n ih51 =>
          intro v1_51 s51 hf
          rw [f_X6_know_L51] at hf
          refine x_iload_n X dX6_know_51 rfl 1 rfl ?_
          refine x_sipush (v := 2204) X dX6_know_52 (by decide) ?_
          refine x_icmp_ge (tgt := 85) X dX6_know_55 (by decide) hf (fun hf => ?_) (fun hf => ?_)
          · refine x_sub [0] rfl ?_
            exact JX51 s51 hf
          · refine x_aload_n X dX6_know_58 rfl 0 rfl ?_
            refine x_getf X fl_X6_16 (yM_0 Y) (yM_l Y 0 (by decide)) rfl dX6_know_59 ?_
            refine x_sipush (v := 2204) X dX6_know_62 (by decide) ?_
            refine x_aload_n X dX6_know_65 rfl 0 rfl ?_
            refine x_getf X fl_X6_47 (yM_0 Y) (yM_l Y 0 (by decide)) rfl dX6_know_66 ?_
            refine x_imul X dX6_know_69 ?_
            refine x_iload_n X dX6_know_70 rfl 1 rfl ?_
            refine x_iadd X dX6_know_71 ?_
            refine x_aload_n X dX6_know_72 rfl 0 rfl ?_
            refine x_getf X fl_X6_7 (yM_0 Y) (yM_l Y 0 (by decide)) rfl dX6_know_73 ?_
            refine x_iload_n X dX6_know_76 rfl 1 rfl ?_
            refine x_iald X 0 (yM_ht Y) (yM_1 Y) (yM_l Y 1 (by decide)) dX6_know_77 hf (fun x77 hf => ?_)
            refine x_iast (w := sA s51 3) X E.1 0 (yM_ht Y) (yM_3 Y) (yM_l Y 3 (by decide)) (yM_s3 Y) dX6_know_78 hf (fun s78 hf => ?_)
            refine x_iinc (v := v1_51 + 1) (lv' := [(1, .int (v1_51 + 1)), (0, .ref (κ.S0 + (b + 0)))]) X dX6_know_79 1 rfl rfl (by decide) rfl ?_
            refine x_goto (tgt := 51) X dX6_know_82 (by decide) ?_
            refine x_sub [1, 0] rfl ?_
            exact ih51 (v1_51 + 1) s78 hf
      refine x_sub [1, 0] rfl ?_
      exact LL FU 0 s_49 hf
  · refine x_icmp_ne (tgt := 49) X dX6_know_5 (by decide) hf (fun hf => ?_) (fun hf => ?_)
    · exact J49 σ hf
    · refine x_iconst (v := 0) X dX6_know_8 (by decide) ?_
      refine x_istore_n (lv' := [(1, .int 0), (0, .ref (κ.S0 + (b + 0)))]) X dX6_know_9 rfl (by decide) rfl ?_
      refine x_kont (b := fun kX10 => f_X6_know_L10 kX10 FU 0 σ) (fun kX10 => ∀  (sx39 : MS), kX10 sx39 = some τ → XG κ sx39 39 [(0, .ref (κ.S0 + (b + 0)))] []) hf (fun sx39 hf => ?_) (fun kX10 JX10 hf => ?_)
      · refine x_aload_n X dX6_know_39 rfl 0 rfl ?_
        refine x_dup X dX6_know_40 rfl ?_
        refine x_getf X fl_X6_47 (yM_0 Y) (yM_l Y 0 (by decide)) rfl dX6_know_41 ?_
        refine x_iconst (v := 1) X dX6_know_44 (by decide) ?_
        refine x_isub X dX6_know_45 ?_
        refine x_putI (w := sN sx39 0) X E.1 fp_X6_47 (yM_0 Y) (yM_l Y 0 (by decide)) (Nat.le_of_ble_eq_true rfl) (yM_p0_3 Y) dX6_know_46 hf (fun s46 hf => ?_)
        exact J49 s46 hf
      · have LL : ∀ (n : Nat) (v1_10 : Int32) (s10 : MS), f_X6_know_L10 kX10 n v1_10 s10 = some τ → XG κ s10 10 [(0, .ref (κ.S0 + (b + 0))), (1, .int v1_10)] [] := by
          intro n
          induction n with
          | zero => intro v1_10 s10 hf; rw [f_X6_know_L10] at hf; cases hf
          | succ n ih10 =>
            intro v1_10 s10 hf
            rw [f_X6_know_L10] at hf
            refine x_iload_n X dX6_know_10 rfl 1 rfl ?_
            refine x_sipush (v := 6612) X dX6_know_11 (by decide) ?_
            refine x_icmp_ge (tgt := 39) X dX6_know_14 (by decide) hf (fun hf => ?_) (fun hf => ?_)
            · refine x_sub [0] rfl ?_
              exact JX10 s10 hf
            · refine x_aload_n X dX6_know_17 rfl 0 rfl ?_
              refine x_getf X fl_X6_16 (yM_0 Y) (yM_l Y 0 (by decide)) rfl dX6_know_18 ?_
              refine x_iload_n X dX6_know_21 rfl 1 rfl ?_
              refine x_aload_n X dX6_know_22 rfl 0 rfl ?_
              refine x_getf X fl_X6_16 (yM_0 Y) (yM_l Y 0 (by decide)) rfl dX6_know_23 ?_
              refine x_sipush (v := 2204) X dX6_know_26 (by decide) ?_
              refine x_iload_n X dX6_know_29 rfl 1 rfl ?_
              refine x_iadd X dX6_know_30 ?_
              refine x_iald X 0 (yM_ht Y) (yM_3 Y) (yM_l Y 3 (by decide)) dX6_know_31 hf (fun x31 hf => ?_)
              refine x_iast (w := sA s10 3) X E.1 0 (yM_ht Y) (yM_3 Y) (yM_l Y 3 (by decide)) (yM_s3 Y) dX6_know_32 hf (fun s32 hf => ?_)
              refine x_iinc (v := v1_10 + 1) (lv' := [(1, .int (v1_10 + 1)), (0, .ref (κ.S0 + (b + 0)))]) X dX6_know_33 1 rfl rfl (by decide) rfl ?_
              refine x_goto (tgt := 10) X dX6_know_36 (by decide) ?_
              refine x_sub [1, 0] rfl ?_
              exact ih10 (v1_10 + 1) s32 hf
        refine x_sub [1, 0] rfl ?_
        exact LL FU 0 σ hf
def f_X6_putAside_L2  (kX2 : MS → Option (MS)) : Nat → Int32 → MS → Option (MS)
  | 0, _, _ => none
  | n + 1, v1_2, s2 =>
    if 2204 ≤ v1_2 then (kX2 s2) else (oA 2204 (s2.1 1) v1_2 (fun x19 => oS 2204 (s2.1 2) v1_2 x19 (sA s2 2) (fun s20 => f_X6_putAside_L2 kX2 n (v1_2 + 1) s20)))
def f_X6_putAside (σ : MS)  : Option (MS) :=
  f_X6_putAside_L2 (fun sx27 => some sx27) FU 0 σ
set_option maxRecDepth 100000 in
set_option maxHeartbeats 4000000 in
theorem m_X6_putAside {l : Launch} {G : va_G} {tys : List (ClassId × FieldType)} {S0 : Nat} {h h1 h2 : Nat → va_E} {b cN' : Nat} {cI cZ : ClassId} {σ : MS} {τ : MS}  (hb : b + 8 ≤ cN') (ht : tys[0]? = some (cI, .int)) (htz : tys[2]? = some (cZ, .boolean)) (e1 : h1 = ov h b (ml S0 cI cZ b σ)) (e2 : h2 = ov h b (ml S0 cI cZ b τ)) (hf : f_X6_putAside σ = some τ) : XMet l G tys S0 cN' yX6_putAside cX6_putAside 2 none 0 0 [.ref (S0 + (b + 0))] h1 cN' none h2 0 0 := by
  subst e1; subst e2
  refine XMet.ofE (ST := MS) (HP := fun σ => ov h b (ml S0 cI cZ b σ)) σ τ (by decide) (Nat.le_of_ble_eq_true rfl) ?_
  intro κ g1 g2 g3 g4 g5 g6 E X hQ
  subst g1; subst g2; subst g3; subst g4
  have Y : YM κ h b cI cZ := ⟨fun σ => by rw [g5], fun σ => by rw [g6]; exact hb, ht, htz⟩
  have X : XC κ cX6_putAside 2 RX6 none 0 0 := X
  show XG κ σ 0 [(0, .ref (κ.S0 + (b + 0)))] []
  unfold f_X6_putAside at hf
  refine x_iconst (v := 0) X dX6_putAside_0 (by decide) ?_
  refine x_istore_n (lv' := [(1, .int 0), (0, .ref (κ.S0 + (b + 0)))]) X dX6_putAside_1 rfl (by decide) rfl ?_
  refine x_kont (b := fun kX2 => f_X6_putAside_L2 kX2 FU 0 σ) (fun kX2 => ∀  (sx27 : MS), kX2 sx27 = some τ → XG κ sx27 27 [] []) hf (fun sx27 hf => ?_) (fun kX2 JX2 hf => ?_)
  · exact x_vretV (σ0 := σ) X E hQ hf dX6_putAside_27
  · have LL : ∀ (n : Nat) (v1_2 : Int32) (s2 : MS), f_X6_putAside_L2 kX2 n v1_2 s2 = some τ → XG κ s2 2 [(0, .ref (κ.S0 + (b + 0))), (1, .int v1_2)] [] := by
      intro n
      induction n with
      | zero => intro v1_2 s2 hf; rw [f_X6_putAside_L2] at hf; cases hf
      | succ n ih2 =>
        intro v1_2 s2 hf
        rw [f_X6_putAside_L2] at hf
        refine x_iload_n X dX6_putAside_2 rfl 1 rfl ?_
        refine x_sipush (v := 2204) X dX6_putAside_3 (by decide) ?_
        refine x_icmp_ge (tgt := 27) X dX6_putAside_6 (by decide) hf (fun hf => ?_) (fun hf => ?_)
        · refine x_sub [] rfl ?_
          exact JX2 s2 hf
        · refine x_aload_n X dX6_putAside_9 rfl 0 rfl ?_
          refine x_getf X fl_X6_13 (yM_0 Y) (yM_l Y 0 (by decide)) rfl dX6_putAside_10 ?_
          refine x_iload_n X dX6_putAside_13 rfl 1 rfl ?_
          refine x_aload_n X dX6_putAside_14 rfl 0 rfl ?_
          refine x_getf X fl_X6_7 (yM_0 Y) (yM_l Y 0 (by decide)) rfl dX6_putAside_15 ?_
          refine x_iload_n X dX6_putAside_18 rfl 1 rfl ?_
          refine x_iald X 0 (yM_ht Y) (yM_1 Y) (yM_l Y 1 (by decide)) dX6_putAside_19 hf (fun x19 hf => ?_)
          refine x_iast (w := sA s2 2) X E.1 0 (yM_ht Y) (yM_2 Y) (yM_l Y 2 (by decide)) (yM_s2 Y) dX6_putAside_20 hf (fun s20 hf => ?_)
          refine x_iinc (v := v1_2 + 1) (lv' := [(1, .int (v1_2 + 1)), (0, .ref (κ.S0 + (b + 0)))]) X dX6_putAside_21 1 rfl rfl (by decide) rfl ?_
          refine x_goto (tgt := 2) X dX6_putAside_24 (by decide) ?_
          refine x_sub [1, 0] rfl ?_
          exact ih2 (v1_2 + 1) s20 hf
    refine x_sub [1, 0] rfl ?_
    exact LL FU 0 σ hf
def f_X6_putBack_L2  (kX2 : MS → Option (MS)) : Nat → Int32 → MS → Option (MS)
  | 0, _, _ => none
  | n + 1, v1_2, s2 =>
    if 2204 ≤ v1_2 then (kX2 s2) else (oA 2204 (s2.1 2) v1_2 (fun x19 => oS 2204 (s2.1 1) v1_2 x19 (sA s2 1) (fun s20 => f_X6_putBack_L2 kX2 n (v1_2 + 1) s20)))
def f_X6_putBack (σ : MS)  : Option (MS) :=
  f_X6_putBack_L2 (fun sx27 => some sx27) FU 0 σ
set_option maxRecDepth 100000 in
set_option maxHeartbeats 4000000 in
theorem m_X6_putBack {l : Launch} {G : va_G} {tys : List (ClassId × FieldType)} {S0 : Nat} {h h1 h2 : Nat → va_E} {b cN' : Nat} {cI cZ : ClassId} {σ : MS} {τ : MS}  (hb : b + 8 ≤ cN') (ht : tys[0]? = some (cI, .int)) (htz : tys[2]? = some (cZ, .boolean)) (e1 : h1 = ov h b (ml S0 cI cZ b σ)) (e2 : h2 = ov h b (ml S0 cI cZ b τ)) (hf : f_X6_putBack σ = some τ) : XMet l G tys S0 cN' yX6_putBack cX6_putBack 2 none 0 0 [.ref (S0 + (b + 0))] h1 cN' none h2 0 0 := by
  subst e1; subst e2
  refine XMet.ofE (ST := MS) (HP := fun σ => ov h b (ml S0 cI cZ b σ)) σ τ (by decide) (Nat.le_of_ble_eq_true rfl) ?_
  intro κ g1 g2 g3 g4 g5 g6 E X hQ
  subst g1; subst g2; subst g3; subst g4
  have Y : YM κ h b cI cZ := ⟨fun σ => by rw [g5], fun σ => by rw [g6]; exact hb, ht, htz⟩
  have X : XC κ cX6_putBack 2 RX6 none 0 0 := X
  show XG κ σ 0 [(0, .ref (κ.S0 + (b + 0)))] []
  unfold f_X6_putBack at hf
  refine x_iconst (v := 0) X dX6_putBack_0 (by decide) ?_
  refine x_istore_n (lv' := [(1, .int 0), (0, .ref (κ.S0 + (b + 0)))]) X dX6_putBack_1 rfl (by decide) rfl ?_
  refine x_kont (b := fun kX2 => f_X6_putBack_L2 kX2 FU 0 σ) (fun kX2 => ∀  (sx27 : MS), kX2 sx27 = some τ → XG κ sx27 27 [] []) hf (fun sx27 hf => ?_) (fun kX2 JX2 hf => ?_)
  · exact x_vretV (σ0 := σ) X E hQ hf dX6_putBack_27
  · have LL : ∀ (n : Nat) (v1_2 : Int32) (s2 : MS), f_X6_putBack_L2 kX2 n v1_2 s2 = some τ → XG κ s2 2 [(0, .ref (κ.S0 + (b + 0))), (1, .int v1_2)] [] := by
      intro n
      induction n with
      | zero => intro v1_2 s2 hf; rw [f_X6_putBack_L2] at hf; cases hf
      | succ n ih2 =>
        intro v1_2 s2 hf
        rw [f_X6_putBack_L2] at hf
        refine x_iload_n X dX6_putBack_2 rfl 1 rfl ?_
        refine x_sipush (v := 2204) X dX6_putBack_3 (by decide) ?_
        refine x_icmp_ge (tgt := 27) X dX6_putBack_6 (by decide) hf (fun hf => ?_) (fun hf => ?_)
        · refine x_sub [] rfl ?_
          exact JX2 s2 hf
        · refine x_aload_n X dX6_putBack_9 rfl 0 rfl ?_
          refine x_getf X fl_X6_7 (yM_0 Y) (yM_l Y 0 (by decide)) rfl dX6_putBack_10 ?_
          refine x_iload_n X dX6_putBack_13 rfl 1 rfl ?_
          refine x_aload_n X dX6_putBack_14 rfl 0 rfl ?_
          refine x_getf X fl_X6_13 (yM_0 Y) (yM_l Y 0 (by decide)) rfl dX6_putBack_15 ?_
          refine x_iload_n X dX6_putBack_18 rfl 1 rfl ?_
          refine x_iald X 0 (yM_ht Y) (yM_2 Y) (yM_l Y 2 (by decide)) dX6_putBack_19 hf (fun x19 hf => ?_)
          refine x_iast (w := sA s2 1) X E.1 0 (yM_ht Y) (yM_1 Y) (yM_l Y 1 (by decide)) (yM_s1 Y) dX6_putBack_20 hf (fun s20 hf => ?_)
          refine x_iinc (v := v1_2 + 1) (lv' := [(1, .int (v1_2 + 1)), (0, .ref (κ.S0 + (b + 0)))]) X dX6_putBack_21 1 rfl rfl (by decide) rfl ?_
          refine x_goto (tgt := 2) X dX6_putBack_24 (by decide) ?_
          refine x_sub [1, 0] rfl ?_
          exact ih2 (v1_2 + 1) s20 hf
    refine x_sub [1, 0] rfl ?_
    exact LL FU 0 σ hf
def f_X6_change (σ : MS) (p1 : Int32) (p2 : Int32) : Option (Int32 × MS) :=
  oA 2204 (σ.1 1) p1 (fun x5 => if x5 = p2 then (some ((-5), σ)) else (oV (f_X6_know σ) (fun t => t) (fun s16 => oS 2204 (s16.1 1) p1 p2 (sA s16 1) (fun s25 => some (x5, s25)))))
set_option maxRecDepth 100000 in
set_option maxHeartbeats 4000000 in
theorem m_X6_change {l : Launch} {G : va_G} {tys : List (ClassId × FieldType)} {S0 : Nat} {h h1 h2 : Nat → va_E} {b cN' : Nat} {cI cZ : ClassId} {σ : MS} {τ : MS} {p1 : Int32} {p2 : Int32} {r : Int32} (hb : b + 8 ≤ cN') (ht : tys[0]? = some (cI, .int)) (htz : tys[2]? = some (cZ, .boolean)) (e1 : h1 = ov h b (ml S0 cI cZ b σ)) (e2 : h2 = ov h b (ml S0 cI cZ b τ)) (hf : f_X6_change σ p1 p2 = some (r, τ)) : XMet l G tys S0 cN' yX6_change cX6_change 4 (some .int) 1 21 [.ref (S0 + (b + 0)), .int p1, .int p2] h1 cN' (some (.int r)) h2 0 0 := by
  subst e1; subst e2
  refine XMet.ofE (ST := MS) (HP := fun σ => ov h b (ml S0 cI cZ b σ)) σ τ (by decide) (Nat.le_of_ble_eq_true rfl) ?_
  intro κ g1 g2 g3 g4 g5 g6 E X hQ
  subst g1; subst g2; subst g3; subst g4
  have Y : YM κ h b cI cZ := ⟨fun σ => by rw [g5], fun σ => by rw [g6]; exact hb, ht, htz⟩
  have X : XC κ cX6_change 4 RX6 (some .int) 1 21 := X
  show XG κ σ 0 [(0, .ref (κ.S0 + (b + 0))), (1, .int p1), (2, .int p2)] []
  unfold f_X6_change at hf
  refine x_aload_n X dX6_change_0 rfl 0 rfl ?_
  refine x_getf X fl_X6_7 (yM_0 Y) (yM_l Y 0 (by decide)) rfl dX6_change_1 ?_
  refine x_iload_n X dX6_change_4 rfl 1 rfl ?_
  refine x_iald X 0 (yM_ht Y) (yM_1 Y) (yM_l Y 1 (by decide)) dX6_change_5 hf (fun x5 hf => ?_)
  refine x_istore_n (lv' := [(3, .int x5), (0, .ref (κ.S0 + (b + 0))), (1, .int p1), (2, .int p2)]) X dX6_change_6 rfl (by decide) rfl ?_
  refine x_iload_n X dX6_change_7 rfl 0 rfl ?_
  refine x_iload_n X dX6_change_8 rfl 3 rfl ?_
  refine x_icmp_ne (tgt := 15) X dX6_change_9 (by decide) hf (fun hf => ?_) (fun hf => ?_)
  · refine x_aload_n X dX6_change_15 rfl 1 rfl ?_
    refine x_callV (rest := []) (w := fun t => t) X E.1 hf (fun t hr => x_cV (ci := 6) X cm_X6_know lkV_X6_51 rfl ⟨Nat.le_of_ble_eq_true rfl, Nat.le_of_ble_eq_true rfl⟩ (yM_0 Y) (yM_l Y 0 (by decide)) (m_X6_know (yM_hb Y σ) (yM_ht Y) (yM_htz Y) (yM_hp Y _) (yM_hp Y _) hr) rfl rfl (Nat.le_of_ble_eq_true rfl) (x_room E _) dX6_change_16) (fun s16 hf => ?_)
    refine x_aload_n X dX6_change_19 rfl 1 rfl ?_
    refine x_getf X fl_X6_7 (yM_0 Y) (yM_l Y 0 (by decide)) rfl dX6_change_20 ?_
    refine x_iload_n X dX6_change_23 rfl 2 rfl ?_
    refine x_iload_n X dX6_change_24 rfl 3 rfl ?_
    refine x_iast (w := sA s16 1) X E.1 0 (yM_ht Y) (yM_1 Y) (yM_l Y 1 (by decide)) (yM_s1 Y) dX6_change_25 hf (fun s25 hf => ?_)
    refine x_iload_n X dX6_change_26 rfl 0 rfl ?_
    exact x_iretW (σ0 := σ) X E hQ hf dX6_change_27
  · refine x_bipush (v := (-5)) X dX6_change_12 (by decide) ?_
    exact x_iretW (σ0 := σ) X E hQ hf dX6_change_14
def f_X6_zones_L4 (σ : MS) (p1 : Int32) (kX4 : Int32 → Option (Int32)) : Nat → Int32 → Int32 → Option (Int32)
  | 0, _, _ => none
  | n + 1, v2_4, v3_4 =>
    if 8 ≤ v3_4 then (kX4 v2_4) else (oR (f_X6_of v3_4 0) (fun r17 => oA 2204 (σ.1 1) r17 (fun x20 => oJ (κ := Int32 → Option (Int32)) (fun t0_48 => f_X6_zones_L4 σ p1 kX4 n (v2_4 + t0_48) (v3_4 + 1)) (fun k48 => oJ (κ := Option (Int32)) (k48 1) (fun k43 => if x20 = 1 then k43 else (oJ (κ := Option (Int32)) (k48 0) (fun k47 => if p1 = 0 then k47 else (oR (f_X6_of v3_4 0) (fun r35 => oA 2204 (σ.1 1) r35 (fun x38 => if x38 = 2 then k43 else k47))))))))))
def f_X6_zones (σ : MS) (p1 : Int32) : Option (Int32) :=
  f_X6_zones_L4 σ p1 (fun w2_56 => some w2_56) FU 0 0
set_option maxRecDepth 100000 in
set_option maxHeartbeats 4000000 in
theorem m_X6_zones {l : Launch} {G : va_G} {tys : List (ClassId × FieldType)} {S0 : Nat} {h h1 h2 : Nat → va_E} {b cN' : Nat} {cI cZ : ClassId} {σ : MS} {p1 : Int32} {r : Int32} (hb : b + 8 ≤ cN') (ht : tys[0]? = some (cI, .int)) (htz : tys[2]? = some (cZ, .boolean)) (e1 : h1 = ov h b (ml S0 cI cZ b σ)) (e2 : h2 = ov h b (ml S0 cI cZ b σ)) (hf : f_X6_zones σ p1 = some r) : XMet l G tys S0 cN' yX6_zones cX6_zones 4 (some .int) 1 21 [.ref (S0 + (b + 0)), .int p1] h1 cN' (some (.int r)) h2 0 0 := by
  subst e1; subst e2
  refine XMet.ofE (ST := MS) (HP := fun σ => ov h b (ml S0 cI cZ b σ)) σ σ (by decide) (Nat.le_of_ble_eq_true rfl) ?_
  intro κ g1 g2 g3 g4 g5 g6 E X hQ
  subst g1; subst g2; subst g3; subst g4
  have Y : YM κ h b cI cZ := ⟨fun σ => by rw [g5], fun σ => by rw [g6]; exact hb, ht, htz⟩
  have X : XC κ cX6_zones 4 RX6 (some .int) 1 21 := X
  show XG κ σ 0 [(0, .ref (κ.S0 + (b + 0))), (1, .int p1)] []
  unfold f_X6_zones at hf
  refine x_iconst (v := 0) X dX6_zones_0 (by decide) ?_
  refine x_istore_n (lv' := [(2, .int 0), (0, .ref (κ.S0 + (b + 0))), (1, .int p1)]) X dX6_zones_1 rfl (by decide) rfl ?_
  refine x_iconst (v := 0) X dX6_zones_2 (by decide) ?_
  refine x_istore_n (lv' := [(3, .int 0), (2, .int 0), (0, .ref (κ.S0 + (b + 0))), (1, .int p1)]) X dX6_zones_3 rfl (by decide) rfl ?_
  refine x_kont (b := fun kX4 => f_X6_zones_L4 σ p1 kX4 FU 0 0) (fun kX4 => ∀ (w2_56 : Int32), kX4 w2_56 = some r → XG κ σ 56 [(2, .int w2_56)] []) hf (fun w2_56 hf => ?_) (fun kX4 JX4 hf => ?_)
  · refine x_iload_n X dX6_zones_56 rfl 0 rfl ?_
    exact x_iretR (σ0 := σ) X E hQ hf dX6_zones_57
  · have LL : ∀ (n : Nat) (v2_4 : Int32) (v3_4 : Int32), f_X6_zones_L4 σ p1 kX4 n v2_4 v3_4 = some r → XG κ σ 4 [(0, .ref (κ.S0 + (b + 0))), (1, .int p1), (2, .int v2_4), (3, .int v3_4)] [] := by
      intro n
      induction n with
      | zero => intro v2_4 v3_4 hf; rw [f_X6_zones_L4] at hf; cases hf
      | succ n ih4 =>
        intro v2_4 v3_4 hf
        rw [f_X6_zones_L4] at hf
        refine x_iload_n X dX6_zones_4 rfl 3 rfl ?_
        refine x_bipush (v := 8) X dX6_zones_5 (by decide) ?_
        refine x_icmp_ge (tgt := 56) X dX6_zones_7 (by decide) hf (fun hf => ?_) (fun hf => ?_)
        · refine x_sub [2] rfl ?_
          exact JX4 v2_4 hf
        · refine x_iload_n X dX6_zones_10 rfl 2 rfl ?_
          refine x_aload_n X dX6_zones_11 rfl 0 rfl ?_
          refine x_getf X fl_X6_7 (yM_0 Y) (yM_l Y 0 (by decide)) rfl dX6_zones_12 ?_
          refine x_iload_n X dX6_zones_15 rfl 3 rfl ?_
          refine x_iconst (v := 0) X dX6_zones_16 (by decide) ?_
          refine x_callR (rest := [.ref (κ.S0 + (b + 1)), .int v2_4]) X hf (fun r hr => x_cS X cm_X6_of lkS_X6_32 ⟨Nat.le_of_ble_eq_true rfl, Nat.le_of_ble_eq_true rfl⟩ (m_X6_of hr) rfl rfl (Nat.le_of_ble_eq_true rfl) (x_room E _) dX6_zones_17) (fun r17 hf => ?_)
          refine x_iald X 0 (yM_ht Y) (yM_1 Y) (yM_l Y 1 (by decide)) dX6_zones_20 hf (fun x20 hf => ?_)
          refine x_iconst (v := 1) X dX6_zones_21 (by decide) ?_
          refine x_join (fun k48 => ∀ (t0_48 : Int32), k48 t0_48 = some r → XG κ σ 48 [(0, .ref (κ.S0 + (b + 0))), (1, .int p1), (3, .int v3_4)] [.int t0_48, .int v2_4]) hf (fun t0_48 hf => ?_) (fun k48 J48 hf => ?_)
          · refine x_iadd X dX6_zones_48 ?_
            refine x_istore_n (lv' := [(2, .int (v2_4 + t0_48)), (0, .ref (κ.S0 + (b + 0))), (1, .int p1), (3, .int v3_4)]) X dX6_zones_49 rfl (by decide) rfl ?_
            refine x_iinc (v := v3_4 + 1) (lv' := [(3, .int (v3_4 + 1)), (2, .int (v2_4 + t0_48)), (0, .ref (κ.S0 + (b + 0))), (1, .int p1)]) X dX6_zones_50 3 rfl rfl (by decide) rfl ?_
            refine x_goto (tgt := 4) X dX6_zones_53 (by decide) ?_
            refine x_sub [2, 3, 1, 0] rfl ?_
            exact ih4 (v2_4 + t0_48) (v3_4 + 1) hf
          · refine x_join (fun k43 => k43 = some r → XG κ σ 43 [(0, .ref (κ.S0 + (b + 0))), (1, .int p1), (3, .int v3_4)] [.int v2_4]) hf (fun hf => ?_) (fun k43 J43 hf => ?_)
            · refine x_iconst (v := 1) X dX6_zones_43 (by decide) ?_
              refine x_goto (tgt := 48) X dX6_zones_44 (by decide) ?_
              exact J48 1 hf
            · refine x_icmp_eq (tgt := 43) X dX6_zones_22 (by decide) hf (fun hf => ?_) (fun hf => ?_)
              · refine x_sub [0, 1, 3] rfl ?_
                exact J43 hf
              · refine x_iload_n X dX6_zones_25 rfl 1 rfl ?_
                refine x_join (fun k47 => k47 = some r → XG κ σ 47 [(0, .ref (κ.S0 + (b + 0))), (1, .int p1), (3, .int v3_4)] [.int v2_4]) hf (fun hf => ?_) (fun k47 J47 hf => ?_)
                · refine x_iconst (v := 0) X dX6_zones_47 (by decide) ?_
                  exact J48 0 hf
                · refine x_if_eq (tgt := 47) X dX6_zones_26 (by decide) hf (fun hf => ?_) (fun hf => ?_)
                  · refine x_sub [0, 1, 3] rfl ?_
                    exact J47 hf
                  · refine x_aload_n X dX6_zones_29 rfl 0 rfl ?_
                    refine x_getf X fl_X6_7 (yM_0 Y) (yM_l Y 0 (by decide)) rfl dX6_zones_30 ?_
                    refine x_iload_n X dX6_zones_33 rfl 3 rfl ?_
                    refine x_iconst (v := 0) X dX6_zones_34 (by decide) ?_
                    refine x_callR (rest := [.ref (κ.S0 + (b + 1)), .int v2_4]) X hf (fun r hr => x_cS X cm_X6_of lkS_X6_32 ⟨Nat.le_of_ble_eq_true rfl, Nat.le_of_ble_eq_true rfl⟩ (m_X6_of hr) rfl rfl (Nat.le_of_ble_eq_true rfl) (x_room E _) dX6_zones_35) (fun r35 hf => ?_)
                    refine x_iald X 0 (yM_ht Y) (yM_1 Y) (yM_l Y 1 (by decide)) dX6_zones_38 hf (fun x38 hf => ?_)
                    refine x_iconst (v := 2) X dX6_zones_39 (by decide) ?_
                    refine x_icmp_ne (tgt := 47) X dX6_zones_40 (by decide) hf (fun hf => ?_) (fun hf => ?_)
                    · refine x_sub [0, 1, 3] rfl ?_
                      exact J47 hf
                    · refine x_sub [0, 1, 3] rfl ?_
                      exact J43 hf
    refine x_sub [2, 3, 1, 0] rfl ?_
    exact LL FU 0 0 hf
