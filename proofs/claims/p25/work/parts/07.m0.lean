def f_X5_isFrom (p0 : Int32) (p1 : Int32) (p2 : Int32) : Option (Int32) :=
  if p0 < p1 then (oB 0) else (if p2 < p0 then (oB 0) else (oB 1))
set_option maxRecDepth 100000 in
set_option maxHeartbeats 4000000 in
theorem m_X5_isFrom {l : Launch} {G : va_G} {tys : List (ClassId × FieldType)} {S0 : Nat} {h1 : Nat → va_E} {cN' : Nat} {p0 : Int32} {p1 : Int32} {p2 : Int32} {r : Int32}  (hf : f_X5_isFrom p0 p1 p2 = some r) : XMet l G tys S0 cN' yX5_isFrom cX5_isFrom 3 (some .boolean) 0 0 [.int p0, .int p1, .int p2] h1 cN' (some (.int r)) h1 0 0 := by
  refine XMet.ofE (ST := Unit) (HP := fun _ => h1) () () (by decide) (Nat.le_of_ble_eq_true rfl) ?_
  intro κ g1 g2 g3 g4 g5 g6 E X hQ
  subst g1; subst g2; subst g3; subst g4
  have X : XC κ cX5_isFrom 3 RX5 (some .boolean) 0 0 := X
  show XG κ () 0 [(0, .int p0), (1, .int p1), (2, .int p2)] []
  unfold f_X5_isFrom at hf
  refine x_iload_n X dX5_isFrom_0 rfl 0 rfl ?_
  refine x_iload_n X dX5_isFrom_1 rfl 1 rfl ?_
  refine x_icmp_lt (tgt := 14) X dX5_isFrom_2 (by decide) hf (fun hf => ?_) (fun hf => ?_)
  · refine x_iconst (v := 0) X dX5_isFrom_14 (by decide) ?_
    exact x_zretR (σ0 := ()) X E hQ hf dX5_isFrom_15
  · refine x_iload_n X dX5_isFrom_5 rfl 0 rfl ?_
    refine x_iload_n X dX5_isFrom_6 rfl 2 rfl ?_
    refine x_icmp_gt (tgt := 14) X dX5_isFrom_7 (by decide) hf (fun hf => ?_) (fun hf => ?_)
    · refine x_iconst (v := 0) X dX5_isFrom_14 (by decide) ?_
      exact x_zretR (σ0 := ()) X E hQ hf dX5_isFrom_15
    · refine x_iconst (v := 1) X dX5_isFrom_10 (by decide) ?_
      refine x_goto (tgt := 15) X dX5_isFrom_11 (by decide) ?_
      exact x_zretR (σ0 := ()) X E hQ hf dX5_isFrom_15
def f_X4_inPhase_L4 (σ : SS) (p1 : Int32) (kX4 : Int32 → Option (Int32)) : Nat → Int32 → Int32 → Option (Int32)
  | 0, _, _ => none
  | n + 1, v2_4, v3_4 =>
    if 8 ≤ v3_4 then (kX4 v2_4) else (oA 8 (σ.1 13) v3_4 (fun x15 => oJ (κ := Int32 → Option (Int32)) (fun u2_23 => f_X4_inPhase_L4 σ p1 kX4 n u2_23 (v3_4 + 1)) (fun k23 => if x15 = p1 then (k23 (v2_4 + 1)) else (k23 v2_4))))
def f_X4_inPhase (σ : SS) (p1 : Int32) : Option (Int32) :=
  f_X4_inPhase_L4 σ p1 (fun w2_29 => some w2_29) FU 0 0
set_option maxRecDepth 100000 in
set_option maxHeartbeats 4000000 in
theorem m_X4_inPhase {l : Launch} {G : va_G} {tys : List (ClassId × FieldType)} {S0 : Nat} {h h1 h2 : Nat → va_E} {b cN' : Nat} {cI : ClassId} {σ : SS} {p1 : Int32} {r : Int32} (hb : b + 22 ≤ cN') (ht : tys[0]? = some (cI, .int)) (e1 : h1 = ov h b (gl S0 cI b σ)) (e2 : h2 = ov h b (gl S0 cI b σ)) (hf : f_X4_inPhase σ p1 = some r) : XMet l G tys S0 cN' yX4_inPhase cX4_inPhase 4 (some .int) 0 0 [.ref (S0 + (b + 12)), .int p1] h1 cN' (some (.int r)) h2 0 0 := by
  subst e1; subst e2
  refine XMet.ofE (ST := SS) (HP := fun σ => ov h b (gl S0 cI b σ)) σ σ (by decide) (Nat.le_of_ble_eq_true rfl) ?_
  intro κ g1 g2 g3 g4 g5 g6 E X hQ
  subst g1; subst g2; subst g3; subst g4
  have Y : YS κ h b cI := ⟨fun σ => by rw [g5], fun σ => by rw [g6]; exact hb, ht⟩
  have X : XC κ cX4_inPhase 4 RX4 (some .int) 0 0 := X
  show XG κ σ 0 [(0, .ref (κ.S0 + (b + 12))), (1, .int p1)] []
  unfold f_X4_inPhase at hf
  refine x_iconst (v := 0) X dX4_inPhase_0 (by decide) ?_
  refine x_istore_n (lv' := [(2, .int 0), (0, .ref (κ.S0 + (b + 12))), (1, .int p1)]) X dX4_inPhase_1 rfl (by decide) rfl ?_
  refine x_iconst (v := 0) X dX4_inPhase_2 (by decide) ?_
  refine x_istore_n (lv' := [(3, .int 0), (2, .int 0), (0, .ref (κ.S0 + (b + 12))), (1, .int p1)]) X dX4_inPhase_3 rfl (by decide) rfl ?_
  refine x_kont (b := fun kX4 => f_X4_inPhase_L4 σ p1 kX4 FU 0 0) (fun kX4 => ∀ (w2_29 : Int32), kX4 w2_29 = some r → XG κ σ 29 [(2, .int w2_29)] []) hf (fun w2_29 hf => ?_) (fun kX4 JX4 hf => ?_)
  · refine x_iload_n X dX4_inPhase_29 rfl 0 rfl ?_
    exact x_iretR (σ0 := σ) X E hQ hf dX4_inPhase_30
  · have LL : ∀ (n : Nat) (v2_4 : Int32) (v3_4 : Int32), f_X4_inPhase_L4 σ p1 kX4 n v2_4 v3_4 = some r → XG κ σ 4 [(0, .ref (κ.S0 + (b + 12))), (1, .int p1), (2, .int v2_4), (3, .int v3_4)] [] := by
      intro n
      induction n with
      | zero => intro v2_4 v3_4 hf; rw [f_X4_inPhase_L4] at hf; cases hf
      | succ n ih4 =>
        intro v2_4 v3_4 hf
        rw [f_X4_inPhase_L4] at hf
        refine x_iload_n X dX4_inPhase_4 rfl 3 rfl ?_
        refine x_bipush (v := 8) X dX4_inPhase_5 (by decide) ?_
        refine x_icmp_ge (tgt := 29) X dX4_inPhase_7 (by decide) hf (fun hf => ?_) (fun hf => ?_)
        · refine x_sub [2] rfl ?_
          exact JX4 v2_4 hf
        · refine x_aload_n X dX4_inPhase_10 rfl 0 rfl ?_
          refine x_getf X fl_X4_9 (yS_12 Y) (yS_l Y 12 (by decide)) rfl dX4_inPhase_11 ?_
          refine x_iload_n X dX4_inPhase_14 rfl 3 rfl ?_
          refine x_iald X 0 (yS_ht Y) (yS_13 Y) (yS_l Y 13 (by decide)) dX4_inPhase_15 hf (fun x15 hf => ?_)
          refine x_iload_n X dX4_inPhase_16 rfl 1 rfl ?_
          refine x_join (fun k23 => ∀ (u2_23 : Int32), k23 u2_23 = some r → XG κ σ 23 [(0, .ref (κ.S0 + (b + 12))), (1, .int p1), (2, .int u2_23), (3, .int v3_4)] []) hf (fun u2_23 hf => ?_) (fun k23 J23 hf => ?_)
          · refine x_iinc (v := v3_4 + 1) (lv' := [(3, .int (v3_4 + 1)), (0, .ref (κ.S0 + (b + 12))), (1, .int p1), (2, .int u2_23)]) X dX4_inPhase_23 3 rfl rfl (by decide) rfl ?_
            refine x_goto (tgt := 4) X dX4_inPhase_26 (by decide) ?_
            refine x_sub [1, 2, 3, 0] rfl ?_
            exact ih4 u2_23 (v3_4 + 1) hf
          · refine x_icmp_ne (tgt := 23) X dX4_inPhase_17 (by decide) hf (fun hf => ?_) (fun hf => ?_)
            · exact J23 v2_4 hf
            · refine x_iinc (v := v2_4 + 1) (lv' := [(2, .int (v2_4 + 1)), (0, .ref (κ.S0 + (b + 12))), (1, .int p1), (3, .int v3_4)]) X dX4_inPhase_20 2 rfl rfl (by decide) rfl ?_
              refine x_sub [1, 2, 0, 3] rfl ?_
              exact J23 (v2_4 + 1) hf
    refine x_sub [2, 3, 1, 0] rfl ?_
    exact LL FU 0 0 hf
def f_X3_changeOpenLimit (σ : SS) (p1 : Int32) : Option (Int32 × SS) :=
  oR (f_X5_isFrom p1 1 8) (fun r12 => if r12 = 0 then (some ((-2), σ)) else (oR (f_X4_inPhase σ 1) (fun r26 => if r26 ≤ p1 then (oN p1 (sN σ 4) (fun s41 => if (σ.2 4) = p1 then (some ((-5), s41)) else (some ((σ.2 4), s41)))) else (some ((-4), σ)))))
set_option maxRecDepth 100000 in
set_option maxHeartbeats 4000000 in
theorem m_X3_changeOpenLimit {l : Launch} {G : va_G} {tys : List (ClassId × FieldType)} {S0 : Nat} {h h1 h2 : Nat → va_E} {b cN' : Nat} {cI : ClassId} {σ : SS} {τ : SS} {p1 : Int32} {r : Int32} (hb : b + 22 ≤ cN') (ht : tys[0]? = some (cI, .int)) (e1 : h1 = ov h b (gl S0 cI b σ)) (e2 : h2 = ov h b (gl S0 cI b τ)) (hf : f_X3_changeOpenLimit σ p1 = some (r, τ)) : XMet l G tys S0 cN' yX3_changeOpenLimit cX3_changeOpenLimit 3 (some .int) 1 23 [.ref (S0 + (b + 0)), .int p1] h1 cN' (some (.int r)) h2 0 0 := by
  subst e1; subst e2
  refine XMet.ofE (ST := SS) (HP := fun σ => ov h b (gl S0 cI b σ)) σ τ (by decide) (Nat.le_of_ble_eq_true rfl) ?_
  intro κ g1 g2 g3 g4 g5 g6 E X hQ
  subst g1; subst g2; subst g3; subst g4
  have Y : YS κ h b cI := ⟨fun σ => by rw [g5], fun σ => by rw [g6]; exact hb, ht⟩
  have X : XC κ cX3_changeOpenLimit 3 RX3 (some .int) 1 23 := X
  show XG κ σ 0 [(0, .ref (κ.S0 + (b + 0))), (1, .int p1)] []
  unfold f_X3_changeOpenLimit at hf
  refine x_aload_n X dX3_changeOpenLimit_0 rfl 0 rfl ?_
  refine x_getf X fl_X3_21 (yS_0 Y) (yS_l Y 0 (by decide)) rfl dX3_changeOpenLimit_1 ?_
  refine x_getf X fl_X3_69 (yS_12 Y) (yS_l Y 12 (by decide)) rfl dX3_changeOpenLimit_4 ?_
  refine x_istore_n (lv' := [(2, .int (σ.2 4)), (0, .ref (κ.S0 + (b + 0))), (1, .int p1)]) X dX3_changeOpenLimit_7 rfl (by decide) rfl ?_
  refine x_iload_n X dX3_changeOpenLimit_8 rfl 2 rfl ?_
  refine x_iconst (v := 1) X dX3_changeOpenLimit_9 (by decide) ?_
  refine x_bipush (v := 8) X dX3_changeOpenLimit_10 (by decide) ?_
  refine x_callR (rest := []) X hf (fun r hr => x_cSN X cm_X5_isFrom lkN_X3_72 ⟨Nat.le_of_ble_eq_true rfl, Nat.le_of_ble_eq_true rfl⟩ (m_X5_isFrom hr) rfl rfl (Nat.le_of_ble_eq_true rfl) (x_room E _) dX3_changeOpenLimit_12) (fun r12 hf => ?_)
  refine x_if_ne (tgt := 21) X dX3_changeOpenLimit_15 (by decide) hf (fun hf => ?_) (fun hf => ?_)
  · refine x_aload_n X dX3_changeOpenLimit_21 rfl 1 rfl ?_
    refine x_getf X fl_X3_21 (yS_0 Y) (yS_l Y 0 (by decide)) rfl dX3_changeOpenLimit_22 ?_
    refine x_iconst (v := 1) X dX3_changeOpenLimit_25 (by decide) ?_
    refine x_callR (rest := []) X hf (fun r hr => x_cV (ci := 4) X cm_X4_inPhase lkV_X3_76 rfl ⟨Nat.le_of_ble_eq_true rfl, Nat.le_of_ble_eq_true rfl⟩ (yS_12 Y) (yS_l Y 12 (by decide)) (m_X4_inPhase (yS_hb Y σ) (yS_ht Y) (yS_hp Y _) (yS_hp Y _) hr) rfl rfl (Nat.le_of_ble_eq_true rfl) (x_room E _) dX3_changeOpenLimit_26) (fun r26 hf => ?_)
    refine x_iload_n X dX3_changeOpenLimit_29 rfl 2 rfl ?_
    refine x_icmp_le (tgt := 36) X dX3_changeOpenLimit_30 (by decide) hf (fun hf => ?_) (fun hf => ?_)
    · refine x_aload_n X dX3_changeOpenLimit_36 rfl 1 rfl ?_
      refine x_getf X fl_X3_21 (yS_0 Y) (yS_l Y 0 (by decide)) rfl dX3_changeOpenLimit_37 ?_
      refine x_iload_n X dX3_changeOpenLimit_40 rfl 2 rfl ?_
      refine x_putI (w := sN σ 4) X E.1 fp_X3_69 (yS_12 Y) (yS_l Y 12 (by decide)) (Nat.le_of_ble_eq_true rfl) (yS_p12_7 Y) dX3_changeOpenLimit_41 hf (fun s41 hf => ?_)
      refine x_iload_n X dX3_changeOpenLimit_44 rfl 0 rfl ?_
      refine x_iload_n X dX3_changeOpenLimit_45 rfl 2 rfl ?_
      refine x_icmp_ne (tgt := 54) X dX3_changeOpenLimit_46 (by decide) hf (fun hf => ?_) (fun hf => ?_)
      · refine x_iload_n X dX3_changeOpenLimit_54 rfl 0 rfl ?_
        exact x_iretW (σ0 := σ) X E hQ hf dX3_changeOpenLimit_55
      · refine x_bipush (v := (-5)) X dX3_changeOpenLimit_49 (by decide) ?_
        refine x_goto (tgt := 55) X dX3_changeOpenLimit_51 (by decide) ?_
        exact x_iretW (σ0 := σ) X E hQ hf dX3_changeOpenLimit_55
    · refine x_bipush (v := (-4)) X dX3_changeOpenLimit_33 (by decide) ?_
      exact x_iretW (σ0 := σ) X E hQ hf dX3_changeOpenLimit_35
  · refine x_bipush (v := (-2)) X dX3_changeOpenLimit_18 (by decide) ?_
    exact x_iretW (σ0 := σ) X E hQ hf dX3_changeOpenLimit_20
def f_X4_inUse_L4 (σ : SS) (kX4 : Int32 → Option (Int32)) : Nat → Int32 → Int32 → Option (Int32)
  | 0, _, _ => none
  | n + 1, v1_4, v2_4 =>
    if 8 ≤ v2_4 then (kX4 v1_4) else (oA 8 (σ.1 13) v2_4 (fun x15 => oJ (κ := Int32 → Option (Int32)) (fun u1_33 => f_X4_inUse_L4 σ kX4 n u1_33 (v2_4 + 1)) (fun k33 => oJ (κ := Option (Int32)) (k33 (v1_4 + 1)) (fun k30 => if x15 = 1 then k30 else (oA 8 (σ.1 13) v2_4 (fun x25 => if x25 = 2 then k30 else (k33 v1_4)))))))
def f_X4_inUse (σ : SS)  : Option (Int32) :=
  f_X4_inUse_L4 σ (fun w1_39 => some w1_39) FU 0 0
set_option maxRecDepth 100000 in
set_option maxHeartbeats 4000000 in
theorem m_X4_inUse {l : Launch} {G : va_G} {tys : List (ClassId × FieldType)} {S0 : Nat} {h h1 h2 : Nat → va_E} {b cN' : Nat} {cI : ClassId} {σ : SS}  {r : Int32} (hb : b + 22 ≤ cN') (ht : tys[0]? = some (cI, .int)) (e1 : h1 = ov h b (gl S0 cI b σ)) (e2 : h2 = ov h b (gl S0 cI b σ)) (hf : f_X4_inUse σ = some r) : XMet l G tys S0 cN' yX4_inUse cX4_inUse 3 (some .int) 0 0 [.ref (S0 + (b + 12))] h1 cN' (some (.int r)) h2 0 0 := by
  subst e1; subst e2
  refine XMet.ofE (ST := SS) (HP := fun σ => ov h b (gl S0 cI b σ)) σ σ (by decide) (Nat.le_of_ble_eq_true rfl) ?_
  intro κ g1 g2 g3 g4 g5 g6 E X hQ
  subst g1; subst g2; subst g3; subst g4
  have Y : YS κ h b cI := ⟨fun σ => by rw [g5], fun σ => by rw [g6]; exact hb, ht⟩
  have X : XC κ cX4_inUse 3 RX4 (some .int) 0 0 := X
  show XG κ σ 0 [(0, .ref (κ.S0 + (b + 12)))] []
  unfold f_X4_inUse at hf
  refine x_iconst (v := 0) X dX4_inUse_0 (by decide) ?_
  refine x_istore_n (lv' := [(1, .int 0), (0, .ref (κ.S0 + (b + 12)))]) X dX4_inUse_1 rfl (by decide) rfl ?_
  refine x_iconst (v := 0) X dX4_inUse_2 (by decide) ?_
  refine x_istore_n (lv' := [(2, .int 0), (1, .int 0), (0, .ref (κ.S0 + (b + 12)))]) X dX4_inUse_3 rfl (by decide) rfl ?_
  refine x_kont (b := fun kX4 => f_X4_inUse_L4 σ kX4 FU 0 0) (fun kX4 => ∀ (w1_39 : Int32), kX4 w1_39 = some r → XG κ σ 39 [(1, .int w1_39)] []) hf (fun w1_39 hf => ?_) (fun kX4 JX4 hf => ?_)
  · refine x_iload_n X dX4_inUse_39 rfl 0 rfl ?_
    exact x_iretR (σ0 := σ) X E hQ hf dX4_inUse_40
  · have LL : ∀ (n : Nat) (v1_4 : Int32) (v2_4 : Int32), f_X4_inUse_L4 σ kX4 n v1_4 v2_4 = some r → XG κ σ 4 [(0, .ref (κ.S0 + (b + 12))), (1, .int v1_4), (2, .int v2_4)] [] := by
      intro n
      induction n with
      | zero => intro v1_4 v2_4 hf; rw [f_X4_inUse_L4] at hf; cases hf
      | succ n ih4 =>
        intro v1_4 v2_4 hf
        rw [f_X4_inUse_L4] at hf
        refine x_iload_n X dX4_inUse_4 rfl 2 rfl ?_
        refine x_bipush (v := 8) X dX4_inUse_5 (by decide) ?_
        refine x_icmp_ge (tgt := 39) X dX4_inUse_7 (by decide) hf (fun hf => ?_) (fun hf => ?_)
        · refine x_sub [1] rfl ?_
          exact JX4 v1_4 hf
        · refine x_aload_n X dX4_inUse_10 rfl 0 rfl ?_
          refine x_getf X fl_X4_9 (yS_12 Y) (yS_l Y 12 (by decide)) rfl dX4_inUse_11 ?_
          refine x_iload_n X dX4_inUse_14 rfl 2 rfl ?_
          refine x_iald X 0 (yS_ht Y) (yS_13 Y) (yS_l Y 13 (by decide)) dX4_inUse_15 hf (fun x15 hf => ?_)
          refine x_iconst (v := 1) X dX4_inUse_16 (by decide) ?_
          refine x_join (fun k33 => ∀ (u1_33 : Int32), k33 u1_33 = some r → XG κ σ 33 [(0, .ref (κ.S0 + (b + 12))), (1, .int u1_33), (2, .int v2_4)] []) hf (fun u1_33 hf => ?_) (fun k33 J33 hf => ?_)
          · refine x_iinc (v := v2_4 + 1) (lv' := [(2, .int (v2_4 + 1)), (0, .ref (κ.S0 + (b + 12))), (1, .int u1_33)]) X dX4_inUse_33 2 rfl rfl (by decide) rfl ?_
            refine x_goto (tgt := 4) X dX4_inUse_36 (by decide) ?_
            refine x_sub [1, 2, 0] rfl ?_
            exact ih4 u1_33 (v2_4 + 1) hf
          · refine x_join (fun k30 => k30 = some r → XG κ σ 30 [(0, .ref (κ.S0 + (b + 12))), (1, .int v1_4), (2, .int v2_4)] []) hf (fun hf => ?_) (fun k30 J30 hf => ?_)
            · refine x_iinc (v := v1_4 + 1) (lv' := [(1, .int (v1_4 + 1)), (0, .ref (κ.S0 + (b + 12))), (2, .int v2_4)]) X dX4_inUse_30 1 rfl rfl (by decide) rfl ?_
              refine x_sub [1, 0, 2] rfl ?_
              exact J33 (v1_4 + 1) hf
            · refine x_icmp_eq (tgt := 30) X dX4_inUse_17 (by decide) hf (fun hf => ?_) (fun hf => ?_)
              · exact J30 hf
              · refine x_aload_n X dX4_inUse_20 rfl 0 rfl ?_
                refine x_getf X fl_X4_9 (yS_12 Y) (yS_l Y 12 (by decide)) rfl dX4_inUse_21 ?_
                refine x_iload_n X dX4_inUse_24 rfl 2 rfl ?_
                refine x_iald X 0 (yS_ht Y) (yS_13 Y) (yS_l Y 13 (by decide)) dX4_inUse_25 hf (fun x25 hf => ?_)
                refine x_iconst (v := 2) X dX4_inUse_26 (by decide) ?_
                refine x_icmp_ne (tgt := 33) X dX4_inUse_27 (by decide) hf (fun hf => ?_) (fun hf => ?_)
                · exact J33 v1_4 hf
                · exact J30 hf
    refine x_sub [2, 1, 0] rfl ?_
    exact LL FU 0 0 hf
def f_X3_changeUseLimit (σ : SS) (p1 : Int32) : Option (Int32 × SS) :=
  oR (f_X5_isFrom p1 1 8) (fun r12 => if r12 = 0 then (some ((-2), σ)) else (oR (f_X4_inUse σ) (fun r25 => if r25 ≤ p1 then (oN p1 (sN σ 5) (fun s40 => if (σ.2 5) = p1 then (some ((-5), s40)) else (some ((σ.2 5), s40)))) else (some ((-4), σ)))))
set_option maxRecDepth 100000 in
set_option maxHeartbeats 4000000 in
theorem m_X3_changeUseLimit {l : Launch} {G : va_G} {tys : List (ClassId × FieldType)} {S0 : Nat} {h h1 h2 : Nat → va_E} {b cN' : Nat} {cI : ClassId} {σ : SS} {τ : SS} {p1 : Int32} {r : Int32} (hb : b + 22 ≤ cN') (ht : tys[0]? = some (cI, .int)) (e1 : h1 = ov h b (gl S0 cI b σ)) (e2 : h2 = ov h b (gl S0 cI b τ)) (hf : f_X3_changeUseLimit σ p1 = some (r, τ)) : XMet l G tys S0 cN' yX3_changeUseLimit cX3_changeUseLimit 3 (some .int) 1 22 [.ref (S0 + (b + 0)), .int p1] h1 cN' (some (.int r)) h2 0 0 := by
  subst e1; subst e2
  refine XMet.ofE (ST := SS) (HP := fun σ => ov h b (gl S0 cI b σ)) σ τ (by decide) (Nat.le_of_ble_eq_true rfl) ?_
  intro κ g1 g2 g3 g4 g5 g6 E X hQ
  subst g1; subst g2; subst g3; subst g4
  have Y : YS κ h b cI := ⟨fun σ => by rw [g5], fun σ => by rw [g6]; exact hb, ht⟩
  have X : XC κ cX3_changeUseLimit 3 RX3 (some .int) 1 22 := X
  show XG κ σ 0 [(0, .ref (κ.S0 + (b + 0))), (1, .int p1)] []
  unfold f_X3_changeUseLimit at hf
  refine x_aload_n X dX3_changeUseLimit_0 rfl 0 rfl ?_
  refine x_getf X fl_X3_21 (yS_0 Y) (yS_l Y 0 (by decide)) rfl dX3_changeUseLimit_1 ?_
  refine x_getf X fl_X3_79 (yS_12 Y) (yS_l Y 12 (by decide)) rfl dX3_changeUseLimit_4 ?_
  refine x_istore_n (lv' := [(2, .int (σ.2 5)), (0, .ref (κ.S0 + (b + 0))), (1, .int p1)]) X dX3_changeUseLimit_7 rfl (by decide) rfl ?_
  refine x_iload_n X dX3_changeUseLimit_8 rfl 2 rfl ?_
  refine x_iconst (v := 1) X dX3_changeUseLimit_9 (by decide) ?_
  refine x_bipush (v := 8) X dX3_changeUseLimit_10 (by decide) ?_
  refine x_callR (rest := []) X hf (fun r hr => x_cSN X cm_X5_isFrom lkN_X3_72 ⟨Nat.le_of_ble_eq_true rfl, Nat.le_of_ble_eq_true rfl⟩ (m_X5_isFrom hr) rfl rfl (Nat.le_of_ble_eq_true rfl) (x_room E _) dX3_changeUseLimit_12) (fun r12 hf => ?_)
  refine x_if_ne (tgt := 21) X dX3_changeUseLimit_15 (by decide) hf (fun hf => ?_) (fun hf => ?_)
  · refine x_aload_n X dX3_changeUseLimit_21 rfl 1 rfl ?_
    refine x_getf X fl_X3_21 (yS_0 Y) (yS_l Y 0 (by decide)) rfl dX3_changeUseLimit_22 ?_
    refine x_callR (rest := []) X hf (fun r hr => x_cV (ci := 4) X cm_X4_inUse lkV_X3_82 rfl ⟨Nat.le_of_ble_eq_true rfl, Nat.le_of_ble_eq_true rfl⟩ (yS_12 Y) (yS_l Y 12 (by decide)) (m_X4_inUse (yS_hb Y σ) (yS_ht Y) (yS_hp Y _) (yS_hp Y _) hr) rfl rfl (Nat.le_of_ble_eq_true rfl) (x_room E _) dX3_changeUseLimit_25) (fun r25 hf => ?_)
    refine x_iload_n X dX3_changeUseLimit_28 rfl 2 rfl ?_
    refine x_icmp_le (tgt := 35) X dX3_changeUseLimit_29 (by decide) hf (fun hf => ?_) (fun hf => ?_)
    · refine x_aload_n X dX3_changeUseLimit_35 rfl 1 rfl ?_
      refine x_getf X fl_X3_21 (yS_0 Y) (yS_l Y 0 (by decide)) rfl dX3_changeUseLimit_36 ?_
      refine x_iload_n X dX3_changeUseLimit_39 rfl 2 rfl ?_
      refine x_putI (w := sN σ 5) X E.1 fp_X3_79 (yS_12 Y) (yS_l Y 12 (by decide)) (Nat.le_of_ble_eq_true rfl) (yS_p12_8 Y) dX3_changeUseLimit_40 hf (fun s40 hf => ?_)
      refine x_iload_n X dX3_changeUseLimit_43 rfl 0 rfl ?_
      refine x_iload_n X dX3_changeUseLimit_44 rfl 2 rfl ?_
      refine x_icmp_ne (tgt := 53) X dX3_changeUseLimit_45 (by decide) hf (fun hf => ?_) (fun hf => ?_)
      · refine x_iload_n X dX3_changeUseLimit_53 rfl 0 rfl ?_
        exact x_iretW (σ0 := σ) X E hQ hf dX3_changeUseLimit_54
      · refine x_bipush (v := (-5)) X dX3_changeUseLimit_48 (by decide) ?_
        refine x_goto (tgt := 54) X dX3_changeUseLimit_50 (by decide) ?_
        exact x_iretW (σ0 := σ) X E hQ hf dX3_changeUseLimit_54
    · refine x_bipush (v := (-4)) X dX3_changeUseLimit_32 (by decide) ?_
      exact x_iretW (σ0 := σ) X E hQ hf dX3_changeUseLimit_34
  · refine x_bipush (v := (-2)) X dX3_changeUseLimit_18 (by decide) ?_
    exact x_iretW (σ0 := σ) X E hQ hf dX3_changeUseLimit_20
def f_X3_changeChannels (σ : SS) (p1 : Int32) : Option (Int32 × SS) :=
  oR (f_X5_isFrom p1 1 4) (fun r8 => if r8 = 0 then (some ((-2), σ)) else (oN p1 (sN σ 8) (fun s19 => if (σ.2 8) = p1 then (some ((-5), s19)) else (some ((σ.2 8), s19)))))
set_option maxRecDepth 100000 in
set_option maxHeartbeats 4000000 in
theorem m_X3_changeChannels {l : Launch} {G : va_G} {tys : List (ClassId × FieldType)} {S0 : Nat} {h h1 h2 : Nat → va_E} {b cN' : Nat} {cI : ClassId} {σ : SS} {τ : SS} {p1 : Int32} {r : Int32} (hb : b + 22 ≤ cN') (ht : tys[0]? = some (cI, .int)) (e1 : h1 = ov h b (gl S0 cI b σ)) (e2 : h2 = ov h b (gl S0 cI b τ)) (hf : f_X3_changeChannels σ p1 = some (r, τ)) : XMet l G tys S0 cN' yX3_changeChannels cX3_changeChannels 3 (some .int) 1 22 [.ref (S0 + (b + 0)), .int p1] h1 cN' (some (.int r)) h2 0 0 := by
  subst e1; subst e2
  refine XMet.ofE (ST := SS) (HP := fun σ => ov h b (gl S0 cI b σ)) σ τ (by decide) (Nat.le_of_ble_eq_true rfl) ?_
  intro κ g1 g2 g3 g4 g5 g6 E X hQ
  subst g1; subst g2; subst g3; subst g4
  have Y : YS κ h b cI := ⟨fun σ => by rw [g5], fun σ => by rw [g6]; exact hb, ht⟩
  have X : XC κ cX3_changeChannels 3 RX3 (some .int) 1 22 := X
  show XG κ σ 0 [(0, .ref (κ.S0 + (b + 0))), (1, .int p1)] []
  unfold f_X3_changeChannels at hf
  refine x_aload_n X dX3_changeChannels_0 rfl 0 rfl ?_
  refine x_getf X fl_X3_35 (yS_0 Y) (yS_l Y 0 (by decide)) rfl dX3_changeChannels_1 ?_
  refine x_istore_n (lv' := [(2, .int (σ.2 8)), (0, .ref (κ.S0 + (b + 0))), (1, .int p1)]) X dX3_changeChannels_4 rfl (by decide) rfl ?_
  refine x_iload_n X dX3_changeChannels_5 rfl 2 rfl ?_
  refine x_iconst (v := 1) X dX3_changeChannels_6 (by decide) ?_
  refine x_iconst (v := 4) X dX3_changeChannels_7 (by decide) ?_
  refine x_callR (rest := []) X hf (fun r hr => x_cSN X cm_X5_isFrom lkN_X3_72 ⟨Nat.le_of_ble_eq_true rfl, Nat.le_of_ble_eq_true rfl⟩ (m_X5_isFrom hr) rfl rfl (Nat.le_of_ble_eq_true rfl) (x_room E _) dX3_changeChannels_8) (fun r8 hf => ?_)
  refine x_if_ne (tgt := 17) X dX3_changeChannels_11 (by decide) hf (fun hf => ?_) (fun hf => ?_)
  · refine x_aload_n X dX3_changeChannels_17 rfl 1 rfl ?_
    refine x_iload_n X dX3_changeChannels_18 rfl 2 rfl ?_
    refine x_putI (w := sN σ 8) X E.1 fp_X3_35 (yS_0 Y) (yS_l Y 0 (by decide)) (Nat.le_of_ble_eq_true rfl) (yS_p0_5 Y) dX3_changeChannels_19 hf (fun s19 hf => ?_)
    refine x_iload_n X dX3_changeChannels_22 rfl 0 rfl ?_
    refine x_iload_n X dX3_changeChannels_23 rfl 2 rfl ?_
    refine x_icmp_ne (tgt := 32) X dX3_changeChannels_24 (by decide) hf (fun hf => ?_) (fun hf => ?_)
    · refine x_iload_n X dX3_changeChannels_32 rfl 0 rfl ?_
      exact x_iretW (σ0 := σ) X E hQ hf dX3_changeChannels_33
    · refine x_bipush (v := (-5)) X dX3_changeChannels_27 (by decide) ?_
      refine x_goto (tgt := 33) X dX3_changeChannels_29 (by decide) ?_
      exact x_iretW (σ0 := σ) X E hQ hf dX3_changeChannels_33
  · refine x_bipush (v := (-2)) X dX3_changeChannels_14 (by decide) ?_
    exact x_iretW (σ0 := σ) X E hQ hf dX3_changeChannels_16
def f_X3_changeManner (σ : SS) (p1 : Int32) : Option (Int32 × SS) :=
  oR (f_X5_isFrom p1 0 1) (fun r8 => if r8 = 0 then (some ((-2), σ)) else (oN p1 (sN σ 9) (fun s19 => if (σ.2 9) = p1 then (some ((-5), s19)) else (some ((σ.2 9), s19)))))
set_option maxRecDepth 100000 in
set_option maxHeartbeats 4000000 in
theorem m_X3_changeManner {l : Launch} {G : va_G} {tys : List (ClassId × FieldType)} {S0 : Nat} {h h1 h2 : Nat → va_E} {b cN' : Nat} {cI : ClassId} {σ : SS} {τ : SS} {p1 : Int32} {r : Int32} (hb : b + 22 ≤ cN') (ht : tys[0]? = some (cI, .int)) (e1 : h1 = ov h b (gl S0 cI b σ)) (e2 : h2 = ov h b (gl S0 cI b τ)) (hf : f_X3_changeManner σ p1 = some (r, τ)) : XMet l G tys S0 cN' yX3_changeManner cX3_changeManner 3 (some .int) 1 22 [.ref (S0 + (b + 0)), .int p1] h1 cN' (some (.int r)) h2 0 0 := by
  subst e1; subst e2
  refine XMet.ofE (ST := SS) (HP := fun σ => ov h b (gl S0 cI b σ)) σ τ (by decide) (Nat.le_of_ble_eq_true rfl) ?_
  intro κ g1 g2 g3 g4 g5 g6 E X hQ
  subst g1; subst g2; subst g3; subst g4
  have Y : YS κ h b cI := ⟨fun σ => by rw [g5], fun σ => by rw [g6]; exact hb, ht⟩
  have X : XC κ cX3_changeManner 3 RX3 (some .int) 1 22 := X
  show XG κ σ 0 [(0, .ref (κ.S0 + (b + 0))), (1, .int p1)] []
  unfold f_X3_changeManner at hf
  refine x_aload_n X dX3_changeManner_0 rfl 0 rfl ?_
  refine x_getf X fl_X3_39 (yS_0 Y) (yS_l Y 0 (by decide)) rfl dX3_changeManner_1 ?_
  refine x_istore_n (lv' := [(2, .int (σ.2 9)), (0, .ref (κ.S0 + (b + 0))), (1, .int p1)]) X dX3_changeManner_4 rfl (by decide) rfl ?_
  refine x_iload_n X dX3_changeManner_5 rfl 2 rfl ?_
  refine x_iconst (v := 0) X dX3_changeManner_6 (by decide) ?_
  refine x_iconst (v := 1) X dX3_changeManner_7 (by decide) ?_
  refine x_callR (rest := []) X hf (fun r hr => x_cSN X cm_X5_isFrom lkN_X3_72 ⟨Nat.le_of_ble_eq_true rfl, Nat.le_of_ble_eq_true rfl⟩ (m_X5_isFrom hr) rfl rfl (Nat.le_of_ble_eq_true rfl) (x_room E _) dX3_changeManner_8) (fun r8 hf => ?_)
  refine x_if_ne (tgt := 17) X dX3_changeManner_11 (by decide) hf (fun hf => ?_) (fun hf => ?_)
  · refine x_aload_n X dX3_changeManner_17 rfl 1 rfl ?_
    refine x_iload_n X dX3_changeManner_18 rfl 2 rfl ?_
    refine x_putI (w := sN σ 9) X E.1 fp_X3_39 (yS_0 Y) (yS_l Y 0 (by decide)) (Nat.le_of_ble_eq_true rfl) (yS_p0_6 Y) dX3_changeManner_19 hf (fun s19 hf => ?_)
    refine x_iload_n X dX3_changeManner_22 rfl 0 rfl ?_
    refine x_iload_n X dX3_changeManner_23 rfl 2 rfl ?_
    refine x_icmp_ne (tgt := 32) X dX3_changeManner_24 (by decide) hf (fun hf => ?_) (fun hf => ?_)
    · refine x_iload_n X dX3_changeManner_32 rfl 0 rfl ?_
      exact x_iretW (σ0 := σ) X E hQ hf dX3_changeManner_33
    · refine x_bipush (v := (-5)) X dX3_changeManner_27 (by decide) ?_
      refine x_goto (tgt := 33) X dX3_changeManner_29 (by decide) ?_
      exact x_iretW (σ0 := σ) X E hQ hf dX3_changeManner_33
  · refine x_bipush (v := (-2)) X dX3_changeManner_14 (by decide) ?_
    exact x_iretW (σ0 := σ) X E hQ hf dX3_changeManner_16
def f_X3_changeNumber (σ : SS) (p1 : Int32) (p2 : Int32) : Option (Int32 × SS) :=
  if p1 = 0 then (oW (f_X3_changeOpenLimit σ p2) (fun t => t) (fun r34 s34 => some (r34, s34))) else (if p1 = 1 then (oW (f_X3_changeUseLimit σ p2) (fun t => t) (fun r40 s40 => some (r40, s40))) else (if p1 = 2 then (oW (f_X3_changeChannels σ p2) (fun t => t) (fun r46 s46 => some (r46, s46))) else (if p1 = 3 then (oW (f_X3_changeManner σ p2) (fun t => t) (fun r52 s52 => some (r52, s52))) else (some ((-2), σ)))))
set_option maxRecDepth 100000 in
set_option maxHeartbeats 4000000 in
theorem m_X3_changeNumber {l : Launch} {G : va_G} {tys : List (ClassId × FieldType)} {S0 : Nat} {h h1 h2 : Nat → va_E} {b cN' : Nat} {cI : ClassId} {σ : SS} {τ : SS} {p1 : Int32} {p2 : Int32} {r : Int32} (hb : b + 22 ≤ cN') (ht : tys[0]? = some (cI, .int)) (e1 : h1 = ov h b (gl S0 cI b σ)) (e2 : h2 = ov h b (gl S0 cI b τ)) (hf : f_X3_changeNumber σ p1 p2 = some (r, τ)) : XMet l G tys S0 cN' yX3_changeNumber cX3_changeNumber 3 (some .int) 2 45 [.ref (S0 + (b + 0)), .int p1, .int p2] h1 cN' (some (.int r)) h2 0 0 := by
  subst e1; subst e2
  refine XMet.ofE (ST := SS) (HP := fun σ => ov h b (gl S0 cI b σ)) σ τ (by decide) (Nat.le_of_ble_eq_true rfl) ?_
  intro κ g1 g2 g3 g4 g5 g6 E X hQ
  subst g1; subst g2; subst g3; subst g4
  have Y : YS κ h b cI := ⟨fun σ => by rw [g5], fun σ => by rw [g6]; exact hb, ht⟩
  have X : XC κ cX3_changeNumber 3 RX3 (some .int) 2 45 := X
  show XG κ σ 0 [(0, .ref (κ.S0 + (b + 0))), (1, .int p1), (2, .int p2)] []
  unfold f_X3_changeNumber at hf
  refine x_iload_n X dX3_changeNumber_0 rfl 1 rfl ?_
  refine x_if hf (fun c0 hf => ?_) (fun c0 hf => ?_)
  · refine x_tabIn (off := 31) (tgt := 32) X dX3_changeNumber_1 (by rw [c0]; decide) (by rw [c0]; decide) (by rw [c0]; rfl) (by decide) ?_
    refine x_aload_n X dX3_changeNumber_32 rfl 0 rfl ?_
    refine x_iload_n X dX3_changeNumber_33 rfl 2 rfl ?_
    refine x_callW (rest := []) (w := fun t => t) X E.1 hf (fun r t hr => x_cV (ci := 3) X cm_X3_changeOpenLimit lkV_X3_56 rfl ⟨Nat.le_of_ble_eq_true rfl, Nat.le_of_ble_eq_true rfl⟩ (yS_0 Y) (yS_l Y 0 (by decide)) (m_X3_changeOpenLimit (yS_hb Y σ) (yS_ht Y) (yS_hp Y _) (yS_hp Y _) hr) rfl rfl (Nat.le_of_ble_eq_true rfl) (x_room E _) dX3_changeNumber_34) (fun r34 s34 hf => ?_)
    exact x_iretW (σ0 := σ) X E hQ hf dX3_changeNumber_37
  · refine x_if hf (fun c1 hf => ?_) (fun c1 hf => ?_)
    · refine x_tabIn (off := 37) (tgt := 38) X dX3_changeNumber_1 (by rw [c1]; decide) (by rw [c1]; decide) (by rw [c1]; rfl) (by decide) ?_
      refine x_aload_n X dX3_changeNumber_38 rfl 0 rfl ?_
      refine x_iload_n X dX3_changeNumber_39 rfl 2 rfl ?_
      refine x_callW (rest := []) (w := fun t => t) X E.1 hf (fun r t hr => x_cV (ci := 3) X cm_X3_changeUseLimit lkV_X3_60 rfl ⟨Nat.le_of_ble_eq_true rfl, Nat.le_of_ble_eq_true rfl⟩ (yS_0 Y) (yS_l Y 0 (by decide)) (m_X3_changeUseLimit (yS_hb Y σ) (yS_ht Y) (yS_hp Y _) (yS_hp Y _) hr) rfl rfl (Nat.le_of_ble_eq_true rfl) (x_room E _) dX3_changeNumber_40) (fun r40 s40 hf => ?_)
      exact x_iretW (σ0 := σ) X E hQ hf dX3_changeNumber_43
    · refine x_if hf (fun c2 hf => ?_) (fun c2 hf => ?_)
      · refine x_tabIn (off := 43) (tgt := 44) X dX3_changeNumber_1 (by rw [c2]; decide) (by rw [c2]; decide) (by rw [c2]; rfl) (by decide) ?_
        refine x_aload_n X dX3_changeNumber_44 rfl 0 rfl ?_
        refine x_iload_n X dX3_changeNumber_45 rfl 2 rfl ?_
        refine x_callW (rest := []) (w := fun t => t) X E.1 hf (fun r t hr => x_cV (ci := 3) X cm_X3_changeChannels lkV_X3_63 rfl ⟨Nat.le_of_ble_eq_true rfl, Nat.le_of_ble_eq_true rfl⟩ (yS_0 Y) (yS_l Y 0 (by decide)) (m_X3_changeChannels (yS_hb Y σ) (yS_ht Y) (yS_hp Y _) (yS_hp Y _) hr) rfl rfl (Nat.le_of_ble_eq_true rfl) (x_room E _) dX3_changeNumber_46) (fun r46 s46 hf => ?_)
        exact x_iretW (σ0 := σ) X E hQ hf dX3_changeNumber_49
      · refine x_if hf (fun c3 hf => ?_) (fun c3 hf => ?_)
        · refine x_tabIn (off := 49) (tgt := 50) X dX3_changeNumber_1 (by rw [c3]; decide) (by rw [c3]; decide) (by rw [c3]; rfl) (by decide) ?_
          refine x_aload_n X dX3_changeNumber_50 rfl 0 rfl ?_
          refine x_iload_n X dX3_changeNumber_51 rfl 2 rfl ?_
          refine x_callW (rest := []) (w := fun t => t) X E.1 hf (fun r t hr => x_cV (ci := 3) X cm_X3_changeManner lkV_X3_66 rfl ⟨Nat.le_of_ble_eq_true rfl, Nat.le_of_ble_eq_true rfl⟩ (yS_0 Y) (yS_l Y 0 (by decide)) (m_X3_changeManner (yS_hb Y σ) (yS_ht Y) (yS_hp Y _) (yS_hp Y _) hr) rfl rfl (Nat.le_of_ble_eq_true rfl) (x_room E _) dX3_changeNumber_52) (fun r52 s52 hf => ?_)
          exact x_iretW (σ0 := σ) X E hQ hf dX3_changeNumber_55
        · refine x_tabOut (tgt := 56) X dX3_changeNumber_1 (by have h0 := lv_neT c0 (a := 0) rfl; have h1 := lv_neT c1 (a := 1) rfl; have h2 := lv_neT c2 (a := 2) rfl; have h3 := lv_neT c3 (a := 3) rfl; omega) (by decide) ?_
          refine x_bipush (v := (-2)) X dX3_changeNumber_56 (by decide) ?_
          exact x_iretW (σ0 := σ) X E hQ hf dX3_changeNumber_58
def f_X1_settle (σ : CS) (p1 : Int32) : Option (Int32 × CS) :=
  if p1 < 0 then (some (p1, σ)) else (if 4 ≤ (σ.2.2 2) then (oN (((σ.2.2 1) + 1) - ((σ.2.2 1) + 1) / 5 * 5) (cN σ 1) (fun s34 => some (p1, s34))) else (oN ((σ.2.2 2) + 1) (cN σ 2) (fun s19 => some (p1, s19))))
set_option maxRecDepth 100000 in
set_option maxHeartbeats 4000000 in
theorem m_X1_settle {l : Launch} {G : va_G} {tys : List (ClassId × FieldType)} {S0 : Nat} {h h1 h2 : Nat → va_E} {b cN' : Nat} {cI cC cS' : ClassId} {σ : CS} {τ : CS} {p1 : Int32} {r : Int32} (hb : b + 159 ≤ cN') (ht : tys[0]? = some (cI, .int)) (htc : tys[1]? = some (cC, .char)) (hts : tys[3]? = some (cS', .object "AppendZones$State")) (e1 : h1 = ov h b (cl S0 cI cC cS' b σ)) (e2 : h2 = ov h b (cl S0 cI cC cS' b τ)) (hf : f_X1_settle σ p1 = some (r, τ)) : XMet l G tys S0 cN' yX1_settle cX1_settle 2 (some .int) 0 0 [.ref (S0 + (b + 45)), .int p1] h1 cN' (some (.int r)) h2 0 0 := by
  subst e1; subst e2
  refine XMet.ofE (ST := CS) (HP := fun σ => ov h b (cl S0 cI cC cS' b σ)) σ τ (by decide) (Nat.le_of_ble_eq_true rfl) ?_
  intro κ g1 g2 g3 g4 g5 g6 E X hQ
  subst g1; subst g2; subst g3; subst g4
  have Y : YC κ h b cI cC cS' := ⟨fun σ => by rw [g5], fun σ => by rw [g6]; exact hb, ht, htc, hts⟩
  have X : XC κ cX1_settle 2 RX1 (some .int) 0 0 := X
  show XG κ σ 0 [(0, .ref (κ.S0 + (b + 45))), (1, .int p1)] []
  unfold f_X1_settle at hf
  refine x_iload_n X dX1_settle_0 rfl 1 rfl ?_
  refine x_if_lt (tgt := 37) X dX1_settle_1 (by decide) hf (fun hf => ?_) (fun hf => ?_)
  · refine x_iload_n X dX1_settle_37 rfl 1 rfl ?_
    exact x_iretW (σ0 := σ) X E hQ hf dX1_settle_38
  · refine x_aload_n X dX1_settle_4 rfl 0 rfl ?_
    refine x_getf X fl_X1_21 (yC_45 Y) (yC_l Y 45 (by decide)) rfl dX1_settle_5 ?_
    refine x_iconst (v := 4) X dX1_settle_8 (by decide) ?_
    refine x_icmp_ge (tgt := 25) X dX1_settle_9 (by decide) hf (fun hf => ?_) (fun hf => ?_)
    · refine x_aload_n X dX1_settle_25 rfl 0 rfl ?_
      refine x_aload_n X dX1_settle_26 rfl 0 rfl ?_
      refine x_getf X fl_X1_17 (yC_45 Y) (yC_l Y 45 (by decide)) rfl dX1_settle_27 ?_
      refine x_iconst (v := 1) X dX1_settle_30 (by decide) ?_
      refine x_iadd X dX1_settle_31 ?_
      refine x_iconst (v := 5) X dX1_settle_32 (by decide) ?_
      refine x_irem X dX1_settle_33 (by decide) ?_
      refine x_putI (w := cN σ 1) X E.1 fp_X1_17 (yC_45 Y) (yC_l Y 45 (by decide)) (Nat.le_of_ble_eq_true rfl) (yC_p45_1 Y) dX1_settle_34 hf (fun s34 hf => ?_)
      refine x_iload_n X dX1_settle_37 rfl 1 rfl ?_
      exact x_iretW (σ0 := σ) X E hQ hf dX1_settle_38
    · refine x_aload_n X dX1_settle_12 rfl 0 rfl ?_
      refine x_dup X dX1_settle_13 rfl ?_
      refine x_getf X fl_X1_21 (yC_45 Y) (yC_l Y 45 (by decide)) rfl dX1_settle_14 ?_
      refine x_iconst (v := 1) X dX1_settle_17 (by decide) ?_
      refine x_iadd X dX1_settle_18 ?_
      refine x_putI (w := cN σ 2) X E.1 fp_X1_21 (yC_45 Y) (yC_l Y 45 (by decide)) (Nat.le_of_ble_eq_true rfl) (yC_p45_2 Y) dX1_settle_19 hf (fun s19 hf => ?_)
      refine x_goto (tgt := 37) X dX1_settle_22 (by decide) ?_
      refine x_iload_n X dX1_settle_37 rfl 1 rfl ?_
      exact x_iretW (σ0 := σ) X E hQ hf dX1_settle_38
def f_X5_isZone (p0 : Int32) : Option (Int32) :=
  if p0 < 0 then (oB 0) else (if 8 ≤ p0 then (oB 0) else (oB 1))
set_option maxRecDepth 100000 in
set_option maxHeartbeats 4000000 in
theorem m_X5_isZone {l : Launch} {G : va_G} {tys : List (ClassId × FieldType)} {S0 : Nat} {h1 : Nat → va_E} {cN' : Nat} {p0 : Int32} {r : Int32}  (hf : f_X5_isZone p0 = some r) : XMet l G tys S0 cN' yX5_isZone cX5_isZone 1 (some .boolean) 0 0 [.int p0] h1 cN' (some (.int r)) h1 0 0 := by
  refine XMet.ofE (ST := Unit) (HP := fun _ => h1) () () (by decide) (Nat.le_of_ble_eq_true rfl) ?_
  intro κ g1 g2 g3 g4 g5 g6 E X hQ
  subst g1; subst g2; subst g3; subst g4
  have X : XC κ cX5_isZone 1 RX5 (some .boolean) 0 0 := X
  show XG κ () 0 [(0, .int p0)] []
  unfold f_X5_isZone at hf
  refine x_iload_n X dX5_isZone_0 rfl 0 rfl ?_
  refine x_if_lt (tgt := 14) X dX5_isZone_1 (by decide) hf (fun hf => ?_) (fun hf => ?_)
  · refine x_iconst (v := 0) X dX5_isZone_14 (by decide) ?_
    exact x_zretR (σ0 := ()) X E hQ hf dX5_isZone_15
  · refine x_iload_n X dX5_isZone_4 rfl 0 rfl ?_
    refine x_bipush (v := 8) X dX5_isZone_5 (by decide) ?_
    refine x_icmp_ge (tgt := 14) X dX5_isZone_7 (by decide) hf (fun hf => ?_) (fun hf => ?_)
    · refine x_iconst (v := 0) X dX5_isZone_14 (by decide) ?_
      exact x_zretR (σ0 := ()) X E hQ hf dX5_isZone_15
    · refine x_iconst (v := 1) X dX5_isZone_10 (by decide) ?_
      refine x_goto (tgt := 15) X dX5_isZone_11 (by decide) ?_
      exact x_zretR (σ0 := ()) X E hQ hf dX5_isZone_15
def f_X3_changeDelay (σ : SS) (p1 : Int32) (p2 : Int32) : Option (Int32 × SS) :=
  oR (f_X5_isZone p1) (fun r1 => if r1 = 0 then (some ((-1), σ)) else (oR (f_X5_isFrom p2 1 9) (fun r13 => if r13 = 0 then (some ((-2), σ)) else (oA 8 (σ.1 15) p1 (fun x30 => oS 8 (σ.1 15) p1 p2 (sA σ 15) (fun s41 => if x30 = p2 then (some ((-5), s41)) else (some (x30, s41))))))))
set_option maxRecDepth 100000 in
set_option maxHeartbeats 4000000 in
theorem m_X3_changeDelay {l : Launch} {G : va_G} {tys : List (ClassId × FieldType)} {S0 : Nat} {h h1 h2 : Nat → va_E} {b cN' : Nat} {cI : ClassId} {σ : SS} {τ : SS} {p1 : Int32} {p2 : Int32} {r : Int32} (hb : b + 22 ≤ cN') (ht : tys[0]? = some (cI, .int)) (e1 : h1 = ov h b (gl S0 cI b σ)) (e2 : h2 = ov h b (gl S0 cI b τ)) (hf : f_X3_changeDelay σ p1 p2 = some (r, τ)) : XMet l G tys S0 cN' yX3_changeDelay cX3_changeDelay 4 (some .int) 1 22 [.ref (S0 + (b + 0)), .int p1, .int p2] h1 cN' (some (.int r)) h2 0 0 := by
  subst e1; subst e2
  refine XMet.ofE (ST := SS) (HP := fun σ => ov h b (gl S0 cI b σ)) σ τ (by decide) (Nat.le_of_ble_eq_true rfl) ?_
  intro κ g1 g2 g3 g4 g5 g6 E X hQ
  subst g1; subst g2; subst g3; subst g4
  have Y : YS κ h b cI := ⟨fun σ => by rw [g5], fun σ => by rw [g6]; exact hb, ht⟩
  have X : XC κ cX3_changeDelay 4 RX3 (some .int) 1 22 := X
  show XG κ σ 0 [(0, .ref (κ.S0 + (b + 0))), (1, .int p1), (2, .int p2)] []
  unfold f_X3_changeDelay at hf
  refine x_iload_n X dX3_changeDelay_0 rfl 1 rfl ?_
  refine x_callR (rest := []) X hf (fun r hr => x_cSN X cm_X5_isZone lkN_X3_86 ⟨Nat.le_of_ble_eq_true rfl, Nat.le_of_ble_eq_true rfl⟩ (m_X5_isZone hr) rfl rfl (Nat.le_of_ble_eq_true rfl) (x_room E _) dX3_changeDelay_1) (fun r1 hf => ?_)
  refine x_if_ne (tgt := 9) X dX3_changeDelay_4 (by decide) hf (fun hf => ?_) (fun hf => ?_)
  · refine x_iload_n X dX3_changeDelay_9 rfl 2 rfl ?_
    refine x_iconst (v := 1) X dX3_changeDelay_10 (by decide) ?_
    refine x_bipush (v := 9) X dX3_changeDelay_11 (by decide) ?_
    refine x_callR (rest := []) X hf (fun r hr => x_cSN X cm_X5_isFrom lkN_X3_72 ⟨Nat.le_of_ble_eq_true rfl, Nat.le_of_ble_eq_true rfl⟩ (m_X5_isFrom hr) rfl rfl (Nat.le_of_ble_eq_true rfl) (x_room E _) dX3_changeDelay_13) (fun r13 hf => ?_)
    refine x_if_ne (tgt := 22) X dX3_changeDelay_16 (by decide) hf (fun hf => ?_) (fun hf => ?_)
    · refine x_aload_n X dX3_changeDelay_22 rfl 0 rfl ?_
      refine x_getf X fl_X3_21 (yS_0 Y) (yS_l Y 0 (by decide)) rfl dX3_changeDelay_23 ?_
      refine x_getf X fl_X3_90 (yS_12 Y) (yS_l Y 12 (by decide)) rfl dX3_changeDelay_26 ?_
      refine x_iload_n X dX3_changeDelay_29 rfl 1 rfl ?_
      refine x_iald X 0 (yS_ht Y) (yS_15 Y) (yS_l Y 15 (by decide)) dX3_changeDelay_30 hf (fun x30 hf => ?_)
      refine x_istore_n (lv' := [(3, .int x30), (0, .ref (κ.S0 + (b + 0))), (1, .int p1), (2, .int p2)]) X dX3_changeDelay_31 rfl (by decide) rfl ?_
      refine x_aload_n X dX3_changeDelay_32 rfl 1 rfl ?_
      refine x_getf X fl_X3_21 (yS_0 Y) (yS_l Y 0 (by decide)) rfl dX3_changeDelay_33 ?_
      refine x_getf X fl_X3_90 (yS_12 Y) (yS_l Y 12 (by decide)) rfl dX3_changeDelay_36 ?_
      refine x_iload_n X dX3_changeDelay_39 rfl 2 rfl ?_
      refine x_iload_n X dX3_changeDelay_40 rfl 3 rfl ?_
      refine x_iast (w := sA σ 15) X E.1 0 (yS_ht Y) (yS_15 Y) (yS_l Y 15 (by decide)) (yS_s15 Y) dX3_changeDelay_41 hf (fun s41 hf => ?_)
      refine x_iload_n X dX3_changeDelay_42 rfl 0 rfl ?_
      refine x_iload_n X dX3_changeDelay_43 rfl 3 rfl ?_
      refine x_icmp_ne (tgt := 52) X dX3_changeDelay_44 (by decide) hf (fun hf => ?_) (fun hf => ?_)
      · refine x_iload_n X dX3_changeDelay_52 rfl 0 rfl ?_
        exact x_iretW (σ0 := σ) X E hQ hf dX3_changeDelay_53
      · refine x_bipush (v := (-5)) X dX3_changeDelay_47 (by decide) ?_
        refine x_goto (tgt := 53) X dX3_changeDelay_49 (by decide) ?_
        exact x_iretW (σ0 := σ) X E hQ hf dX3_changeDelay_53
    · refine x_bipush (v := (-2)) X dX3_changeDelay_19 (by decide) ?_
      exact x_iretW (σ0 := σ) X E hQ hf dX3_changeDelay_21
  · refine x_iconst (v := (-1)) X dX3_changeDelay_7 (by decide) ?_
    exact x_iretW (σ0 := σ) X E hQ hf dX3_changeDelay_8
def f_X3_changeCapacity (σ : SS) (p1 : Int32) (p2 : Int32) : Option (Int32 × SS) :=
  oR (f_X5_isZone p1) (fun r1 => if r1 = 0 then (some ((-1), σ)) else (oR (f_X5_isFrom p2 1 16) (fun r13 => if r13 = 0 then (some ((-2), σ)) else (oA 8 (σ.1 13) p1 (fun x30 => if x30 = 0 then (oA 8 (σ.1 14) p1 (fun x45 => oS 8 (σ.1 14) p1 p2 (sA σ 14) (fun s56 => if x45 = p2 then (some ((-5), s56)) else (some (x45, s56))))) else (some ((-4), σ)))))))
set_option maxRecDepth 100000 in
set_option maxHeartbeats 4000000 in
theorem m_X3_changeCapacity {l : Launch} {G : va_G} {tys : List (ClassId × FieldType)} {S0 : Nat} {h h1 h2 : Nat → va_E} {b cN' : Nat} {cI : ClassId} {σ : SS} {τ : SS} {p1 : Int32} {p2 : Int32} {r : Int32} (hb : b + 22 ≤ cN') (ht : tys[0]? = some (cI, .int)) (e1 : h1 = ov h b (gl S0 cI b σ)) (e2 : h2 = ov h b (gl S0 cI b τ)) (hf : f_X3_changeCapacity σ p1 p2 = some (r, τ)) : XMet l G tys S0 cN' yX3_changeCapacity cX3_changeCapacity 4 (some .int) 1 22 [.ref (S0 + (b + 0)), .int p1, .int p2] h1 cN' (some (.int r)) h2 0 0 := by
  subst e1; subst e2
  refine XMet.ofE (ST := SS) (HP := fun σ => ov h b (gl S0 cI b σ)) σ τ (by decide) (Nat.le_of_ble_eq_true rfl) ?_
  intro κ g1 g2 g3 g4 g5 g6 E X hQ
  subst g1; subst g2; subst g3; subst g4
  have Y : YS κ h b cI := ⟨fun σ => by rw [g5], fun σ => by rw [g6]; exact hb, ht⟩
  have X : XC κ cX3_changeCapacity 4 RX3 (some .int) 1 22 := X
  show XG κ σ 0 [(0, .ref (κ.S0 + (b + 0))), (1, .int p1), (2, .int p2)] []
  unfold f_X3_changeCapacity at hf
  refine x_iload_n X dX3_changeCapacity_0 rfl 1 rfl ?_
  refine x_callR (rest := []) X hf (fun r hr => x_cSN X cm_X5_isZone lkN_X3_86 ⟨Nat.le_of_ble_eq_true rfl, Nat.le_of_ble_eq_true rfl⟩ (m_X5_isZone hr) rfl rfl (Nat.le_of_ble_eq_true rfl) (x_room E _) dX3_changeCapacity_1) (fun r1 hf => ?_)
  refine x_if_ne (tgt := 9) X dX3_changeCapacity_4 (by decide) hf (fun hf => ?_) (fun hf => ?_)
  · refine x_iload_n X dX3_changeCapacity_9 rfl 2 rfl ?_
    refine x_iconst (v := 1) X dX3_changeCapacity_10 (by decide) ?_
    refine x_bipush (v := 16) X dX3_changeCapacity_11 (by decide) ?_
    refine x_callR (rest := []) X hf (fun r hr => x_cSN X cm_X5_isFrom lkN_X3_72 ⟨Nat.le_of_ble_eq_true rfl, Nat.le_of_ble_eq_true rfl⟩ (m_X5_isFrom hr) rfl rfl (Nat.le_of_ble_eq_true rfl) (x_room E _) dX3_changeCapacity_13) (fun r13 hf => ?_)
    refine x_if_ne (tgt := 22) X dX3_changeCapacity_16 (by decide) hf (fun hf => ?_) (fun hf => ?_)
    · refine x_aload_n X dX3_changeCapacity_22 rfl 0 rfl ?_
      refine x_getf X fl_X3_21 (yS_0 Y) (yS_l Y 0 (by decide)) rfl dX3_changeCapacity_23 ?_
      refine x_getf X fl_X3_93 (yS_12 Y) (yS_l Y 12 (by decide)) rfl dX3_changeCapacity_26 ?_
      refine x_iload_n X dX3_changeCapacity_29 rfl 1 rfl ?_
      refine x_iald X 0 (yS_ht Y) (yS_13 Y) (yS_l Y 13 (by decide)) dX3_changeCapacity_30 hf (fun x30 hf => ?_)
      refine x_if_eq (tgt := 37) X dX3_changeCapacity_31 (by decide) hf (fun hf => ?_) (fun hf => ?_)
      · refine x_aload_n X dX3_changeCapacity_37 rfl 0 rfl ?_
        refine x_getf X fl_X3_21 (yS_0 Y) (yS_l Y 0 (by decide)) rfl dX3_changeCapacity_38 ?_
        refine x_getf X fl_X3_96 (yS_12 Y) (yS_l Y 12 (by decide)) rfl dX3_changeCapacity_41 ?_
        refine x_iload_n X dX3_changeCapacity_44 rfl 1 rfl ?_
        refine x_iald X 0 (yS_ht Y) (yS_14 Y) (yS_l Y 14 (by decide)) dX3_changeCapacity_45 hf (fun x45 hf => ?_)
        refine x_istore_n (lv' := [(3, .int x45), (0, .ref (κ.S0 + (b + 0))), (1, .int p1), (2, .int p2)]) X dX3_changeCapacity_46 rfl (by decide) rfl ?_
        refine x_aload_n X dX3_changeCapacity_47 rfl 1 rfl ?_
        refine x_getf X fl_X3_21 (yS_0 Y) (yS_l Y 0 (by decide)) rfl dX3_changeCapacity_48 ?_
        refine x_getf X fl_X3_96 (yS_12 Y) (yS_l Y 12 (by decide)) rfl dX3_changeCapacity_51 ?_
        refine x_iload_n X dX3_changeCapacity_54 rfl 2 rfl ?_
        refine x_iload_n X dX3_changeCapacity_55 rfl 3 rfl ?_
        refine x_iast (w := sA σ 14) X E.1 0 (yS_ht Y) (yS_14 Y) (yS_l Y 14 (by decide)) (yS_s14 Y) dX3_changeCapacity_56 hf (fun s56 hf => ?_)
        refine x_iload_n X dX3_changeCapacity_57 rfl 0 rfl ?_
        refine x_iload_n X dX3_changeCapacity_58 rfl 3 rfl ?_
        refine x_icmp_ne (tgt := 67) X dX3_changeCapacity_59 (by decide) hf (fun hf => ?_) (fun hf => ?_)
        · refine x_iload_n X dX3_changeCapacity_67 rfl 0 rfl ?_
          exact x_iretW (σ0 := σ) X E hQ hf dX3_changeCapacity_68
        · refine x_bipush (v := (-5)) X dX3_changeCapacity_62 (by decide) ?_
          refine x_goto (tgt := 68) X dX3_changeCapacity_64 (by decide) ?_
          exact x_iretW (σ0 := σ) X E hQ hf dX3_changeCapacity_68
      · refine x_bipush (v := (-4)) X dX3_changeCapacity_34 (by decide) ?_
        exact x_iretW (σ0 := σ) X E hQ hf dX3_changeCapacity_36
    · refine x_bipush (v := (-2)) X dX3_changeCapacity_19 (by decide) ?_
      exact x_iretW (σ0 := σ) X E hQ hf dX3_changeCapacity_21
  · refine x_iconst (v := (-1)) X dX3_changeCapacity_7 (by decide) ?_
    exact x_iretW (σ0 := σ) X E hQ hf dX3_changeCapacity_8
def f_X5_isWriter (p0 : Int32) : Option (Int32) :=
  if p0 < 0 then (oB 0) else (if 4 ≤ p0 then (oB 0) else (oB 1))
set_option maxRecDepth 100000 in
set_option maxHeartbeats 4000000 in
theorem m_X5_isWriter {l : Launch} {G : va_G} {tys : List (ClassId × FieldType)} {S0 : Nat} {h1 : Nat → va_E} {cN' : Nat} {p0 : Int32} {r : Int32}  (hf : f_X5_isWriter p0 = some r) : XMet l G tys S0 cN' yX5_isWriter cX5_isWriter 1 (some .boolean) 0 0 [.int p0] h1 cN' (some (.int r)) h1 0 0 := by
  refine XMet.ofE (ST := Unit) (HP := fun _ => h1) () () (by decide) (Nat.le_of_ble_eq_true rfl) ?_
  intro κ g1 g2 g3 g4 g5 g6 E X hQ
  subst g1; subst g2; subst g3; subst g4
  have X : XC κ cX5_isWriter 1 RX5 (some .boolean) 0 0 := X
  show XG κ () 0 [(0, .int p0)] []
  unfold f_X5_isWriter at hf
  refine x_iload_n X dX5_isWriter_0 rfl 0 rfl ?_
  refine x_if_lt (tgt := 13) X dX5_isWriter_1 (by decide) hf (fun hf => ?_) (fun hf => ?_)
  · refine x_iconst (v := 0) X dX5_isWriter_13 (by decide) ?_
    exact x_zretR (σ0 := ()) X E hQ hf dX5_isWriter_14
  · refine x_iload_n X dX5_isWriter_4 rfl 0 rfl ?_
    refine x_iconst (v := 4) X dX5_isWriter_5 (by decide) ?_
    refine x_icmp_ge (tgt := 13) X dX5_isWriter_6 (by decide) hf (fun hf => ?_) (fun hf => ?_)
    · refine x_iconst (v := 0) X dX5_isWriter_13 (by decide) ?_
      exact x_zretR (σ0 := ()) X E hQ hf dX5_isWriter_14
    · refine x_iconst (v := 1) X dX5_isWriter_9 (by decide) ?_
      refine x_goto (tgt := 14) X dX5_isWriter_10 (by decide) ?_
      exact x_zretR (σ0 := ()) X E hQ hf dX5_isWriter_14
def f_X3_changeWindow (σ : SS) (p1 : Int32) (p2 : Int32) : Option (Int32 × SS) :=
  oR (f_X5_isWriter p1) (fun r1 => if r1 = 0 then (some ((-1), σ)) else (oR (f_X5_isFrom p2 1 8) (fun r13 => if r13 = 0 then (some ((-2), σ)) else (oA 4 (σ.1 19) p1 (fun x27 => oS 4 (σ.1 19) p1 p2 (sA σ 19) (fun s35 => if x27 = p2 then (some ((-5), s35)) else (some (x27, s35))))))))
set_option maxRecDepth 100000 in
set_option maxHeartbeats 4000000 in
theorem m_X3_changeWindow {l : Launch} {G : va_G} {tys : List (ClassId × FieldType)} {S0 : Nat} {h h1 h2 : Nat → va_E} {b cN' : Nat} {cI : ClassId} {σ : SS} {τ : SS} {p1 : Int32} {p2 : Int32} {r : Int32} (hb : b + 22 ≤ cN') (ht : tys[0]? = some (cI, .int)) (e1 : h1 = ov h b (gl S0 cI b σ)) (e2 : h2 = ov h b (gl S0 cI b τ)) (hf : f_X3_changeWindow σ p1 p2 = some (r, τ)) : XMet l G tys S0 cN' yX3_changeWindow cX3_changeWindow 4 (some .int) 1 22 [.ref (S0 + (b + 0)), .int p1, .int p2] h1 cN' (some (.int r)) h2 0 0 := by
  subst e1; subst e2
  refine XMet.ofE (ST := SS) (HP := fun σ => ov h b (gl S0 cI b σ)) σ τ (by decide) (Nat.le_of_ble_eq_true rfl) ?_
  intro κ g1 g2 g3 g4 g5 g6 E X hQ
  subst g1; subst g2; subst g3; subst g4
  have Y : YS κ h b cI := ⟨fun σ => by rw [g5], fun σ => by rw [g6]; exact hb, ht⟩
  have X : XC κ cX3_changeWindow 4 RX3 (some .int) 1 22 := X
  show XG κ σ 0 [(0, .ref (κ.S0 + (b + 0))), (1, .int p1), (2, .int p2)] []
  unfold f_X3_changeWindow at hf
  refine x_iload_n X dX3_changeWindow_0 rfl 1 rfl ?_
  refine x_callR (rest := []) X hf (fun r hr => x_cSN X cm_X5_isWriter lkN_X3_99 ⟨Nat.le_of_ble_eq_true rfl, Nat.le_of_ble_eq_true rfl⟩ (m_X5_isWriter hr) rfl rfl (Nat.le_of_ble_eq_true rfl) (x_room E _) dX3_changeWindow_1) (fun r1 hf => ?_)
  refine x_if_ne (tgt := 9) X dX3_changeWindow_4 (by decide) hf (fun hf => ?_) (fun hf => ?_)
  · refine x_iload_n X dX3_changeWindow_9 rfl 2 rfl ?_
    refine x_iconst (v := 1) X dX3_changeWindow_10 (by decide) ?_
    refine x_bipush (v := 8) X dX3_changeWindow_11 (by decide) ?_
    refine x_callR (rest := []) X hf (fun r hr => x_cSN X cm_X5_isFrom lkN_X3_72 ⟨Nat.le_of_ble_eq_true rfl, Nat.le_of_ble_eq_true rfl⟩ (m_X5_isFrom hr) rfl rfl (Nat.le_of_ble_eq_true rfl) (x_room E _) dX3_changeWindow_13) (fun r13 hf => ?_)
    refine x_if_ne (tgt := 22) X dX3_changeWindow_16 (by decide) hf (fun hf => ?_) (fun hf => ?_)
    · refine x_aload_n X dX3_changeWindow_22 rfl 0 rfl ?_
      refine x_getf X fl_X3_25 (yS_0 Y) (yS_l Y 0 (by decide)) rfl dX3_changeWindow_23 ?_
      refine x_iload_n X dX3_changeWindow_26 rfl 1 rfl ?_
      refine x_iald X 0 (yS_ht Y) (yS_19 Y) (yS_l Y 19 (by decide)) dX3_changeWindow_27 hf (fun x27 hf => ?_)
      refine x_istore_n (lv' := [(3, .int x27), (0, .ref (κ.S0 + (b + 0))), (1, .int p1), (2, .int p2)]) X dX3_changeWindow_28 rfl (by decide) rfl ?_
      refine x_aload_n X dX3_changeWindow_29 rfl 1 rfl ?_
      refine x_getf X fl_X3_25 (yS_0 Y) (yS_l Y 0 (by decide)) rfl dX3_changeWindow_30 ?_
      refine x_iload_n X dX3_changeWindow_33 rfl 2 rfl ?_
      refine x_iload_n X dX3_changeWindow_34 rfl 3 rfl ?_
      refine x_iast (w := sA σ 19) X E.1 0 (yS_ht Y) (yS_19 Y) (yS_l Y 19 (by decide)) (yS_s19 Y) dX3_changeWindow_35 hf (fun s35 hf => ?_)
      refine x_iload_n X dX3_changeWindow_36 rfl 0 rfl ?_
      refine x_iload_n X dX3_changeWindow_37 rfl 3 rfl ?_
      refine x_icmp_ne (tgt := 46) X dX3_changeWindow_38 (by decide) hf (fun hf => ?_) (fun hf => ?_)
      · refine x_iload_n X dX3_changeWindow_46 rfl 0 rfl ?_
        exact x_iretW (σ0 := σ) X E hQ hf dX3_changeWindow_47
      · refine x_bipush (v := (-5)) X dX3_changeWindow_41 (by decide) ?_
        refine x_goto (tgt := 47) X dX3_changeWindow_43 (by decide) ?_
        exact x_iretW (σ0 := σ) X E hQ hf dX3_changeWindow_47
    · refine x_bipush (v := (-2)) X dX3_changeWindow_19 (by decide) ?_
      exact x_iretW (σ0 := σ) X E hQ hf dX3_changeWindow_21
  · refine x_iconst (v := (-1)) X dX3_changeWindow_7 (by decide) ?_
    exact x_iretW (σ0 := σ) X E hQ hf dX3_changeWindow_8
def f_X0_ofWriter_L5 (σ : SS) (p1 : Int32) (p2 : Int32) (kX5 : Int32 → Option (Int32)) : Nat → Int32 → Int32 → Option (Int32)
  | 0, _, _ => none
  | n + 1, v3_5, v4_5 =>
    if (σ.2 0) ≤ v4_5 then (kX5 v3_5) else (oA 201 (σ.1 2) v4_5 (fun x20 => oJ (κ := Int32 → Option (Int32)) (fun u3_39 => f_X0_ofWriter_L5 σ p1 p2 kX5 n u3_39 (v4_5 + 1)) (fun k39 => if x20 = p1 then (oA 201 (σ.1 5) v4_5 (fun x31 => if x31 = p2 then (k39 (v3_5 + 1)) else (k39 v3_5))) else (k39 v3_5))))
def f_X0_ofWriter (σ : SS) (p1 : Int32) (p2 : Int32) : Option (Int32) :=
  f_X0_ofWriter_L5 σ p1 p2 (fun w3_45 => some w3_45) FU 0 0
set_option maxRecDepth 100000 in
set_option maxHeartbeats 4000000 in
theorem m_X0_ofWriter {l : Launch} {G : va_G} {tys : List (ClassId × FieldType)} {S0 : Nat} {h h1 h2 : Nat → va_E} {b cN' : Nat} {cI : ClassId} {σ : SS} {p1 : Int32} {p2 : Int32} {r : Int32} (hb : b + 22 ≤ cN') (ht : tys[0]? = some (cI, .int)) (e1 : h1 = ov h b (gl S0 cI b σ)) (e2 : h2 = ov h b (gl S0 cI b σ)) (hf : f_X0_ofWriter σ p1 p2 = some r) : XMet l G tys S0 cN' yX0_ofWriter cX0_ofWriter 5 (some .int) 0 0 [.ref (S0 + (b + 1)), .int p1, .int p2] h1 cN' (some (.int r)) h2 0 0 := by
  subst e1; subst e2
  refine XMet.ofE (ST := SS) (HP := fun σ => ov h b (gl S0 cI b σ)) σ σ (by decide) (Nat.le_of_ble_eq_true rfl) ?_
  intro κ g1 g2 g3 g4 g5 g6 E X hQ
  subst g1; subst g2; subst g3; subst g4
  have Y : YS κ h b cI := ⟨fun σ => by rw [g5], fun σ => by rw [g6]; exact hb, ht⟩
  have X : XC κ cX0_ofWriter 5 RX0 (some .int) 0 0 := X
  show XG κ σ 0 [(0, .ref (κ.S0 + (b + 1))), (1, .int p1), (2, .int p2)] []
  unfold f_X0_ofWriter at hf
  refine x_iconst (v := 0) X dX0_ofWriter_0 (by decide) ?_
  refine x_istore_n (lv' := [(3, .int 0), (0, .ref (κ.S0 + (b + 1))), (1, .int p1), (2, .int p2)]) X dX0_ofWriter_1 rfl (by decide) rfl ?_
  refine x_iconst (v := 0) X dX0_ofWriter_2 (by decide) ?_
  refine x_istore (lv' := [(4, .int 0), (3, .int 0), (0, .ref (κ.S0 + (b + 1))), (1, .int p1), (2, .int p2)]) X dX0_ofWriter_3 (by decide) rfl ?_
  refine x_kont (b := fun kX5 => f_X0_ofWriter_L5 σ p1 p2 kX5 FU 0 0) (fun kX5 => ∀ (w3_45 : Int32), kX5 w3_45 = some r → XG κ σ 45 [(3, .int w3_45)] []) hf (fun w3_45 hf => ?_) (fun kX5 JX5 hf => ?_)
  · refine x_iload_n X dX0_ofWriter_45 rfl 0 rfl ?_
    exact x_iretR (σ0 := σ) X E hQ hf dX0_ofWriter_46
  · have LL : ∀ (n : Nat) (v3_5 : Int32) (v4_5 : Int32), f_X0_ofWriter_L5 σ p1 p2 kX5 n v3_5 v4_5 = some r → XG κ σ 5 [(0, .ref (κ.S0 + (b + 1))), (1, .int p1), (2, .int p2), (3, .int v3_5), (4, .int v4_5)] [] := by
      intro n
      induction n with
      | zero => intro v3_5 v4_5 hf; rw [f_X0_ofWriter_L5] at hf; cases hf
      | succ n ih5 =>
        intro v3_5 v4_5 hf
        rw [f_X0_ofWriter_L5] at hf
        refine x_iload X dX0_ofWriter_5 4 rfl ?_
        refine x_aload_n X dX0_ofWriter_7 rfl 0 rfl ?_
        refine x_getf X fl_X0_36 (yS_1 Y) (yS_l Y 1 (by decide)) rfl dX0_ofWriter_8 ?_
        refine x_icmp_ge (tgt := 45) X dX0_ofWriter_11 (by decide) hf (fun hf => ?_) (fun hf => ?_)
        · refine x_sub [3] rfl ?_
          exact JX5 v3_5 hf
        · refine x_aload_n X dX0_ofWriter_14 rfl 0 rfl ?_
          refine x_getf X fl_X0_9 (yS_1 Y) (yS_l Y 1 (by decide)) rfl dX0_ofWriter_15 ?_
          refine x_iload X dX0_ofWriter_18 4 rfl ?_
          refine x_iald X 0 (yS_ht Y) (yS_2 Y) (yS_l Y 2 (by decide)) dX0_ofWriter_20 hf (fun x20 hf => ?_)
          refine x_iload_n X dX0_ofWriter_21 rfl 1 rfl ?_
          refine x_join (fun k39 => ∀ (u3_39 : Int32), k39 u3_39 = some r → XG κ σ 39 [(0, .ref (κ.S0 + (b + 1))), (1, .int p1), (2, .int p2), (3, .int u3_39), (4, .int v4_5)] []) hf (fun u3_39 hf => ?_) (fun k39 J39 hf => ?_)
          · refine x_iinc (v := v4_5 + 1) (lv' := [(4, .int (v4_5 + 1)), (0, .ref (κ.S0 + (b + 1))), (1, .int p1), (2, .int p2), (3, .int u3_39)]) X dX0_ofWriter_39 4 rfl rfl (by decide) rfl ?_
            refine x_goto (tgt := 5) X dX0_ofWriter_42 (by decide) ?_
            refine x_sub [1, 2, 3, 4, 0] rfl ?_
            exact ih5 u3_39 (v4_5 + 1) hf
          · refine x_icmp_ne (tgt := 39) X dX0_ofWriter_22 (by decide) hf (fun hf => ?_) (fun hf => ?_)
            · exact J39 v3_5 hf
            · refine x_aload_n X dX0_ofWriter_25 rfl 0 rfl ?_
              refine x_getf X fl_X0_21 (yS_1 Y) (yS_l Y 1 (by decide)) rfl dX0_ofWriter_26 ?_
              refine x_iload X dX0_ofWriter_29 4 rfl ?_
              refine x_iald X 0 (yS_ht Y) (yS_5 Y) (yS_l Y 5 (by decide)) dX0_ofWriter_31 hf (fun x31 hf => ?_)
              refine x_iload_n X dX0_ofWriter_32 rfl 2 rfl ?_
              refine x_icmp_ne (tgt := 39) X dX0_ofWriter_33 (by decide) hf (fun hf => ?_) (fun hf => ?_)
              · exact J39 v3_5 hf
              · refine x_iinc (v := v3_5 + 1) (lv' := [(3, .int (v3_5 + 1)), (0, .ref (κ.S0 + (b + 1))), (1, .int p1), (2, .int p2), (4, .int v4_5)]) X dX0_ofWriter_36 3 rfl rfl (by decide) rfl ?_
                refine x_sub [1, 2, 3, 0, 4] rfl ?_
                exact J39 (v3_5 + 1) hf
    refine x_sub [2, 3, 4, 1, 0] rfl ?_
    exact LL FU 0 0 hf
def f_X0_add (σ : SS) (p1 : Int32) (p2 : Int32) (p3 : Int32) : Option (Int32 × SS) :=
  if 201 ≤ (σ.2 0) then (some ((-1), σ)) else (if (σ.2 2) < 33 then (oN ((σ.2 0) + 1) (sN σ 0) (fun s34 => oS 201 (s34.1 2) (σ.2 0) p1 (sA s34 2) (fun s44 => oS 201 (s44.1 3) (σ.2 0) p2 (sA s44 3) (fun s52 => oS 201 (s52.1 4) (σ.2 0) p3 (sA s52 4) (fun s60 => oS 201 (s60.1 5) (σ.2 0) 0 (sA s60 5) (fun s68 => oS 201 (s68.1 6) (σ.2 0) (-1) (sA s68 6) (fun s76 => oS 201 (s76.1 7) (σ.2 0) (-1) (sA s76 7) (fun s84 => oS 201 (s84.1 8) (σ.2 0) (-5) (sA s84 8) (fun s93 => oS 201 (s93.1 9) (σ.2 0) (-1) (sA s93 9) (fun s101 => oS 33 (s101.1 11) (s101.2 2) (σ.2 0) (sA s101 11) (fun s112 => oN ((s112.2 2) + 1) (sN s112 2) (fun s120 => some ((σ.2 0), s120))))))))))))) else (some ((-1), σ)))
set_option maxRecDepth 100000 in
set_option maxHeartbeats 4000000 in
theorem m_X0_add {l : Launch} {G : va_G} {tys : List (ClassId × FieldType)} {S0 : Nat} {h h1 h2 : Nat → va_E} {b cN' : Nat} {cI : ClassId} {σ : SS} {τ : SS} {p1 : Int32} {p2 : Int32} {p3 : Int32} {r : Int32} (hb : b + 22 ≤ cN') (ht : tys[0]? = some (cI, .int)) (e1 : h1 = ov h b (gl S0 cI b σ)) (e2 : h2 = ov h b (gl S0 cI b τ)) (hf : f_X0_add σ p1 p2 p3 = some (r, τ)) : XMet l G tys S0 cN' yX0_add cX0_add 5 (some .int) 0 0 [.ref (S0 + (b + 1)), .int p1, .int p2, .int p3] h1 cN' (some (.int r)) h2 0 0 := by
  subst e1; subst e2
  refine XMet.ofE (ST := SS) (HP := fun σ => ov h b (gl S0 cI b σ)) σ τ (by decide) (Nat.le_of_ble_eq_true rfl) ?_
  intro κ g1 g2 g3 g4 g5 g6 E X hQ
  subst g1; subst g2; subst g3; subst g4
  have Y : YS κ h b cI := ⟨fun σ => by rw [g5], fun σ => by rw [g6]; exact hb, ht⟩
  have X : XC κ cX0_add 5 RX0 (some .int) 0 0 := X
  show XG κ σ 0 [(0, .ref (κ.S0 + (b + 1))), (1, .int p1), (2, .int p2), (3, .int p3)] []
  unfold f_X0_add at hf
  refine x_aload_n X dX0_add_0 rfl 0 rfl ?_
  refine x_getf X fl_X0_36 (yS_1 Y) (yS_l Y 1 (by decide)) rfl dX0_add_1 ?_
  refine x_sipush (v := 201) X dX0_add_4 (by decide) ?_
  refine x_icmp_ge (tgt := 19) X dX0_add_7 (by decide) hf (fun hf => ?_) (fun hf => ?_)
  · refine x_iconst (v := (-1)) X dX0_add_19 (by decide) ?_
    exact x_iretW (σ0 := σ) X E hQ hf dX0_add_20
  · refine x_aload_n X dX0_add_10 rfl 0 rfl ?_
    refine x_getf X fl_X0_49 (yS_1 Y) (yS_l Y 1 (by decide)) rfl dX0_add_11 ?_
    refine x_bipush (v := 33) X dX0_add_14 (by decide) ?_
    refine x_icmp_lt (tgt := 21) X dX0_add_16 (by decide) hf (fun hf => ?_) (fun hf => ?_)
    · refine x_aload_n X dX0_add_21 rfl 0 rfl ?_
      refine x_getf X fl_X0_36 (yS_1 Y) (yS_l Y 1 (by decide)) rfl dX0_add_22 ?_
      refine x_istore (lv' := [(4, .int (σ.2 0)), (0, .ref (κ.S0 + (b + 1))), (1, .int p1), (2, .int p2), (3, .int p3)]) X dX0_add_25 (by decide) rfl ?_
      refine x_aload_n X dX0_add_27 rfl 1 rfl ?_
      refine x_dup X dX0_add_28 rfl ?_
      refine x_getf X fl_X0_36 (yS_1 Y) (yS_l Y 1 (by decide)) rfl dX0_add_29 ?_
      refine x_iconst (v := 1) X dX0_add_32 (by decide) ?_
      refine x_iadd X dX0_add_33 ?_
      refine x_putI (w := sN σ 0) X E.1 fp_X0_36 (yS_1 Y) (yS_l Y 1 (by decide)) (Nat.le_of_ble_eq_true rfl) (yS_p1_8 Y) dX0_add_34 hf (fun s34 hf => ?_)
      refine x_aload_n X dX0_add_37 rfl 1 rfl ?_
      refine x_getf X fl_X0_9 (yS_1 Y) (yS_l Y 1 (by decide)) rfl dX0_add_38 ?_
      refine x_iload X dX0_add_41 0 rfl ?_
      refine x_iload_n X dX0_add_43 rfl 2 rfl ?_
      refine x_iast (w := sA s34 2) X E.1 0 (yS_ht Y) (yS_2 Y) (yS_l Y 2 (by decide)) (yS_s2 Y) dX0_add_44 hf (fun s44 hf => ?_)
      refine x_aload_n X dX0_add_45 rfl 1 rfl ?_
      refine x_getf X fl_X0_15 (yS_1 Y) (yS_l Y 1 (by decide)) rfl dX0_add_46 ?_
      refine x_iload X dX0_add_49 0 rfl ?_
      refine x_iload_n X dX0_add_51 rfl 3 rfl ?_
      refine x_iast (w := sA s44 3) X E.1 0 (yS_ht Y) (yS_3 Y) (yS_l Y 3 (by decide)) (yS_s3 Y) dX0_add_52 hf (fun s52 hf => ?_)
      refine x_aload_n X dX0_add_53 rfl 1 rfl ?_
      refine x_getf X fl_X0_18 (yS_1 Y) (yS_l Y 1 (by decide)) rfl dX0_add_54 ?_
      refine x_iload X dX0_add_57 0 rfl ?_
      refine x_iload_n X dX0_add_59 rfl 4 rfl ?_
      refine x_iast (w := sA s52 4) X E.1 0 (yS_ht Y) (yS_4 Y) (yS_l Y 4 (by decide)) (yS_s4 Y) dX0_add_60 hf (fun s60 hf => ?_)
      refine x_aload_n X dX0_add_61 rfl 1 rfl ?_
      refine x_getf X fl_X0_21 (yS_1 Y) (yS_l Y 1 (by decide)) rfl dX0_add_62 ?_
      refine x_iload X dX0_add_65 0 rfl ?_
      refine x_iconst (v := 0) X dX0_add_67 (by decide) ?_
      refine x_iast (w := sA s60 5) X E.1 0 (yS_ht Y) (yS_5 Y) (yS_l Y 5 (by decide)) (yS_s5 Y) dX0_add_68 hf (fun s68 hf => ?_)
      refine x_aload_n X dX0_add_69 rfl 1 rfl ?_
      refine x_getf X fl_X0_24 (yS_1 Y) (yS_l Y 1 (by decide)) rfl dX0_add_70 ?_
      refine x_iload X dX0_add_73 0 rfl ?_
      refine x_iconst (v := (-1)) X dX0_add_75 (by decide) ?_
      refine x_iast (w := sA s68 6) X E.1 0 (yS_ht Y) (yS_6 Y) (yS_l Y 6 (by decide)) (yS_s6 Y) dX0_add_76 hf (fun s76 hf => ?_)
      refine x_aload_n X dX0_add_77 rfl 1 rfl ?_
      refine x_getf X fl_X0_27 (yS_1 Y) (yS_l Y 1 (by decide)) rfl dX0_add_78 ?_
      refine x_iload X dX0_add_81 0 rfl ?_
      refine x_iconst (v := (-1)) X dX0_add_83 (by decide) ?_
      refine x_iast (w := sA s76 7) X E.1 0 (yS_ht Y) (yS_7 Y) (yS_l Y 7 (by decide)) (yS_s7 Y) dX0_add_84 hf (fun s84 hf => ?_)
      refine x_aload_n X dX0_add_85 rfl 1 rfl ?_
      refine x_getf X fl_X0_30 (yS_1 Y) (yS_l Y 1 (by decide)) rfl dX0_add_86 ?_
      refine x_iload X dX0_add_89 0 rfl ?_
      refine x_bipush (v := (-5)) X dX0_add_91 (by decide) ?_
      refine x_iast (w := sA s84 8) X E.1 0 (yS_ht Y) (yS_8 Y) (yS_l Y 8 (by decide)) (yS_s8 Y) dX0_add_93 hf (fun s93 hf => ?_)
      refine x_aload_n X dX0_add_94 rfl 1 rfl ?_
      refine x_getf X fl_X0_33 (yS_1 Y) (yS_l Y 1 (by decide)) rfl dX0_add_95 ?_
      refine x_iload X dX0_add_98 0 rfl ?_
      refine x_iconst (v := (-1)) X dX0_add_100 (by decide) ?_
      refine x_iast (w := sA s93 9) X E.1 0 (yS_ht Y) (yS_9 Y) (yS_l Y 9 (by decide)) (yS_s9 Y) dX0_add_101 hf (fun s101 hf => ?_)
      refine x_aload_n X dX0_add_102 rfl 1 rfl ?_
      refine x_getf X fl_X0_46 (yS_1 Y) (yS_l Y 1 (by decide)) rfl dX0_add_103 ?_
      refine x_aload_n X dX0_add_106 rfl 1 rfl ?_
      refine x_getf X fl_X0_49 (yS_1 Y) (yS_l Y 1 (by decide)) rfl dX0_add_107 ?_
      refine x_iload X dX0_add_110 0 rfl ?_
      refine x_iast (w := sA s101 11) X E.1 0 (yS_ht Y) (yS_11 Y) (yS_l Y 11 (by decide)) (yS_s11 Y) dX0_add_112 hf (fun s112 hf => ?_)
      refine x_aload_n X dX0_add_113 rfl 1 rfl ?_
      refine x_dup X dX0_add_114 rfl ?_
      refine x_getf X fl_X0_49 (yS_1 Y) (yS_l Y 1 (by decide)) rfl dX0_add_115 ?_
      refine x_iconst (v := 1) X dX0_add_118 (by decide) ?_
      refine x_iadd X dX0_add_119 ?_
      refine x_putI (w := sN s112 2) X E.1 fp_X0_49 (yS_1 Y) (yS_l Y 1 (by decide)) (Nat.le_of_ble_eq_true rfl) (yS_p1_12 Y) dX0_add_120 hf (fun s120 hf => ?_)
      refine x_iload X dX0_add_123 0 rfl ?_
      exact x_iretW (σ0 := σ) X E hQ hf dX0_add_125
    · refine x_iconst (v := (-1)) X dX0_add_19 (by decide) ?_
      exact x_iretW (σ0 := σ) X E hQ hf dX0_add_20
def f_X3_send (σ : SS) (p1 : Int32) (p2 : Int32) (p3 : Int32) : Option (Int32 × SS) :=
  oR (f_X5_isWriter p1) (fun r1 => if r1 = 0 then (some ((-1), σ)) else (oR (f_X5_isZone p2) (fun r8 => if r8 = 0 then (some ((-1), σ)) else (oR (f_X5_isFrom p3 0 99) (fun r20 => if r20 = 0 then (some ((-2), σ)) else (oR (f_X0_ofWriter σ p1 0) (fun r35 => oR (f_X0_ofWriter σ p1 1) (fun r44 => oA 4 (σ.1 19) p1 (fun x57 => if x57 ≤ (r35 + r44) then (some ((-3), σ)) else (if (σ.2 0) < 200 then (oW (f_X0_add σ p1 p2 p3) (fun t => t) (fun r84 s84 => if r84 = (-1) then (some ((-3), s84)) else (some (r84, s84)))) else (some ((-3), σ))))))))))))
set_option maxRecDepth 100000 in
set_option maxHeartbeats 4000000 in
theorem m_X3_send {l : Launch} {G : va_G} {tys : List (ClassId × FieldType)} {S0 : Nat} {h h1 h2 : Nat → va_E} {b cN' : Nat} {cI : ClassId} {σ : SS} {τ : SS} {p1 : Int32} {p2 : Int32} {p3 : Int32} {r : Int32} (hb : b + 22 ≤ cN') (ht : tys[0]? = some (cI, .int)) (e1 : h1 = ov h b (gl S0 cI b σ)) (e2 : h2 = ov h b (gl S0 cI b τ)) (hf : f_X3_send σ p1 p2 p3 = some (r, τ)) : XMet l G tys S0 cN' yX3_send cX3_send 6 (some .int) 1 24 [.ref (S0 + (b + 0)), .int p1, .int p2, .int p3] h1 cN' (some (.int r)) h2 0 0 := by
  subst e1; subst e2
  refine XMet.ofE (ST := SS) (HP := fun σ => ov h b (gl S0 cI b σ)) σ τ (by decide) (Nat.le_of_ble_eq_true rfl) ?_
  intro κ g1 g2 g3 g4 g5 g6 E X hQ
  subst g1; subst g2; subst g3; subst g4
  have Y : YS κ h b cI := ⟨fun σ => by rw [g5], fun σ => by rw [g6]; exact hb, ht⟩
  have X : XC κ cX3_send 6 RX3 (some .int) 1 24 := X
  show XG κ σ 0 [(0, .ref (κ.S0 + (b + 0))), (1, .int p1), (2, .int p2), (3, .int p3)] []
  unfold f_X3_send at hf
  refine x_iload_n X dX3_send_0 rfl 1 rfl ?_
  refine x_callR (rest := []) X hf (fun r hr => x_cSN X cm_X5_isWriter lkN_X3_99 ⟨Nat.le_of_ble_eq_true rfl, Nat.le_of_ble_eq_true rfl⟩ (m_X5_isWriter hr) rfl rfl (Nat.le_of_ble_eq_true rfl) (x_room E _) dX3_send_1) (fun r1 hf => ?_)
  refine x_if_eq (tgt := 14) X dX3_send_4 (by decide) hf (fun hf => ?_) (fun hf => ?_)
  · refine x_iconst (v := (-1)) X dX3_send_14 (by decide) ?_
    exact x_iretW (σ0 := σ) X E hQ hf dX3_send_15
  · refine x_iload_n X dX3_send_7 rfl 2 rfl ?_
    refine x_callR (rest := []) X hf (fun r hr => x_cSN X cm_X5_isZone lkN_X3_86 ⟨Nat.le_of_ble_eq_true rfl, Nat.le_of_ble_eq_true rfl⟩ (m_X5_isZone hr) rfl rfl (Nat.le_of_ble_eq_true rfl) (x_room E _) dX3_send_8) (fun r8 hf => ?_)
    refine x_if_ne (tgt := 16) X dX3_send_11 (by decide) hf (fun hf => ?_) (fun hf => ?_)
    · refine x_iload_n X dX3_send_16 rfl 3 rfl ?_
      refine x_iconst (v := 0) X dX3_send_17 (by decide) ?_
      refine x_bipush (v := 99) X dX3_send_18 (by decide) ?_
      refine x_callR (rest := []) X hf (fun r hr => x_cSN X cm_X5_isFrom lkN_X3_72 ⟨Nat.le_of_ble_eq_true rfl, Nat.le_of_ble_eq_true rfl⟩ (m_X5_isFrom hr) rfl rfl (Nat.le_of_ble_eq_true rfl) (x_room E _) dX3_send_20) (fun r20 hf => ?_)
      refine x_if_ne (tgt := 29) X dX3_send_23 (by decide) hf (fun hf => ?_) (fun hf => ?_)
      · refine x_aload_n X dX3_send_29 rfl 0 rfl ?_
        refine x_getf X fl_X3_12 (yS_0 Y) (yS_l Y 0 (by decide)) rfl dX3_send_30 ?_
        refine x_iload_n X dX3_send_33 rfl 1 rfl ?_
        refine x_iconst (v := 0) X dX3_send_34 (by decide) ?_
        refine x_callR (rest := []) X hf (fun r hr => x_cV (ci := 0) X cm_X0_ofWriter lkV_X3_102 rfl ⟨Nat.le_of_ble_eq_true rfl, Nat.le_of_ble_eq_true rfl⟩ (yS_1 Y) (yS_l Y 1 (by decide)) (m_X0_ofWriter (yS_hb Y σ) (yS_ht Y) (yS_hp Y _) (yS_hp Y _) hr) rfl rfl (Nat.le_of_ble_eq_true rfl) (x_room E _) dX3_send_35) (fun r35 hf => ?_)
        refine x_aload_n X dX3_send_38 rfl 0 rfl ?_
        refine x_getf X fl_X3_12 (yS_0 Y) (yS_l Y 0 (by decide)) rfl dX3_send_39 ?_
        refine x_iload_n X dX3_send_42 rfl 1 rfl ?_
        refine x_iconst (v := 1) X dX3_send_43 (by decide) ?_
        refine x_callR (rest := [.int r35]) X hf (fun r hr => x_cV (ci := 0) X cm_X0_ofWriter lkV_X3_102 rfl ⟨Nat.le_of_ble_eq_true rfl, Nat.le_of_ble_eq_true rfl⟩ (yS_1 Y) (yS_l Y 1 (by decide)) (m_X0_ofWriter (yS_hb Y σ) (yS_ht Y) (yS_hp Y _) (yS_hp Y _) hr) rfl rfl (Nat.le_of_ble_eq_true rfl) (x_room E _) dX3_send_44) (fun r44 hf => ?_)
        refine x_iadd X dX3_send_47 ?_
        refine x_istore (lv' := [(4, .int (r35 + r44)), (0, .ref (κ.S0 + (b + 0))), (1, .int p1), (2, .int p2), (3, .int p3)]) X dX3_send_48 (by decide) rfl ?_
        refine x_iload X dX3_send_50 0 rfl ?_
        refine x_aload_n X dX3_send_52 rfl 1 rfl ?_
        refine x_getf X fl_X3_25 (yS_0 Y) (yS_l Y 0 (by decide)) rfl dX3_send_53 ?_
        refine x_iload_n X dX3_send_56 rfl 2 rfl ?_
        refine x_iald X 0 (yS_ht Y) (yS_19 Y) (yS_l Y 19 (by decide)) dX3_send_57 hf (fun x57 hf => ?_)
        refine x_icmp_ge (tgt := 74) X dX3_send_58 (by decide) hf (fun hf => ?_) (fun hf => ?_)
        · refine x_bipush (v := (-3)) X dX3_send_74 (by decide) ?_
          exact x_iretW (σ0 := σ) X E hQ hf dX3_send_76
        · refine x_aload_n X dX3_send_61 rfl 1 rfl ?_
          refine x_getf X fl_X3_12 (yS_0 Y) (yS_l Y 0 (by decide)) rfl dX3_send_62 ?_
          refine x_getf X fl_X3_106 (yS_1 Y) (yS_l Y 1 (by decide)) rfl dX3_send_65 ?_
          refine x_sipush (v := 200) X dX3_send_68 (by decide) ?_
          refine x_icmp_lt (tgt := 77) X dX3_send_71 (by decide) hf (fun hf => ?_) (fun hf => ?_)
          · refine x_aload_n X dX3_send_77 rfl 1 rfl ?_
            refine x_getf X fl_X3_12 (yS_0 Y) (yS_l Y 0 (by decide)) rfl dX3_send_78 ?_
            refine x_iload_n X dX3_send_81 rfl 2 rfl ?_
            refine x_iload_n X dX3_send_82 rfl 3 rfl ?_
            refine x_iload_n X dX3_send_83 rfl 4 rfl ?_
            refine x_callW (rest := []) (w := fun t => t) X E.1 hf (fun r t hr => x_cV (ci := 0) X cm_X0_add lkV_X3_109 rfl ⟨Nat.le_of_ble_eq_true rfl, Nat.le_of_ble_eq_true rfl⟩ (yS_1 Y) (yS_l Y 1 (by decide)) (m_X0_add (yS_hb Y σ) (yS_ht Y) (yS_hp Y _) (yS_hp Y _) hr) rfl rfl (Nat.le_of_ble_eq_true rfl) (x_room E _) dX3_send_84) (fun r84 s84 hf => ?_)
            refine x_istore (lv' := [(5, .int r84), (4, .int (r35 + r44)), (0, .ref (κ.S0 + (b + 0))), (1, .int p1), (2, .int p2), (3, .int p3)]) X dX3_send_87 (by decide) rfl ?_
            refine x_iload X dX3_send_89 0 rfl ?_
            refine x_iconst (v := (-1)) X dX3_send_91 (by decide) ?_
            refine x_icmp_ne (tgt := 100) X dX3_send_92 (by decide) hf (fun hf => ?_) (fun hf => ?_)
            · refine x_iload X dX3_send_100 0 rfl ?_
              exact x_iretW (σ0 := σ) X E hQ hf dX3_send_102
            · refine x_bipush (v := (-3)) X dX3_send_95 (by decide) ?_
              refine x_goto (tgt := 102) X dX3_send_97 (by decide) ?_
              exact x_iretW (σ0 := σ) X E hQ hf dX3_send_102
          · refine x_bipush (v := (-3)) X dX3_send_74 (by decide) ?_
            exact x_iretW (σ0 := σ) X E hQ hf dX3_send_76
      · refine x_bipush (v := (-2)) X dX3_send_26 (by decide) ?_
        exact x_iretW (σ0 := σ) X E hQ hf dX3_send_28
    · refine x_iconst (v := (-1)) X dX3_send_14 (by decide) ?_
      exact x_iretW (σ0 := σ) X E hQ hf dX3_send_15
def f_X0_toldInGeneration_L5 (σ : SS) (p1 : Int32) (p2 : Int32) (kX5 : Int32 → Option (Int32)) : Nat → Int32 → Int32 → Option (Int32)
  | 0, _, _ => none
  | n + 1, v3_5, v4_5 =>
    if (σ.2 0) ≤ v4_5 then (kX5 v3_5) else (oA 201 (σ.1 5) v4_5 (fun x20 => oJ (κ := Int32 → Option (Int32)) (fun u3_50 => f_X0_toldInGeneration_L5 σ p1 p2 kX5 n u3_50 (v4_5 + 1)) (fun k50 => if x20 = 2 then (oA 201 (σ.1 3) v4_5 (fun x31 => if x31 = p1 then (oA 201 (σ.1 9) v4_5 (fun x42 => if x42 = p2 then (k50 (v3_5 + 1)) else (k50 v3_5))) else (k50 v3_5))) else (k50 v3_5))))
def f_X0_toldInGeneration (σ : SS) (p1 : Int32) (p2 : Int32) : Option (Int32) :=
  f_X0_toldInGeneration_L5 σ p1 p2 (fun w3_56 => some w3_56) FU 0 0
set_option maxRecDepth 100000 in
set_option maxHeartbeats 4000000 in
theorem m_X0_toldInGeneration {l : Launch} {G : va_G} {tys : List (ClassId × FieldType)} {S0 : Nat} {h h1 h2 : Nat → va_E} {b cN' : Nat} {cI : ClassId} {σ : SS} {p1 : Int32} {p2 : Int32} {r : Int32} (hb : b + 22 ≤ cN') (ht : tys[0]? = some (cI, .int)) (e1 : h1 = ov h b (gl S0 cI b σ)) (e2 : h2 = ov h b (gl S0 cI b σ)) (hf : f_X0_toldInGeneration σ p1 p2 = some r) : XMet l G tys S0 cN' yX0_toldInGeneration cX0_toldInGeneration 5 (some .int) 0 0 [.ref (S0 + (b + 1)), .int p1, .int p2] h1 cN' (some (.int r)) h2 0 0 := by
  subst e1; subst e2
  refine XMet.ofE (ST := SS) (HP := fun σ => ov h b (gl S0 cI b σ)) σ σ (by decide) (Nat.le_of_ble_eq_true rfl) ?_
  intro κ g1 g2 g3 g4 g5 g6 E X hQ
  subst g1; subst g2; subst g3; subst g4
  have Y : YS κ h b cI := ⟨fun σ => by rw [g5], fun σ => by rw [g6]; exact hb, ht⟩
  have X : XC κ cX0_toldInGeneration 5 RX0 (some .int) 0 0 := X
  show XG κ σ 0 [(0, .ref (κ.S0 + (b + 1))), (1, .int p1), (2, .int p2)] []
  unfold f_X0_toldInGeneration at hf
  refine x_iconst (v := 0) X dX0_toldInGeneration_0 (by decide) ?_
  refine x_istore_n (lv' := [(3, .int 0), (0, .ref (κ.S0 + (b + 1))), (1, .int p1), (2, .int p2)]) X dX0_toldInGeneration_1 rfl (by decide) rfl ?_
  refine x_iconst (v := 0) X dX0_toldInGeneration_2 (by decide) ?_
  refine x_istore (lv' := [(4, .int 0), (3, .int 0), (0, .ref (κ.S0 + (b + 1))), (1, .int p1), (2, .int p2)]) X dX0_toldInGeneration_3 (by decide) rfl ?_
  refine x_kont (b := fun kX5 => f_X0_toldInGeneration_L5 σ p1 p2 kX5 FU 0 0) (fun kX5 => ∀ (w3_56 : Int32), kX5 w3_56 = some r → XG κ σ 56 [(3, .int w3_56)] []) hf (fun w3_56 hf => ?_) (fun kX5 JX5 hf => ?_)
  · refine x_iload_n X dX0_toldInGeneration_56 rfl 0 rfl ?_
    exact x_iretR (σ0 := σ) X E hQ hf dX0_toldInGeneration_57
  · have LL : ∀ (n : Nat) (v3_5 : Int32) (v4_5 : Int32), f_X0_toldInGeneration_L5 σ p1 p2 kX5 n v3_5 v4_5 = some r → XG κ σ 5 [(0, .ref (κ.S0 + (b + 1))), (1, .int p1), (2, .int p2), (3, .int v3_5), (4, .int v4_5)] [] := by
      intro n
      induction n with
      | zero => intro v3_5 v4_5 hf; rw [f_X0_toldInGeneration_L5] at hf; cases hf
      | succ n ih5 =>
        intro v3_5 v4_5 hf
        rw [f_X0_toldInGeneration_L5] at hf
        refine x_iload X dX0_toldInGeneration_5 4 rfl ?_
        refine x_aload_n X dX0_toldInGeneration_7 rfl 0 rfl ?_
        refine x_getf X fl_X0_36 (yS_1 Y) (yS_l Y 1 (by decide)) rfl dX0_toldInGeneration_8 ?_
        refine x_icmp_ge (tgt := 56) X dX0_toldInGeneration_11 (by decide) hf (fun hf => ?_) (fun hf => ?_)
        · refine x_sub [3] rfl ?_
          exact JX5 v3_5 hf
        · refine x_aload_n X dX0_toldInGeneration_14 rfl 0 rfl ?_
          refine x_getf X fl_X0_21 (yS_1 Y) (yS_l Y 1 (by decide)) rfl dX0_toldInGeneration_15 ?_
          refine x_iload X dX0_toldInGeneration_18 4 rfl ?_
          refine x_iald X 0 (yS_ht Y) (yS_5 Y) (yS_l Y 5 (by decide)) dX0_toldInGeneration_20 hf (fun x20 hf => ?_)
          refine x_iconst (v := 2) X dX0_toldInGeneration_21 (by decide) ?_
          refine x_join (fun k50 => ∀ (u3_50 : Int32), k50 u3_50 = some r → XG κ σ 50 [(0, .ref (κ.S0 + (b + 1))), (1, .int p1), (2, .int p2), (3, .int u3_50), (4, .int v4_5)] []) hf (fun u3_50 hf => ?_) (fun k50 J50 hf => ?_)
          · refine x_iinc (v := v4_5 + 1) (lv' := [(4, .int (v4_5 + 1)), (0, .ref (κ.S0 + (b + 1))), (1, .int p1), (2, .int p2), (3, .int u3_50)]) X dX0_toldInGeneration_50 4 rfl rfl (by decide) rfl ?_
            refine x_goto (tgt := 5) X dX0_toldInGeneration_53 (by decide) ?_
            refine x_sub [1, 2, 3, 4, 0] rfl ?_
            exact ih5 u3_50 (v4_5 + 1) hf
          · refine x_icmp_ne (tgt := 50) X dX0_toldInGeneration_22 (by decide) hf (fun hf => ?_) (fun hf => ?_)
            · exact J50 v3_5 hf
            · refine x_aload_n X dX0_toldInGeneration_25 rfl 0 rfl ?_
              refine x_getf X fl_X0_15 (yS_1 Y) (yS_l Y 1 (by decide)) rfl dX0_toldInGeneration_26 ?_
              refine x_iload X dX0_toldInGeneration_29 4 rfl ?_
              refine x_iald X 0 (yS_ht Y) (yS_3 Y) (yS_l Y 3 (by decide)) dX0_toldInGeneration_31 hf (fun x31 hf => ?_)
              refine x_iload_n X dX0_toldInGeneration_32 rfl 1 rfl ?_
              refine x_icmp_ne (tgt := 50) X dX0_toldInGeneration_33 (by decide) hf (fun hf => ?_) (fun hf => ?_)
              · exact J50 v3_5 hf
              · refine x_aload_n X dX0_toldInGeneration_36 rfl 0 rfl ?_
                refine x_getf X fl_X0_33 (yS_1 Y) (yS_l Y 1 (by decide)) rfl dX0_toldInGeneration_37 ?_
                refine x_iload X dX0_toldInGeneration_40 4 rfl ?_
                refine x_iald X 0 (yS_ht Y) (yS_9 Y) (yS_l Y 9 (by decide)) dX0_toldInGeneration_42 hf (fun x42 hf => ?_)
                refine x_iload_n X dX0_toldInGeneration_43 rfl 2 rfl ?_
                refine x_icmp_ne (tgt := 50) X dX0_toldInGeneration_44 (by decide) hf (fun hf => ?_) (fun hf => ?_)
                · exact J50 v3_5 hf
                · refine x_iinc (v := v3_5 + 1) (lv' := [(3, .int (v3_5 + 1)), (0, .ref (κ.S0 + (b + 1))), (1, .int p1), (2, .int p2), (4, .int v4_5)]) X dX0_toldInGeneration_47 3 rfl rfl (by decide) rfl ?_
                  refine x_sub [1, 2, 3, 0, 4] rfl ?_
                  exact J50 (v3_5 + 1) hf
    refine x_sub [2, 3, 4, 1, 0] rfl ?_
    exact LL FU 0 0 hf
def f_X0_markFailed (σ : SS) (p1 : Int32) (p2 : Int32) : Option (SS) :=
  oS 201 (σ.1 5) p1 3 (sA σ 5) (fun s6 => oS 201 (s6.1 8) p1 p2 (sA s6 8) (fun s13 => some s13))
set_option maxRecDepth 100000 in
set_option maxHeartbeats 4000000 in
theorem m_X0_markFailed {l : Launch} {G : va_G} {tys : List (ClassId × FieldType)} {S0 : Nat} {h h1 h2 : Nat → va_E} {b cN' : Nat} {cI : ClassId} {σ : SS} {τ : SS} {p1 : Int32} {p2 : Int32} (hb : b + 22 ≤ cN') (ht : tys[0]? = some (cI, .int)) (e1 : h1 = ov h b (gl S0 cI b σ)) (e2 : h2 = ov h b (gl S0 cI b τ)) (hf : f_X0_markFailed σ p1 p2 = some τ) : XMet l G tys S0 cN' yX0_markFailed cX0_markFailed 3 none 0 0 [.ref (S0 + (b + 1)), .int p1, .int p2] h1 cN' none h2 0 0 := by
  subst e1; subst e2
  refine XMet.ofE (ST := SS) (HP := fun σ => ov h b (gl S0 cI b σ)) σ τ (by decide) (Nat.le_of_ble_eq_true rfl) ?_
  intro κ g1 g2 g3 g4 g5 g6 E X hQ
  subst g1; subst g2; subst g3; subst g4
  have Y : YS κ h b cI := ⟨fun σ => by rw [g5], fun σ => by rw [g6]; exact hb, ht⟩
  have X : XC κ cX0_markFailed 3 RX0 none 0 0 := X
  show XG κ σ 0 [(0, .ref (κ.S0 + (b + 1))), (1, .int p1), (2, .int p2)] []
  unfold f_X0_markFailed at hf
  refine x_aload_n X dX0_markFailed_0 rfl 0 rfl ?_
  refine x_getf X fl_X0_21 (yS_1 Y) (yS_l Y 1 (by decide)) rfl dX0_markFailed_1 ?_
  refine x_iload_n X dX0_markFailed_4 rfl 1 rfl ?_
  refine x_iconst (v := 3) X dX0_markFailed_5 (by decide) ?_
  refine x_iast (w := sA σ 5) X E.1 0 (yS_ht Y) (yS_5 Y) (yS_l Y 5 (by decide)) (yS_s5 Y) dX0_markFailed_6 hf (fun s6 hf => ?_)
  refine x_aload_n X dX0_markFailed_7 rfl 0 rfl ?_
  refine x_getf X fl_X0_30 (yS_1 Y) (yS_l Y 1 (by decide)) rfl dX0_markFailed_8 ?_
  refine x_iload_n X dX0_markFailed_11 rfl 1 rfl ?_
  refine x_iload_n X dX0_markFailed_12 rfl 2 rfl ?_
  refine x_iast (w := sA s6 8) X E.1 0 (yS_ht Y) (yS_8 Y) (yS_l Y 8 (by decide)) (yS_s8 Y) dX0_markFailed_13 hf (fun s13 hf => ?_)
  exact x_vretV (σ0 := σ) X E hQ hf dX0_markFailed_14
def f_X0_isLive (σ : SS) (p1 : Int32) : Option (Int32) :=
  oA 201 (σ.1 5) p1 (fun x5 => if x5 = 0 then (oB 1) else (oA 201 (σ.1 5) p1 (fun x14 => if x14 = 1 then (oB 1) else (oB 0))))
set_option maxRecDepth 100000 in
set_option maxHeartbeats 4000000 in
theorem m_X0_isLive {l : Launch} {G : va_G} {tys : List (ClassId × FieldType)} {S0 : Nat} {h h1 h2 : Nat → va_E} {b cN' : Nat} {cI : ClassId} {σ : SS} {p1 : Int32} {r : Int32} (hb : b + 22 ≤ cN') (ht : tys[0]? = some (cI, .int)) (e1 : h1 = ov h b (gl S0 cI b σ)) (e2 : h2 = ov h b (gl S0 cI b σ)) (hf : f_X0_isLive σ p1 = some r) : XMet l G tys S0 cN' yX0_isLive cX0_isLive 2 (some .boolean) 0 0 [.ref (S0 + (b + 1)), .int p1] h1 cN' (some (.int r)) h2 0 0 := by
  subst e1; subst e2
  refine XMet.ofE (ST := SS) (HP := fun σ => ov h b (gl S0 cI b σ)) σ σ (by decide) (Nat.le_of_ble_eq_true rfl) ?_
  intro κ g1 g2 g3 g4 g5 g6 E X hQ
  subst g1; subst g2; subst g3; subst g4
  have Y : YS κ h b cI := ⟨fun σ => by rw [g5], fun σ => by rw [g6]; exact hb, ht⟩
  have X : XC κ cX0_isLive 2 RX0 (some .boolean) 0 0 := X
  show XG κ σ 0 [(0, .ref (κ.S0 + (b + 1))), (1, .int p1)] []
  unfold f_X0_isLive at hf
  refine x_aload_n X dX0_isLive_0 rfl 0 rfl ?_
  refine x_getf X fl_X0_21 (yS_1 Y) (yS_l Y 1 (by decide)) rfl dX0_isLive_1 ?_
  refine x_iload_n X dX0_isLive_4 rfl 1 rfl ?_
  refine x_iald X 0 (yS_ht Y) (yS_5 Y) (yS_l Y 5 (by decide)) dX0_isLive_5 hf (fun x5 hf => ?_)
  refine x_if_eq (tgt := 19) X dX0_isLive_6 (by decide) hf (fun hf => ?_) (fun hf => ?_)
  · refine x_iconst (v := 1) X dX0_isLive_19 (by decide) ?_
    refine x_goto (tgt := 24) X dX0_isLive_20 (by decide) ?_
    exact x_zretR (σ0 := σ) X E hQ hf dX0_isLive_24
  · refine x_aload_n X dX0_isLive_9 rfl 0 rfl ?_
    refine x_getf X fl_X0_21 (yS_1 Y) (yS_l Y 1 (by decide)) rfl dX0_isLive_10 ?_
    refine x_iload_n X dX0_isLive_13 rfl 1 rfl ?_
    refine x_iald X 0 (yS_ht Y) (yS_5 Y) (yS_l Y 5 (by decide)) dX0_isLive_14 hf (fun x14 hf => ?_)
    refine x_iconst (v := 1) X dX0_isLive_15 (by decide) ?_
    refine x_icmp_ne (tgt := 23) X dX0_isLive_16 (by decide) hf (fun hf => ?_) (fun hf => ?_)
    · refine x_iconst (v := 0) X dX0_isLive_23 (by decide) ?_
      exact x_zretR (σ0 := σ) X E hQ hf dX0_isLive_24
    · refine x_iconst (v := 1) X dX0_isLive_19 (by decide) ?_
      refine x_goto (tgt := 24) X dX0_isLive_20 (by decide) ?_
      exact x_zretR (σ0 := σ) X E hQ hf dX0_isLive_24
def f_X0_dropEnded_L4  (kX4 : Int32 → SS → Option (SS)) : Nat → Int32 → Int32 → SS → Option (SS)
  | 0, _, _, _ => none
  | n + 1, v1_4, v2_4, s4 =>
    if (s4.2 2) ≤ v2_4 then (kX4 v1_4 s4) else (oA 33 (s4.1 11) v2_4 (fun x18 => oR (f_X0_isLive s4 x18) (fun r19 => oJ (κ := Int32 → SS → Option (SS)) (fun u1_40 s_40 => f_X0_dropEnded_L4 kX4 n u1_40 (v2_4 + 1) s_40) (fun k40 => if r19 = 0 then (k40 v1_4 s4) else (oA 33 (s4.1 11) v2_4 (fun x35 => oS 33 (s4.1 11) v1_4 x35 (sA s4 11) (fun s36 => k40 (v1_4 + 1) s36)))))))
def f_X0_dropEnded (σ : SS)  : Option (SS) :=
  f_X0_dropEnded_L4 (fun w1_46 sx46 => oN w1_46 (sN sx46 2) (fun s48 => some s48)) FU 0 0 σ
set_option maxRecDepth 100000 in
set_option maxHeartbeats 4000000 in
theorem m_X0_dropEnded {l : Launch} {G : va_G} {tys : List (ClassId × FieldType)} {S0 : Nat} {h h1 h2 : Nat → va_E} {b cN' : Nat} {cI : ClassId} {σ : SS} {τ : SS}  (hb : b + 22 ≤ cN') (ht : tys[0]? = some (cI, .int)) (e1 : h1 = ov h b (gl S0 cI b σ)) (e2 : h2 = ov h b (gl S0 cI b τ)) (hf : f_X0_dropEnded σ = some τ) : XMet l G tys S0 cN' yX0_dropEnded cX0_dropEnded 3 none 1 21 [.ref (S0 + (b + 1))] h1 cN' none h2 0 0 := by
  subst e1; subst e2
  refine XMet.ofE (ST := SS) (HP := fun σ => ov h b (gl S0 cI b σ)) σ τ (by decide) (Nat.le_of_ble_eq_true rfl) ?_
  intro κ g1 g2 g3 g4 g5 g6 E X hQ
  subst g1; subst g2; subst g3; subst g4
  have Y : YS κ h b cI := ⟨fun σ => by rw [g5], fun σ => by rw [g6]; exact hb, ht⟩
  have X : XC κ cX0_dropEnded 3 RX0 none 1 21 := X
  show XG κ σ 0 [(0, .ref (κ.S0 + (b + 1)))] []
  unfold f_X0_dropEnded at hf
  refine x_iconst (v := 0) X dX0_dropEnded_0 (by decide) ?_
  refine x_istore_n (lv' := [(1, .int 0), (0, .ref (κ.S0 + (b + 1)))]) X dX0_dropEnded_1 rfl (by decide) rfl ?_
  refine x_iconst (v := 0) X dX0_dropEnded_2 (by decide) ?_
  refine x_istore_n (lv' := [(2, .int 0), (1, .int 0), (0, .ref (κ.S0 + (b + 1)))]) X dX0_dropEnded_3 rfl (by decide) rfl ?_
  refine x_kont (b := fun kX4 => f_X0_dropEnded_L4 kX4 FU 0 0 σ) (fun kX4 => ∀ (w1_46 : Int32) (sx46 : SS), kX4 w1_46 sx46 = some τ → XG κ sx46 46 [(0, .ref (κ.S0 + (b + 1))), (1, .int w1_46)] []) hf (fun w1_46 sx46 hf => ?_) (fun kX4 JX4 hf => ?_)
  · refine x_aload_n X dX0_dropEnded_46 rfl 0 rfl ?_
    refine x_iload_n X dX0_dropEnded_47 rfl 1 rfl ?_
    refine x_putI (w := sN sx46 2) X E.1 fp_X0_49 (yS_1 Y) (yS_l Y 1 (by decide)) (Nat.le_of_ble_eq_true rfl) (yS_p1_12 Y) dX0_dropEnded_48 hf (fun s48 hf => ?_)
    exact x_vretV (σ0 := σ) X E hQ hf dX0_dropEnded_51
  · have LL : ∀ (n : Nat) (v1_4 : Int32) (v2_4 : Int32) (s4 : SS), f_X0_dropEnded_L4 kX4 n v1_4 v2_4 s4 = some τ → XG κ s4 4 [(0, .ref (κ.S0 + (b + 1))), (1, .int v1_4), (2, .int v2_4)] [] := by
      intro n
      induction n with
      | zero => intro v1_4 v2_4 s4 hf; rw [f_X0_dropEnded_L4] at hf; cases hf
      | succ n ih4 =>
        intro v1_4 v2_4 s4 hf
        rw [f_X0_dropEnded_L4] at hf
        refine x_iload_n X dX0_dropEnded_4 rfl 2 rfl ?_
        refine x_aload_n X dX0_dropEnded_5 rfl 0 rfl ?_
        refine x_getf X fl_X0_49 (yS_1 Y) (yS_l Y 1 (by decide)) rfl dX0_dropEnded_6 ?_
        refine x_icmp_ge (tgt := 46) X dX0_dropEnded_9 (by decide) hf (fun hf => ?_) (fun hf => ?_)
        · refine x_sub [0, 1] rfl ?_
          exact JX4 v1_4 s4 hf
        · refine x_aload_n X dX0_dropEnded_12 rfl 0 rfl ?_
          refine x_aload_n X dX0_dropEnded_13 rfl 0 rfl ?_
          refine x_getf X fl_X0_46 (yS_1 Y) (yS_l Y 1 (by decide)) rfl dX0_dropEnded_14 ?_
          refine x_iload_n X dX0_dropEnded_17 rfl 2 rfl ?_
          refine x_iald X 0 (yS_ht Y) (yS_11 Y) (yS_l Y 11 (by decide)) dX0_dropEnded_18 hf (fun x18 hf => ?_)
          refine x_callR (rest := []) X hf (fun r hr => x_cV (ci := 0) X cm_X0_isLive lkV_X0_63 rfl ⟨Nat.le_of_ble_eq_true rfl, Nat.le_of_ble_eq_true rfl⟩ (yS_1 Y) (yS_l Y 1 (by decide)) (m_X0_isLive (yS_hb Y s4) (yS_ht Y) (yS_hp Y _) (yS_hp Y _) hr) rfl rfl (Nat.le_of_ble_eq_true rfl) (x_room E _) dX0_dropEnded_19) (fun r19 hf => ?_)
          refine x_join (fun k40 => ∀ (u1_40 : Int32) (s_40 : SS), k40 u1_40 s_40 = some τ → XG κ s_40 40 [(0, .ref (κ.S0 + (b + 1))), (1, .int u1_40), (2, .int v2_4)] []) hf (fun u1_40 s_40 hf => ?_) (fun k40 J40 hf => ?_)
          · refine x_iinc (v := v2_4 + 1) (lv' := [(2, .int (v2_4 + 1)), (0, .ref (κ.S0 + (b + 1))), (1, .int u1_40)]) X dX0_dropEnded_40 2 rfl rfl (by decide) rfl ?_
            refine x_goto (tgt := 4) X dX0_dropEnded_43 (by decide) ?_
            refine x_sub [1, 2, 0] rfl ?_
            exact ih4 u1_40 (v2_4 + 1) s_40 hf
          · refine x_if_eq (tgt := 40) X dX0_dropEnded_22 (by decide) hf (fun hf => ?_) (fun hf => ?_)
            · exact J40 v1_4 s4 hf
            · refine x_aload_n X dX0_dropEnded_25 rfl 0 rfl ?_
              refine x_getf X fl_X0_46 (yS_1 Y) (yS_l Y 1 (by decide)) rfl dX0_dropEnded_26 ?_
              refine x_iload_n X dX0_dropEnded_29 rfl 1 rfl ?_
              refine x_aload_n X dX0_dropEnded_30 rfl 0 rfl ?_
              refine x_getf X fl_X0_46 (yS_1 Y) (yS_l Y 1 (by decide)) rfl dX0_dropEnded_31 ?_
              refine x_iload_n X dX0_dropEnded_34 rfl 2 rfl ?_
              refine x_iald X 0 (yS_ht Y) (yS_11 Y) (yS_l Y 11 (by decide)) dX0_dropEnded_35 hf (fun x35 hf => ?_)
              refine x_iast (w := sA s4 11) X E.1 0 (yS_ht Y) (yS_11 Y) (yS_l Y 11 (by decide)) (yS_s11 Y) dX0_dropEnded_36 hf (fun s36 hf => ?_)
              refine x_iinc (v := v1_4 + 1) (lv' := [(1, .int (v1_4 + 1)), (0, .ref (κ.S0 + (b + 1))), (2, .int v2_4)]) X dX0_dropEnded_37 1 rfl rfl (by decide) rfl ?_
              refine x_sub [1, 0, 2] rfl ?_
              exact J40 (v1_4 + 1) s36 hf
    refine x_sub [2, 1, 0] rfl ?_
    exact LL FU 0 0 σ hf
def f_X0_failInZone_L6 (p1 : Int32) (p2 : Int32) (p3 : Int32) (kX6 : Int32 → SS → Option (Int32 × SS)) : Nat → Int32 → Int32 → SS → Option (Int32 × SS)
  | 0, _, _, _ => none
  | n + 1, v4_6, v5_6, s6 =>
    if (s6.2 2) ≤ v5_6 then (kX6 v4_6 s6) else (oA 33 (s6.1 11) v5_6 (fun x21 => oA 201 (s6.1 3) x21 (fun x30 => oJ (κ := Int32 → SS → Option (Int32 × SS)) (fun u4_56 s_56 => f_X0_failInZone_L6 p1 p2 p3 kX6 n u4_56 (v5_6 + 1) s_56) (fun k56 => if x30 = p1 then (oA 201 (s6.1 5) x21 (fun x41 => if x41 = p2 then (oV (f_X0_markFailed s6 x21 p3) (fun t => t) (fun s50 => k56 (v4_6 + 1) s50)) else (k56 v4_6 s6))) else (k56 v4_6 s6)))))
def f_X0_failInZone (σ : SS) (p1 : Int32) (p2 : Int32) (p3 : Int32) : Option (Int32 × SS) :=
  f_X0_failInZone_L6 p1 p2 p3 (fun w4_62 sx62 => oV (f_X0_dropEnded sx62) (fun t => t) (fun s63 => some (w4_62, s63))) FU 0 0 σ
set_option maxRecDepth 100000 in
set_option maxHeartbeats 4000000 in
theorem m_X0_failInZone {l : Launch} {G : va_G} {tys : List (ClassId × FieldType)} {S0 : Nat} {h h1 h2 : Nat → va_E} {b cN' : Nat} {cI : ClassId} {σ : SS} {τ : SS} {p1 : Int32} {p2 : Int32} {p3 : Int32} {r : Int32} (hb : b + 22 ≤ cN') (ht : tys[0]? = some (cI, .int)) (e1 : h1 = ov h b (gl S0 cI b σ)) (e2 : h2 = ov h b (gl S0 cI b τ)) (hf : f_X0_failInZone σ p1 p2 p3 = some (r, τ)) : XMet l G tys S0 cN' yX0_failInZone cX0_failInZone 7 (some .int) 2 43 [.ref (S0 + (b + 1)), .int p1, .int p2, .int p3] h1 cN' (some (.int r)) h2 0 0 := by
  subst e1; subst e2
  refine XMet.ofE (ST := SS) (HP := fun σ => ov h b (gl S0 cI b σ)) σ τ (by decide) (Nat.le_of_ble_eq_true rfl) ?_
  intro κ g1 g2 g3 g4 g5 g6 E X hQ
  subst g1; subst g2; subst g3; subst g4
  have Y : YS κ h b cI := ⟨fun σ => by rw [g5], fun σ => by rw [g6]; exact hb, ht⟩
  have X : XC κ cX0_failInZone 7 RX0 (some .int) 2 43 := X
  show XG κ σ 0 [(0, .ref (κ.S0 + (b + 1))), (1, .int p1), (2, .int p2), (3, .int p3)] []
  unfold f_X0_failInZone at hf
  refine x_iconst (v := 0) X dX0_failInZone_0 (by decide) ?_
  refine x_istore (lv' := [(4, .int 0), (0, .ref (κ.S0 + (b + 1))), (1, .int p1), (2, .int p2), (3, .int p3)]) X dX0_failInZone_1 (by decide) rfl ?_
  refine x_iconst (v := 0) X dX0_failInZone_3 (by decide) ?_
  refine x_istore (lv' := [(5, .int 0), (4, .int 0), (0, .ref (κ.S0 + (b + 1))), (1, .int p1), (2, .int p2), (3, .int p3)]) X dX0_failInZone_4 (by decide) rfl ?_
  refine x_kont (b := fun kX6 => f_X0_failInZone_L6 p1 p2 p3 kX6 FU 0 0 σ) (fun kX6 => ∀ (w4_62 : Int32) (sx62 : SS), kX6 w4_62 sx62 = some (r, τ) → XG κ sx62 62 [(0, .ref (κ.S0 + (b + 1))), (4, .int w4_62)] []) hf (fun w4_62 sx62 hf => ?_) (fun kX6 JX6 hf => ?_)
  · refine x_aload_n X dX0_failInZone_62 rfl 0 rfl ?_
    refine x_callV (rest := []) (w := fun t => t) X E.1 hf (fun t hr => x_cV (ci := 0) X cm_X0_dropEnded lkV_X0_60 rfl ⟨Nat.le_of_ble_eq_true rfl, Nat.le_of_ble_eq_true rfl⟩ (yS_1 Y) (yS_l Y 1 (by decide)) (m_X0_dropEnded (yS_hb Y sx62) (yS_ht Y) (yS_hp Y _) (yS_hp Y _) hr) rfl rfl (Nat.le_of_ble_eq_true rfl) (x_room E _) dX0_failInZone_63) (fun s63 hf => ?_)
    refine x_iload X dX0_failInZone_66 1 rfl ?_
    exact x_iretW (σ0 := σ) X E hQ hf dX0_failInZone_68
  · have LL : ∀ (n : Nat) (v4_6 : Int32) (v5_6 : Int32) (s6 : SS), f_X0_failInZone_L6 p1 p2 p3 kX6 n v4_6 v5_6 s6 = some (r, τ) → XG κ s6 6 [(0, .ref (κ.S0 + (b + 1))), (1, .int p1), (2, .int p2), (3, .int p3), (4, .int v4_6), (5, .int v5_6)] [] := by
      intro n
      induction n with
      | zero => intro v4_6 v5_6 s6 hf; rw [f_X0_failInZone_L6] at hf; cases hf
      | succ n ih6 =>
        intro v4_6 v5_6 s6 hf
        rw [f_X0_failInZone_L6] at hf
        refine x_iload X dX0_failInZone_6 5 rfl ?_
        refine x_aload_n X dX0_failInZone_8 rfl 0 rfl ?_
        refine x_getf X fl_X0_49 (yS_1 Y) (yS_l Y 1 (by decide)) rfl dX0_failInZone_9 ?_
        refine x_icmp_ge (tgt := 62) X dX0_failInZone_12 (by decide) hf (fun hf => ?_) (fun hf => ?_)
        · refine x_sub [0, 4] rfl ?_
          exact JX6 v4_6 s6 hf
        · refine x_aload_n X dX0_failInZone_15 rfl 0 rfl ?_
          refine x_getf X fl_X0_46 (yS_1 Y) (yS_l Y 1 (by decide)) rfl dX0_failInZone_16 ?_
          refine x_iload X dX0_failInZone_19 5 rfl ?_
          refine x_iald X 0 (yS_ht Y) (yS_11 Y) (yS_l Y 11 (by decide)) dX0_failInZone_21 hf (fun x21 hf => ?_)
          refine x_istore (lv' := [(6, .int x21), (0, .ref (κ.S0 + (b + 1))), (1, .int p1), (2, .int p2), (3, .int p3), (4, .int v4_6), (5, .int v5_6)]) X dX0_failInZone_22 (by decide) rfl ?_
          refine x_aload_n X dX0_failInZone_24 rfl 1 rfl ?_
          refine x_getf X fl_X0_15 (yS_1 Y) (yS_l Y 1 (by decide)) rfl dX0_failInZone_25 ?_
          refine x_iload X dX0_failInZone_28 0 rfl ?_
          refine x_iald X 0 (yS_ht Y) (yS_3 Y) (yS_l Y 3 (by decide)) dX0_failInZone_30 hf (fun x30 hf => ?_)
          refine x_iload_n X dX0_failInZone_31 rfl 2 rfl ?_
          refine x_join (fun k56 => ∀ (u4_56 : Int32) (s_56 : SS), k56 u4_56 s_56 = some (r, τ) → XG κ s_56 56 [(0, .ref (κ.S0 + (b + 1))), (1, .int p1), (2, .int p2), (3, .int p3), (4, .int u4_56), (5, .int v5_6)] []) hf (fun u4_56 s_56 hf => ?_) (fun k56 J56 hf => ?_)
          · refine x_iinc (v := v5_6 + 1) (lv' := [(5, .int (v5_6 + 1)), (0, .ref (κ.S0 + (b + 1))), (1, .int p1), (2, .int p2), (3, .int p3), (4, .int u4_56)]) X dX0_failInZone_56 5 rfl rfl (by decide) rfl ?_
            refine x_goto (tgt := 6) X dX0_failInZone_59 (by decide) ?_
            refine x_sub [1, 2, 3, 4, 5, 0] rfl ?_
            exact ih6 u4_56 (v5_6 + 1) s_56 hf
          · refine x_icmp_ne (tgt := 56) X dX0_failInZone_32 (by decide) hf (fun hf => ?_) (fun hf => ?_)
            · refine x_sub [1, 2, 3, 4, 5, 6] rfl ?_
              exact J56 v4_6 s6 hf
            · refine x_aload_n X dX0_failInZone_35 rfl 1 rfl ?_
              refine x_getf X fl_X0_21 (yS_1 Y) (yS_l Y 1 (by decide)) rfl dX0_failInZone_36 ?_
              refine x_iload X dX0_failInZone_39 0 rfl ?_
              refine x_iald X 0 (yS_ht Y) (yS_5 Y) (yS_l Y 5 (by decide)) dX0_failInZone_41 hf (fun x41 hf => ?_)
              refine x_iload_n X dX0_failInZone_42 rfl 3 rfl ?_
              refine x_icmp_ne (tgt := 56) X dX0_failInZone_43 (by decide) hf (fun hf => ?_) (fun hf => ?_)
              · refine x_sub [1, 2, 3, 4, 5, 6] rfl ?_
                exact J56 v4_6 s6 hf
              · refine x_aload_n X dX0_failInZone_46 rfl 1 rfl ?_
                refine x_iload X dX0_failInZone_47 0 rfl ?_
                refine x_iload_n X dX0_failInZone_49 rfl 4 rfl ?_
                refine x_callV (rest := []) (w := fun t => t) X E.1 hf (fun t hr => x_cV (ci := 0) X cm_X0_markFailed lkV_X0_56 rfl ⟨Nat.le_of_ble_eq_true rfl, Nat.le_of_ble_eq_true rfl⟩ (yS_1 Y) (yS_l Y 1 (by decide)) (m_X0_markFailed (yS_hb Y s6) (yS_ht Y) (yS_hp Y _) (yS_hp Y _) hr) rfl rfl (Nat.le_of_ble_eq_true rfl) (x_room E _) dX0_failInZone_50) (fun s50 hf => ?_)
                refine x_iinc (v := v4_6 + 1) (lv' := [(4, .int (v4_6 + 1)), (6, .int x21), (0, .ref (κ.S0 + (b + 1))), (1, .int p1), (2, .int p2), (3, .int p3), (5, .int v5_6)]) X dX0_failInZone_53 5 rfl rfl (by decide) rfl ?_
                refine x_sub [2, 3, 4, 5, 0, 6] rfl ?_
                exact J56 (v4_6 + 1) s50 hf
    refine x_sub [2, 3, 4, 5, 1, 0] rfl ?_
    exact LL FU 0 0 σ hf
def f_X4_clear (σ : SS) (p1 : Int32) : Option (SS) :=
  oS 8 (σ.1 13) p1 0 (sA σ 13) (fun s6 => oS 8 (s6.1 16) p1 0 (sA s6 16) (fun s13 => oA 8 (s13.1 17) p1 (fun x20 => oS 8 (s13.1 17) p1 (x20 + 1) (sA s13 17) (fun s23 => some s23))))
set_option maxRecDepth 100000 in
set_option maxHeartbeats 4000000 in
theorem m_X4_clear {l : Launch} {G : va_G} {tys : List (ClassId × FieldType)} {S0 : Nat} {h h1 h2 : Nat → va_E} {b cN' : Nat} {cI : ClassId} {σ : SS} {τ : SS} {p1 : Int32} (hb : b + 22 ≤ cN') (ht : tys[0]? = some (cI, .int)) (e1 : h1 = ov h b (gl S0 cI b σ)) (e2 : h2 = ov h b (gl S0 cI b τ)) (hf : f_X4_clear σ p1 = some τ) : XMet l G tys S0 cN' yX4_clear cX4_clear 2 none 0 0 [.ref (S0 + (b + 12)), .int p1] h1 cN' none h2 0 0 := by
  subst e1; subst e2
  refine XMet.ofE (ST := SS) (HP := fun σ => ov h b (gl S0 cI b σ)) σ τ (by decide) (Nat.le_of_ble_eq_true rfl) ?_
  intro κ g1 g2 g3 g4 g5 g6 E X hQ
  subst g1; subst g2; subst g3; subst g4
  have Y : YS κ h b cI := ⟨fun σ => by rw [g5], fun σ => by rw [g6]; exact hb, ht⟩
  have X : XC κ cX4_clear 2 RX4 none 0 0 := X
  show XG κ σ 0 [(0, .ref (κ.S0 + (b + 12))), (1, .int p1)] []
  unfold f_X4_clear at hf
  refine x_aload_n X dX4_clear_0 rfl 0 rfl ?_
  refine x_getf X fl_X4_9 (yS_12 Y) (yS_l Y 12 (by decide)) rfl dX4_clear_1 ?_
  refine x_iload_n X dX4_clear_4 rfl 1 rfl ?_
  refine x_iconst (v := 0) X dX4_clear_5 (by decide) ?_
  refine x_iast (w := sA σ 13) X E.1 0 (yS_ht Y) (yS_13 Y) (yS_l Y 13 (by decide)) (yS_s13 Y) dX4_clear_6 hf (fun s6 hf => ?_)
  refine x_aload_n X dX4_clear_7 rfl 0 rfl ?_
  refine x_getf X fl_X4_21 (yS_12 Y) (yS_l Y 12 (by decide)) rfl dX4_clear_8 ?_
  refine x_iload_n X dX4_clear_11 rfl 1 rfl ?_
  refine x_iconst (v := 0) X dX4_clear_12 (by decide) ?_
  refine x_iast (w := sA s6 16) X E.1 0 (yS_ht Y) (yS_16 Y) (yS_l Y 16 (by decide)) (yS_s16 Y) dX4_clear_13 hf (fun s13 hf => ?_)
  refine x_aload_n X dX4_clear_14 rfl 0 rfl ?_
  refine x_getf X fl_X4_24 (yS_12 Y) (yS_l Y 12 (by decide)) rfl dX4_clear_15 ?_
  refine x_iload_n X dX4_clear_18 rfl 1 rfl ?_
  refine x_dup2 X dX4_clear_19 rfl rfl ?_
  refine x_iald X 0 (yS_ht Y) (yS_17 Y) (yS_l Y 17 (by decide)) dX4_clear_20 hf (fun x20 hf => ?_)
  refine x_iconst (v := 1) X dX4_clear_21 (by decide) ?_
  refine x_iadd X dX4_clear_22 ?_
  refine x_iast (w := sA s13 17) X E.1 0 (yS_ht Y) (yS_17 Y) (yS_l Y 17 (by decide)) (yS_s17 Y) dX4_clear_23 hf (fun s23 hf => ?_)
  exact x_vretV (σ0 := σ) X E hQ hf dX4_clear_24
def f_X3_wipe (σ : SS) (p1 : Int32) : Option (Int32 × SS) :=
  oR (f_X5_isZone p1) (fun r1 => if r1 = 0 then (some ((-1), σ)) else (oA 8 (σ.1 13) p1 (fun x17 => if x17 = 0 then (some ((-5), σ)) else (oA 8 (σ.1 17) p1 (fun x37 => oR (f_X0_toldInGeneration σ p1 x37) (fun r38 => oW (f_X0_failInZone σ p1 1 2) (fun t => t) (fun r49 s49 => oV (f_X4_clear s49 p1) (fun t => t) (fun s58 => some (r38, s58)))))))))
set_option maxRecDepth 100000 in
set_option maxHeartbeats 4000000 in
theorem m_X3_wipe {l : Launch} {G : va_G} {tys : List (ClassId × FieldType)} {S0 : Nat} {h h1 h2 : Nat → va_E} {b cN' : Nat} {cI : ClassId} {σ : SS} {τ : SS} {p1 : Int32} {r : Int32} (hb : b + 22 ≤ cN') (ht : tys[0]? = some (cI, .int)) (e1 : h1 = ov h b (gl S0 cI b σ)) (e2 : h2 = ov h b (gl S0 cI b τ)) (hf : f_X3_wipe σ p1 = some (r, τ)) : XMet l G tys S0 cN' yX3_wipe cX3_wipe 3 (some .int) 3 69 [.ref (S0 + (b + 0)), .int p1] h1 cN' (some (.int r)) h2 0 0 := by
  subst e1; subst e2
  refine XMet.ofE (ST := SS) (HP := fun σ => ov h b (gl S0 cI b σ)) σ τ (by decide) (Nat.le_of_ble_eq_true rfl) ?_
  intro κ g1 g2 g3 g4 g5 g6 E X hQ
  subst g1; subst g2; subst g3; subst g4
  have Y : YS κ h b cI := ⟨fun σ => by rw [g5], fun σ => by rw [g6]; exact hb, ht⟩
  have X : XC κ cX3_wipe 3 RX3 (some .int) 3 69 := X
  show XG κ σ 0 [(0, .ref (κ.S0 + (b + 0))), (1, .int p1)] []
  unfold f_X3_wipe at hf
  refine x_iload_n X dX3_wipe_0 rfl 1 rfl ?_
  refine x_callR (rest := []) X hf (fun r hr => x_cSN X cm_X5_isZone lkN_X3_86 ⟨Nat.le_of_ble_eq_true rfl, Nat.le_of_ble_eq_true rfl⟩ (m_X5_isZone hr) rfl rfl (Nat.le_of_ble_eq_true rfl) (x_room E _) dX3_wipe_1) (fun r1 hf => ?_)
  refine x_if_ne (tgt := 9) X dX3_wipe_4 (by decide) hf (fun hf => ?_) (fun hf => ?_)
  · refine x_aload_n X dX3_wipe_9 rfl 0 rfl ?_
    refine x_getf X fl_X3_21 (yS_0 Y) (yS_l Y 0 (by decide)) rfl dX3_wipe_10 ?_
    refine x_getf X fl_X3_93 (yS_12 Y) (yS_l Y 12 (by decide)) rfl dX3_wipe_13 ?_
    refine x_iload_n X dX3_wipe_16 rfl 1 rfl ?_
    refine x_iald X 0 (yS_ht Y) (yS_13 Y) (yS_l Y 13 (by decide)) dX3_wipe_17 hf (fun x17 hf => ?_)
    refine x_if_ne (tgt := 24) X dX3_wipe_18 (by decide) hf (fun hf => ?_) (fun hf => ?_)
    · refine x_aload_n X dX3_wipe_24 rfl 0 rfl ?_
      refine x_getf X fl_X3_12 (yS_0 Y) (yS_l Y 0 (by decide)) rfl dX3_wipe_25 ?_
      refine x_iload_n X dX3_wipe_28 rfl 1 rfl ?_
      refine x_aload_n X dX3_wipe_29 rfl 0 rfl ?_
      refine x_getf X fl_X3_21 (yS_0 Y) (yS_l Y 0 (by decide)) rfl dX3_wipe_30 ?_
      refine x_getf X fl_X3_113 (yS_12 Y) (yS_l Y 12 (by decide)) rfl dX3_wipe_33 ?_
      refine x_iload_n X dX3_wipe_36 rfl 1 rfl ?_
      refine x_iald X 0 (yS_ht Y) (yS_17 Y) (yS_l Y 17 (by decide)) dX3_wipe_37 hf (fun x37 hf => ?_)
      refine x_callR (rest := []) X hf (fun r hr => x_cV (ci := 0) X cm_X0_toldInGeneration lkV_X3_116 rfl ⟨Nat.le_of_ble_eq_true rfl, Nat.le_of_ble_eq_true rfl⟩ (yS_1 Y) (yS_l Y 1 (by decide)) (m_X0_toldInGeneration (yS_hb Y σ) (yS_ht Y) (yS_hp Y _) (yS_hp Y _) hr) rfl rfl (Nat.le_of_ble_eq_true rfl) (x_room E _) dX3_wipe_38) (fun r38 hf => ?_)
      refine x_istore_n (lv' := [(2, .int r38), (0, .ref (κ.S0 + (b + 0))), (1, .int p1)]) X dX3_wipe_41 rfl (by decide) rfl ?_
      refine x_aload_n X dX3_wipe_42 rfl 1 rfl ?_
      refine x_getf X fl_X3_12 (yS_0 Y) (yS_l Y 0 (by decide)) rfl dX3_wipe_43 ?_
      refine x_iload_n X dX3_wipe_46 rfl 2 rfl ?_
      refine x_iconst (v := 1) X dX3_wipe_47 (by decide) ?_
      refine x_iconst (v := 2) X dX3_wipe_48 (by decide) ?_
      refine x_callW (rest := []) (w := fun t => t) X E.1 hf (fun r t hr => x_cV (ci := 0) X cm_X0_failInZone lkV_X3_119 rfl ⟨Nat.le_of_ble_eq_true rfl, Nat.le_of_ble_eq_true rfl⟩ (yS_1 Y) (yS_l Y 1 (by decide)) (m_X0_failInZone (yS_hb Y σ) (yS_ht Y) (yS_hp Y _) (yS_hp Y _) hr) rfl rfl (Nat.le_of_ble_eq_true rfl) (x_room E _) dX3_wipe_49) (fun r49 s49 hf => ?_)
      refine x_pop X dX3_wipe_52 rfl ?_
      refine x_aload_n X dX3_wipe_53 rfl 1 rfl ?_
      refine x_getf X fl_X3_21 (yS_0 Y) (yS_l Y 0 (by decide)) rfl dX3_wipe_54 ?_
      refine x_iload_n X dX3_wipe_57 rfl 2 rfl ?_
      refine x_callV (rest := []) (w := fun t => t) X E.1 hf (fun t hr => x_cV (ci := 4) X cm_X4_clear lkV_X3_122 rfl ⟨Nat.le_of_ble_eq_true rfl, Nat.le_of_ble_eq_true rfl⟩ (yS_12 Y) (yS_l Y 12 (by decide)) (m_X4_clear (yS_hb Y s49) (yS_ht Y) (yS_hp Y _) (yS_hp Y _) hr) rfl rfl (Nat.le_of_ble_eq_true rfl) (x_room E _) dX3_wipe_58) (fun s58 hf => ?_)
      refine x_iload_n X dX3_wipe_61 rfl 0 rfl ?_
      exact x_iretW (σ0 := σ) X E hQ hf dX3_wipe_62
    · refine x_bipush (v := (-5)) X dX3_wipe_21 (by decide) ?_
      exact x_iretW (σ0 := σ) X E hQ hf dX3_wipe_23
  · refine x_iconst (v := (-1)) X dX3_wipe_7 (by decide) ?_
    exact x_iretW (σ0 := σ) X E hQ hf dX3_wipe_8
def f_X3_fill (σ : SS) (p1 : Int32) : Option (Int32 × SS) :=
  oR (f_X5_isZone p1) (fun r1 => if r1 = 0 then (some ((-1), σ)) else (oA 8 (σ.1 13) p1 (fun x17 => if x17 = 0 then (some ((-4), σ)) else (oA 8 (σ.1 13) p1 (fun x32 => if x32 = 3 then (some ((-5), σ)) else (oS 8 (σ.1 13) p1 3 (sA σ 13) (fun s49 => oW (f_X0_failInZone s49 p1 0 3) (fun t => t) (fun r57 s57 => some (r57, s57)))))))))
set_option maxRecDepth 100000 in
set_option maxHeartbeats 4000000 in
theorem m_X3_fill {l : Launch} {G : va_G} {tys : List (ClassId × FieldType)} {S0 : Nat} {h h1 h2 : Nat → va_E} {b cN' : Nat} {cI : ClassId} {σ : SS} {τ : SS} {p1 : Int32} {r : Int32} (hb : b + 22 ≤ cN') (ht : tys[0]? = some (cI, .int)) (e1 : h1 = ov h b (gl S0 cI b σ)) (e2 : h2 = ov h b (gl S0 cI b τ)) (hf : f_X3_fill σ p1 = some (r, τ)) : XMet l G tys S0 cN' yX3_fill cX3_fill 2 (some .int) 3 69 [.ref (S0 + (b + 0)), .int p1] h1 cN' (some (.int r)) h2 0 0 := by
  subst e1; subst e2
  refine XMet.ofE (ST := SS) (HP := fun σ => ov h b (gl S0 cI b σ)) σ τ (by decide) (Nat.le_of_ble_eq_true rfl) ?_
  intro κ g1 g2 g3 g4 g5 g6 E X hQ
  subst g1; subst g2; subst g3; subst g4
  have Y : YS κ h b cI := ⟨fun σ => by rw [g5], fun σ => by rw [g6]; exact hb, ht⟩
  have X : XC κ cX3_fill 2 RX3 (some .int) 3 69 := X
  show XG κ σ 0 [(0, .ref (κ.S0 + (b + 0))), (1, .int p1)] []
  unfold f_X3_fill at hf
  refine x_iload_n X dX3_fill_0 rfl 1 rfl ?_
  refine x_callR (rest := []) X hf (fun r hr => x_cSN X cm_X5_isZone lkN_X3_86 ⟨Nat.le_of_ble_eq_true rfl, Nat.le_of_ble_eq_true rfl⟩ (m_X5_isZone hr) rfl rfl (Nat.le_of_ble_eq_true rfl) (x_room E _) dX3_fill_1) (fun r1 hf => ?_)
  refine x_if_ne (tgt := 9) X dX3_fill_4 (by decide) hf (fun hf => ?_) (fun hf => ?_)
  · refine x_aload_n X dX3_fill_9 rfl 0 rfl ?_
    refine x_getf X fl_X3_21 (yS_0 Y) (yS_l Y 0 (by decide)) rfl dX3_fill_10 ?_
    refine x_getf X fl_X3_93 (yS_12 Y) (yS_l Y 12 (by decide)) rfl dX3_fill_13 ?_
    refine x_iload_n X dX3_fill_16 rfl 1 rfl ?_
    refine x_iald X 0 (yS_ht Y) (yS_13 Y) (yS_l Y 13 (by decide)) dX3_fill_17 hf (fun x17 hf => ?_)
    refine x_if_ne (tgt := 24) X dX3_fill_18 (by decide) hf (fun hf => ?_) (fun hf => ?_)
    · refine x_aload_n X dX3_fill_24 rfl 0 rfl ?_
      refine x_getf X fl_X3_21 (yS_0 Y) (yS_l Y 0 (by decide)) rfl dX3_fill_25 ?_
      refine x_getf X fl_X3_93 (yS_12 Y) (yS_l Y 12 (by decide)) rfl dX3_fill_28 ?_
      refine x_iload_n X dX3_fill_31 rfl 1 rfl ?_
      refine x_iald X 0 (yS_ht Y) (yS_13 Y) (yS_l Y 13 (by decide)) dX3_fill_32 hf (fun x32 hf => ?_)
      refine x_iconst (v := 3) X dX3_fill_33 (by decide) ?_
      refine x_icmp_ne (tgt := 40) X dX3_fill_34 (by decide) hf (fun hf => ?_) (fun hf => ?_)
      · refine x_aload_n X dX3_fill_40 rfl 0 rfl ?_
        refine x_getf X fl_X3_21 (yS_0 Y) (yS_l Y 0 (by decide)) rfl dX3_fill_41 ?_
        refine x_getf X fl_X3_93 (yS_12 Y) (yS_l Y 12 (by decide)) rfl dX3_fill_44 ?_
        refine x_iload_n X dX3_fill_47 rfl 1 rfl ?_
        refine x_iconst (v := 3) X dX3_fill_48 (by decide) ?_
        refine x_iast (w := sA σ 13) X E.1 0 (yS_ht Y) (yS_13 Y) (yS_l Y 13 (by decide)) (yS_s13 Y) dX3_fill_49 hf (fun s49 hf => ?_)
        refine x_aload_n X dX3_fill_50 rfl 0 rfl ?_
        refine x_getf X fl_X3_12 (yS_0 Y) (yS_l Y 0 (by decide)) rfl dX3_fill_51 ?_
        refine x_iload_n X dX3_fill_54 rfl 1 rfl ?_
        refine x_iconst (v := 0) X dX3_fill_55 (by decide) ?_
        refine x_iconst (v := 3) X dX3_fill_56 (by decide) ?_
        refine x_callW (rest := []) (w := fun t => t) X E.1 hf (fun r t hr => x_cV (ci := 0) X cm_X0_failInZone lkV_X3_119 rfl ⟨Nat.le_of_ble_eq_true rfl, Nat.le_of_ble_eq_true rfl⟩ (yS_1 Y) (yS_l Y 1 (by decide)) (m_X0_failInZone (yS_hb Y s49) (yS_ht Y) (yS_hp Y _) (yS_hp Y _) hr) rfl rfl (Nat.le_of_ble_eq_true rfl) (x_room E _) dX3_fill_57) (fun r57 s57 hf => ?_)
        exact x_iretW (σ0 := σ) X E hQ hf dX3_fill_60
      · refine x_bipush (v := (-5)) X dX3_fill_37 (by decide) ?_
        exact x_iretW (σ0 := σ) X E hQ hf dX3_fill_39
    · refine x_bipush (v := (-4)) X dX3_fill_21 (by decide) ?_
      exact x_iretW (σ0 := σ) X E hQ hf dX3_fill_23
  · refine x_iconst (v := (-1)) X dX3_fill_7 (by decide) ?_
    exact x_iretW (σ0 := σ) X E hQ hf dX3_fill_8
def f_X0_liveInZone_L5 (σ : SS) (p1 : Int32) (p2 : Int32) (kX5 : Int32 → Option (Int32)) : Nat → Int32 → Int32 → Option (Int32)
  | 0, _, _ => none
  | n + 1, v3_5, v4_5 =>
    if (σ.2 2) ≤ v4_5 then (kX5 v3_5) else (oA 33 (σ.1 11) v4_5 (fun x24 => oA 201 (σ.1 3) x24 (fun x25 => oJ (κ := Int32 → Option (Int32)) (fun u3_49 => f_X0_liveInZone_L5 σ p1 p2 kX5 n u3_49 (v4_5 + 1)) (fun k49 => if x25 = p1 then (oA 33 (σ.1 11) v4_5 (fun x40 => oA 201 (σ.1 5) x40 (fun x41 => if x41 = p2 then (k49 (v3_5 + 1)) else (k49 v3_5)))) else (k49 v3_5)))))
def f_X0_liveInZone (σ : SS) (p1 : Int32) (p2 : Int32) : Option (Int32) :=
  f_X0_liveInZone_L5 σ p1 p2 (fun w3_55 => some w3_55) FU 0 0
set_option maxRecDepth 100000 in
set_option maxHeartbeats 4000000 in
theorem m_X0_liveInZone {l : Launch} {G : va_G} {tys : List (ClassId × FieldType)} {S0 : Nat} {h h1 h2 : Nat → va_E} {b cN' : Nat} {cI : ClassId} {σ : SS} {p1 : Int32} {p2 : Int32} {r : Int32} (hb : b + 22 ≤ cN') (ht : tys[0]? = some (cI, .int)) (e1 : h1 = ov h b (gl S0 cI b σ)) (e2 : h2 = ov h b (gl S0 cI b σ)) (hf : f_X0_liveInZone σ p1 p2 = some r) : XMet l G tys S0 cN' yX0_liveInZone cX0_liveInZone 5 (some .int) 0 0 [.ref (S0 + (b + 1)), .int p1, .int p2] h1 cN' (some (.int r)) h2 0 0 := by
  subst e1; subst e2
  refine XMet.ofE (ST := SS) (HP := fun σ => ov h b (gl S0 cI b σ)) σ σ (by decide) (Nat.le_of_ble_eq_true rfl) ?_
  intro κ g1 g2 g3 g4 g5 g6 E X hQ
  subst g1; subst g2; subst g3; subst g4
  have Y : YS κ h b cI := ⟨fun σ => by rw [g5], fun σ => by rw [g6]; exact hb, ht⟩
  have X : XC κ cX0_liveInZone 5 RX0 (some .int) 0 0 := X
  show XG κ σ 0 [(0, .ref (κ.S0 + (b + 1))), (1, .int p1), (2, .int p2)] []
  unfold f_X0_liveInZone at hf
  refine x_iconst (v := 0) X dX0_liveInZone_0 (by decide) ?_
  refine x_istore_n (lv' := [(3, .int 0), (0, .ref (κ.S0 + (b + 1))), (1, .int p1), (2, .int p2)]) X dX0_liveInZone_1 rfl (by decide) rfl ?_
  refine x_iconst (v := 0) X dX0_liveInZone_2 (by decide) ?_
  refine x_istore (lv' := [(4, .int 0), (3, .int 0), (0, .ref (κ.S0 + (b + 1))), (1, .int p1), (2, .int p2)]) X dX0_liveInZone_3 (by decide) rfl ?_
  refine x_kont (b := fun kX5 => f_X0_liveInZone_L5 σ p1 p2 kX5 FU 0 0) (fun kX5 => ∀ (w3_55 : Int32), kX5 w3_55 = some r → XG κ σ 55 [(3, .int w3_55)] []) hf (fun w3_55 hf => ?_) (fun kX5 JX5 hf => ?_)
  · refine x_iload_n X dX0_liveInZone_55 rfl 0 rfl ?_
    exact x_iretR (σ0 := σ) X E hQ hf dX0_liveInZone_56
  · have LL : ∀ (n : Nat) (v3_5 : Int32) (v4_5 : Int32), f_X0_liveInZone_L5 σ p1 p2 kX5 n v3_5 v4_5 = some r → XG κ σ 5 [(0, .ref (κ.S0 + (b + 1))), (1, .int p1), (2, .int p2), (3, .int v3_5), (4, .int v4_5)] [] := by
      intro n
      induction n with
      | zero => intro v3_5 v4_5 hf; rw [f_X0_liveInZone_L5] at hf; cases hf
      | succ n ih5 =>
        intro v3_5 v4_5 hf
        rw [f_X0_liveInZone_L5] at hf
        refine x_iload X dX0_liveInZone_5 4 rfl ?_
        refine x_aload_n X dX0_liveInZone_7 rfl 0 rfl ?_
        refine x_getf X fl_X0_49 (yS_1 Y) (yS_l Y 1 (by decide)) rfl dX0_liveInZone_8 ?_
        refine x_icmp_ge (tgt := 55) X dX0_liveInZone_11 (by decide) hf (fun hf => ?_) (fun hf => ?_)
        · refine x_sub [3] rfl ?_
          exact JX5 v3_5 hf
        · refine x_aload_n X dX0_liveInZone_14 rfl 0 rfl ?_
          refine x_getf X fl_X0_15 (yS_1 Y) (yS_l Y 1 (by decide)) rfl dX0_liveInZone_15 ?_
          refine x_aload_n X dX0_liveInZone_18 rfl 0 rfl ?_
          refine x_getf X fl_X0_46 (yS_1 Y) (yS_l Y 1 (by decide)) rfl dX0_liveInZone_19 ?_
          refine x_iload X dX0_liveInZone_22 4 rfl ?_
          refine x_iald X 0 (yS_ht Y) (yS_11 Y) (yS_l Y 11 (by decide)) dX0_liveInZone_24 hf (fun x24 hf => ?_)
          refine x_iald X 0 (yS_ht Y) (yS_3 Y) (yS_l Y 3 (by decide)) dX0_liveInZone_25 hf (fun x25 hf => ?_)
          refine x_iload_n X dX0_liveInZone_26 rfl 1 rfl ?_
          refine x_join (fun k49 => ∀ (u3_49 : Int32), k49 u3_49 = some r → XG κ σ 49 [(0, .ref (κ.S0 + (b + 1))), (1, .int p1), (2, .int p2), (3, .int u3_49), (4, .int v4_5)] []) hf (fun u3_49 hf => ?_) (fun k49 J49 hf => ?_)
          · refine x_iinc (v := v4_5 + 1) (lv' := [(4, .int (v4_5 + 1)), (0, .ref (κ.S0 + (b + 1))), (1, .int p1), (2, .int p2), (3, .int u3_49)]) X dX0_liveInZone_49 4 rfl rfl (by decide) rfl ?_
            refine x_goto (tgt := 5) X dX0_liveInZone_52 (by decide) ?_
            refine x_sub [1, 2, 3, 4, 0] rfl ?_
            exact ih5 u3_49 (v4_5 + 1) hf
          · refine x_icmp_ne (tgt := 49) X dX0_liveInZone_27 (by decide) hf (fun hf => ?_) (fun hf => ?_)
            · exact J49 v3_5 hf
            · refine x_aload_n X dX0_liveInZone_30 rfl 0 rfl ?_
              refine x_getf X fl_X0_21 (yS_1 Y) (yS_l Y 1 (by decide)) rfl dX0_liveInZone_31 ?_
              refine x_aload_n X dX0_liveInZone_34 rfl 0 rfl ?_
              refine x_getf X fl_X0_46 (yS_1 Y) (yS_l Y 1 (by decide)) rfl dX0_liveInZone_35 ?_
              refine x_iload X dX0_liveInZone_38 4 rfl ?_
              refine x_iald X 0 (yS_ht Y) (yS_11 Y) (yS_l Y 11 (by decide)) dX0_liveInZone_40 hf (fun x40 hf => ?_)
              refine x_iald X 0 (yS_ht Y) (yS_5 Y) (yS_l Y 5 (by decide)) dX0_liveInZone_41 hf (fun x41 hf => ?_)
              refine x_iload_n X dX0_liveInZone_42 rfl 2 rfl ?_
              refine x_icmp_ne (tgt := 49) X dX0_liveInZone_43 (by decide) hf (fun hf => ?_) (fun hf => ?_)
              · exact J49 v3_5 hf
              · refine x_iinc (v := v3_5 + 1) (lv' := [(3, .int (v3_5 + 1)), (0, .ref (κ.S0 + (b + 1))), (1, .int p1), (2, .int p2), (4, .int v4_5)]) X dX0_liveInZone_46 3 rfl rfl (by decide) rfl ?_
                refine x_sub [1, 2, 3, 0, 4] rfl ?_
                exact J49 (v3_5 + 1) hf
    refine x_sub [2, 3, 4, 1, 0] rfl ?_
    exact LL FU 0 0 hf
def f_X3_shut (σ : SS) (p1 : Int32) : Option (Int32 × SS) :=
  oR (f_X5_isZone p1) (fun r1 => if r1 = 0 then (some ((-1), σ)) else (oA 8 (σ.1 13) p1 (fun x17 => if x17 = 1 then (oR (f_X0_liveInZone σ p1 1) (fun r28 => if r28 ≤ 0 then (oS 8 (σ.1 13) p1 2 (sA σ 13) (fun s46 => oR (f_X4_inPhase s46 1) (fun r52 => some (r52, s46)))) else (some ((-4), σ)))) else (some ((-4), σ)))))
set_option maxRecDepth 100000 in
set_option maxHeartbeats 4000000 in
theorem m_X3_shut {l : Launch} {G : va_G} {tys : List (ClassId × FieldType)} {S0 : Nat} {h h1 h2 : Nat → va_E} {b cN' : Nat} {cI : ClassId} {σ : SS} {τ : SS} {p1 : Int32} {r : Int32} (hb : b + 22 ≤ cN') (ht : tys[0]? = some (cI, .int)) (e1 : h1 = ov h b (gl S0 cI b σ)) (e2 : h2 = ov h b (gl S0 cI b τ)) (hf : f_X3_shut σ p1 = some (r, τ)) : XMet l G tys S0 cN' yX3_shut cX3_shut 2 (some .int) 1 24 [.ref (S0 + (b + 0)), .int p1] h1 cN' (some (.int r)) h2 0 0 := by
  subst e1; subst e2
  refine XMet.ofE (ST := SS) (HP := fun σ => ov h b (gl S0 cI b σ)) σ τ (by decide) (Nat.le_of_ble_eq_true rfl) ?_
  intro κ g1 g2 g3 g4 g5 g6 E X hQ
  subst g1; subst g2; subst g3; subst g4
  have Y : YS κ h b cI := ⟨fun σ => by rw [g5], fun σ => by rw [g6]; exact hb, ht⟩
  have X : XC κ cX3_shut 2 RX3 (some .int) 1 24 := X
  show XG κ σ 0 [(0, .ref (κ.S0 + (b + 0))), (1, .int p1)] []
  unfold f_X3_shut at hf
  refine x_iload_n X dX3_shut_0 rfl 1 rfl ?_
  refine x_callR (rest := []) X hf (fun r hr => x_cSN X cm_X5_isZone lkN_X3_86 ⟨Nat.le_of_ble_eq_true rfl, Nat.le_of_ble_eq_true rfl⟩ (m_X5_isZone hr) rfl rfl (Nat.le_of_ble_eq_true rfl) (x_room E _) dX3_shut_1) (fun r1 hf => ?_)
  refine x_if_ne (tgt := 9) X dX3_shut_4 (by decide) hf (fun hf => ?_) (fun hf => ?_)
  · refine x_aload_n X dX3_shut_9 rfl 0 rfl ?_
    refine x_getf X fl_X3_21 (yS_0 Y) (yS_l Y 0 (by decide)) rfl dX3_shut_10 ?_
    refine x_getf X fl_X3_93 (yS_12 Y) (yS_l Y 12 (by decide)) rfl dX3_shut_13 ?_
    refine x_iload_n X dX3_shut_16 rfl 1 rfl ?_
    refine x_iald X 0 (yS_ht Y) (yS_13 Y) (yS_l Y 13 (by decide)) dX3_shut_17 hf (fun x17 hf => ?_)
    refine x_iconst (v := 1) X dX3_shut_18 (by decide) ?_
    refine x_icmp_ne (tgt := 34) X dX3_shut_19 (by decide) hf (fun hf => ?_) (fun hf => ?_)
    · refine x_bipush (v := (-4)) X dX3_shut_34 (by decide) ?_
      exact x_iretW (σ0 := σ) X E hQ hf dX3_shut_36
    · refine x_aload_n X dX3_shut_22 rfl 0 rfl ?_
      refine x_getf X fl_X3_12 (yS_0 Y) (yS_l Y 0 (by decide)) rfl dX3_shut_23 ?_
      refine x_iload_n X dX3_shut_26 rfl 1 rfl ?_
      refine x_iconst (v := 1) X dX3_shut_27 (by decide) ?_
      refine x_callR (rest := []) X hf (fun r hr => x_cV (ci := 0) X cm_X0_liveInZone lkV_X3_126 rfl ⟨Nat.le_of_ble_eq_true rfl, Nat.le_of_ble_eq_true rfl⟩ (yS_1 Y) (yS_l Y 1 (by decide)) (m_X0_liveInZone (yS_hb Y σ) (yS_ht Y) (yS_hp Y _) (yS_hp Y _) hr) rfl rfl (Nat.le_of_ble_eq_true rfl) (x_room E _) dX3_shut_28) (fun r28 hf => ?_)
      refine x_if_le (tgt := 37) X dX3_shut_31 (by decide) hf (fun hf => ?_) (fun hf => ?_)
      · refine x_aload_n X dX3_shut_37 rfl 0 rfl ?_
        refine x_getf X fl_X3_21 (yS_0 Y) (yS_l Y 0 (by decide)) rfl dX3_shut_38 ?_
        refine x_getf X fl_X3_93 (yS_12 Y) (yS_l Y 12 (by decide)) rfl dX3_shut_41 ?_
        refine x_iload_n X dX3_shut_44 rfl 1 rfl ?_
        refine x_iconst (v := 2) X dX3_shut_45 (by decide) ?_
        refine x_iast (w := sA σ 13) X E.1 0 (yS_ht Y) (yS_13 Y) (yS_l Y 13 (by decide)) (yS_s13 Y) dX3_shut_46 hf (fun s46 hf => ?_)
        refine x_aload_n X dX3_shut_47 rfl 0 rfl ?_
        refine x_getf X fl_X3_21 (yS_0 Y) (yS_l Y 0 (by decide)) rfl dX3_shut_48 ?_
        refine x_iconst (v := 1) X dX3_shut_51 (by decide) ?_
        refine x_callR (rest := []) X hf (fun r hr => x_cV (ci := 4) X cm_X4_inPhase lkV_X3_76 rfl ⟨Nat.le_of_ble_eq_true rfl, Nat.le_of_ble_eq_true rfl⟩ (yS_12 Y) (yS_l Y 12 (by decide)) (m_X4_inPhase (yS_hb Y s46) (yS_ht Y) (yS_hp Y _) (yS_hp Y _) hr) rfl rfl (Nat.le_of_ble_eq_true rfl) (x_room E _) dX3_shut_52) (fun r52 hf => ?_)
        exact x_iretW (σ0 := σ) X E hQ hf dX3_shut_55
      · refine x_bipush (v := (-4)) X dX3_shut_34 (by decide) ?_
        exact x_iretW (σ0 := σ) X E hQ hf dX3_shut_36
  · refine x_iconst (v := (-1)) X dX3_shut_7 (by decide) ?_
    exact x_iretW (σ0 := σ) X E hQ hf dX3_shut_8
