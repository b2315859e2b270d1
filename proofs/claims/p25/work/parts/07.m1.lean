def f_X0_isAhead_L2 (σ : SS) (p1 : Int32) (kX2 : Option (Int32)) : Nat → Int32 → Option (Int32)
  | 0, _ => none
  | n + 1, v2_2 =>
    if (σ.2 2) ≤ v2_2 then kX2 else (oA 33 (σ.1 11) v2_2 (fun x15 => if p1 ≤ x15 then kX2 else (oA 33 (σ.1 11) v2_2 (fun x29 => oA 201 (σ.1 2) x29 (fun x30 => oA 201 (σ.1 2) p1 (fun x36 => oJ (κ := Option (Int32)) (f_X0_isAhead_L2 σ p1 kX2 n (v2_2 + 1)) (fun k55 => if x30 = x36 then (oA 33 (σ.1 11) v2_2 (fun x46 => oR (f_X0_isLive σ x46) (fun r47 => if r47 = 0 then k55 else (oB 1)))) else k55)))))))
def f_X0_isAhead (σ : SS) (p1 : Int32) : Option (Int32) :=
  f_X0_isAhead_L2 σ p1 (oB 0) FU 0
set_option maxRecDepth 100000 in
set_option maxHeartbeats 4000000 in
theorem m_X0_isAhead {l : Launch} {G : va_G} {tys : List (ClassId × FieldType)} {S0 : Nat} {h h1 h2 : Nat → va_E} {b cN' : Nat} {cI : ClassId} {σ : SS} {p1 : Int32} {r : Int32} (hb : b + 22 ≤ cN') (ht : tys[0]? = some (cI, .int)) (e1 : h1 = ov h b (gl S0 cI b σ)) (e2 : h2 = ov h b (gl S0 cI b σ)) (hf : f_X0_isAhead σ p1 = some r) : XMet l G tys S0 cN' yX0_isAhead cX0_isAhead 3 (some .boolean) 1 21 [.ref (S0 + (b + 1)), .int p1] h1 cN' (some (.int r)) h2 0 0 := by
  subst e1; subst e2
  refine XMet.ofE (ST := SS) (HP := fun σ => ov h b (gl S0 cI b σ)) σ σ (by decide) (Nat.le_of_ble_eq_true rfl) ?_
  intro κ g1 g2 g3 g4 g5 g6 E X hQ
  subst g1; subst g2; subst g3; subst g4
  have Y : YS κ h b cI := ⟨fun σ => by rw [g5], fun σ => by rw [g6]; exact hb, ht⟩
  have X : XC κ cX0_isAhead 3 RX0 (some .boolean) 1 21 := X
  show XG κ σ 0 [(0, .ref (κ.S0 + (b + 1))), (1, .int p1)] []
  unfold f_X0_isAhead at hf
  refine x_iconst (v := 0) X dX0_isAhead_0 (by decide) ?_
  refine x_istore_n (lv' := [(2, .int 0), (0, .ref (κ.S0 + (b + 1))), (1, .int p1)]) X dX0_isAhead_1 rfl (by decide) rfl ?_
  refine x_kont (b := fun kX2 => f_X0_isAhead_L2 σ p1 kX2 FU 0) (fun kX2 => kX2 = some r → XG κ σ 61 [] []) hf (fun hf => ?_) (fun kX2 JX2 hf => ?_)
  · refine x_iconst (v := 0) X dX0_isAhead_61 (by decide) ?_
    exact x_zretR (σ0 := σ) X E hQ hf dX0_isAhead_62
  · have LL : ∀ (n : Nat) (v2_2 : Int32), f_X0_isAhead_L2 σ p1 kX2 n v2_2 = some r → XG κ σ 2 [(0, .ref (κ.S0 + (b + 1))), (1, .int p1), (2, .int v2_2)] [] := by
      intro n
      induction n with
      | zero => intro v2_2 hf; rw [f_X0_isAhead_L2] at hf; cases hf
      | succ n ih2 =>
        intro v2_2 hf
        rw [f_X0_isAhead_L2] at hf
        refine x_iload_n X dX0_isAhead_2 rfl 2 rfl ?_
        refine x_aload_n X dX0_isAhead_3 rfl 0 rfl ?_
        refine x_getf X fl_X0_49 (yS_1 Y) (yS_l Y 1 (by decide)) rfl dX0_isAhead_4 ?_
        refine x_icmp_ge (tgt := 61) X dX0_isAhead_7 (by decide) hf (fun hf => ?_) (fun hf => ?_)
        · refine x_sub [] rfl ?_
          exact JX2 hf
        · refine x_aload_n X dX0_isAhead_10 rfl 0 rfl ?_
          refine x_getf X fl_X0_46 (yS_1 Y) (yS_l Y 1 (by decide)) rfl dX0_isAhead_11 ?_
          refine x_iload_n X dX0_isAhead_14 rfl 2 rfl ?_
          refine x_iald X 0 (yS_ht Y) (yS_11 Y) (yS_l Y 11 (by decide)) dX0_isAhead_15 hf (fun x15 hf => ?_)
          refine x_iload_n X dX0_isAhead_16 rfl 1 rfl ?_
          refine x_icmp_ge (tgt := 61) X dX0_isAhead_17 (by decide) hf (fun hf => ?_) (fun hf => ?_)
          · refine x_sub [] rfl ?_
            exact JX2 hf
          · refine x_aload_n X dX0_isAhead_20 rfl 0 rfl ?_
            refine x_getf X fl_X0_9 (yS_1 Y) (yS_l Y 1 (by decide)) rfl dX0_isAhead_21 ?_
            refine x_aload_n X dX0_isAhead_24 rfl 0 rfl ?_
            refine x_getf X fl_X0_46 (yS_1 Y) (yS_l Y 1 (by decide)) rfl dX0_isAhead_25 ?_
            refine x_iload_n X dX0_isAhead_28 rfl 2 rfl ?_
            refine x_iald X 0 (yS_ht Y) (yS_11 Y) (yS_l Y 11 (by decide)) dX0_isAhead_29 hf (fun x29 hf => ?_)
            refine x_iald X 0 (yS_ht Y) (yS_2 Y) (yS_l Y 2 (by decide)) dX0_isAhead_30 hf (fun x30 hf => ?_)
            refine x_aload_n X dX0_isAhead_31 rfl 0 rfl ?_
            refine x_getf X fl_X0_9 (yS_1 Y) (yS_l Y 1 (by decide)) rfl dX0_isAhead_32 ?_
            refine x_iload_n X dX0_isAhead_35 rfl 1 rfl ?_
            refine x_iald X 0 (yS_ht Y) (yS_2 Y) (yS_l Y 2 (by decide)) dX0_isAhead_36 hf (fun x36 hf => ?_)
            refine x_join (fun k55 => k55 = some r → XG κ σ 55 [(0, .ref (κ.S0 + (b + 1))), (1, .int p1), (2, .int v2_2)] []) hf (fun hf => ?_) (fun k55 J55 hf => ?_)
            · refine x_iinc (v := v2_2 + 1) (lv' := [(2, .int (v2_2 + 1)), (0, .ref (κ.S0 + (b + 1))), (1, .int p1)]) X dX0_isAhead_55 2 rfl rfl (by decide) rfl ?_
              refine x_goto (tgt := 2) X dX0_isAhead_58 (by decide) ?_
              refine x_sub [1, 2, 0] rfl ?_
              exact ih2 (v2_2 + 1) hf
            · refine x_icmp_ne (tgt := 55) X dX0_isAhead_37 (by decide) hf (fun hf => ?_) (fun hf => ?_)
              · exact J55 hf
              · refine x_aload_n X dX0_isAhead_40 rfl 0 rfl ?_
                refine x_aload_n X dX0_isAhead_41 rfl 0 rfl ?_
                refine x_getf X fl_X0_46 (yS_1 Y) (yS_l Y 1 (by decide)) rfl dX0_isAhead_42 ?_
                refine x_iload_n X dX0_isAhead_45 rfl 2 rfl ?_
                refine x_iald X 0 (yS_ht Y) (yS_11 Y) (yS_l Y 11 (by decide)) dX0_isAhead_46 hf (fun x46 hf => ?_)
                refine x_callR (rest := []) X hf (fun r hr => x_cV (ci := 0) X cm_X0_isLive lkV_X0_63 rfl ⟨Nat.le_of_ble_eq_true rfl, Nat.le_of_ble_eq_true rfl⟩ (yS_1 Y) (yS_l Y 1 (by decide)) (m_X0_isLive (yS_hb Y σ) (yS_ht Y) (yS_hp Y _) (yS_hp Y _) hr) rfl rfl (Nat.le_of_ble_eq_true rfl) (x_room E _) dX0_isAhead_47) (fun r47 hf => ?_)
                refine x_if_eq (tgt := 55) X dX0_isAhead_50 (by decide) hf (fun hf => ?_) (fun hf => ?_)
                · exact J55 hf
                · refine x_iconst (v := 1) X dX0_isAhead_53 (by decide) ?_
                  exact x_zretR (σ0 := σ) X E hQ hf dX0_isAhead_54
    refine x_sub [1, 2, 0] rfl ?_
    exact LL FU 0 hf
def f_X0_markTold (σ : SS) (p1 : Int32) : Option (SS) :=
  oS 201 (σ.1 5) p1 2 (sA σ 5) (fun s6 => if 201 ≤ (s6.2 1) then (some s6) else (oS 201 (s6.1 10) (s6.2 1) p1 (sA s6 10) (fun s26 => oN ((s26.2 1) + 1) (sN s26 1) (fun s34 => some s34))))
set_option maxRecDepth 100000 in
set_option maxHeartbeats 4000000 in
theorem m_X0_markTold {l : Launch} {G : va_G} {tys : List (ClassId × FieldType)} {S0 : Nat} {h h1 h2 : Nat → va_E} {b cN' : Nat} {cI : ClassId} {σ : SS} {τ : SS} {p1 : Int32} (hb : b + 22 ≤ cN') (ht : tys[0]? = some (cI, .int)) (e1 : h1 = ov h b (gl S0 cI b σ)) (e2 : h2 = ov h b (gl S0 cI b τ)) (hf : f_X0_markTold σ p1 = some τ) : XMet l G tys S0 cN' yX0_markTold cX0_markTold 2 none 0 0 [.ref (S0 + (b + 1)), .int p1] h1 cN' none h2 0 0 := by
  subst e1; subst e2
  refine XMet.ofE (ST := SS) (HP := fun σ => ov h b (gl S0 cI b σ)) σ τ (by decide) (Nat.le_of_ble_eq_true rfl) ?_
  intro κ g1 g2 g3 g4 g5 g6 E X hQ
  subst g1; subst g2; subst g3; subst g4
  have Y : YS κ h b cI := ⟨fun σ => by rw [g5], fun σ => by rw [g6]; exact hb, ht⟩
  have X : XC κ cX0_markTold 2 RX0 none 0 0 := X
  show XG κ σ 0 [(0, .ref (κ.S0 + (b + 1))), (1, .int p1)] []
  unfold f_X0_markTold at hf
  refine x_aload_n X dX0_markTold_0 rfl 0 rfl ?_
  refine x_getf X fl_X0_21 (yS_1 Y) (yS_l Y 1 (by decide)) rfl dX0_markTold_1 ?_
  refine x_iload_n X dX0_markTold_4 rfl 1 rfl ?_
  refine x_iconst (v := 2) X dX0_markTold_5 (by decide) ?_
  refine x_iast (w := sA σ 5) X E.1 0 (yS_ht Y) (yS_5 Y) (yS_l Y 5 (by decide)) (yS_s5 Y) dX0_markTold_6 hf (fun s6 hf => ?_)
  refine x_aload_n X dX0_markTold_7 rfl 0 rfl ?_
  refine x_getf X fl_X0_43 (yS_1 Y) (yS_l Y 1 (by decide)) rfl dX0_markTold_8 ?_
  refine x_sipush (v := 201) X dX0_markTold_11 (by decide) ?_
  refine x_icmp_ge (tgt := 37) X dX0_markTold_14 (by decide) hf (fun hf => ?_) (fun hf => ?_)
  · exact x_vretV (σ0 := σ) X E hQ hf dX0_markTold_37
  · refine x_aload_n X dX0_markTold_17 rfl 0 rfl ?_
    refine x_getf X fl_X0_40 (yS_1 Y) (yS_l Y 1 (by decide)) rfl dX0_markTold_18 ?_
    refine x_aload_n X dX0_markTold_21 rfl 0 rfl ?_
    refine x_getf X fl_X0_43 (yS_1 Y) (yS_l Y 1 (by decide)) rfl dX0_markTold_22 ?_
    refine x_iload_n X dX0_markTold_25 rfl 1 rfl ?_
    refine x_iast (w := sA s6 10) X E.1 0 (yS_ht Y) (yS_10 Y) (yS_l Y 10 (by decide)) (yS_s10 Y) dX0_markTold_26 hf (fun s26 hf => ?_)
    refine x_aload_n X dX0_markTold_27 rfl 0 rfl ?_
    refine x_dup X dX0_markTold_28 rfl ?_
    refine x_getf X fl_X0_43 (yS_1 Y) (yS_l Y 1 (by decide)) rfl dX0_markTold_29 ?_
    refine x_iconst (v := 1) X dX0_markTold_32 (by decide) ?_
    refine x_iadd X dX0_markTold_33 ?_
    refine x_putI (w := sN s26 1) X E.1 fp_X0_43 (yS_1 Y) (yS_l Y 1 (by decide)) (Nat.le_of_ble_eq_true rfl) (yS_p1_10 Y) dX0_markTold_34 hf (fun s34 hf => ?_)
    exact x_vretV (σ0 := σ) X E hQ hf dX0_markTold_37
def f_X3_tellDue_L2  (kX2 : SS → Option (SS)) : Nat → Int32 → SS → Option (SS)
  | 0, _, _ => none
  | n + 1, v1_2, s2 =>
    if (s2.2 2) ≤ v1_2 then (kX2 s2) else (oA 33 (s2.1 11) v1_2 (fun x21 => oA 201 (s2.1 5) x21 (fun x31 => oJ (κ := SS → Option (SS)) (fun s_89 => f_X3_tellDue_L2 kX2 n (v1_2 + 1) s_89) (fun k89 => if x31 = 1 then (oA 201 (s2.1 7) x21 (fun x44 => if x44 = (s2.2 10) then (oR (f_X0_isAhead s2 x21) (fun r57 => oJ (κ := SS → Option (SS)) (fun s_81 => oV (f_X0_markTold s_81 x21) (fun t => t) (fun s86 => k89 s86)) (fun k81 => if r57 = 0 then (k81 s2) else (oA 201 (s2.1 2) x21 (fun x75 => oA 4 (s2.1 20) x75 (fun x77 => oS 4 (s2.1 20) x75 (x77 + 1) (sA s2 20) (fun s80 => k81 s80))))))) else (k89 s2))) else (k89 s2)))))
def f_X3_tellDue (σ : SS)  : Option (SS) :=
  f_X3_tellDue_L2 (fun sx95 => some sx95) FU 0 σ
set_option maxRecDepth 100000 in
set_option maxHeartbeats 4000000 in
theorem m_X3_tellDue {l : Launch} {G : va_G} {tys : List (ClassId × FieldType)} {S0 : Nat} {h h1 h2 : Nat → va_E} {b cN' : Nat} {cI : ClassId} {σ : SS} {τ : SS}  (hb : b + 22 ≤ cN') (ht : tys[0]? = some (cI, .int)) (e1 : h1 = ov h b (gl S0 cI b σ)) (e2 : h2 = ov h b (gl S0 cI b τ)) (hf : f_X3_tellDue σ = some τ) : XMet l G tys S0 cN' yX3_tellDue cX3_tellDue 3 none 2 43 [.ref (S0 + (b + 0))] h1 cN' none h2 0 0 := by
  subst e1; subst e2
  refine XMet.ofE (ST := SS) (HP := fun σ => ov h b (gl S0 cI b σ)) σ τ (by decide) (Nat.le_of_ble_eq_true rfl) ?_
  intro κ g1 g2 g3 g4 g5 g6 E X hQ
  subst g1; subst g2; subst g3; subst g4
  have Y : YS κ h b cI := ⟨fun σ => by rw [g5], fun σ => by rw [g6]; exact hb, ht⟩
  have X : XC κ cX3_tellDue 3 RX3 none 2 43 := X
  show XG κ σ 0 [(0, .ref (κ.S0 + (b + 0)))] []
  unfold f_X3_tellDue at hf
  refine x_iconst (v := 0) X dX3_tellDue_0 (by decide) ?_
  refine x_istore_n (lv' := [(1, .int 0), (0, .ref (κ.S0 + (b + 0)))]) X dX3_tellDue_1 rfl (by decide) rfl ?_
  refine x_kont (b := fun kX2 => f_X3_tellDue_L2 kX2 FU 0 σ) (fun kX2 => ∀  (sx95 : SS), kX2 sx95 = some τ → XG κ sx95 95 [] []) hf (fun sx95 hf => ?_) (fun kX2 JX2 hf => ?_)
  · exact x_vretV (σ0 := σ) X E hQ hf dX3_tellDue_95
  · have LL : ∀ (n : Nat) (v1_2 : Int32) (s2 : SS), f_X3_tellDue_L2 kX2 n v1_2 s2 = some τ → XG κ s2 2 [(0, .ref (κ.S0 + (b + 0))), (1, .int v1_2)] [] := by
      intro n
      induction n with
      | zero => intro v1_2 s2 hf; rw [f_X3_tellDue_L2] at hf; cases hf
      | succ n ih2 =>
        intro v1_2 s2 hf
        rw [f_X3_tellDue_L2] at hf
        refine x_iload_n X dX3_tellDue_2 rfl 1 rfl ?_
        refine x_aload_n X dX3_tellDue_3 rfl 0 rfl ?_
        refine x_getf X fl_X3_12 (yS_0 Y) (yS_l Y 0 (by decide)) rfl dX3_tellDue_4 ?_
        refine x_getf X fl_X3_153 (yS_1 Y) (yS_l Y 1 (by decide)) rfl dX3_tellDue_7 ?_
        refine x_icmp_ge (tgt := 95) X dX3_tellDue_10 (by decide) hf (fun hf => ?_) (fun hf => ?_)
        · refine x_sub [] rfl ?_
          exact JX2 s2 hf
        · refine x_aload_n X dX3_tellDue_13 rfl 0 rfl ?_
          refine x_getf X fl_X3_12 (yS_0 Y) (yS_l Y 0 (by decide)) rfl dX3_tellDue_14 ?_
          refine x_getf X fl_X3_156 (yS_1 Y) (yS_l Y 1 (by decide)) rfl dX3_tellDue_17 ?_
          refine x_iload_n X dX3_tellDue_20 rfl 1 rfl ?_
          refine x_iald X 0 (yS_ht Y) (yS_11 Y) (yS_l Y 11 (by decide)) dX3_tellDue_21 hf (fun x21 hf => ?_)
          refine x_istore_n (lv' := [(2, .int x21), (0, .ref (κ.S0 + (b + 0))), (1, .int v1_2)]) X dX3_tellDue_22 rfl (by decide) rfl ?_
          refine x_aload_n X dX3_tellDue_23 rfl 1 rfl ?_
          refine x_getf X fl_X3_12 (yS_0 Y) (yS_l Y 0 (by decide)) rfl dX3_tellDue_24 ?_
          refine x_getf X fl_X3_159 (yS_1 Y) (yS_l Y 1 (by decide)) rfl dX3_tellDue_27 ?_
          refine x_iload_n X dX3_tellDue_30 rfl 0 rfl ?_
          refine x_iald X 0 (yS_ht Y) (yS_5 Y) (yS_l Y 5 (by decide)) dX3_tellDue_31 hf (fun x31 hf => ?_)
          refine x_iconst (v := 1) X dX3_tellDue_32 (by decide) ?_
          refine x_join (fun k89 => ∀  (s_89 : SS), k89 s_89 = some τ → XG κ s_89 89 [(0, .ref (κ.S0 + (b + 0))), (1, .int v1_2)] []) hf (fun s_89 hf => ?_) (fun k89 J89 hf => ?_)
          · refine x_iinc (v := v1_2 + 1) (lv' := [(1, .int (v1_2 + 1)), (0, .ref (κ.S0 + (b + 0)))]) X dX3_tellDue_89 1 rfl rfl (by decide) rfl ?_
            refine x_goto (tgt := 2) X dX3_tellDue_92 (by decide) ?_
            refine x_sub [1, 0] rfl ?_
            exact ih2 (v1_2 + 1) s_89 hf
          · refine x_icmp_ne (tgt := 89) X dX3_tellDue_33 (by decide) hf (fun hf => ?_) (fun hf => ?_)
            · refine x_sub [1, 2] rfl ?_
              exact J89 s2 hf
            · refine x_aload_n X dX3_tellDue_36 rfl 1 rfl ?_
              refine x_getf X fl_X3_12 (yS_0 Y) (yS_l Y 0 (by decide)) rfl dX3_tellDue_37 ?_
              refine x_getf X fl_X3_160 (yS_1 Y) (yS_l Y 1 (by decide)) rfl dX3_tellDue_40 ?_
              refine x_iload_n X dX3_tellDue_43 rfl 0 rfl ?_
              refine x_iald X 0 (yS_ht Y) (yS_7 Y) (yS_l Y 7 (by decide)) dX3_tellDue_44 hf (fun x44 hf => ?_)
              refine x_aload_n X dX3_tellDue_45 rfl 1 rfl ?_
              refine x_getf X fl_X3_42 (yS_0 Y) (yS_l Y 0 (by decide)) rfl dX3_tellDue_46 ?_
              refine x_icmp_ne (tgt := 89) X dX3_tellDue_49 (by decide) hf (fun hf => ?_) (fun hf => ?_)
              · refine x_sub [1, 2] rfl ?_
                exact J89 s2 hf
              · refine x_aload_n X dX3_tellDue_52 rfl 1 rfl ?_
                refine x_getf X fl_X3_12 (yS_0 Y) (yS_l Y 0 (by decide)) rfl dX3_tellDue_53 ?_
                refine x_iload_n X dX3_tellDue_56 rfl 0 rfl ?_
                refine x_callR (rest := []) X hf (fun r hr => x_cV (ci := 0) X cm_X0_isAhead lkV_X3_163 rfl ⟨Nat.le_of_ble_eq_true rfl, Nat.le_of_ble_eq_true rfl⟩ (yS_1 Y) (yS_l Y 1 (by decide)) (m_X0_isAhead (yS_hb Y s2) (yS_ht Y) (yS_hp Y _) (yS_hp Y _) hr) rfl rfl (Nat.le_of_ble_eq_true rfl) (x_room E _) dX3_tellDue_57) (fun r57 hf => ?_)
                refine x_join (fun k81 => ∀  (s_81 : SS), k81 s_81 = some τ → XG κ s_81 81 [(0, .ref (κ.S0 + (b + 0))), (1, .int v1_2), (2, .int x21)] []) hf (fun s_81 hf => ?_) (fun k81 J81 hf => ?_)
                · refine x_aload_n X dX3_tellDue_81 rfl 0 rfl ?_
                  refine x_getf X fl_X3_12 (yS_0 Y) (yS_l Y 0 (by decide)) rfl dX3_tellDue_82 ?_
                  refine x_iload_n X dX3_tellDue_85 rfl 2 rfl ?_
                  refine x_callV (rest := []) (w := fun t => t) X E.1 hf (fun t hr => x_cV (ci := 0) X cm_X0_markTold lkV_X3_169 rfl ⟨Nat.le_of_ble_eq_true rfl, Nat.le_of_ble_eq_true rfl⟩ (yS_1 Y) (yS_l Y 1 (by decide)) (m_X0_markTold (yS_hb Y s_81) (yS_ht Y) (yS_hp Y _) (yS_hp Y _) hr) rfl rfl (Nat.le_of_ble_eq_true rfl) (x_room E _) dX3_tellDue_86) (fun s86 hf => ?_)
                  refine x_sub [0, 1] rfl ?_
                  exact J89 s86 hf
                · refine x_if_eq (tgt := 81) X dX3_tellDue_60 (by decide) hf (fun hf => ?_) (fun hf => ?_)
                  · refine x_sub [1, 2, 0] rfl ?_
                    exact J81 s2 hf
                  · refine x_aload_n X dX3_tellDue_63 rfl 1 rfl ?_
                    refine x_getf X fl_X3_29 (yS_0 Y) (yS_l Y 0 (by decide)) rfl dX3_tellDue_64 ?_
                    refine x_aload_n X dX3_tellDue_67 rfl 1 rfl ?_
                    refine x_getf X fl_X3_12 (yS_0 Y) (yS_l Y 0 (by decide)) rfl dX3_tellDue_68 ?_
                    refine x_getf X fl_X3_166 (yS_1 Y) (yS_l Y 1 (by decide)) rfl dX3_tellDue_71 ?_
                    refine x_iload_n X dX3_tellDue_74 rfl 0 rfl ?_
                    refine x_iald X 0 (yS_ht Y) (yS_2 Y) (yS_l Y 2 (by decide)) dX3_tellDue_75 hf (fun x75 hf => ?_)
                    refine x_dup2 X dX3_tellDue_76 rfl rfl ?_
                    refine x_iald X 0 (yS_ht Y) (yS_20 Y) (yS_l Y 20 (by decide)) dX3_tellDue_77 hf (fun x77 hf => ?_)
                    refine x_iconst (v := 1) X dX3_tellDue_78 (by decide) ?_
                    refine x_iadd X dX3_tellDue_79 ?_
                    refine x_iast (w := sA s2 20) X E.1 0 (yS_ht Y) (yS_20 Y) (yS_l Y 20 (by decide)) (yS_s20 Y) dX3_tellDue_80 hf (fun s80 hf => ?_)
                    refine x_sub [1, 2, 0] rfl ?_
                    exact J81 s80 hf
    refine x_sub [1, 0] rfl ?_
    exact LL FU 0 σ hf
def f_X3_putInOrder_L41 (v3_19 : Int32) (s19 : SS) (kX41 : Int32 → SS → Option (Int32 × SS)) : Nat → Int32 → Int32 → SS → Option (Int32 × SS)
  | 0, _, _, _ => none
  | n + 1, v2_41, v5_41, s41 =>
    if (s41.2 2) ≤ v5_41 then (kX41 v2_41 s41) else (oA 33 (s41.1 11) v5_41 (fun x62 => oJ (κ := Int32 → Option (Int32 × SS)) (fun t0_92 => oJ (κ := Int32 → SS → Option (Int32 × SS)) (fun u2_129 s_129 => f_X3_putInOrder_L41 v3_19 s19 kX41 n u2_129 (v5_41 + 1) s_129) (fun k129 => if t0_92 = 0 then (k129 v2_41 s41) else (oA 201 (s41.1 5) x62 (fun x108 => if x108 = 0 then (if 33 ≤ v2_41 then (k129 v2_41 s41) else (oS 33 (s41.1 21) v2_41 x62 (sA s41 21) (fun s125 => k129 (v2_41 + 1) s125))) else (k129 v2_41 s41))))) (fun k92 => oJ (κ := Option (Int32 × SS)) (k92 1) (fun k87 => if (s41.2 9) = 0 then k87 else (oA 201 (s41.1 3) x62 (fun x81 => if x81 = (((s19.2 6) + v3_19) - ((s19.2 6) + v3_19) / 8 * 8) then k87 else (k92 0)))))))
def f_X3_putInOrder_L19 (t0_14 : Int32) (kX19 : Int32 → SS → Option (Int32 × SS)) : Nat → Int32 → Int32 → SS → Option (Int32 × SS)
  | 0, _, _, _ => none
  | n + 1, v2_19, v3_19, s19 =>
    if t0_14 ≤ v3_19 then (kX19 v2_19 s19) else (f_X3_putInOrder_L41 v3_19 s19 (fun w2_135 sx135 => f_X3_putInOrder_L19 t0_14 kX19 n w2_135 (v3_19 + 1) sx135) FU v2_19 0 s19)
def f_X3_putInOrder (σ : SS)  : Option (Int32 × SS) :=
  oJ (κ := Int32 → Option (Int32 × SS)) (fun t0_14 => f_X3_putInOrder_L19 t0_14 (fun w2_141 sx141 => some (w2_141, sx141)) FU 0 0 σ) (fun k14 => if (σ.2 9) = 1 then (k14 8) else (k14 1))
set_option maxRecDepth 100000 in
set_option maxHeartbeats 4000000 in
theorem m_X3_putInOrder {l : Launch} {G : va_G} {tys : List (ClassId × FieldType)} {S0 : Nat} {h h1 h2 : Nat → va_E} {b cN' : Nat} {cI : ClassId} {σ : SS} {τ : SS}  {r : Int32} (hb : b + 22 ≤ cN') (ht : tys[0]? = some (cI, .int)) (e1 : h1 = ov h b (gl S0 cI b σ)) (e2 : h2 = ov h b (gl S0 cI b τ)) (hf : f_X3_putInOrder σ = some (r, τ)) : XMet l G tys S0 cN' yX3_putInOrder cX3_putInOrder 8 (some .int) 0 0 [.ref (S0 + (b + 0))] h1 cN' (some (.int r)) h2 0 0 := by
  subst e1; subst e2
  refine XMet.ofE (ST := SS) (HP := fun σ => ov h b (gl S0 cI b σ)) σ τ (by decide) (Nat.le_of_ble_eq_true rfl) ?_
  intro κ g1 g2 g3 g4 g5 g6 E X hQ
  subst g1; subst g2; subst g3; subst g4
  have Y : YS κ h b cI := ⟨fun σ => by rw [g5], fun σ => by rw [g6]; exact hb, ht⟩
  have X : XC κ cX3_putInOrder 8 RX3 (some .int) 0 0 := X
  show XG κ σ 0 [(0, .ref (κ.S0 + (b + 0)))] []
  unfold f_X3_putInOrder at hf
  refine x_aload_n X dX3_putInOrder_0 rfl 0 rfl ?_
  refine x_getf X fl_X3_39 (yS_0 Y) (yS_l Y 0 (by decide)) rfl dX3_putInOrder_1 ?_
  refine x_iconst (v := 1) X dX3_putInOrder_4 (by decide) ?_
  refine x_join (fun k14 => ∀ (t0_14 : Int32), k14 t0_14 = some (r, τ) → XG κ σ 14 [(0, .ref (κ.S0 + (b + 0)))] [.int t0_14]) hf (fun t0_14 hf => ?_) (fun k14 J14 hf => ?_)
  · refine x_istore_n (lv' := [(1, .int t0_14), (0, .ref (κ.S0 + (b + 0)))]) X dX3_putInOrder_14 rfl (by decide) rfl ?_
    refine x_iconst (v := 0) X dX3_putInOrder_15 (by decide) ?_
    refine x_istore_n (lv' := [(2, .int 0), (1, .int t0_14), (0, .ref (κ.S0 + (b + 0)))]) X dX3_putInOrder_16 rfl (by decide) rfl ?_
    refine x_iconst (v := 0) X dX3_putInOrder_17 (by decide) ?_
    refine x_istore_n (lv' := [(3, .int 0), (2, .int 0), (1, .int t0_14), (0, .ref (κ.S0 + (b + 0)))]) X dX3_putInOrder_18 rfl (by decide) rfl ?_
    refine x_kont (b := fun kX19 => f_X3_putInOrder_L19 t0_14 kX19 FU 0 0 σ) (fun kX19 => ∀ (w2_141 : Int32) (sx141 : SS), kX19 w2_141 sx141 = some (r, τ) → XG κ sx141 141 [(2, .int w2_141)] []) hf (fun w2_141 sx141 hf => ?_) (fun kX19 JX19 hf => ?_)
    · refine x_iload_n X dX3_putInOrder_141 rfl 0 rfl ?_
      exact x_iretW (σ0 := σ) X E hQ hf dX3_putInOrder_142
    · have LL : ∀ (n : Nat) (v2_19 : Int32) (v3_19 : Int32) (s19 : SS), f_X3_putInOrder_L19 t0_14 kX19 n v2_19 v3_19 s19 = some (r, τ) → XG κ s19 19 [(0, .ref (κ.S0 + (b + 0))), (1, .int t0_14), (2, .int v2_19), (3, .int v3_19)] [] := by
        intro n
        induction n with
        | zero => intro v2_19 v3_19 s19 hf; rw [f_X3_putInOrder_L19] at hf; cases hf
        | succ n ih19 =>
          intro v2_19 v3_19 s19 hf
          rw [f_X3_putInOrder_L19] at hf
          refine x_iload_n X dX3_putInOrder_19 rfl 3 rfl ?_
          refine x_iload_n X dX3_putInOrder_20 rfl 1 rfl ?_
          refine x_icmp_ge (tgt := 141) X dX3_putInOrder_21 (by decide) hf (fun hf => ?_) (fun hf => ?_)
          · refine x_sub [2] rfl ?_
            exact JX19 v2_19 s19 hf
          · refine x_aload_n X dX3_putInOrder_24 rfl 0 rfl ?_
            refine x_getf X fl_X3_21 (yS_0 Y) (yS_l Y 0 (by decide)) rfl dX3_putInOrder_25 ?_
            refine x_getf X fl_X3_147 (yS_12 Y) (yS_l Y 12 (by decide)) rfl dX3_putInOrder_28 ?_
            refine x_iload_n X dX3_putInOrder_31 rfl 3 rfl ?_
            refine x_iadd X dX3_putInOrder_32 ?_
            refine x_bipush (v := 8) X dX3_putInOrder_33 (by decide) ?_
            refine x_irem X dX3_putInOrder_35 (by decide) ?_
            refine x_istore (lv' := [(4, .int (((s19.2 6) + v3_19) - ((s19.2 6) + v3_19) / 8 * 8)), (0, .ref (κ.S0 + (b + 0))), (1, .int t0_14), (2, .int v2_19), (3, .int v3_19)]) X dX3_putInOrder_36 (by decide) rfl ?_
            refine x_iconst (v := 0) X dX3_putInOrder_38 (by decide) ?_
            refine x_istore (lv' := [(5, .int 0), (4, .int (((s19.2 6) + v3_19) - ((s19.2 6) + v3_19) / 8 * 8)), (0, .ref (κ.S0 + (b + 0))), (1, .int t0_14), (2, .int v2_19), (3, .int v3_19)]) X dX3_putInOrder_39 (by decide) rfl ?_
            refine x_kont (b := fun kX41 => f_X3_putInOrder_L41 v3_19 s19 kX41 FU v2_19 0 s19) (fun kX41 => ∀ (w2_135 : Int32) (sx135 : SS), kX41 w2_135 sx135 = some (r, τ) → XG κ sx135 135 [(0, .ref (κ.S0 + (b + 0))), (1, .int t0_14), (2, .int w2_135), (3, .int v3_19)] []) hf (fun w2_135 sx135 hf => ?_) (fun kX41 JX41 hf => ?_)
            · refine x_iinc (v := v3_19 + 1) (lv' := [(3, .int (v3_19 + 1)), (0, .ref (κ.S0 + (b + 0))), (1, .int t0_14), (2, .int w2_135)]) X dX3_putInOrder_135 3 rfl rfl (by decide) rfl ?_
              refine x_goto (tgt := 19) X dX3_putInOrder_138 (by decide) ?_
              refine x_sub [1, 2, 3, 0] rfl ?_
              exact ih19 w2_135 (v3_19 + 1) sx135 hf
            · have LL : ∀ (n : Nat) (v2_41 : Int32) (v5_41 : Int32) (s41 : SS), f_X3_putInOrder_L41 v3_19 s19 kX41 n v2_41 v5_41 s41 = some (r, τ) → XG κ s41 41 [(0, .ref (κ.S0 + (b + 0))), (1, .int t0_14), (2, .int v2_41), (3, .int v3_19), (4, .int (((s19.2 6) + v3_19) - ((s19.2 6) + v3_19) / 8 * 8)), (5, .int v5_41)] [] := by
                intro n
                induction n with
                | zero => intro v2_41 v5_41 s41 hf; rw [f_X3_putInOrder_L41] at hf; cases hf
                | succ n ih41 =>
                  intro v2_41 v5_41 s41 hf
                  rw [f_X3_putInOrder_L41] at hf
                  refine x_iload X dX3_putInOrder_41 5 rfl ?_
                  refine x_aload_n X dX3_putInOrder_43 rfl 0 rfl ?_
                  refine x_getf X fl_X3_12 (yS_0 Y) (yS_l Y 0 (by decide)) rfl dX3_putInOrder_44 ?_
                  refine x_getf X fl_X3_153 (yS_1 Y) (yS_l Y 1 (by decide)) rfl dX3_putInOrder_47 ?_
                  refine x_icmp_ge (tgt := 135) X dX3_putInOrder_50 (by decide) hf (fun hf => ?_) (fun hf => ?_)
                  · refine x_sub [0, 1, 2, 3] rfl ?_
                    exact JX41 v2_41 s41 hf
                  · refine x_aload_n X dX3_putInOrder_53 rfl 0 rfl ?_
                    refine x_getf X fl_X3_12 (yS_0 Y) (yS_l Y 0 (by decide)) rfl dX3_putInOrder_54 ?_
                    refine x_getf X fl_X3_156 (yS_1 Y) (yS_l Y 1 (by decide)) rfl dX3_putInOrder_57 ?_
                    refine x_iload X dX3_putInOrder_60 5 rfl ?_
                    refine x_iald X 0 (yS_ht Y) (yS_11 Y) (yS_l Y 11 (by decide)) dX3_putInOrder_62 hf (fun x62 hf => ?_)
                    refine x_istore (lv' := [(6, .int x62), (0, .ref (κ.S0 + (b + 0))), (1, .int t0_14), (2, .int v2_41), (3, .int v3_19), (4, .int (((s19.2 6) + v3_19) - ((s19.2 6) + v3_19) / 8 * 8)), (5, .int v5_41)]) X dX3_putInOrder_63 (by decide) rfl ?_
                    refine x_aload_n X dX3_putInOrder_65 rfl 1 rfl ?_
                    refine x_getf X fl_X3_39 (yS_0 Y) (yS_l Y 0 (by decide)) rfl dX3_putInOrder_66 ?_
                    refine x_join (fun k92 => ∀ (t0_92 : Int32), k92 t0_92 = some (r, τ) → XG κ s41 92 [(0, .ref (κ.S0 + (b + 0))), (1, .int t0_14), (2, .int v2_41), (3, .int v3_19), (4, .int (((s19.2 6) + v3_19) - ((s19.2 6) + v3_19) / 8 * 8)), (5, .int v5_41), (6, .int x62)] [.int t0_92]) hf (fun t0_92 hf => ?_) (fun k92 J92 hf => ?_)
                    · refine x_istore (lv' := [(7, .int t0_92), (0, .ref (κ.S0 + (b + 0))), (1, .int t0_14), (2, .int v2_41), (3, .int v3_19), (4, .int (((s19.2 6) + v3_19) - ((s19.2 6) + v3_19) / 8 * 8)), (5, .int v5_41), (6, .int x62)]) X dX3_putInOrder_92 (by decide) rfl ?_
                      refine x_iload X dX3_putInOrder_94 0 rfl ?_
                      refine x_join (fun k129 => ∀ (u2_129 : Int32) (s_129 : SS), k129 u2_129 s_129 = some (r, τ) → XG κ s_129 129 [(0, .ref (κ.S0 + (b + 0))), (1, .int t0_14), (2, .int u2_129), (3, .int v3_19), (4, .int (((s19.2 6) + v3_19) - ((s19.2 6) + v3_19) / 8 * 8)), (5, .int v5_41)] []) hf (fun u2_129 s_129 hf => ?_) (fun k129 J129 hf => ?_)
                      · refine x_iinc (v := v5_41 + 1) (lv' := [(5, .int (v5_41 + 1)), (0, .ref (κ.S0 + (b + 0))), (1, .int t0_14), (2, .int u2_129), (3, .int v3_19), (4, .int (((s19.2 6) + v3_19) - ((s19.2 6) + v3_19) / 8 * 8))]) X dX3_putInOrder_129 5 rfl rfl (by decide) rfl ?_
                        refine x_goto (tgt := 41) X dX3_putInOrder_132 (by decide) ?_
                        refine x_sub [1, 2, 3, 4, 5, 0] rfl ?_
                        exact ih41 u2_129 (v5_41 + 1) s_129 hf
                      · refine x_if_eq (tgt := 129) X dX3_putInOrder_96 (by decide) hf (fun hf => ?_) (fun hf => ?_)
                        · refine x_sub [1, 2, 3, 4, 5, 6] rfl ?_
                          exact J129 v2_41 s41 hf
                        · refine x_aload_n X dX3_putInOrder_99 rfl 1 rfl ?_
                          refine x_getf X fl_X3_12 (yS_0 Y) (yS_l Y 0 (by decide)) rfl dX3_putInOrder_100 ?_
                          refine x_getf X fl_X3_159 (yS_1 Y) (yS_l Y 1 (by decide)) rfl dX3_putInOrder_103 ?_
                          refine x_iload X dX3_putInOrder_106 7 rfl ?_
                          refine x_iald X 0 (yS_ht Y) (yS_5 Y) (yS_l Y 5 (by decide)) dX3_putInOrder_108 hf (fun x108 hf => ?_)
                          refine x_if_ne (tgt := 129) X dX3_putInOrder_109 (by decide) hf (fun hf => ?_) (fun hf => ?_)
                          · refine x_sub [1, 2, 3, 4, 5, 6] rfl ?_
                            exact J129 v2_41 s41 hf
                          · refine x_iload_n X dX3_putInOrder_112 rfl 3 rfl ?_
                            refine x_bipush (v := 33) X dX3_putInOrder_113 (by decide) ?_
                            refine x_icmp_ge (tgt := 129) X dX3_putInOrder_115 (by decide) hf (fun hf => ?_) (fun hf => ?_)
                            · refine x_sub [1, 2, 3, 4, 5, 6] rfl ?_
                              exact J129 v2_41 s41 hf
                            · refine x_aload_n X dX3_putInOrder_118 rfl 1 rfl ?_
                              refine x_getf X fl_X3_32 (yS_0 Y) (yS_l Y 0 (by decide)) rfl dX3_putInOrder_119 ?_
                              refine x_iload_n X dX3_putInOrder_122 rfl 3 rfl ?_
                              refine x_iload X dX3_putInOrder_123 7 rfl ?_
                              refine x_iast (w := sA s41 21) X E.1 0 (yS_ht Y) (yS_21 Y) (yS_l Y 21 (by decide)) (yS_s21 Y) dX3_putInOrder_125 hf (fun s125 hf => ?_)
                              refine x_iinc (v := v2_41 + 1) (lv' := [(2, .int (v2_41 + 1)), (7, .int t0_92), (0, .ref (κ.S0 + (b + 0))), (1, .int t0_14), (3, .int v3_19), (4, .int (((s19.2 6) + v3_19) - ((s19.2 6) + v3_19) / 8 * 8)), (5, .int v5_41), (6, .int x62)]) X dX3_putInOrder_126 3 rfl rfl (by decide) rfl ?_
                              refine x_sub [2, 3, 0, 4, 5, 6] rfl ?_
                              exact J129 (v2_41 + 1) s125 hf
                    · refine x_join (fun k87 => k87 = some (r, τ) → XG κ s41 87 [(0, .ref (κ.S0 + (b + 0))), (1, .int t0_14), (2, .int v2_41), (3, .int v3_19), (4, .int (((s19.2 6) + v3_19) - ((s19.2 6) + v3_19) / 8 * 8)), (5, .int v5_41), (6, .int x62)] []) hf (fun hf => ?_) (fun k87 J87 hf => ?_)
                      · refine x_iconst (v := 1) X dX3_putInOrder_87 (by decide) ?_
                        refine x_goto (tgt := 92) X dX3_putInOrder_88 (by decide) ?_
                        exact J92 1 hf
                      · refine x_if_eq (tgt := 87) X dX3_putInOrder_69 (by decide) hf (fun hf => ?_) (fun hf => ?_)
                        · refine x_sub [1, 2, 3, 4, 5, 6, 0] rfl ?_
                          exact J87 hf
                        · refine x_aload_n X dX3_putInOrder_72 rfl 1 rfl ?_
                          refine x_getf X fl_X3_12 (yS_0 Y) (yS_l Y 0 (by decide)) rfl dX3_putInOrder_73 ?_
                          refine x_getf X fl_X3_144 (yS_1 Y) (yS_l Y 1 (by decide)) rfl dX3_putInOrder_76 ?_
                          refine x_iload X dX3_putInOrder_79 0 rfl ?_
                          refine x_iald X 0 (yS_ht Y) (yS_3 Y) (yS_l Y 3 (by decide)) dX3_putInOrder_81 hf (fun x81 hf => ?_)
                          refine x_iload X dX3_putInOrder_82 5 rfl ?_
                          refine x_icmp_ne (tgt := 91) X dX3_putInOrder_84 (by decide) hf (fun hf => ?_) (fun hf => ?_)
                          · refine x_iconst (v := 0) X dX3_putInOrder_91 (by decide) ?_
                            refine x_sub [1, 2, 3, 4, 5, 6, 0] rfl ?_
                            exact J92 0 hf
                          · refine x_sub [1, 2, 3, 4, 5, 6, 0] rfl ?_
                            exact J87 hf
              refine x_sub [2, 3, 4, 5, 1, 0] rfl ?_
              exact LL FU v2_19 0 s19 hf
      refine x_sub [3, 2, 1, 0] rfl ?_
      exact LL FU 0 0 σ hf
  · refine x_icmp_ne (tgt := 13) X dX3_putInOrder_5 (by decide) hf (fun hf => ?_) (fun hf => ?_)
    · refine x_iconst (v := 1) X dX3_putInOrder_13 (by decide) ?_
      exact J14 1 hf
    · refine x_bipush (v := 8) X dX3_putInOrder_8 (by decide) ?_
      refine x_goto (tgt := 14) X dX3_putInOrder_10 (by decide) ?_
      exact J14 8 hf
def f_X0_liveIn_L4 (σ : SS) (p1 : Int32) (kX4 : Int32 → Option (Int32)) : Nat → Int32 → Int32 → Option (Int32)
  | 0, _, _ => none
  | n + 1, v2_4, v3_4 =>
    if (σ.2 2) ≤ v3_4 then (kX4 v2_4) else (oA 33 (σ.1 11) v3_4 (fun x21 => oA 201 (σ.1 5) x21 (fun x22 => oJ (κ := Int32 → Option (Int32)) (fun u2_30 => f_X0_liveIn_L4 σ p1 kX4 n u2_30 (v3_4 + 1)) (fun k30 => if x22 = p1 then (k30 (v2_4 + 1)) else (k30 v2_4)))))
def f_X0_liveIn (σ : SS) (p1 : Int32) : Option (Int32) :=
  f_X0_liveIn_L4 σ p1 (fun w2_36 => some w2_36) FU 0 0
set_option maxRecDepth 100000 in
set_option maxHeartbeats 4000000 in
theorem m_X0_liveIn {l : Launch} {G : va_G} {tys : List (ClassId × FieldType)} {S0 : Nat} {h h1 h2 : Nat → va_E} {b cN' : Nat} {cI : ClassId} {σ : SS} {p1 : Int32} {r : Int32} (hb : b + 22 ≤ cN') (ht : tys[0]? = some (cI, .int)) (e1 : h1 = ov h b (gl S0 cI b σ)) (e2 : h2 = ov h b (gl S0 cI b σ)) (hf : f_X0_liveIn σ p1 = some r) : XMet l G tys S0 cN' yX0_liveIn cX0_liveIn 4 (some .int) 0 0 [.ref (S0 + (b + 1)), .int p1] h1 cN' (some (.int r)) h2 0 0 := by
  subst e1; subst e2
  refine XMet.ofE (ST := SS) (HP := fun σ => ov h b (gl S0 cI b σ)) σ σ (by decide) (Nat.le_of_ble_eq_true rfl) ?_
  intro κ g1 g2 g3 g4 g5 g6 E X hQ
  subst g1; subst g2; subst g3; subst g4
  have Y : YS κ h b cI := ⟨fun σ => by rw [g5], fun σ => by rw [g6]; exact hb, ht⟩
  have X : XC κ cX0_liveIn 4 RX0 (some .int) 0 0 := X
  show XG κ σ 0 [(0, .ref (κ.S0 + (b + 1))), (1, .int p1)] []
  unfold f_X0_liveIn at hf
  refine x_iconst (v := 0) X dX0_liveIn_0 (by decide) ?_
  refine x_istore_n (lv' := [(2, .int 0), (0, .ref (κ.S0 + (b + 1))), (1, .int p1)]) X dX0_liveIn_1 rfl (by decide) rfl ?_
  refine x_iconst (v := 0) X dX0_liveIn_2 (by decide) ?_
  refine x_istore_n (lv' := [(3, .int 0), (2, .int 0), (0, .ref (κ.S0 + (b + 1))), (1, .int p1)]) X dX0_liveIn_3 rfl (by decide) rfl ?_
  refine x_kont (b := fun kX4 => f_X0_liveIn_L4 σ p1 kX4 FU 0 0) (fun kX4 => ∀ (w2_36 : Int32), kX4 w2_36 = some r → XG κ σ 36 [(2, .int w2_36)] []) hf (fun w2_36 hf => ?_) (fun kX4 JX4 hf => ?_)
  · refine x_iload_n X dX0_liveIn_36 rfl 0 rfl ?_
    exact x_iretR (σ0 := σ) X E hQ hf dX0_liveIn_37
  · have LL : ∀ (n : Nat) (v2_4 : Int32) (v3_4 : Int32), f_X0_liveIn_L4 σ p1 kX4 n v2_4 v3_4 = some r → XG κ σ 4 [(0, .ref (κ.S0 + (b + 1))), (1, .int p1), (2, .int v2_4), (3, .int v3_4)] [] := by
      intro n
      induction n with
      | zero => intro v2_4 v3_4 hf; rw [f_X0_liveIn_L4] at hf; cases hf
      | succ n ih4 =>
        intro v2_4 v3_4 hf
        rw [f_X0_liveIn_L4] at hf
        refine x_iload_n X dX0_liveIn_4 rfl 3 rfl ?_
        refine x_aload_n X dX0_liveIn_5 rfl 0 rfl ?_
        refine x_getf X fl_X0_49 (yS_1 Y) (yS_l Y 1 (by decide)) rfl dX0_liveIn_6 ?_
        refine x_icmp_ge (tgt := 36) X dX0_liveIn_9 (by decide) hf (fun hf => ?_) (fun hf => ?_)
        · refine x_sub [2] rfl ?_
          exact JX4 v2_4 hf
        · refine x_aload_n X dX0_liveIn_12 rfl 0 rfl ?_
          refine x_getf X fl_X0_21 (yS_1 Y) (yS_l Y 1 (by decide)) rfl dX0_liveIn_13 ?_
          refine x_aload_n X dX0_liveIn_16 rfl 0 rfl ?_
          refine x_getf X fl_X0_46 (yS_1 Y) (yS_l Y 1 (by decide)) rfl dX0_liveIn_17 ?_
          refine x_iload_n X dX0_liveIn_20 rfl 3 rfl ?_
          refine x_iald X 0 (yS_ht Y) (yS_11 Y) (yS_l Y 11 (by decide)) dX0_liveIn_21 hf (fun x21 hf => ?_)
          refine x_iald X 0 (yS_ht Y) (yS_5 Y) (yS_l Y 5 (by decide)) dX0_liveIn_22 hf (fun x22 hf => ?_)
          refine x_iload_n X dX0_liveIn_23 rfl 1 rfl ?_
          refine x_join (fun k30 => ∀ (u2_30 : Int32), k30 u2_30 = some r → XG κ σ 30 [(0, .ref (κ.S0 + (b + 1))), (1, .int p1), (2, .int u2_30), (3, .int v3_4)] []) hf (fun u2_30 hf => ?_) (fun k30 J30 hf => ?_)
          · refine x_iinc (v := v3_4 + 1) (lv' := [(3, .int (v3_4 + 1)), (0, .ref (κ.S0 + (b + 1))), (1, .int p1), (2, .int u2_30)]) X dX0_liveIn_30 3 rfl rfl (by decide) rfl ?_
            refine x_goto (tgt := 4) X dX0_liveIn_33 (by decide) ?_
            refine x_sub [1, 2, 3, 0] rfl ?_
            exact ih4 u2_30 (v3_4 + 1) hf
          · refine x_icmp_ne (tgt := 30) X dX0_liveIn_24 (by decide) hf (fun hf => ?_) (fun hf => ?_)
            · exact J30 v2_4 hf
            · refine x_iinc (v := v2_4 + 1) (lv' := [(2, .int (v2_4 + 1)), (0, .ref (κ.S0 + (b + 1))), (1, .int p1), (3, .int v3_4)]) X dX0_liveIn_27 2 rfl rfl (by decide) rfl ?_
              refine x_sub [1, 2, 0, 3] rfl ?_
              exact J30 (v2_4 + 1) hf
    refine x_sub [2, 3, 1, 0] rfl ?_
    exact LL FU 0 0 hf
def f_X3_longestIdle_L68 (σ : SS) (w1_64 : Int32) (kX68 : Int32 → Option (Int32)) : Nat → Int32 → Int32 → Option (Int32)
  | 0, _, _ => none
  | n + 1, v2_68, v3_68 =>
    if 8 ≤ v3_68 then (kX68 v2_68) else (oA 8 (σ.1 13) v3_68 (fun x82 => oJ (κ := Int32 → Option (Int32)) (fun t0_100 => oJ (κ := Int32 → Option (Int32)) (fun u2_135 => f_X3_longestIdle_L68 σ w1_64 kX68 n u2_135 (v3_68 + 1)) (fun k135 => if t0_100 = 0 then (k135 v2_68) else (oJ (κ := Option (Int32)) (k135 v3_68) (fun k133 => if v2_68 = (-1) then k133 else (oA 8 (σ.1 18) v3_68 (fun x120 => oA 8 (σ.1 18) v2_68 (fun x129 => if x129 ≤ x120 then (k135 v2_68) else k133))))))) (fun k100 => oJ (κ := Option (Int32)) (k100 0) (fun k99 => if x82 = 1 then (if ((w1_64 >>> (v3_68 &&& 31)) &&& 1) = 0 then (k100 1) else k99) else k99))))
def f_X3_longestIdle_L4 (σ : SS) (kX4 : Int32 → Option (Int32)) : Nat → Int32 → Int32 → Option (Int32)
  | 0, _, _ => none
  | n + 1, v1_4, v2_4 =>
    if (σ.2 2) ≤ v2_4 then (kX4 v1_4) else (oA 33 (σ.1 11) v2_4 (fun x30 => oA 201 (σ.1 5) x30 (fun x31 => oJ (κ := Int32 → Option (Int32)) (fun u1_58 => f_X3_longestIdle_L4 σ kX4 n u1_58 (v2_4 + 1)) (fun k58 => if x31 = 1 then (oA 33 (σ.1 11) v2_4 (fun x53 => oA 201 (σ.1 3) x53 (fun x54 => k58 (v1_4 ||| (1 <<< (x54 &&& 31)))))) else (k58 v1_4)))))
def f_X3_longestIdle (σ : SS)  : Option (Int32) :=
  f_X3_longestIdle_L4 σ (fun w1_64 => f_X3_longestIdle_L68 σ w1_64 (fun w2_141 => some w2_141) FU (-1) 0) FU 0 0
set_option maxRecDepth 100000 in
set_option maxHeartbeats 4000000 in
theorem m_X3_longestIdle {l : Launch} {G : va_G} {tys : List (ClassId × FieldType)} {S0 : Nat} {h h1 h2 : Nat → va_E} {b cN' : Nat} {cI : ClassId} {σ : SS}  {r : Int32} (hb : b + 22 ≤ cN') (ht : tys[0]? = some (cI, .int)) (e1 : h1 = ov h b (gl S0 cI b σ)) (e2 : h2 = ov h b (gl S0 cI b σ)) (hf : f_X3_longestIdle σ = some r) : XMet l G tys S0 cN' yX3_longestIdle cX3_longestIdle 5 (some .int) 0 0 [.ref (S0 + (b + 0))] h1 cN' (some (.int r)) h2 0 0 := by
  subst e1; subst e2
  refine XMet.ofE (ST := SS) (HP := fun σ => ov h b (gl S0 cI b σ)) σ σ (by decide) (Nat.le_of_ble_eq_true rfl) ?_
  intro κ g1 g2 g3 g4 g5 g6 E X hQ
  subst g1; subst g2; subst g3; subst g4
  have Y : YS κ h b cI := ⟨fun σ => by rw [g5], fun σ => by rw [g6]; exact hb, ht⟩
  have X : XC κ cX3_longestIdle 5 RX3 (some .int) 0 0 := X
  show XG κ σ 0 [(0, .ref (κ.S0 + (b + 0)))] []
  unfold f_X3_longestIdle at hf
  refine x_iconst (v := 0) X dX3_longestIdle_0 (by decide) ?_
  refine x_istore_n (lv' := [(1, .int 0), (0, .ref (κ.S0 + (b + 0)))]) X dX3_longestIdle_1 rfl (by decide) rfl ?_
  refine x_iconst (v := 0) X dX3_longestIdle_2 (by decide) ?_
  refine x_istore_n (lv' := [(2, .int 0), (1, .int 0), (0, .ref (κ.S0 + (b + 0)))]) X dX3_longestIdle_3 rfl (by decide) rfl ?_
  refine x_kont (b := fun kX4 => f_X3_longestIdle_L4 σ kX4 FU 0 0) (fun kX4 => ∀ (w1_64 : Int32), kX4 w1_64 = some r → XG κ σ 64 [(0, .ref (κ.S0 + (b + 0))), (1, .int w1_64)] []) hf (fun w1_64 hf => ?_) (fun kX4 JX4 hf => ?_)
  · refine x_iconst (v := (-1)) X dX3_longestIdle_64 (by decide) ?_
    refine x_istore_n (lv' := [(2, .int (-1)), (0, .ref (κ.S0 + (b + 0))), (1, .int w1_64)]) X dX3_longestIdle_65 rfl (by decide) rfl ?_
    refine x_iconst (v := 0) X dX3_longestIdle_66 (by decide) ?_
    refine x_istore_n (lv' := [(3, .int 0), (2, .int (-1)), (0, .ref (κ.S0 + (b + 0))), (1, .int w1_64)]) X dX3_longestIdle_67 rfl (by decide) rfl ?_
    refine x_kont (b := fun kX68 => f_X3_longestIdle_L68 σ w1_64 kX68 FU (-1) 0) (fun kX68 => ∀ (w2_141 : Int32), kX68 w2_141 = some r → XG κ σ 141 [(2, .int w2_141)] []) hf (fun w2_141 hf => ?_) (fun kX68 JX68 hf => ?_)
    · refine x_iload_n X dX3_longestIdle_141 rfl 0 rfl ?_
      exact x_iretR (σ0 := σ) X E hQ hf dX3_longestIdle_142
    · have LL : ∀ (n : Nat) (v2_68 : Int32) (v3_68 : Int32), f_X3_longestIdle_L68 σ w1_64 kX68 n v2_68 v3_68 = some r → XG κ σ 68 [(0, .ref (κ.S0 + (b + 0))), (1, .int w1_64), (2, .int v2_68), (3, .int v3_68)] [] := by
        intro n
        induction n with
        | zero => intro v2_68 v3_68 hf; rw [f_X3_longestIdle_L68] at hf; cases hf
        | succ n ih68 =>
          intro v2_68 v3_68 hf
          rw [f_X3_longestIdle_L68] at hf
          refine x_iload_n X dX3_longestIdle_68 rfl 3 rfl ?_
          refine x_bipush (v := 8) X dX3_longestIdle_69 (by decide) ?_
          refine x_icmp_ge (tgt := 141) X dX3_longestIdle_71 (by decide) hf (fun hf => ?_) (fun hf => ?_)
          · refine x_sub [2] rfl ?_
            exact JX68 v2_68 hf
          · refine x_aload_n X dX3_longestIdle_74 rfl 0 rfl ?_
            refine x_getf X fl_X3_21 (yS_0 Y) (yS_l Y 0 (by decide)) rfl dX3_longestIdle_75 ?_
            refine x_getf X fl_X3_93 (yS_12 Y) (yS_l Y 12 (by decide)) rfl dX3_longestIdle_78 ?_
            refine x_iload_n X dX3_longestIdle_81 rfl 3 rfl ?_
            refine x_iald X 0 (yS_ht Y) (yS_13 Y) (yS_l Y 13 (by decide)) dX3_longestIdle_82 hf (fun x82 hf => ?_)
            refine x_iconst (v := 1) X dX3_longestIdle_83 (by decide) ?_
            refine x_join (fun k100 => ∀ (t0_100 : Int32), k100 t0_100 = some r → XG κ σ 100 [(0, .ref (κ.S0 + (b + 0))), (1, .int w1_64), (2, .int v2_68), (3, .int v3_68)] [.int t0_100]) hf (fun t0_100 hf => ?_) (fun k100 J100 hf => ?_)
            · refine x_istore (lv' := [(4, .int t0_100), (0, .ref (κ.S0 + (b + 0))), (1, .int w1_64), (2, .int v2_68), (3, .int v3_68)]) X dX3_longestIdle_100 (by decide) rfl ?_
              refine x_iload X dX3_longestIdle_102 0 rfl ?_
              refine x_join (fun k135 => ∀ (u2_135 : Int32), k135 u2_135 = some r → XG κ σ 135 [(0, .ref (κ.S0 + (b + 0))), (1, .int w1_64), (2, .int u2_135), (3, .int v3_68)] []) hf (fun u2_135 hf => ?_) (fun k135 J135 hf => ?_)
              · refine x_iinc (v := v3_68 + 1) (lv' := [(3, .int (v3_68 + 1)), (0, .ref (κ.S0 + (b + 0))), (1, .int w1_64), (2, .int u2_135)]) X dX3_longestIdle_135 3 rfl rfl (by decide) rfl ?_
                refine x_goto (tgt := 68) X dX3_longestIdle_138 (by decide) ?_
                refine x_sub [1, 2, 3, 0] rfl ?_
                exact ih68 u2_135 (v3_68 + 1) hf
              · refine x_if_eq (tgt := 135) X dX3_longestIdle_104 (by decide) hf (fun hf => ?_) (fun hf => ?_)
                · refine x_sub [1, 2, 3, 4] rfl ?_
                  exact J135 v2_68 hf
                · refine x_iload_n X dX3_longestIdle_107 rfl 3 rfl ?_
                  refine x_iconst (v := (-1)) X dX3_longestIdle_108 (by decide) ?_
                  refine x_join (fun k133 => k133 = some r → XG κ σ 133 [(0, .ref (κ.S0 + (b + 0))), (1, .int w1_64), (3, .int v3_68)] []) hf (fun hf => ?_) (fun k133 J133 hf => ?_)
                  · refine x_iload_n X dX3_longestIdle_133 rfl 2 rfl ?_
                    refine x_istore_n (lv' := [(2, .int v3_68), (0, .ref (κ.S0 + (b + 0))), (1, .int w1_64), (3, .int v3_68)]) X dX3_longestIdle_134 rfl (by decide) rfl ?_
                    refine x_sub [1, 2, 0, 3] rfl ?_
                    exact J135 v3_68 hf
                  · refine x_icmp_eq (tgt := 133) X dX3_longestIdle_109 (by decide) hf (fun hf => ?_) (fun hf => ?_)
                    · refine x_sub [1, 2, 4] rfl ?_
                      exact J133 hf
                    · refine x_aload_n X dX3_longestIdle_112 rfl 1 rfl ?_
                      refine x_getf X fl_X3_21 (yS_0 Y) (yS_l Y 0 (by decide)) rfl dX3_longestIdle_113 ?_
                      refine x_getf X fl_X3_195 (yS_12 Y) (yS_l Y 12 (by decide)) rfl dX3_longestIdle_116 ?_
                      refine x_iload_n X dX3_longestIdle_119 rfl 4 rfl ?_
                      refine x_iald X 0 (yS_ht Y) (yS_18 Y) (yS_l Y 18 (by decide)) dX3_longestIdle_120 hf (fun x120 hf => ?_)
                      refine x_aload_n X dX3_longestIdle_121 rfl 1 rfl ?_
                      refine x_getf X fl_X3_21 (yS_0 Y) (yS_l Y 0 (by decide)) rfl dX3_longestIdle_122 ?_
                      refine x_getf X fl_X3_195 (yS_12 Y) (yS_l Y 12 (by decide)) rfl dX3_longestIdle_125 ?_
                      refine x_iload_n X dX3_longestIdle_128 rfl 3 rfl ?_
                      refine x_iald X 0 (yS_ht Y) (yS_18 Y) (yS_l Y 18 (by decide)) dX3_longestIdle_129 hf (fun x129 hf => ?_)
                      refine x_icmp_ge (tgt := 135) X dX3_longestIdle_130 (by decide) hf (fun hf => ?_) (fun hf => ?_)
                      · refine x_sub [1, 2, 3, 4] rfl ?_
                        exact J135 v2_68 hf
                      · refine x_sub [1, 2, 4] rfl ?_
                        exact J133 hf
            · refine x_join (fun k99 => k99 = some r → XG κ σ 99 [(0, .ref (κ.S0 + (b + 0))), (1, .int w1_64), (2, .int v2_68), (3, .int v3_68)] []) hf (fun hf => ?_) (fun k99 J99 hf => ?_)
              · refine x_iconst (v := 0) X dX3_longestIdle_99 (by decide) ?_
                exact J100 0 hf
              · refine x_icmp_ne (tgt := 99) X dX3_longestIdle_84 (by decide) hf (fun hf => ?_) (fun hf => ?_)
                · exact J99 hf
                · refine x_iload_n X dX3_longestIdle_87 rfl 1 rfl ?_
                  refine x_iload_n X dX3_longestIdle_88 rfl 3 rfl ?_
                  refine x_ishr X dX3_longestIdle_89 ?_
                  refine x_iconst (v := 1) X dX3_longestIdle_90 (by decide) ?_
                  refine x_iand X dX3_longestIdle_91 ?_
                  refine x_if_ne (tgt := 99) X dX3_longestIdle_92 (by decide) hf (fun hf => ?_) (fun hf => ?_)
                  · exact J99 hf
                  · refine x_iconst (v := 1) X dX3_longestIdle_95 (by decide) ?_
                    refine x_goto (tgt := 100) X dX3_longestIdle_96 (by decide) ?_
                    exact J100 1 hf
      refine x_sub [2, 3, 1, 0] rfl ?_
      exact LL FU (-1) 0 hf
  · have LL : ∀ (n : Nat) (v1_4 : Int32) (v2_4 : Int32), f_X3_longestIdle_L4 σ kX4 n v1_4 v2_4 = some r → XG κ σ 4 [(0, .ref (κ.S0 + (b + 0))), (1, .int v1_4), (2, .int v2_4)] [] := by
      intro n
      induction n with
      | zero => intro v1_4 v2_4 hf; rw [f_X3_longestIdle_L4] at hf; cases hf
      | succ n ih4 =>
        intro v1_4 v2_4 hf
        rw [f_X3_longestIdle_L4] at hf
        refine x_iload_n X dX3_longestIdle_4 rfl 2 rfl ?_
        refine x_aload_n X dX3_longestIdle_5 rfl 0 rfl ?_
        refine x_getf X fl_X3_12 (yS_0 Y) (yS_l Y 0 (by decide)) rfl dX3_longestIdle_6 ?_
        refine x_getf X fl_X3_153 (yS_1 Y) (yS_l Y 1 (by decide)) rfl dX3_longestIdle_9 ?_
        refine x_icmp_ge (tgt := 64) X dX3_longestIdle_12 (by decide) hf (fun hf => ?_) (fun hf => ?_)
        · refine x_sub [0, 1] rfl ?_
          exact JX4 v1_4 hf
        · refine x_aload_n X dX3_longestIdle_15 rfl 0 rfl ?_
          refine x_getf X fl_X3_12 (yS_0 Y) (yS_l Y 0 (by decide)) rfl dX3_longestIdle_16 ?_
          refine x_getf X fl_X3_159 (yS_1 Y) (yS_l Y 1 (by decide)) rfl dX3_longestIdle_19 ?_
          refine x_aload_n X dX3_longestIdle_22 rfl 0 rfl ?_
          refine x_getf X fl_X3_12 (yS_0 Y) (yS_l Y 0 (by decide)) rfl dX3_longestIdle_23 ?_
          refine x_getf X fl_X3_156 (yS_1 Y) (yS_l Y 1 (by decide)) rfl dX3_longestIdle_26 ?_
          refine x_iload_n X dX3_longestIdle_29 rfl 2 rfl ?_
          refine x_iald X 0 (yS_ht Y) (yS_11 Y) (yS_l Y 11 (by decide)) dX3_longestIdle_30 hf (fun x30 hf => ?_)
          refine x_iald X 0 (yS_ht Y) (yS_5 Y) (yS_l Y 5 (by decide)) dX3_longestIdle_31 hf (fun x31 hf => ?_)
          refine x_iconst (v := 1) X dX3_longestIdle_32 (by decide) ?_
          refine x_join (fun k58 => ∀ (u1_58 : Int32), k58 u1_58 = some r → XG κ σ 58 [(0, .ref (κ.S0 + (b + 0))), (1, .int u1_58), (2, .int v2_4)] []) hf (fun u1_58 hf => ?_) (fun k58 J58 hf => ?_)
          · refine x_iinc (v := v2_4 + 1) (lv' := [(2, .int (v2_4 + 1)), (0, .ref (κ.S0 + (b + 0))), (1, .int u1_58)]) X dX3_longestIdle_58 2 rfl rfl (by decide) rfl ?_
            refine x_goto (tgt := 4) X dX3_longestIdle_61 (by decide) ?_
            refine x_sub [1, 2, 0] rfl ?_
            exact ih4 u1_58 (v2_4 + 1) hf
          · refine x_icmp_ne (tgt := 58) X dX3_longestIdle_33 (by decide) hf (fun hf => ?_) (fun hf => ?_)
            · exact J58 v1_4 hf
            · refine x_iload_n X dX3_longestIdle_36 rfl 1 rfl ?_
              refine x_iconst (v := 1) X dX3_longestIdle_37 (by decide) ?_
              refine x_aload_n X dX3_longestIdle_38 rfl 0 rfl ?_
              refine x_getf X fl_X3_12 (yS_0 Y) (yS_l Y 0 (by decide)) rfl dX3_longestIdle_39 ?_
              refine x_getf X fl_X3_144 (yS_1 Y) (yS_l Y 1 (by decide)) rfl dX3_longestIdle_42 ?_
              refine x_aload_n X dX3_longestIdle_45 rfl 0 rfl ?_
              refine x_getf X fl_X3_12 (yS_0 Y) (yS_l Y 0 (by decide)) rfl dX3_longestIdle_46 ?_
              refine x_getf X fl_X3_156 (yS_1 Y) (yS_l Y 1 (by decide)) rfl dX3_longestIdle_49 ?_
              refine x_iload_n X dX3_longestIdle_52 rfl 2 rfl ?_
              refine x_iald X 0 (yS_ht Y) (yS_11 Y) (yS_l Y 11 (by decide)) dX3_longestIdle_53 hf (fun x53 hf => ?_)
              refine x_iald X 0 (yS_ht Y) (yS_3 Y) (yS_l Y 3 (by decide)) dX3_longestIdle_54 hf (fun x54 hf => ?_)
              refine x_ishl X dX3_longestIdle_55 ?_
              refine x_ior X dX3_longestIdle_56 ?_
              refine x_istore_n (lv' := [(1, .int (v1_4 ||| (1 <<< (x54 &&& 31)))), (0, .ref (κ.S0 + (b + 0))), (2, .int v2_4)]) X dX3_longestIdle_57 rfl (by decide) rfl ?_
              refine x_sub [1, 0, 2] rfl ?_
              exact J58 (v1_4 ||| (1 <<< (x54 &&& 31))) hf
    refine x_sub [2, 1, 0] rfl ?_
    exact LL FU 0 0 hf
def f_X3_couldOpen (σ : SS) (p1 : Int32) : Option (Int32 × SS) :=
  oA 8 (σ.1 13) p1 (fun x8 => oJ (κ := Option (Int32 × SS)) (oR (f_X4_inPhase σ 1) (fun r36 => oJ (κ := SS → Option (Int32 × SS)) (fun s_84 => oS 8 (s_84.1 13) p1 1 (sA s_84 13) (fun s93 => (oB 1).map (fun x => (x, s93)))) (fun k84 => if r36 < (σ.2 4) then (k84 σ) else (oR (f_X3_longestIdle σ) (fun r50 => if r50 = (-1) then ((oB 0).map (fun x => (x, σ))) else (oS 8 (σ.1 13) r50 2 (sA σ 13) (fun s70 => oN ((s70.2 7) + 1) (sN s70 7) (fun s81 => k84 s81)))))))) (fun k31 => if x8 = 0 then (oR (f_X4_inUse σ) (fun r16 => if r16 < (σ.2 5) then k31 else ((oB 0).map (fun x => (x, σ))))) else k31))
set_option maxRecDepth 100000 in
set_option maxHeartbeats 4000000 in
theorem m_X3_couldOpen {l : Launch} {G : va_G} {tys : List (ClassId × FieldType)} {S0 : Nat} {h h1 h2 : Nat → va_E} {b cN' : Nat} {cI : ClassId} {σ : SS} {τ : SS} {p1 : Int32} {r : Int32} (hb : b + 22 ≤ cN') (ht : tys[0]? = some (cI, .int)) (e1 : h1 = ov h b (gl S0 cI b σ)) (e2 : h2 = ov h b (gl S0 cI b τ)) (hf : f_X3_couldOpen σ p1 = some (r, τ)) : XMet l G tys S0 cN' yX3_couldOpen cX3_couldOpen 3 (some .boolean) 1 24 [.ref (S0 + (b + 0)), .int p1] h1 cN' (some (.int r)) h2 0 0 := by
  subst e1; subst e2
  refine XMet.ofE (ST := SS) (HP := fun σ => ov h b (gl S0 cI b σ)) σ τ (by decide) (Nat.le_of_ble_eq_true rfl) ?_
  intro κ g1 g2 g3 g4 g5 g6 E X hQ
  subst g1; subst g2; subst g3; subst g4
  have Y : YS κ h b cI := ⟨fun σ => by rw [g5], fun σ => by rw [g6]; exact hb, ht⟩
  have X : XC κ cX3_couldOpen 3 RX3 (some .boolean) 1 24 := X
  show XG κ σ 0 [(0, .ref (κ.S0 + (b + 0))), (1, .int p1)] []
  unfold f_X3_couldOpen at hf
  refine x_aload_n X dX3_couldOpen_0 rfl 0 rfl ?_
  refine x_getf X fl_X3_21 (yS_0 Y) (yS_l Y 0 (by decide)) rfl dX3_couldOpen_1 ?_
  refine x_getf X fl_X3_93 (yS_12 Y) (yS_l Y 12 (by decide)) rfl dX3_couldOpen_4 ?_
  refine x_iload_n X dX3_couldOpen_7 rfl 1 rfl ?_
  refine x_iald X 0 (yS_ht Y) (yS_13 Y) (yS_l Y 13 (by decide)) dX3_couldOpen_8 hf (fun x8 hf => ?_)
  refine x_join (fun k31 => k31 = some (r, τ) → XG κ σ 31 [(0, .ref (κ.S0 + (b + 0))), (1, .int p1)] []) hf (fun hf => ?_) (fun k31 J31 hf => ?_)
  · refine x_aload_n X dX3_couldOpen_31 rfl 0 rfl ?_
    refine x_getf X fl_X3_21 (yS_0 Y) (yS_l Y 0 (by decide)) rfl dX3_couldOpen_32 ?_
    refine x_iconst (v := 1) X dX3_couldOpen_35 (by decide) ?_
    refine x_callR (rest := []) X hf (fun r hr => x_cV (ci := 4) X cm_X4_inPhase lkV_X3_76 rfl ⟨Nat.le_of_ble_eq_true rfl, Nat.le_of_ble_eq_true rfl⟩ (yS_12 Y) (yS_l Y 12 (by decide)) (m_X4_inPhase (yS_hb Y σ) (yS_ht Y) (yS_hp Y _) (yS_hp Y _) hr) rfl rfl (Nat.le_of_ble_eq_true rfl) (x_room E _) dX3_couldOpen_36) (fun r36 hf => ?_)
    refine x_aload_n X dX3_couldOpen_39 rfl 0 rfl ?_
    refine x_getf X fl_X3_21 (yS_0 Y) (yS_l Y 0 (by decide)) rfl dX3_couldOpen_40 ?_
    refine x_getf X fl_X3_69 (yS_12 Y) (yS_l Y 12 (by decide)) rfl dX3_couldOpen_43 ?_
    refine x_join (fun k84 => ∀  (s_84 : SS), k84 s_84 = some (r, τ) → XG κ s_84 84 [(0, .ref (κ.S0 + (b + 0))), (1, .int p1)] []) hf (fun s_84 hf => ?_) (fun k84 J84 hf => ?_)
    · refine x_aload_n X dX3_couldOpen_84 rfl 0 rfl ?_
      refine x_getf X fl_X3_21 (yS_0 Y) (yS_l Y 0 (by decide)) rfl dX3_couldOpen_85 ?_
      refine x_getf X fl_X3_93 (yS_12 Y) (yS_l Y 12 (by decide)) rfl dX3_couldOpen_88 ?_
      refine x_iload_n X dX3_couldOpen_91 rfl 1 rfl ?_
      refine x_iconst (v := 1) X dX3_couldOpen_92 (by decide) ?_
      refine x_iast (w := sA s_84 13) X E.1 0 (yS_ht Y) (yS_13 Y) (yS_l Y 13 (by decide)) (yS_s13 Y) dX3_couldOpen_93 hf (fun s93 hf => ?_)
      refine x_iconst (v := 1) X dX3_couldOpen_94 (by decide) ?_
      exact x_zretW (σ0 := σ) X E hQ hf dX3_couldOpen_95
    · refine x_icmp_lt (tgt := 84) X dX3_couldOpen_46 (by decide) hf (fun hf => ?_) (fun hf => ?_)
      · exact J84 σ hf
      · refine x_aload_n X dX3_couldOpen_49 rfl 0 rfl ?_
        refine x_callR (rest := []) X hf (fun r hr => x_cV (ci := 3) X cm_X3_longestIdle lkV_X3_189 rfl ⟨Nat.le_of_ble_eq_true rfl, Nat.le_of_ble_eq_true rfl⟩ (yS_0 Y) (yS_l Y 0 (by decide)) (m_X3_longestIdle (yS_hb Y σ) (yS_ht Y) (yS_hp Y _) (yS_hp Y _) hr) rfl rfl (Nat.le_of_ble_eq_true rfl) (x_room E _) dX3_couldOpen_50) (fun r50 hf => ?_)
        refine x_istore_n (lv' := [(2, .int r50), (0, .ref (κ.S0 + (b + 0))), (1, .int p1)]) X dX3_couldOpen_53 rfl (by decide) rfl ?_
        refine x_iload_n X dX3_couldOpen_54 rfl 0 rfl ?_
        refine x_iconst (v := (-1)) X dX3_couldOpen_55 (by decide) ?_
        refine x_icmp_ne (tgt := 61) X dX3_couldOpen_56 (by decide) hf (fun hf => ?_) (fun hf => ?_)
        · refine x_aload_n X dX3_couldOpen_61 rfl 1 rfl ?_
          refine x_getf X fl_X3_21 (yS_0 Y) (yS_l Y 0 (by decide)) rfl dX3_couldOpen_62 ?_
          refine x_getf X fl_X3_93 (yS_12 Y) (yS_l Y 12 (by decide)) rfl dX3_couldOpen_65 ?_
          refine x_iload_n X dX3_couldOpen_68 rfl 0 rfl ?_
          refine x_iconst (v := 2) X dX3_couldOpen_69 (by decide) ?_
          refine x_iast (w := sA σ 13) X E.1 0 (yS_ht Y) (yS_13 Y) (yS_l Y 13 (by decide)) (yS_s13 Y) dX3_couldOpen_70 hf (fun s70 hf => ?_)
          refine x_aload_n X dX3_couldOpen_71 rfl 1 rfl ?_
          refine x_getf X fl_X3_21 (yS_0 Y) (yS_l Y 0 (by decide)) rfl dX3_couldOpen_72 ?_
          refine x_dup X dX3_couldOpen_75 rfl ?_
          refine x_getf X fl_X3_192 (yS_12 Y) (yS_l Y 12 (by decide)) rfl dX3_couldOpen_76 ?_
          refine x_iconst (v := 1) X dX3_couldOpen_79 (by decide) ?_
          refine x_iadd X dX3_couldOpen_80 ?_
          refine x_putI (w := sN s70 7) X E.1 fp_X3_192 (yS_12 Y) (yS_l Y 12 (by decide)) (Nat.le_of_ble_eq_true rfl) (yS_p12_10 Y) dX3_couldOpen_81 hf (fun s81 hf => ?_)
          refine x_sub [1, 2] rfl ?_
          exact J84 s81 hf
        · refine x_iconst (v := 0) X dX3_couldOpen_59 (by decide) ?_
          exact x_zretW (σ0 := σ) X E hQ hf dX3_couldOpen_60
  · refine x_if_ne (tgt := 31) X dX3_couldOpen_9 (by decide) hf (fun hf => ?_) (fun hf => ?_)
    · exact J31 hf
    · refine x_aload_n X dX3_couldOpen_12 rfl 0 rfl ?_
      refine x_getf X fl_X3_21 (yS_0 Y) (yS_l Y 0 (by decide)) rfl dX3_couldOpen_13 ?_
      refine x_callR (rest := []) X hf (fun r hr => x_cV (ci := 4) X cm_X4_inUse lkV_X3_82 rfl ⟨Nat.le_of_ble_eq_true rfl, Nat.le_of_ble_eq_true rfl⟩ (yS_12 Y) (yS_l Y 12 (by decide)) (m_X4_inUse (yS_hb Y σ) (yS_ht Y) (yS_hp Y _) (yS_hp Y _) hr) rfl rfl (Nat.le_of_ble_eq_true rfl) (x_room E _) dX3_couldOpen_16) (fun r16 hf => ?_)
      refine x_aload_n X dX3_couldOpen_19 rfl 0 rfl ?_
      refine x_getf X fl_X3_21 (yS_0 Y) (yS_l Y 0 (by decide)) rfl dX3_couldOpen_20 ?_
      refine x_getf X fl_X3_79 (yS_12 Y) (yS_l Y 12 (by decide)) rfl dX3_couldOpen_23 ?_
      refine x_icmp_lt (tgt := 31) X dX3_couldOpen_26 (by decide) hf (fun hf => ?_) (fun hf => ?_)
      · exact J31 hf
      · refine x_iconst (v := 0) X dX3_couldOpen_29 (by decide) ?_
        exact x_zretW (σ0 := σ) X E hQ hf dX3_couldOpen_30
def f_X4_takePlace (σ : SS) (p1 : Int32) : Option (Int32 × SS) :=
  oA 8 (σ.1 16) p1 (fun x5 => oS 8 (σ.1 16) p1 (x5 + 1) (sA σ 16) (fun s15 => oA 8 (s15.1 16) p1 (fun x21 => oA 8 (s15.1 14) p1 (fun x27 => oJ (κ := SS → Option (Int32 × SS)) (fun s_38 => oN ((s_38.2 3) + 1) (sN s_38 3) (fun s45 => oS 8 (s45.1 18) p1 (s45.2 3) (sA s45 18) (fun s57 => some (x5, s57)))) (fun k38 => if x21 < x27 then (k38 s15) else (oS 8 (s15.1 13) p1 3 (sA s15 13) (fun s37 => k38 s37)))))))
set_option maxRecDepth 100000 in
set_option maxHeartbeats 4000000 in
theorem m_X4_takePlace {l : Launch} {G : va_G} {tys : List (ClassId × FieldType)} {S0 : Nat} {h h1 h2 : Nat → va_E} {b cN' : Nat} {cI : ClassId} {σ : SS} {τ : SS} {p1 : Int32} {r : Int32} (hb : b + 22 ≤ cN') (ht : tys[0]? = some (cI, .int)) (e1 : h1 = ov h b (gl S0 cI b σ)) (e2 : h2 = ov h b (gl S0 cI b τ)) (hf : f_X4_takePlace σ p1 = some (r, τ)) : XMet l G tys S0 cN' yX4_takePlace cX4_takePlace 3 (some .int) 0 0 [.ref (S0 + (b + 12)), .int p1] h1 cN' (some (.int r)) h2 0 0 := by
  subst e1; subst e2
  refine XMet.ofE (ST := SS) (HP := fun σ => ov h b (gl S0 cI b σ)) σ τ (by decide) (Nat.le_of_ble_eq_true rfl) ?_
  intro κ g1 g2 g3 g4 g5 g6 E X hQ
  subst g1; subst g2; subst g3; subst g4
  have Y : YS κ h b cI := ⟨fun σ => by rw [g5], fun σ => by rw [g6]; exact hb, ht⟩
  have X : XC κ cX4_takePlace 3 RX4 (some .int) 0 0 := X
  show XG κ σ 0 [(0, .ref (κ.S0 + (b + 12))), (1, .int p1)] []
  unfold f_X4_takePlace at hf
  refine x_aload_n X dX4_takePlace_0 rfl 0 rfl ?_
  refine x_getf X fl_X4_21 (yS_12 Y) (yS_l Y 12 (by decide)) rfl dX4_takePlace_1 ?_
  refine x_iload_n X dX4_takePlace_4 rfl 1 rfl ?_
  refine x_iald X 0 (yS_ht Y) (yS_16 Y) (yS_l Y 16 (by decide)) dX4_takePlace_5 hf (fun x5 hf => ?_)
  refine x_istore_n (lv' := [(2, .int x5), (0, .ref (κ.S0 + (b + 12))), (1, .int p1)]) X dX4_takePlace_6 rfl (by decide) rfl ?_
  refine x_aload_n X dX4_takePlace_7 rfl 1 rfl ?_
  refine x_getf X fl_X4_21 (yS_12 Y) (yS_l Y 12 (by decide)) rfl dX4_takePlace_8 ?_
  refine x_iload_n X dX4_takePlace_11 rfl 2 rfl ?_
  refine x_iload_n X dX4_takePlace_12 rfl 0 rfl ?_
  refine x_iconst (v := 1) X dX4_takePlace_13 (by decide) ?_
  refine x_iadd X dX4_takePlace_14 ?_
  refine x_iast (w := sA σ 16) X E.1 0 (yS_ht Y) (yS_16 Y) (yS_l Y 16 (by decide)) (yS_s16 Y) dX4_takePlace_15 hf (fun s15 hf => ?_)
  refine x_aload_n X dX4_takePlace_16 rfl 1 rfl ?_
  refine x_getf X fl_X4_21 (yS_12 Y) (yS_l Y 12 (by decide)) rfl dX4_takePlace_17 ?_
  refine x_iload_n X dX4_takePlace_20 rfl 2 rfl ?_
  refine x_iald X 0 (yS_ht Y) (yS_16 Y) (yS_l Y 16 (by decide)) dX4_takePlace_21 hf (fun x21 hf => ?_)
  refine x_aload_n X dX4_takePlace_22 rfl 1 rfl ?_
  refine x_getf X fl_X4_15 (yS_12 Y) (yS_l Y 12 (by decide)) rfl dX4_takePlace_23 ?_
  refine x_iload_n X dX4_takePlace_26 rfl 2 rfl ?_
  refine x_iald X 0 (yS_ht Y) (yS_14 Y) (yS_l Y 14 (by decide)) dX4_takePlace_27 hf (fun x27 hf => ?_)
  refine x_join (fun k38 => ∀  (s_38 : SS), k38 s_38 = some (r, τ) → XG κ s_38 38 [(0, .ref (κ.S0 + (b + 12))), (1, .int p1), (2, .int x5)] []) hf (fun s_38 hf => ?_) (fun k38 J38 hf => ?_)
  · refine x_aload_n X dX4_takePlace_38 rfl 0 rfl ?_
    refine x_dup X dX4_takePlace_39 rfl ?_
    refine x_getf X fl_X4_30 (yS_12 Y) (yS_l Y 12 (by decide)) rfl dX4_takePlace_40 ?_
    refine x_iconst (v := 1) X dX4_takePlace_43 (by decide) ?_
    refine x_iadd X dX4_takePlace_44 ?_
    refine x_putI (w := sN s_38 3) X E.1 fp_X4_30 (yS_12 Y) (yS_l Y 12 (by decide)) (Nat.le_of_ble_eq_true rfl) (yS_p12_6 Y) dX4_takePlace_45 hf (fun s45 hf => ?_)
    refine x_aload_n X dX4_takePlace_48 rfl 0 rfl ?_
    refine x_getf X fl_X4_27 (yS_12 Y) (yS_l Y 12 (by decide)) rfl dX4_takePlace_49 ?_
    refine x_iload_n X dX4_takePlace_52 rfl 1 rfl ?_
    refine x_aload_n X dX4_takePlace_53 rfl 0 rfl ?_
    refine x_getf X fl_X4_30 (yS_12 Y) (yS_l Y 12 (by decide)) rfl dX4_takePlace_54 ?_
    refine x_iast (w := sA s45 18) X E.1 0 (yS_ht Y) (yS_18 Y) (yS_l Y 18 (by decide)) (yS_s18 Y) dX4_takePlace_57 hf (fun s57 hf => ?_)
    refine x_iload_n X dX4_takePlace_58 rfl 2 rfl ?_
    exact x_iretW (σ0 := σ) X E hQ hf dX4_takePlace_59
  · refine x_icmp_lt (tgt := 38) X dX4_takePlace_28 (by decide) hf (fun hf => ?_) (fun hf => ?_)
    · refine x_sub [1, 2, 0] rfl ?_
      exact J38 s15 hf
    · refine x_aload_n X dX4_takePlace_31 rfl 1 rfl ?_
      refine x_getf X fl_X4_9 (yS_12 Y) (yS_l Y 12 (by decide)) rfl dX4_takePlace_32 ?_
      refine x_iload_n X dX4_takePlace_35 rfl 2 rfl ?_
      refine x_iconst (v := 3) X dX4_takePlace_36 (by decide) ?_
      refine x_iast (w := sA s15 13) X E.1 0 (yS_ht Y) (yS_13 Y) (yS_l Y 13 (by decide)) (yS_s13 Y) dX4_takePlace_37 hf (fun s37 hf => ?_)
      refine x_sub [1, 2, 0] rfl ?_
      exact J38 s37 hf
def f_X0_begin (σ : SS) (p1 : Int32) (p2 : Int32) (p3 : Int32) (p4 : Int32) : Option (SS) :=
  oS 201 (σ.1 5) p1 1 (sA σ 5) (fun s6 => oS 201 (s6.1 6) p1 p2 (sA s6 6) (fun s13 => oS 201 (s13.1 7) p1 p3 (sA s13 7) (fun s20 => oS 201 (s20.1 9) p1 p4 (sA s20 9) (fun s28 => some s28))))
set_option maxRecDepth 100000 in
set_option maxHeartbeats 4000000 in
theorem m_X0_begin {l : Launch} {G : va_G} {tys : List (ClassId × FieldType)} {S0 : Nat} {h h1 h2 : Nat → va_E} {b cN' : Nat} {cI : ClassId} {σ : SS} {τ : SS} {p1 : Int32} {p2 : Int32} {p3 : Int32} {p4 : Int32} (hb : b + 22 ≤ cN') (ht : tys[0]? = some (cI, .int)) (e1 : h1 = ov h b (gl S0 cI b σ)) (e2 : h2 = ov h b (gl S0 cI b τ)) (hf : f_X0_begin σ p1 p2 p3 p4 = some τ) : XMet l G tys S0 cN' yX0_begin cX0_begin 5 none 0 0 [.ref (S0 + (b + 1)), .int p1, .int p2, .int p3, .int p4] h1 cN' none h2 0 0 := by
  subst e1; subst e2
  refine XMet.ofE (ST := SS) (HP := fun σ => ov h b (gl S0 cI b σ)) σ τ (by decide) (Nat.le_of_ble_eq_true rfl) ?_
  intro κ g1 g2 g3 g4 g5 g6 E X hQ
  subst g1; subst g2; subst g3; subst g4
  have Y : YS κ h b cI := ⟨fun σ => by rw [g5], fun σ => by rw [g6]; exact hb, ht⟩
  have X : XC κ cX0_begin 5 RX0 none 0 0 := X
  show XG κ σ 0 [(0, .ref (κ.S0 + (b + 1))), (1, .int p1), (2, .int p2), (3, .int p3), (4, .int p4)] []
  unfold f_X0_begin at hf
  refine x_aload_n X dX0_begin_0 rfl 0 rfl ?_
  refine x_getf X fl_X0_21 (yS_1 Y) (yS_l Y 1 (by decide)) rfl dX0_begin_1 ?_
  refine x_iload_n X dX0_begin_4 rfl 1 rfl ?_
  refine x_iconst (v := 1) X dX0_begin_5 (by decide) ?_
  refine x_iast (w := sA σ 5) X E.1 0 (yS_ht Y) (yS_5 Y) (yS_l Y 5 (by decide)) (yS_s5 Y) dX0_begin_6 hf (fun s6 hf => ?_)
  refine x_aload_n X dX0_begin_7 rfl 0 rfl ?_
  refine x_getf X fl_X0_24 (yS_1 Y) (yS_l Y 1 (by decide)) rfl dX0_begin_8 ?_
  refine x_iload_n X dX0_begin_11 rfl 1 rfl ?_
  refine x_iload_n X dX0_begin_12 rfl 2 rfl ?_
  refine x_iast (w := sA s6 6) X E.1 0 (yS_ht Y) (yS_6 Y) (yS_l Y 6 (by decide)) (yS_s6 Y) dX0_begin_13 hf (fun s13 hf => ?_)
  refine x_aload_n X dX0_begin_14 rfl 0 rfl ?_
  refine x_getf X fl_X0_27 (yS_1 Y) (yS_l Y 1 (by decide)) rfl dX0_begin_15 ?_
  refine x_iload_n X dX0_begin_18 rfl 1 rfl ?_
  refine x_iload_n X dX0_begin_19 rfl 3 rfl ?_
  refine x_iast (w := sA s13 7) X E.1 0 (yS_ht Y) (yS_7 Y) (yS_l Y 7 (by decide)) (yS_s7 Y) dX0_begin_20 hf (fun s20 hf => ?_)
  refine x_aload_n X dX0_begin_21 rfl 0 rfl ?_
  refine x_getf X fl_X0_33 (yS_1 Y) (yS_l Y 1 (by decide)) rfl dX0_begin_22 ?_
  refine x_iload_n X dX0_begin_25 rfl 1 rfl ?_
  refine x_iload X dX0_begin_26 4 rfl ?_
  refine x_iast (w := sA s20 9) X E.1 0 (yS_ht Y) (yS_9 Y) (yS_l Y 9 (by decide)) (yS_s9 Y) dX0_begin_28 hf (fun s28 hf => ?_)
  exact x_vretV (σ0 := σ) X E hQ hf dX0_begin_29
def f_X3_hasBegun (σ : SS) (p1 : Int32) : Option (Int32 × SS) :=
  oA 201 (σ.1 3) p1 (fun x8 => oA 8 (σ.1 13) x8 (fun x18 => if x18 = 3 then (oV (f_X0_markFailed σ p1 1) (fun t => t) (fun s29 => (oB 0).map (fun x => (x, s29)))) else (oR (f_X0_liveIn σ 1) (fun r39 => if r39 < (σ.2 8) then (oA 8 (σ.1 13) x8 (fun x59 => oJ (κ := SS → Option (Int32 × SS)) (fun s_74 => oW (f_X4_takePlace s_74 x8) (fun t => t) (fun r79 s79 => oA 8 (s79.1 15) x8 (fun x95 => oA 8 (s79.1 17) x8 (fun x119 => oV (f_X0_begin s79 p1 r79 (((s79.2 10) + x95) + (r79 - r79 / 2 * 2)) x119) (fun t => t) (fun s120 => (oB 1).map (fun x => (x, s120))))))) (fun k74 => if x59 = 1 then (k74 σ) else (oW (f_X3_couldOpen σ x8) (fun t => t) (fun r66 s66 => if r66 = 0 then ((oB 0).map (fun x => (x, s66))) else (k74 s66)))))) else ((oB 0).map (fun x => (x, σ)))))))
set_option maxRecDepth 100000 in
set_option maxHeartbeats 4000000 in
theorem m_X3_hasBegun {l : Launch} {G : va_G} {tys : List (ClassId × FieldType)} {S0 : Nat} {h h1 h2 : Nat → va_E} {b cN' : Nat} {cI : ClassId} {σ : SS} {τ : SS} {p1 : Int32} {r : Int32} (hb : b + 22 ≤ cN') (ht : tys[0]? = some (cI, .int)) (e1 : h1 = ov h b (gl S0 cI b σ)) (e2 : h2 = ov h b (gl S0 cI b τ)) (hf : f_X3_hasBegun σ p1 = some (r, τ)) : XMet l G tys S0 cN' yX3_hasBegun cX3_hasBegun 5 (some .boolean) 2 46 [.ref (S0 + (b + 0)), .int p1] h1 cN' (some (.int r)) h2 0 0 := by
  subst e1; subst e2
  refine XMet.ofE (ST := SS) (HP := fun σ => ov h b (gl S0 cI b σ)) σ τ (by decide) (Nat.le_of_ble_eq_true rfl) ?_
  intro κ g1 g2 g3 g4 g5 g6 E X hQ
  subst g1; subst g2; subst g3; subst g4
  have Y : YS κ h b cI := ⟨fun σ => by rw [g5], fun σ => by rw [g6]; exact hb, ht⟩
  have X : XC κ cX3_hasBegun 5 RX3 (some .boolean) 2 46 := X
  show XG κ σ 0 [(0, .ref (κ.S0 + (b + 0))), (1, .int p1)] []
  unfold f_X3_hasBegun at hf
  refine x_aload_n X dX3_hasBegun_0 rfl 0 rfl ?_
  refine x_getf X fl_X3_12 (yS_0 Y) (yS_l Y 0 (by decide)) rfl dX3_hasBegun_1 ?_
  refine x_getf X fl_X3_144 (yS_1 Y) (yS_l Y 1 (by decide)) rfl dX3_hasBegun_4 ?_
  refine x_iload_n X dX3_hasBegun_7 rfl 1 rfl ?_
  refine x_iald X 0 (yS_ht Y) (yS_3 Y) (yS_l Y 3 (by decide)) dX3_hasBegun_8 hf (fun x8 hf => ?_)
  refine x_istore_n (lv' := [(2, .int x8), (0, .ref (κ.S0 + (b + 0))), (1, .int p1)]) X dX3_hasBegun_9 rfl (by decide) rfl ?_
  refine x_aload_n X dX3_hasBegun_10 rfl 1 rfl ?_
  refine x_getf X fl_X3_21 (yS_0 Y) (yS_l Y 0 (by decide)) rfl dX3_hasBegun_11 ?_
  refine x_getf X fl_X3_93 (yS_12 Y) (yS_l Y 12 (by decide)) rfl dX3_hasBegun_14 ?_
  refine x_iload_n X dX3_hasBegun_17 rfl 0 rfl ?_
  refine x_iald X 0 (yS_ht Y) (yS_13 Y) (yS_l Y 13 (by decide)) dX3_hasBegun_18 hf (fun x18 hf => ?_)
  refine x_iconst (v := 3) X dX3_hasBegun_19 (by decide) ?_
  refine x_icmp_ne (tgt := 34) X dX3_hasBegun_20 (by decide) hf (fun hf => ?_) (fun hf => ?_)
  · refine x_aload_n X dX3_hasBegun_34 rfl 1 rfl ?_
    refine x_getf X fl_X3_12 (yS_0 Y) (yS_l Y 0 (by decide)) rfl dX3_hasBegun_35 ?_
    refine x_iconst (v := 1) X dX3_hasBegun_38 (by decide) ?_
    refine x_callR (rest := []) X hf (fun r hr => x_cV (ci := 0) X cm_X0_liveIn lkV_X3_176 rfl ⟨Nat.le_of_ble_eq_true rfl, Nat.le_of_ble_eq_true rfl⟩ (yS_1 Y) (yS_l Y 1 (by decide)) (m_X0_liveIn (yS_hb Y σ) (yS_ht Y) (yS_hp Y _) (yS_hp Y _) hr) rfl rfl (Nat.le_of_ble_eq_true rfl) (x_room E _) dX3_hasBegun_39) (fun r39 hf => ?_)
    refine x_aload_n X dX3_hasBegun_42 rfl 1 rfl ?_
    refine x_getf X fl_X3_35 (yS_0 Y) (yS_l Y 0 (by decide)) rfl dX3_hasBegun_43 ?_
    refine x_icmp_lt (tgt := 51) X dX3_hasBegun_46 (by decide) hf (fun hf => ?_) (fun hf => ?_)
    · refine x_aload_n X dX3_hasBegun_51 rfl 1 rfl ?_
      refine x_getf X fl_X3_21 (yS_0 Y) (yS_l Y 0 (by decide)) rfl dX3_hasBegun_52 ?_
      refine x_getf X fl_X3_93 (yS_12 Y) (yS_l Y 12 (by decide)) rfl dX3_hasBegun_55 ?_
      refine x_iload_n X dX3_hasBegun_58 rfl 0 rfl ?_
      refine x_iald X 0 (yS_ht Y) (yS_13 Y) (yS_l Y 13 (by decide)) dX3_hasBegun_59 hf (fun x59 hf => ?_)
      refine x_iconst (v := 1) X dX3_hasBegun_60 (by decide) ?_
      refine x_join (fun k74 => ∀  (s_74 : SS), k74 s_74 = some (r, τ) → XG κ s_74 74 [(0, .ref (κ.S0 + (b + 0))), (1, .int p1), (2, .int x8)] []) hf (fun s_74 hf => ?_) (fun k74 J74 hf => ?_)
      · refine x_aload_n X dX3_hasBegun_74 rfl 0 rfl ?_
        refine x_getf X fl_X3_21 (yS_0 Y) (yS_l Y 0 (by decide)) rfl dX3_hasBegun_75 ?_
        refine x_iload_n X dX3_hasBegun_78 rfl 2 rfl ?_
        refine x_callW (rest := []) (w := fun t => t) X E.1 hf (fun r t hr => x_cV (ci := 4) X cm_X4_takePlace lkV_X3_182 rfl ⟨Nat.le_of_ble_eq_true rfl, Nat.le_of_ble_eq_true rfl⟩ (yS_12 Y) (yS_l Y 12 (by decide)) (m_X4_takePlace (yS_hb Y s_74) (yS_ht Y) (yS_hp Y _) (yS_hp Y _) hr) rfl rfl (Nat.le_of_ble_eq_true rfl) (x_room E _) dX3_hasBegun_79) (fun r79 s79 hf => ?_)
        refine x_istore_n (lv' := [(3, .int r79), (0, .ref (κ.S0 + (b + 0))), (1, .int p1), (2, .int x8)]) X dX3_hasBegun_82 rfl (by decide) rfl ?_
        refine x_aload_n X dX3_hasBegun_83 rfl 1 rfl ?_
        refine x_getf X fl_X3_42 (yS_0 Y) (yS_l Y 0 (by decide)) rfl dX3_hasBegun_84 ?_
        refine x_aload_n X dX3_hasBegun_87 rfl 1 rfl ?_
        refine x_getf X fl_X3_21 (yS_0 Y) (yS_l Y 0 (by decide)) rfl dX3_hasBegun_88 ?_
        refine x_getf X fl_X3_90 (yS_12 Y) (yS_l Y 12 (by decide)) rfl dX3_hasBegun_91 ?_
        refine x_iload_n X dX3_hasBegun_94 rfl 3 rfl ?_
        refine x_iald X 0 (yS_ht Y) (yS_15 Y) (yS_l Y 15 (by decide)) dX3_hasBegun_95 hf (fun x95 hf => ?_)
        refine x_iadd X dX3_hasBegun_96 ?_
        refine x_iload_n X dX3_hasBegun_97 rfl 0 rfl ?_
        refine x_iconst (v := 2) X dX3_hasBegun_98 (by decide) ?_
        refine x_irem X dX3_hasBegun_99 (by decide) ?_
        refine x_iadd X dX3_hasBegun_100 ?_
        refine x_istore (lv' := [(4, .int (((s79.2 10) + x95) + (r79 - r79 / 2 * 2))), (3, .int r79), (0, .ref (κ.S0 + (b + 0))), (1, .int p1), (2, .int x8)]) X dX3_hasBegun_101 (by decide) rfl ?_
        refine x_aload_n X dX3_hasBegun_103 rfl 2 rfl ?_
        refine x_getf X fl_X3_12 (yS_0 Y) (yS_l Y 0 (by decide)) rfl dX3_hasBegun_104 ?_
        refine x_iload_n X dX3_hasBegun_107 rfl 3 rfl ?_
        refine x_iload_n X dX3_hasBegun_108 rfl 1 rfl ?_
        refine x_iload X dX3_hasBegun_109 0 rfl ?_
        refine x_aload_n X dX3_hasBegun_111 rfl 2 rfl ?_
        refine x_getf X fl_X3_21 (yS_0 Y) (yS_l Y 0 (by decide)) rfl dX3_hasBegun_112 ?_
        refine x_getf X fl_X3_113 (yS_12 Y) (yS_l Y 12 (by decide)) rfl dX3_hasBegun_115 ?_
        refine x_iload_n X dX3_hasBegun_118 rfl 4 rfl ?_
        refine x_iald X 0 (yS_ht Y) (yS_17 Y) (yS_l Y 17 (by decide)) dX3_hasBegun_119 hf (fun x119 hf => ?_)
        refine x_callV (rest := []) (w := fun t => t) X E.1 hf (fun t hr => x_cV (ci := 0) X cm_X0_begin lkV_X3_185 rfl ⟨Nat.le_of_ble_eq_true rfl, Nat.le_of_ble_eq_true rfl⟩ (yS_1 Y) (yS_l Y 1 (by decide)) (m_X0_begin (yS_hb Y s79) (yS_ht Y) (yS_hp Y _) (yS_hp Y _) hr) rfl rfl (Nat.le_of_ble_eq_true rfl) (x_room E _) dX3_hasBegun_120) (fun s120 hf => ?_)
        refine x_iconst (v := 1) X dX3_hasBegun_123 (by decide) ?_
        exact x_zretW (σ0 := σ) X E hQ hf dX3_hasBegun_124
      · refine x_icmp_eq (tgt := 74) X dX3_hasBegun_61 (by decide) hf (fun hf => ?_) (fun hf => ?_)
        · refine x_sub [1, 2, 0] rfl ?_
          exact J74 σ hf
        · refine x_aload_n X dX3_hasBegun_64 rfl 1 rfl ?_
          refine x_iload_n X dX3_hasBegun_65 rfl 0 rfl ?_
          refine x_callW (rest := []) (w := fun t => t) X E.1 hf (fun r t hr => x_cV (ci := 3) X cm_X3_couldOpen lkV_X3_179 rfl ⟨Nat.le_of_ble_eq_true rfl, Nat.le_of_ble_eq_true rfl⟩ (yS_0 Y) (yS_l Y 0 (by decide)) (m_X3_couldOpen (yS_hb Y σ) (yS_ht Y) (yS_hp Y _) (yS_hp Y _) hr) rfl rfl (Nat.le_of_ble_eq_true rfl) (x_room E _) dX3_hasBegun_66) (fun r66 s66 hf => ?_)
          refine x_if_ne (tgt := 74) X dX3_hasBegun_69 (by decide) hf (fun hf => ?_) (fun hf => ?_)
          · refine x_sub [1, 2, 0] rfl ?_
            exact J74 s66 hf
          · refine x_iconst (v := 0) X dX3_hasBegun_72 (by decide) ?_
            exact x_zretW (σ0 := σ) X E hQ hf dX3_hasBegun_73
    · refine x_iconst (v := 0) X dX3_hasBegun_49 (by decide) ?_
      exact x_zretW (σ0 := σ) X E hQ hf dX3_hasBegun_50
  · refine x_aload_n X dX3_hasBegun_23 rfl 1 rfl ?_
    refine x_getf X fl_X3_12 (yS_0 Y) (yS_l Y 0 (by decide)) rfl dX3_hasBegun_24 ?_
    refine x_iload_n X dX3_hasBegun_27 rfl 2 rfl ?_
    refine x_iconst (v := 1) X dX3_hasBegun_28 (by decide) ?_
    refine x_callV (rest := []) (w := fun t => t) X E.1 hf (fun t hr => x_cV (ci := 0) X cm_X0_markFailed lkV_X3_172 rfl ⟨Nat.le_of_ble_eq_true rfl, Nat.le_of_ble_eq_true rfl⟩ (yS_1 Y) (yS_l Y 1 (by decide)) (m_X0_markFailed (yS_hb Y σ) (yS_ht Y) (yS_hp Y _) (yS_hp Y _) hr) rfl rfl (Nat.le_of_ble_eq_true rfl) (x_room E _) dX3_hasBegun_29) (fun s29 hf => ?_)
    refine x_iconst (v := 0) X dX3_hasBegun_32 (by decide) ?_
    exact x_zretW (σ0 := σ) X E hQ hf dX3_hasBegun_33
def f_X3_letOnePass_L13 (r5 : Int32) (kX13 : Int32 → SS → Option (SS)) : Nat → Int32 → Int32 → SS → Option (SS)
  | 0, _, _, _ => none
  | n + 1, v2_13, v3_13, s13 =>
    if r5 ≤ v3_13 then (kX13 v2_13 s13) else (oA 33 (s13.1 21) v3_13 (fun x24 => oW (f_X3_hasBegun s13 x24) (fun t => t) (fun r25 s25 => oJ (κ := Int32 → Option (SS)) (fun u2_51 => f_X3_letOnePass_L13 r5 kX13 n u2_51 (v3_13 + 1) s25) (fun k51 => if r25 = 0 then (k51 v2_13) else (if v2_13 = (-1) then (oA 33 (s25.1 21) v3_13 (fun x48 => oA 201 (s25.1 3) x48 (fun x49 => k51 x49))) else (k51 v2_13))))))
def f_X3_letOnePass (σ : SS)  : Option (SS) :=
  oV (f_X3_tellDue σ) (fun t => t) (fun s1 => oW (f_X3_putInOrder s1) (fun t => t) (fun r5 s5 => f_X3_letOnePass_L13 r5 (fun w2_57 sx57 => oJ (κ := SS → Option (SS)) (fun s_83 => oV (f_X0_dropEnded s_83) (fun t => t) (fun s87 => oN ((s87.2 10) + 1) (sN s87 10) (fun s97 => some s97))) (fun k83 => if (sx57.2 9) = 1 then (if w2_57 = (-1) then (k83 sx57) else (oN ((w2_57 + 1) - (w2_57 + 1) / 8 * 8) (sN sx57 6) (fun s80 => k83 s80))) else (k83 sx57))) FU (-1) 0 s5))
set_option maxRecDepth 100000 in
set_option maxHeartbeats 4000000 in
theorem m_X3_letOnePass {l : Launch} {G : va_G} {tys : List (ClassId × FieldType)} {S0 : Nat} {h h1 h2 : Nat → va_E} {b cN' : Nat} {cI : ClassId} {σ : SS} {τ : SS}  (hb : b + 22 ≤ cN') (ht : tys[0]? = some (cI, .int)) (e1 : h1 = ov h b (gl S0 cI b σ)) (e2 : h2 = ov h b (gl S0 cI b τ)) (hf : f_X3_letOnePass σ = some τ) : XMet l G tys S0 cN' yX3_letOnePass cX3_letOnePass 4 none 3 70 [.ref (S0 + (b + 0))] h1 cN' none h2 0 0 := by
  subst e1; subst e2
  refine XMet.ofE (ST := SS) (HP := fun σ => ov h b (gl S0 cI b σ)) σ τ (by decide) (Nat.le_of_ble_eq_true rfl) ?_
  intro κ g1 g2 g3 g4 g5 g6 E X hQ
  subst g1; subst g2; subst g3; subst g4
  have Y : YS κ h b cI := ⟨fun σ => by rw [g5], fun σ => by rw [g6]; exact hb, ht⟩
  have X : XC κ cX3_letOnePass 4 RX3 none 3 70 := X
  show XG κ σ 0 [(0, .ref (κ.S0 + (b + 0)))] []
  unfold f_X3_letOnePass at hf
  refine x_aload_n X dX3_letOnePass_0 rfl 0 rfl ?_
  refine x_callV (rest := []) (w := fun t => t) X E.1 hf (fun t hr => x_cV (ci := 3) X cm_X3_tellDue lkV_X3_135 rfl ⟨Nat.le_of_ble_eq_true rfl, Nat.le_of_ble_eq_true rfl⟩ (yS_0 Y) (yS_l Y 0 (by decide)) (m_X3_tellDue (yS_hb Y σ) (yS_ht Y) (yS_hp Y _) (yS_hp Y _) hr) rfl rfl (Nat.le_of_ble_eq_true rfl) (x_room E _) dX3_letOnePass_1) (fun s1 hf => ?_)
  refine x_aload_n X dX3_letOnePass_4 rfl 0 rfl ?_
  refine x_callW (rest := []) (w := fun t => t) X E.1 hf (fun r t hr => x_cV (ci := 3) X cm_X3_putInOrder lkV_X3_138 rfl ⟨Nat.le_of_ble_eq_true rfl, Nat.le_of_ble_eq_true rfl⟩ (yS_0 Y) (yS_l Y 0 (by decide)) (m_X3_putInOrder (yS_hb Y s1) (yS_ht Y) (yS_hp Y _) (yS_hp Y _) hr) rfl rfl (Nat.le_of_ble_eq_true rfl) (x_room E _) dX3_letOnePass_5) (fun r5 s5 hf => ?_)
  refine x_istore_n (lv' := [(1, .int r5), (0, .ref (κ.S0 + (b + 0)))]) X dX3_letOnePass_8 rfl (by decide) rfl ?_
  refine x_iconst (v := (-1)) X dX3_letOnePass_9 (by decide) ?_
  refine x_istore_n (lv' := [(2, .int (-1)), (1, .int r5), (0, .ref (κ.S0 + (b + 0)))]) X dX3_letOnePass_10 rfl (by decide) rfl ?_
  refine x_iconst (v := 0) X dX3_letOnePass_11 (by decide) ?_
  refine x_istore_n (lv' := [(3, .int 0), (2, .int (-1)), (1, .int r5), (0, .ref (κ.S0 + (b + 0)))]) X dX3_letOnePass_12 rfl (by decide) rfl ?_
  refine x_kont (b := fun kX13 => f_X3_letOnePass_L13 r5 kX13 FU (-1) 0 s5) (fun kX13 => ∀ (w2_57 : Int32) (sx57 : SS), kX13 w2_57 sx57 = some τ → XG κ sx57 57 [(0, .ref (κ.S0 + (b + 0))), (2, .int w2_57)] []) hf (fun w2_57 sx57 hf => ?_) (fun kX13 JX13 hf => ?_)
  · refine x_aload_n X dX3_letOnePass_57 rfl 0 rfl ?_
    refine x_getf X fl_X3_39 (yS_0 Y) (yS_l Y 0 (by decide)) rfl dX3_letOnePass_58 ?_
    refine x_iconst (v := 1) X dX3_letOnePass_61 (by decide) ?_
    refine x_join (fun k83 => ∀  (s_83 : SS), k83 s_83 = some τ → XG κ s_83 83 [(0, .ref (κ.S0 + (b + 0)))] []) hf (fun s_83 hf => ?_) (fun k83 J83 hf => ?_)
    · refine x_aload_n X dX3_letOnePass_83 rfl 0 rfl ?_
      refine x_getf X fl_X3_12 (yS_0 Y) (yS_l Y 0 (by decide)) rfl dX3_letOnePass_84 ?_
      refine x_callV (rest := []) (w := fun t => t) X E.1 hf (fun t hr => x_cV (ci := 0) X cm_X0_dropEnded lkV_X3_150 rfl ⟨Nat.le_of_ble_eq_true rfl, Nat.le_of_ble_eq_true rfl⟩ (yS_1 Y) (yS_l Y 1 (by decide)) (m_X0_dropEnded (yS_hb Y s_83) (yS_ht Y) (yS_hp Y _) (yS_hp Y _) hr) rfl rfl (Nat.le_of_ble_eq_true rfl) (x_room E _) dX3_letOnePass_87) (fun s87 hf => ?_)
      refine x_aload_n X dX3_letOnePass_90 rfl 0 rfl ?_
      refine x_dup X dX3_letOnePass_91 rfl ?_
      refine x_getf X fl_X3_42 (yS_0 Y) (yS_l Y 0 (by decide)) rfl dX3_letOnePass_92 ?_
      refine x_iconst (v := 1) X dX3_letOnePass_95 (by decide) ?_
      refine x_iadd X dX3_letOnePass_96 ?_
      refine x_putI (w := sN s87 10) X E.1 fp_X3_42 (yS_0 Y) (yS_l Y 0 (by decide)) (Nat.le_of_ble_eq_true rfl) (yS_p0_7 Y) dX3_letOnePass_97 hf (fun s97 hf => ?_)
      exact x_vretV (σ0 := σ) X E hQ hf dX3_letOnePass_100
    · refine x_icmp_ne (tgt := 83) X dX3_letOnePass_62 (by decide) hf (fun hf => ?_) (fun hf => ?_)
      · refine x_sub [0] rfl ?_
        exact J83 sx57 hf
      · refine x_iload_n X dX3_letOnePass_65 rfl 1 rfl ?_
        refine x_iconst (v := (-1)) X dX3_letOnePass_66 (by decide) ?_
        refine x_icmp_eq (tgt := 83) X dX3_letOnePass_67 (by decide) hf (fun hf => ?_) (fun hf => ?_)
        · refine x_sub [0] rfl ?_
          exact J83 sx57 hf
        · refine x_aload_n X dX3_letOnePass_70 rfl 0 rfl ?_
          refine x_getf X fl_X3_21 (yS_0 Y) (yS_l Y 0 (by decide)) rfl dX3_letOnePass_71 ?_
          refine x_iload_n X dX3_letOnePass_74 rfl 1 rfl ?_
          refine x_iconst (v := 1) X dX3_letOnePass_75 (by decide) ?_
          refine x_iadd X dX3_letOnePass_76 ?_
          refine x_bipush (v := 8) X dX3_letOnePass_77 (by decide) ?_
          refine x_irem X dX3_letOnePass_79 (by decide) ?_
          refine x_putI (w := sN sx57 6) X E.1 fp_X3_147 (yS_12 Y) (yS_l Y 12 (by decide)) (Nat.le_of_ble_eq_true rfl) (yS_p12_9 Y) dX3_letOnePass_80 hf (fun s80 hf => ?_)
          refine x_sub [0] rfl ?_
          exact J83 s80 hf
  · have LL : ∀ (n : Nat) (v2_13 : Int32) (v3_13 : Int32) (s13 : SS), f_X3_letOnePass_L13 r5 kX13 n v2_13 v3_13 s13 = some τ → XG κ s13 13 [(0, .ref (κ.S0 + (b + 0))), (1, .int r5), (2, .int v2_13), (3, .int v3_13)] [] := by
      intro n
      induction n with
      | zero => intro v2_13 v3_13 s13 hf; rw [f_X3_letOnePass_L13] at hf; cases hf
      | succ n ih13 =>
        intro v2_13 v3_13 s13 hf
        rw [f_X3_letOnePass_L13] at hf
        refine x_iload_n X dX3_letOnePass_13 rfl 3 rfl ?_
        refine x_iload_n X dX3_letOnePass_14 rfl 1 rfl ?_
        refine x_icmp_ge (tgt := 57) X dX3_letOnePass_15 (by decide) hf (fun hf => ?_) (fun hf => ?_)
        · refine x_sub [0, 2] rfl ?_
          exact JX13 v2_13 s13 hf
        · refine x_aload_n X dX3_letOnePass_18 rfl 0 rfl ?_
          refine x_aload_n X dX3_letOnePass_19 rfl 0 rfl ?_
          refine x_getf X fl_X3_32 (yS_0 Y) (yS_l Y 0 (by decide)) rfl dX3_letOnePass_20 ?_
          refine x_iload_n X dX3_letOnePass_23 rfl 3 rfl ?_
          refine x_iald X 0 (yS_ht Y) (yS_21 Y) (yS_l Y 21 (by decide)) dX3_letOnePass_24 hf (fun x24 hf => ?_)
          refine x_callW (rest := []) (w := fun t => t) X E.1 hf (fun r t hr => x_cV (ci := 3) X cm_X3_hasBegun lkV_X3_141 rfl ⟨Nat.le_of_ble_eq_true rfl, Nat.le_of_ble_eq_true rfl⟩ (yS_0 Y) (yS_l Y 0 (by decide)) (m_X3_hasBegun (yS_hb Y s13) (yS_ht Y) (yS_hp Y _) (yS_hp Y _) hr) rfl rfl (Nat.le_of_ble_eq_true rfl) (x_room E _) dX3_letOnePass_25) (fun r25 s25 hf => ?_)
          refine x_join (fun k51 => ∀ (u2_51 : Int32), k51 u2_51 = some τ → XG κ s25 51 [(0, .ref (κ.S0 + (b + 0))), (1, .int r5), (2, .int u2_51), (3, .int v3_13)] []) hf (fun u2_51 hf => ?_) (fun k51 J51 hf => ?_)
          · refine x_iinc (v := v3_13 + 1) (lv' := [(3, .int (v3_13 + 1)), (0, .ref (κ.S0 + (b + 0))), (1, .int r5), (2, .int u2_51)]) X dX3_letOnePass_51 3 rfl rfl (by decide) rfl ?_
            refine x_goto (tgt := 13) X dX3_letOnePass_54 (by decide) ?_
            refine x_sub [1, 2, 3, 0] rfl ?_
            exact ih13 u2_51 (v3_13 + 1) s25 hf
          · refine x_if_eq (tgt := 51) X dX3_letOnePass_28 (by decide) hf (fun hf => ?_) (fun hf => ?_)
            · exact J51 v2_13 hf
            · refine x_iload_n X dX3_letOnePass_31 rfl 2 rfl ?_
              refine x_iconst (v := (-1)) X dX3_letOnePass_32 (by decide) ?_
              refine x_icmp_ne (tgt := 51) X dX3_letOnePass_33 (by decide) hf (fun hf => ?_) (fun hf => ?_)
              · exact J51 v2_13 hf
              · refine x_aload_n X dX3_letOnePass_36 rfl 0 rfl ?_
                refine x_getf X fl_X3_12 (yS_0 Y) (yS_l Y 0 (by decide)) rfl dX3_letOnePass_37 ?_
                refine x_getf X fl_X3_144 (yS_1 Y) (yS_l Y 1 (by decide)) rfl dX3_letOnePass_40 ?_
                refine x_aload_n X dX3_letOnePass_43 rfl 0 rfl ?_
                refine x_getf X fl_X3_32 (yS_0 Y) (yS_l Y 0 (by decide)) rfl dX3_letOnePass_44 ?_
                refine x_iload_n X dX3_letOnePass_47 rfl 3 rfl ?_
                refine x_iald X 0 (yS_ht Y) (yS_21 Y) (yS_l Y 21 (by decide)) dX3_letOnePass_48 hf (fun x48 hf => ?_)
                refine x_iald X 0 (yS_ht Y) (yS_3 Y) (yS_l Y 3 (by decide)) dX3_letOnePass_49 hf (fun x49 hf => ?_)
                refine x_istore_n (lv' := [(2, .int x49), (0, .ref (κ.S0 + (b + 0))), (1, .int r5), (3, .int v3_13)]) X dX3_letOnePass_50 rfl (by decide) rfl ?_
                refine x_sub [1, 2, 0, 3] rfl ?_
                exact J51 x49 hf
    refine x_sub [3, 2, 1, 0] rfl ?_
    exact LL FU (-1) 0 s5 hf
def f_X3_letPass_L38 (p1 : Int32) (kX38 : SS → Option (Int32 × SS)) : Nat → Int32 → SS → Option (Int32 × SS)
  | 0, _, _ => none
  | n + 1, v3_38, s38 =>
    if p1 ≤ v3_38 then (kX38 s38) else (oV (f_X3_letOnePass s38) (fun t => t) (fun s44 => f_X3_letPass_L38 p1 kX38 n (v3_38 + 1) s44))
def f_X3_letPass (σ : SS) (p1 : Int32) : Option (Int32 × SS) :=
  oR (f_X5_isFrom p1 1 99) (fun r4 => if r4 = 0 then (some ((-2), σ)) else (if ((σ.2 10) + p1) ≤ 9999 then (f_X3_letPass_L38 p1 (fun sx53 => some (((sx53.2 1) - (σ.2 1)), sx53)) FU 0 σ) else (some ((-3), σ))))
set_option maxRecDepth 100000 in
set_option maxHeartbeats 4000000 in
theorem m_X3_letPass {l : Launch} {G : va_G} {tys : List (ClassId × FieldType)} {S0 : Nat} {h h1 h2 : Nat → va_E} {b cN' : Nat} {cI : ClassId} {σ : SS} {τ : SS} {p1 : Int32} {r : Int32} (hb : b + 22 ≤ cN') (ht : tys[0]? = some (cI, .int)) (e1 : h1 = ov h b (gl S0 cI b σ)) (e2 : h2 = ov h b (gl S0 cI b τ)) (hf : f_X3_letPass σ p1 = some (r, τ)) : XMet l G tys S0 cN' yX3_letPass cX3_letPass 4 (some .int) 4 93 [.ref (S0 + (b + 0)), .int p1] h1 cN' (some (.int r)) h2 0 0 := by
  subst e1; subst e2
  refine XMet.ofE (ST := SS) (HP := fun σ => ov h b (gl S0 cI b σ)) σ τ (by decide) (Nat.le_of_ble_eq_true rfl) ?_
  intro κ g1 g2 g3 g4 g5 g6 E X hQ
  subst g1; subst g2; subst g3; subst g4
  have Y : YS κ h b cI := ⟨fun σ => by rw [g5], fun σ => by rw [g6]; exact hb, ht⟩
  have X : XC κ cX3_letPass 4 RX3 (some .int) 4 93 := X
  show XG κ σ 0 [(0, .ref (κ.S0 + (b + 0))), (1, .int p1)] []
  unfold f_X3_letPass at hf
  refine x_iload_n X dX3_letPass_0 rfl 1 rfl ?_
  refine x_iconst (v := 1) X dX3_letPass_1 (by decide) ?_
  refine x_bipush (v := 99) X dX3_letPass_2 (by decide) ?_
  refine x_callR (rest := []) X hf (fun r hr => x_cSN X cm_X5_isFrom lkN_X3_72 ⟨Nat.le_of_ble_eq_true rfl, Nat.le_of_ble_eq_true rfl⟩ (m_X5_isFrom hr) rfl rfl (Nat.le_of_ble_eq_true rfl) (x_room E _) dX3_letPass_4) (fun r4 hf => ?_)
  refine x_if_ne (tgt := 13) X dX3_letPass_7 (by decide) hf (fun hf => ?_) (fun hf => ?_)
  · refine x_aload_n X dX3_letPass_13 rfl 0 rfl ?_
    refine x_getf X fl_X3_42 (yS_0 Y) (yS_l Y 0 (by decide)) rfl dX3_letPass_14 ?_
    refine x_iload_n X dX3_letPass_17 rfl 1 rfl ?_
    refine x_iadd X dX3_letPass_18 ?_
    refine x_sipush (v := 9999) X dX3_letPass_19 (by decide) ?_
    refine x_icmp_le (tgt := 28) X dX3_letPass_22 (by decide) hf (fun hf => ?_) (fun hf => ?_)
    · refine x_aload_n X dX3_letPass_28 rfl 0 rfl ?_
      refine x_getf X fl_X3_12 (yS_0 Y) (yS_l Y 0 (by decide)) rfl dX3_letPass_29 ?_
      refine x_getf X fl_X3_129 (yS_1 Y) (yS_l Y 1 (by decide)) rfl dX3_letPass_32 ?_
      refine x_istore_n (lv' := [(2, .int (σ.2 1)), (0, .ref (κ.S0 + (b + 0))), (1, .int p1)]) X dX3_letPass_35 rfl (by decide) rfl ?_
      refine x_iconst (v := 0) X dX3_letPass_36 (by decide) ?_
      refine x_istore_n (lv' := [(3, .int 0), (2, .int (σ.2 1)), (0, .ref (κ.S0 + (b + 0))), (1, .int p1)]) X dX3_letPass_37 rfl (by decide) rfl ?_
      refine x_kont (b := fun kX38 => f_X3_letPass_L38 p1 kX38 FU 0 σ) (fun kX38 => ∀  (sx53 : SS), kX38 sx53 = some (r, τ) → XG κ sx53 53 [(0, .ref (κ.S0 + (b + 0))), (2, .int (σ.2 1))] []) hf (fun sx53 hf => ?_) (fun kX38 JX38 hf => ?_)
      · refine x_aload_n X dX3_letPass_53 rfl 0 rfl ?_
        refine x_getf X fl_X3_12 (yS_0 Y) (yS_l Y 0 (by decide)) rfl dX3_letPass_54 ?_
        refine x_getf X fl_X3_129 (yS_1 Y) (yS_l Y 1 (by decide)) rfl dX3_letPass_57 ?_
        refine x_iload_n X dX3_letPass_60 rfl 1 rfl ?_
        refine x_isub X dX3_letPass_61 ?_
        exact x_iretW (σ0 := σ) X E hQ hf dX3_letPass_62
      · have LL : ∀ (n : Nat) (v3_38 : Int32) (s38 : SS), f_X3_letPass_L38 p1 kX38 n v3_38 s38 = some (r, τ) → XG κ s38 38 [(0, .ref (κ.S0 + (b + 0))), (1, .int p1), (2, .int (σ.2 1)), (3, .int v3_38)] [] := by
          intro n
          induction n with
          | zero => intro v3_38 s38 hf; rw [f_X3_letPass_L38] at hf; cases hf
          | succ n ih38 =>
            intro v3_38 s38 hf
            rw [f_X3_letPass_L38] at hf
            refine x_iload_n X dX3_letPass_38 rfl 3 rfl ?_
            refine x_iload_n X dX3_letPass_39 rfl 1 rfl ?_
            refine x_icmp_ge (tgt := 53) X dX3_letPass_40 (by decide) hf (fun hf => ?_) (fun hf => ?_)
            · refine x_sub [0, 2] rfl ?_
              exact JX38 s38 hf
            · refine x_aload_n X dX3_letPass_43 rfl 0 rfl ?_
              refine x_callV (rest := []) (w := fun t => t) X E.1 hf (fun t hr => x_cV (ci := 3) X cm_X3_letOnePass lkV_X3_132 rfl ⟨Nat.le_of_ble_eq_true rfl, Nat.le_of_ble_eq_true rfl⟩ (yS_0 Y) (yS_l Y 0 (by decide)) (m_X3_letOnePass (yS_hb Y s38) (yS_ht Y) (yS_hp Y _) (yS_hp Y _) hr) rfl rfl (Nat.le_of_ble_eq_true rfl) (x_room E _) dX3_letPass_44) (fun s44 hf => ?_)
              refine x_iinc (v := v3_38 + 1) (lv' := [(3, .int (v3_38 + 1)), (0, .ref (κ.S0 + (b + 0))), (1, .int p1), (2, .int (σ.2 1))]) X dX3_letPass_47 3 rfl rfl (by decide) rfl ?_
              refine x_goto (tgt := 38) X dX3_letPass_50 (by decide) ?_
              refine x_sub [1, 2, 3, 0] rfl ?_
              exact ih38 (v3_38 + 1) s44 hf
        refine x_sub [2, 3, 1, 0] rfl ?_
        exact LL FU 0 σ hf
    · refine x_bipush (v := (-3)) X dX3_letPass_25 (by decide) ?_
      exact x_iretW (σ0 := σ) X E hQ hf dX3_letPass_27
  · refine x_bipush (v := (-2)) X dX3_letPass_10 (by decide) ?_
    exact x_iretW (σ0 := σ) X E hQ hf dX3_letPass_12
def f_X0_holderOf_L3 (σ : SS) (p1 : Int32) (p2 : Int32) (p3 : Int32) (kX3 : Option (Int32)) : Nat → Int32 → Option (Int32)
  | 0, _ => none
  | n + 1, v4_3 =>
    if (σ.2 0) ≤ v4_3 then kX3 else (oA 201 (σ.1 3) v4_3 (fun x18 => oJ (κ := Option (Int32)) (f_X0_holderOf_L3 σ p1 p2 p3 kX3 n (v4_3 + 1)) (fun k70 => if x18 = p1 then (oA 201 (σ.1 9) v4_3 (fun x29 => if x29 = p2 then (oA 201 (σ.1 6) v4_3 (fun x40 => if x40 = p3 then (oA 201 (σ.1 5) v4_3 (fun x51 => if x51 = 2 then (some v4_3) else (oA 201 (σ.1 5) v4_3 (fun x62 => if x62 = 1 then (some v4_3) else k70)))) else k70)) else k70)) else k70)))
def f_X0_holderOf (σ : SS) (p1 : Int32) (p2 : Int32) (p3 : Int32) : Option (Int32) :=
  f_X0_holderOf_L3 σ p1 p2 p3 (some (-1)) FU 0
set_option maxRecDepth 100000 in
set_option maxHeartbeats 4000000 in
theorem m_X0_holderOf {l : Launch} {G : va_G} {tys : List (ClassId × FieldType)} {S0 : Nat} {h h1 h2 : Nat → va_E} {b cN' : Nat} {cI : ClassId} {σ : SS} {p1 : Int32} {p2 : Int32} {p3 : Int32} {r : Int32} (hb : b + 22 ≤ cN') (ht : tys[0]? = some (cI, .int)) (e1 : h1 = ov h b (gl S0 cI b σ)) (e2 : h2 = ov h b (gl S0 cI b σ)) (hf : f_X0_holderOf σ p1 p2 p3 = some r) : XMet l G tys S0 cN' yX0_holderOf cX0_holderOf 5 (some .int) 0 0 [.ref (S0 + (b + 1)), .int p1, .int p2, .int p3] h1 cN' (some (.int r)) h2 0 0 := by
  subst e1; subst e2
  refine XMet.ofE (ST := SS) (HP := fun σ => ov h b (gl S0 cI b σ)) σ σ (by decide) (Nat.le_of_ble_eq_true rfl) ?_
  intro κ g1 g2 g3 g4 g5 g6 E X hQ
  subst g1; subst g2; subst g3; subst g4
  have Y : YS κ h b cI := ⟨fun σ => by rw [g5], fun σ => by rw [g6]; exact hb, ht⟩
  have X : XC κ cX0_holderOf 5 RX0 (some .int) 0 0 := X
  show XG κ σ 0 [(0, .ref (κ.S0 + (b + 1))), (1, .int p1), (2, .int p2), (3, .int p3)] []
  unfold f_X0_holderOf at hf
  refine x_iconst (v := 0) X dX0_holderOf_0 (by decide) ?_
  refine x_istore (lv' := [(4, .int 0), (0, .ref (κ.S0 + (b + 1))), (1, .int p1), (2, .int p2), (3, .int p3)]) X dX0_holderOf_1 (by decide) rfl ?_
  refine x_kont (b := fun kX3 => f_X0_holderOf_L3 σ p1 p2 p3 kX3 FU 0) (fun kX3 => kX3 = some r → XG κ σ 76 [] []) hf (fun hf => ?_) (fun kX3 JX3 hf => ?_)
  · refine x_iconst (v := (-1)) X dX0_holderOf_76 (by decide) ?_
    exact x_iretR (σ0 := σ) X E hQ hf dX0_holderOf_77
  · have LL : ∀ (n : Nat) (v4_3 : Int32), f_X0_holderOf_L3 σ p1 p2 p3 kX3 n v4_3 = some r → XG κ σ 3 [(0, .ref (κ.S0 + (b + 1))), (1, .int p1), (2, .int p2), (3, .int p3), (4, .int v4_3)] [] := by
      intro n
      induction n with
      | zero => intro v4_3 hf; rw [f_X0_holderOf_L3] at hf; cases hf
      | succ n ih3 =>
        intro v4_3 hf
        rw [f_X0_holderOf_L3] at hf
        refine x_iload X dX0_holderOf_3 4 rfl ?_
        refine x_aload_n X dX0_holderOf_5 rfl 0 rfl ?_
        refine x_getf X fl_X0_36 (yS_1 Y) (yS_l Y 1 (by decide)) rfl dX0_holderOf_6 ?_
        refine x_icmp_ge (tgt := 76) X dX0_holderOf_9 (by decide) hf (fun hf => ?_) (fun hf => ?_)
        · refine x_sub [] rfl ?_
          exact JX3 hf
        · refine x_aload_n X dX0_holderOf_12 rfl 0 rfl ?_
          refine x_getf X fl_X0_15 (yS_1 Y) (yS_l Y 1 (by decide)) rfl dX0_holderOf_13 ?_
          refine x_iload X dX0_holderOf_16 4 rfl ?_
          refine x_iald X 0 (yS_ht Y) (yS_3 Y) (yS_l Y 3 (by decide)) dX0_holderOf_18 hf (fun x18 hf => ?_)
          refine x_iload_n X dX0_holderOf_19 rfl 1 rfl ?_
          refine x_join (fun k70 => k70 = some r → XG κ σ 70 [(0, .ref (κ.S0 + (b + 1))), (1, .int p1), (2, .int p2), (3, .int p3), (4, .int v4_3)] []) hf (fun hf => ?_) (fun k70 J70 hf => ?_)
          · refine x_iinc (v := v4_3 + 1) (lv' := [(4, .int (v4_3 + 1)), (0, .ref (κ.S0 + (b + 1))), (1, .int p1), (2, .int p2), (3, .int p3)]) X dX0_holderOf_70 4 rfl rfl (by decide) rfl ?_
            refine x_goto (tgt := 3) X dX0_holderOf_73 (by decide) ?_
            refine x_sub [1, 2, 3, 4, 0] rfl ?_
            exact ih3 (v4_3 + 1) hf
          · refine x_icmp_ne (tgt := 70) X dX0_holderOf_20 (by decide) hf (fun hf => ?_) (fun hf => ?_)
            · exact J70 hf
            · refine x_aload_n X dX0_holderOf_23 rfl 0 rfl ?_
              refine x_getf X fl_X0_33 (yS_1 Y) (yS_l Y 1 (by decide)) rfl dX0_holderOf_24 ?_
              refine x_iload X dX0_holderOf_27 4 rfl ?_
              refine x_iald X 0 (yS_ht Y) (yS_9 Y) (yS_l Y 9 (by decide)) dX0_holderOf_29 hf (fun x29 hf => ?_)
              refine x_iload_n X dX0_holderOf_30 rfl 2 rfl ?_
              refine x_icmp_ne (tgt := 70) X dX0_holderOf_31 (by decide) hf (fun hf => ?_) (fun hf => ?_)
              · exact J70 hf
              · refine x_aload_n X dX0_holderOf_34 rfl 0 rfl ?_
                refine x_getf X fl_X0_24 (yS_1 Y) (yS_l Y 1 (by decide)) rfl dX0_holderOf_35 ?_
                refine x_iload X dX0_holderOf_38 4 rfl ?_
                refine x_iald X 0 (yS_ht Y) (yS_6 Y) (yS_l Y 6 (by decide)) dX0_holderOf_40 hf (fun x40 hf => ?_)
                refine x_iload_n X dX0_holderOf_41 rfl 3 rfl ?_
                refine x_icmp_ne (tgt := 70) X dX0_holderOf_42 (by decide) hf (fun hf => ?_) (fun hf => ?_)
                · exact J70 hf
                · refine x_aload_n X dX0_holderOf_45 rfl 0 rfl ?_
                  refine x_getf X fl_X0_21 (yS_1 Y) (yS_l Y 1 (by decide)) rfl dX0_holderOf_46 ?_
                  refine x_iload X dX0_holderOf_49 4 rfl ?_
                  refine x_iald X 0 (yS_ht Y) (yS_5 Y) (yS_l Y 5 (by decide)) dX0_holderOf_51 hf (fun x51 hf => ?_)
                  refine x_iconst (v := 2) X dX0_holderOf_52 (by decide) ?_
                  refine x_icmp_eq (tgt := 67) X dX0_holderOf_53 (by decide) hf (fun hf => ?_) (fun hf => ?_)
                  · refine x_iload X dX0_holderOf_67 4 rfl ?_
                    exact x_iretR (σ0 := σ) X E hQ hf dX0_holderOf_69
                  · refine x_aload_n X dX0_holderOf_56 rfl 0 rfl ?_
                    refine x_getf X fl_X0_21 (yS_1 Y) (yS_l Y 1 (by decide)) rfl dX0_holderOf_57 ?_
                    refine x_iload X dX0_holderOf_60 4 rfl ?_
                    refine x_iald X 0 (yS_ht Y) (yS_5 Y) (yS_l Y 5 (by decide)) dX0_holderOf_62 hf (fun x62 hf => ?_)
                    refine x_iconst (v := 1) X dX0_holderOf_63 (by decide) ?_
                    refine x_icmp_ne (tgt := 70) X dX0_holderOf_64 (by decide) hf (fun hf => ?_) (fun hf => ?_)
                    · exact J70 hf
                    · refine x_iload X dX0_holderOf_67 4 rfl ?_
                      exact x_iretR (σ0 := σ) X E hQ hf dX0_holderOf_69
    refine x_sub [1, 2, 3, 4, 0] rfl ?_
    exact LL FU 0 hf
def f_X3_blockAt (σ : SS) (p1 : Int32) (p2 : Int32) : Option (Int32) :=
  oR (f_X5_isZone p1) (fun r1 => if r1 = 0 then (some (-1)) else (if 0 ≤ p2 then (oA 8 (σ.1 17) p1 (fun x29 => oR (f_X0_holderOf σ p1 x29 p2) (fun r31 => if r31 = (-1) then (some (-5)) else (oA 201 (σ.1 5) r31 (fun x51 => if x51 = 1 then (some (-4)) else (oA 201 (σ.1 4) r31 (fun x69 => some x69))))))) else (some (-2))))
set_option maxRecDepth 100000 in
set_option maxHeartbeats 4000000 in
theorem m_X3_blockAt {l : Launch} {G : va_G} {tys : List (ClassId × FieldType)} {S0 : Nat} {h h1 h2 : Nat → va_E} {b cN' : Nat} {cI : ClassId} {σ : SS} {p1 : Int32} {p2 : Int32} {r : Int32} (hb : b + 22 ≤ cN') (ht : tys[0]? = some (cI, .int)) (e1 : h1 = ov h b (gl S0 cI b σ)) (e2 : h2 = ov h b (gl S0 cI b σ)) (hf : f_X3_blockAt σ p1 p2 = some r) : XMet l G tys S0 cN' yX3_blockAt cX3_blockAt 4 (some .int) 1 24 [.ref (S0 + (b + 0)), .int p1, .int p2] h1 cN' (some (.int r)) h2 0 0 := by
  subst e1; subst e2
  refine XMet.ofE (ST := SS) (HP := fun σ => ov h b (gl S0 cI b σ)) σ σ (by decide) (Nat.le_of_ble_eq_true rfl) ?_
  intro κ g1 g2 g3 g4 g5 g6 E X hQ
  subst g1; subst g2; subst g3; subst g4
  have Y : YS κ h b cI := ⟨fun σ => by rw [g5], fun σ => by rw [g6]; exact hb, ht⟩
  have X : XC κ cX3_blockAt 4 RX3 (some .int) 1 24 := X
  show XG κ σ 0 [(0, .ref (κ.S0 + (b + 0))), (1, .int p1), (2, .int p2)] []
  unfold f_X3_blockAt at hf
  refine x_iload_n X dX3_blockAt_0 rfl 1 rfl ?_
  refine x_callR (rest := []) X hf (fun r hr => x_cSN X cm_X5_isZone lkN_X3_86 ⟨Nat.le_of_ble_eq_true rfl, Nat.le_of_ble_eq_true rfl⟩ (m_X5_isZone hr) rfl rfl (Nat.le_of_ble_eq_true rfl) (x_room E _) dX3_blockAt_1) (fun r1 hf => ?_)
  refine x_if_ne (tgt := 9) X dX3_blockAt_4 (by decide) hf (fun hf => ?_) (fun hf => ?_)
  · refine x_iload_n X dX3_blockAt_9 rfl 2 rfl ?_
    refine x_if_ge (tgt := 16) X dX3_blockAt_10 (by decide) hf (fun hf => ?_) (fun hf => ?_)
    · refine x_aload_n X dX3_blockAt_16 rfl 0 rfl ?_
      refine x_getf X fl_X3_12 (yS_0 Y) (yS_l Y 0 (by decide)) rfl dX3_blockAt_17 ?_
      refine x_iload_n X dX3_blockAt_20 rfl 1 rfl ?_
      refine x_aload_n X dX3_blockAt_21 rfl 0 rfl ?_
      refine x_getf X fl_X3_21 (yS_0 Y) (yS_l Y 0 (by decide)) rfl dX3_blockAt_22 ?_
      refine x_getf X fl_X3_113 (yS_12 Y) (yS_l Y 12 (by decide)) rfl dX3_blockAt_25 ?_
      refine x_iload_n X dX3_blockAt_28 rfl 1 rfl ?_
      refine x_iald X 0 (yS_ht Y) (yS_17 Y) (yS_l Y 17 (by decide)) dX3_blockAt_29 hf (fun x29 hf => ?_)
      refine x_iload_n X dX3_blockAt_30 rfl 2 rfl ?_
      refine x_callR (rest := []) X hf (fun r hr => x_cV (ci := 0) X cm_X0_holderOf lkV_X3_198 rfl ⟨Nat.le_of_ble_eq_true rfl, Nat.le_of_ble_eq_true rfl⟩ (yS_1 Y) (yS_l Y 1 (by decide)) (m_X0_holderOf (yS_hb Y σ) (yS_ht Y) (yS_hp Y _) (yS_hp Y _) hr) rfl rfl (Nat.le_of_ble_eq_true rfl) (x_room E _) dX3_blockAt_31) (fun r31 hf => ?_)
      refine x_istore_n (lv' := [(3, .int r31), (0, .ref (κ.S0 + (b + 0))), (1, .int p1), (2, .int p2)]) X dX3_blockAt_34 rfl (by decide) rfl ?_
      refine x_iload_n X dX3_blockAt_35 rfl 0 rfl ?_
      refine x_iconst (v := (-1)) X dX3_blockAt_36 (by decide) ?_
      refine x_icmp_ne (tgt := 43) X dX3_blockAt_37 (by decide) hf (fun hf => ?_) (fun hf => ?_)
      · refine x_aload_n X dX3_blockAt_43 rfl 1 rfl ?_
        refine x_getf X fl_X3_12 (yS_0 Y) (yS_l Y 0 (by decide)) rfl dX3_blockAt_44 ?_
        refine x_getf X fl_X3_159 (yS_1 Y) (yS_l Y 1 (by decide)) rfl dX3_blockAt_47 ?_
        refine x_iload_n X dX3_blockAt_50 rfl 0 rfl ?_
        refine x_iald X 0 (yS_ht Y) (yS_5 Y) (yS_l Y 5 (by decide)) dX3_blockAt_51 hf (fun x51 hf => ?_)
        refine x_iconst (v := 1) X dX3_blockAt_52 (by decide) ?_
        refine x_icmp_ne (tgt := 61) X dX3_blockAt_53 (by decide) hf (fun hf => ?_) (fun hf => ?_)
        · refine x_aload_n X dX3_blockAt_61 rfl 1 rfl ?_
          refine x_getf X fl_X3_12 (yS_0 Y) (yS_l Y 0 (by decide)) rfl dX3_blockAt_62 ?_
          refine x_getf X fl_X3_201 (yS_1 Y) (yS_l Y 1 (by decide)) rfl dX3_blockAt_65 ?_
          refine x_iload_n X dX3_blockAt_68 rfl 0 rfl ?_
          refine x_iald X 0 (yS_ht Y) (yS_4 Y) (yS_l Y 4 (by decide)) dX3_blockAt_69 hf (fun x69 hf => ?_)
          exact x_iretR (σ0 := σ) X E hQ hf dX3_blockAt_70
        · refine x_bipush (v := (-4)) X dX3_blockAt_56 (by decide) ?_
          refine x_goto (tgt := 70) X dX3_blockAt_58 (by decide) ?_
          exact x_iretR (σ0 := σ) X E hQ hf dX3_blockAt_70
      · refine x_bipush (v := (-5)) X dX3_blockAt_40 (by decide) ?_
        exact x_iretR (σ0 := σ) X E hQ hf dX3_blockAt_42
    · refine x_bipush (v := (-2)) X dX3_blockAt_13 (by decide) ?_
      exact x_iretR (σ0 := σ) X E hQ hf dX3_blockAt_15
  · refine x_iconst (v := (-1)) X dX3_blockAt_7 (by decide) ?_
    exact x_iretR (σ0 := σ) X E hQ hf dX3_blockAt_8
def f_X3_readableFromStart_L2 (σ : SS) (p1 : Int32) (kX2 : Int32 → Option (Int32)) : Nat → Int32 → Option (Int32)
  | 0, _ => none
  | n + 1, v2_2 =>
    oA 8 (σ.1 16) p1 (fun x11 => if x11 ≤ v2_2 then (kX2 v2_2) else (oR (f_X3_blockAt σ p1 v2_2) (fun r18 => if r18 < 0 then (kX2 v2_2) else (f_X3_readableFromStart_L2 σ p1 kX2 n (v2_2 + 1)))))
def f_X3_readableFromStart (σ : SS) (p1 : Int32) : Option (Int32) :=
  f_X3_readableFromStart_L2 σ p1 (fun w2_30 => some w2_30) FU 0
set_option maxRecDepth 100000 in
set_option maxHeartbeats 4000000 in
theorem m_X3_readableFromStart {l : Launch} {G : va_G} {tys : List (ClassId × FieldType)} {S0 : Nat} {h h1 h2 : Nat → va_E} {b cN' : Nat} {cI : ClassId} {σ : SS} {p1 : Int32} {r : Int32} (hb : b + 22 ≤ cN') (ht : tys[0]? = some (cI, .int)) (e1 : h1 = ov h b (gl S0 cI b σ)) (e2 : h2 = ov h b (gl S0 cI b σ)) (hf : f_X3_readableFromStart σ p1 = some r) : XMet l G tys S0 cN' yX3_readableFromStart cX3_readableFromStart 3 (some .int) 2 47 [.ref (S0 + (b + 0)), .int p1] h1 cN' (some (.int r)) h2 0 0 := by
  subst e1; subst e2
  refine XMet.ofE (ST := SS) (HP := fun σ => ov h b (gl S0 cI b σ)) σ σ (by decide) (Nat.le_of_ble_eq_true rfl) ?_
  intro κ g1 g2 g3 g4 g5 g6 E X hQ
  subst g1; subst g2; subst g3; subst g4
  have Y : YS κ h b cI := ⟨fun σ => by rw [g5], fun σ => by rw [g6]; exact hb, ht⟩
  have X : XC κ cX3_readableFromStart 3 RX3 (some .int) 2 47 := X
  show XG κ σ 0 [(0, .ref (κ.S0 + (b + 0))), (1, .int p1)] []
  unfold f_X3_readableFromStart at hf
  refine x_iconst (v := 0) X dX3_readableFromStart_0 (by decide) ?_
  refine x_istore_n (lv' := [(2, .int 0), (0, .ref (κ.S0 + (b + 0))), (1, .int p1)]) X dX3_readableFromStart_1 rfl (by decide) rfl ?_
  refine x_kont (b := fun kX2 => f_X3_readableFromStart_L2 σ p1 kX2 FU 0) (fun kX2 => ∀ (w2_30 : Int32), kX2 w2_30 = some r → XG κ σ 30 [(2, .int w2_30)] []) hf (fun w2_30 hf => ?_) (fun kX2 JX2 hf => ?_)
  · refine x_iload_n X dX3_readableFromStart_30 rfl 0 rfl ?_
    exact x_iretR (σ0 := σ) X E hQ hf dX3_readableFromStart_31
  · have LL : ∀ (n : Nat) (v2_2 : Int32), f_X3_readableFromStart_L2 σ p1 kX2 n v2_2 = some r → XG κ σ 2 [(0, .ref (κ.S0 + (b + 0))), (1, .int p1), (2, .int v2_2)] [] := by
      intro n
      induction n with
      | zero => intro v2_2 hf; rw [f_X3_readableFromStart_L2] at hf; cases hf
      | succ n ih2 =>
        intro v2_2 hf
        rw [f_X3_readableFromStart_L2] at hf
        refine x_iload_n X dX3_readableFromStart_2 rfl 2 rfl ?_
        refine x_aload_n X dX3_readableFromStart_3 rfl 0 rfl ?_
        refine x_getf X fl_X3_21 (yS_0 Y) (yS_l Y 0 (by decide)) rfl dX3_readableFromStart_4 ?_
        refine x_getf X fl_X3_204 (yS_12 Y) (yS_l Y 12 (by decide)) rfl dX3_readableFromStart_7 ?_
        refine x_iload_n X dX3_readableFromStart_10 rfl 1 rfl ?_
        refine x_iald X 0 (yS_ht Y) (yS_16 Y) (yS_l Y 16 (by decide)) dX3_readableFromStart_11 hf (fun x11 hf => ?_)
        refine x_icmp_ge (tgt := 30) X dX3_readableFromStart_12 (by decide) hf (fun hf => ?_) (fun hf => ?_)
        · refine x_sub [2] rfl ?_
          exact JX2 v2_2 hf
        · refine x_aload_n X dX3_readableFromStart_15 rfl 0 rfl ?_
          refine x_iload_n X dX3_readableFromStart_16 rfl 1 rfl ?_
          refine x_iload_n X dX3_readableFromStart_17 rfl 2 rfl ?_
          refine x_callR (rest := []) X hf (fun r hr => x_cV (ci := 3) X cm_X3_blockAt lkV_X3_210 rfl ⟨Nat.le_of_ble_eq_true rfl, Nat.le_of_ble_eq_true rfl⟩ (yS_0 Y) (yS_l Y 0 (by decide)) (m_X3_blockAt (yS_hb Y σ) (yS_ht Y) (yS_hp Y _) (yS_hp Y _) hr) rfl rfl (Nat.le_of_ble_eq_true rfl) (x_room E _) dX3_readableFromStart_18) (fun r18 hf => ?_)
          refine x_if_lt (tgt := 30) X dX3_readableFromStart_21 (by decide) hf (fun hf => ?_) (fun hf => ?_)
          · refine x_sub [2] rfl ?_
            exact JX2 v2_2 hf
          · refine x_iinc (v := v2_2 + 1) (lv' := [(2, .int (v2_2 + 1)), (0, .ref (κ.S0 + (b + 0))), (1, .int p1)]) X dX3_readableFromStart_24 2 rfl rfl (by decide) rfl ?_
            refine x_goto (tgt := 2) X dX3_readableFromStart_27 (by decide) ?_
            refine x_sub [1, 2, 0] rfl ?_
            exact ih2 (v2_2 + 1) hf
    refine x_sub [1, 2, 0] rfl ?_
    exact LL FU 0 hf
def f_X3_tellZone (σ : SS) (p1 : Int32) (p2 : Int32) : Option (Int32) :=
  oR (f_X5_isZone p1) (fun r1 => if r1 = 0 then (some (-1)) else (if p2 = 0 then (oA 8 (σ.1 13) p1 (fun x68 => some x68)) else (if p2 = 1 then (oA 8 (σ.1 14) p1 (fun x78 => some x78)) else (if p2 = 2 then (oA 8 (σ.1 15) p1 (fun x88 => some x88)) else (if p2 = 3 then (oA 8 (σ.1 16) p1 (fun x98 => some x98)) else (if p2 = 4 then (oA 8 (σ.1 17) p1 (fun x108 => some x108)) else (if p2 = 5 then (oA 8 (σ.1 17) p1 (fun x123 => oR (f_X0_toldInGeneration σ p1 x123) (fun r124 => some r124))) else (if p2 = 6 then (oR (f_X0_liveInZone σ p1 1) (fun r134 => some r134)) else (if p2 = 7 then (oR (f_X0_liveInZone σ p1 0) (fun r144 => some r144)) else (if p2 = 8 then (oR (f_X3_readableFromStart σ p1) (fun r150 => some r150)) else (some (-2))))))))))))
set_option maxRecDepth 100000 in
set_option maxHeartbeats 4000000 in
theorem m_X3_tellZone {l : Launch} {G : va_G} {tys : List (ClassId × FieldType)} {S0 : Nat} {h h1 h2 : Nat → va_E} {b cN' : Nat} {cI : ClassId} {σ : SS} {p1 : Int32} {p2 : Int32} {r : Int32} (hb : b + 22 ≤ cN') (ht : tys[0]? = some (cI, .int)) (e1 : h1 = ov h b (gl S0 cI b σ)) (e2 : h2 = ov h b (gl S0 cI b σ)) (hf : f_X3_tellZone σ p1 p2 = some r) : XMet l G tys S0 cN' yX3_tellZone cX3_tellZone 3 (some .int) 3 69 [.ref (S0 + (b + 0)), .int p1, .int p2] h1 cN' (some (.int r)) h2 0 0 := by
  subst e1; subst e2
  refine XMet.ofE (ST := SS) (HP := fun σ => ov h b (gl S0 cI b σ)) σ σ (by decide) (Nat.le_of_ble_eq_true rfl) ?_
  intro κ g1 g2 g3 g4 g5 g6 E X hQ
  subst g1; subst g2; subst g3; subst g4
  have Y : YS κ h b cI := ⟨fun σ => by rw [g5], fun σ => by rw [g6]; exact hb, ht⟩
  have X : XC κ cX3_tellZone 3 RX3 (some .int) 3 69 := X
  show XG κ σ 0 [(0, .ref (κ.S0 + (b + 0))), (1, .int p1), (2, .int p2)] []
  unfold f_X3_tellZone at hf
  refine x_iload_n X dX3_tellZone_0 rfl 1 rfl ?_
  refine x_callR (rest := []) X hf (fun r hr => x_cSN X cm_X5_isZone lkN_X3_86 ⟨Nat.le_of_ble_eq_true rfl, Nat.le_of_ble_eq_true rfl⟩ (m_X5_isZone hr) rfl rfl (Nat.le_of_ble_eq_true rfl) (x_room E _) dX3_tellZone_1) (fun r1 hf => ?_)
  refine x_if_ne (tgt := 9) X dX3_tellZone_4 (by decide) hf (fun hf => ?_) (fun hf => ?_)
  · refine x_iload_n X dX3_tellZone_9 rfl 2 rfl ?_
    refine x_if hf (fun c0 hf => ?_) (fun c0 hf => ?_)
    · refine x_tabIn (off := 50) (tgt := 60) X dX3_tellZone_10 (by rw [c0]; decide) (by rw [c0]; decide) (by rw [c0]; rfl) (by decide) ?_
      refine x_aload_n X dX3_tellZone_60 rfl 0 rfl ?_
      refine x_getf X fl_X3_21 (yS_0 Y) (yS_l Y 0 (by decide)) rfl dX3_tellZone_61 ?_
      refine x_getf X fl_X3_93 (yS_12 Y) (yS_l Y 12 (by decide)) rfl dX3_tellZone_64 ?_
      refine x_iload_n X dX3_tellZone_67 rfl 1 rfl ?_
      refine x_iald X 0 (yS_ht Y) (yS_13 Y) (yS_l Y 13 (by decide)) dX3_tellZone_68 hf (fun x68 hf => ?_)
      exact x_iretR (σ0 := σ) X E hQ hf dX3_tellZone_69
    · refine x_if hf (fun c1 hf => ?_) (fun c1 hf => ?_)
      · refine x_tabIn (off := 60) (tgt := 70) X dX3_tellZone_10 (by rw [c1]; decide) (by rw [c1]; decide) (by rw [c1]; rfl) (by decide) ?_
        refine x_aload_n X dX3_tellZone_70 rfl 0 rfl ?_
        refine x_getf X fl_X3_21 (yS_0 Y) (yS_l Y 0 (by decide)) rfl dX3_tellZone_71 ?_
        refine x_getf X fl_X3_96 (yS_12 Y) (yS_l Y 12 (by decide)) rfl dX3_tellZone_74 ?_
        refine x_iload_n X dX3_tellZone_77 rfl 1 rfl ?_
        refine x_iald X 0 (yS_ht Y) (yS_14 Y) (yS_l Y 14 (by decide)) dX3_tellZone_78 hf (fun x78 hf => ?_)
        exact x_iretR (σ0 := σ) X E hQ hf dX3_tellZone_79
      · refine x_if hf (fun c2 hf => ?_) (fun c2 hf => ?_)
        · refine x_tabIn (off := 70) (tgt := 80) X dX3_tellZone_10 (by rw [c2]; decide) (by rw [c2]; decide) (by rw [c2]; rfl) (by decide) ?_
          refine x_aload_n X dX3_tellZone_80 rfl 0 rfl ?_
          refine x_getf X fl_X3_21 (yS_0 Y) (yS_l Y 0 (by decide)) rfl dX3_tellZone_81 ?_
          refine x_getf X fl_X3_90 (yS_12 Y) (yS_l Y 12 (by decide)) rfl dX3_tellZone_84 ?_
          refine x_iload_n X dX3_tellZone_87 rfl 1 rfl ?_
          refine x_iald X 0 (yS_ht Y) (yS_15 Y) (yS_l Y 15 (by decide)) dX3_tellZone_88 hf (fun x88 hf => ?_)
          exact x_iretR (σ0 := σ) X E hQ hf dX3_tellZone_89
        · refine x_if hf (fun c3 hf => ?_) (fun c3 hf => ?_)
          · refine x_tabIn (off := 80) (tgt := 90) X dX3_tellZone_10 (by rw [c3]; decide) (by rw [c3]; decide) (by rw [c3]; rfl) (by decide) ?_
            refine x_aload_n X dX3_tellZone_90 rfl 0 rfl ?_
            refine x_getf X fl_X3_21 (yS_0 Y) (yS_l Y 0 (by decide)) rfl dX3_tellZone_91 ?_
            refine x_getf X fl_X3_204 (yS_12 Y) (yS_l Y 12 (by decide)) rfl dX3_tellZone_94 ?_
            refine x_iload_n X dX3_tellZone_97 rfl 1 rfl ?_
            refine x_iald X 0 (yS_ht Y) (yS_16 Y) (yS_l Y 16 (by decide)) dX3_tellZone_98 hf (fun x98 hf => ?_)
            exact x_iretR (σ0 := σ) X E hQ hf dX3_tellZone_99
          · refine x_if hf (fun c4 hf => ?_) (fun c4 hf => ?_)
            · refine x_tabIn (off := 90) (tgt := 100) X dX3_tellZone_10 (by rw [c4]; decide) (by rw [c4]; decide) (by rw [c4]; rfl) (by decide) ?_
              refine x_aload_n X dX3_tellZone_100 rfl 0 rfl ?_
              refine x_getf X fl_X3_21 (yS_0 Y) (yS_l Y 0 (by decide)) rfl dX3_tellZone_101 ?_
              refine x_getf X fl_X3_113 (yS_12 Y) (yS_l Y 12 (by decide)) rfl dX3_tellZone_104 ?_
              refine x_iload_n X dX3_tellZone_107 rfl 1 rfl ?_
              refine x_iald X 0 (yS_ht Y) (yS_17 Y) (yS_l Y 17 (by decide)) dX3_tellZone_108 hf (fun x108 hf => ?_)
              exact x_iretR (σ0 := σ) X E hQ hf dX3_tellZone_109
            · refine x_if hf (fun c5 hf => ?_) (fun c5 hf => ?_)
              · refine x_tabIn (off := 100) (tgt := 110) X dX3_tellZone_10 (by rw [c5]; decide) (by rw [c5]; decide) (by rw [c5]; rfl) (by decide) ?_
                refine x_aload_n X dX3_tellZone_110 rfl 0 rfl ?_
                refine x_getf X fl_X3_12 (yS_0 Y) (yS_l Y 0 (by decide)) rfl dX3_tellZone_111 ?_
                refine x_iload_n X dX3_tellZone_114 rfl 1 rfl ?_
                refine x_aload_n X dX3_tellZone_115 rfl 0 rfl ?_
                refine x_getf X fl_X3_21 (yS_0 Y) (yS_l Y 0 (by decide)) rfl dX3_tellZone_116 ?_
                refine x_getf X fl_X3_113 (yS_12 Y) (yS_l Y 12 (by decide)) rfl dX3_tellZone_119 ?_
                refine x_iload_n X dX3_tellZone_122 rfl 1 rfl ?_
                refine x_iald X 0 (yS_ht Y) (yS_17 Y) (yS_l Y 17 (by decide)) dX3_tellZone_123 hf (fun x123 hf => ?_)
                refine x_callR (rest := []) X hf (fun r hr => x_cV (ci := 0) X cm_X0_toldInGeneration lkV_X3_116 rfl ⟨Nat.le_of_ble_eq_true rfl, Nat.le_of_ble_eq_true rfl⟩ (yS_1 Y) (yS_l Y 1 (by decide)) (m_X0_toldInGeneration (yS_hb Y σ) (yS_ht Y) (yS_hp Y _) (yS_hp Y _) hr) rfl rfl (Nat.le_of_ble_eq_true rfl) (x_room E _) dX3_tellZone_124) (fun r124 hf => ?_)
                exact x_iretR (σ0 := σ) X E hQ hf dX3_tellZone_127
              · refine x_if hf (fun c6 hf => ?_) (fun c6 hf => ?_)
                · refine x_tabIn (off := 118) (tgt := 128) X dX3_tellZone_10 (by rw [c6]; decide) (by rw [c6]; decide) (by rw [c6]; rfl) (by decide) ?_
                  refine x_aload_n X dX3_tellZone_128 rfl 0 rfl ?_
                  refine x_getf X fl_X3_12 (yS_0 Y) (yS_l Y 0 (by decide)) rfl dX3_tellZone_129 ?_
                  refine x_iload_n X dX3_tellZone_132 rfl 1 rfl ?_
                  refine x_iconst (v := 1) X dX3_tellZone_133 (by decide) ?_
                  refine x_callR (rest := []) X hf (fun r hr => x_cV (ci := 0) X cm_X0_liveInZone lkV_X3_126 rfl ⟨Nat.le_of_ble_eq_true rfl, Nat.le_of_ble_eq_true rfl⟩ (yS_1 Y) (yS_l Y 1 (by decide)) (m_X0_liveInZone (yS_hb Y σ) (yS_ht Y) (yS_hp Y _) (yS_hp Y _) hr) rfl rfl (Nat.le_of_ble_eq_true rfl) (x_room E _) dX3_tellZone_134) (fun r134 hf => ?_)
                  exact x_iretR (σ0 := σ) X E hQ hf dX3_tellZone_137
                · refine x_if hf (fun c7 hf => ?_) (fun c7 hf => ?_)
                  · refine x_tabIn (off := 128) (tgt := 138) X dX3_tellZone_10 (by rw [c7]; decide) (by rw [c7]; decide) (by rw [c7]; rfl) (by decide) ?_
                    refine x_aload_n X dX3_tellZone_138 rfl 0 rfl ?_
                    refine x_getf X fl_X3_12 (yS_0 Y) (yS_l Y 0 (by decide)) rfl dX3_tellZone_139 ?_
                    refine x_iload_n X dX3_tellZone_142 rfl 1 rfl ?_
                    refine x_iconst (v := 0) X dX3_tellZone_143 (by decide) ?_
                    refine x_callR (rest := []) X hf (fun r hr => x_cV (ci := 0) X cm_X0_liveInZone lkV_X3_126 rfl ⟨Nat.le_of_ble_eq_true rfl, Nat.le_of_ble_eq_true rfl⟩ (yS_1 Y) (yS_l Y 1 (by decide)) (m_X0_liveInZone (yS_hb Y σ) (yS_ht Y) (yS_hp Y _) (yS_hp Y _) hr) rfl rfl (Nat.le_of_ble_eq_true rfl) (x_room E _) dX3_tellZone_144) (fun r144 hf => ?_)
                    exact x_iretR (σ0 := σ) X E hQ hf dX3_tellZone_147
                  · refine x_if hf (fun c8 hf => ?_) (fun c8 hf => ?_)
                    · refine x_tabIn (off := 138) (tgt := 148) X dX3_tellZone_10 (by rw [c8]; decide) (by rw [c8]; decide) (by rw [c8]; rfl) (by decide) ?_
                      refine x_aload_n X dX3_tellZone_148 rfl 0 rfl ?_
                      refine x_iload_n X dX3_tellZone_149 rfl 1 rfl ?_
                      refine x_callR (rest := []) X hf (fun r hr => x_cV (ci := 3) X cm_X3_readableFromStart lkV_X3_207 rfl ⟨Nat.le_of_ble_eq_true rfl, Nat.le_of_ble_eq_true rfl⟩ (yS_0 Y) (yS_l Y 0 (by decide)) (m_X3_readableFromStart (yS_hb Y σ) (yS_ht Y) (yS_hp Y _) (yS_hp Y _) hr) rfl rfl (Nat.le_of_ble_eq_true rfl) (x_room E _) dX3_tellZone_150) (fun r150 hf => ?_)
                      exact x_iretR (σ0 := σ) X E hQ hf dX3_tellZone_153
                    · refine x_tabOut (tgt := 154) X dX3_tellZone_10 (by have h0 := lv_neT c0 (a := 0) rfl; have h1 := lv_neT c1 (a := 1) rfl; have h2 := lv_neT c2 (a := 2) rfl; have h3 := lv_neT c3 (a := 3) rfl; have h4 := lv_neT c4 (a := 4) rfl; have h5 := lv_neT c5 (a := 5) rfl; have h6 := lv_neT c6 (a := 6) rfl; have h7 := lv_neT c7 (a := 7) rfl; have h8 := lv_neT c8 (a := 8) rfl; omega) (by decide) ?_
                      refine x_bipush (v := (-2)) X dX3_tellZone_154 (by decide) ?_
                      exact x_iretR (σ0 := σ) X E hQ hf dX3_tellZone_156
  · refine x_iconst (v := (-1)) X dX3_tellZone_7 (by decide) ?_
    exact x_iretR (σ0 := σ) X E hQ hf dX3_tellZone_8
