def f_X6_type (σ : MS) (p1 : Int32) : Option (Int32 × MS) :=
  if (σ.2 2) = 60 then (some ((-3), σ)) else (oS 60 (σ.1 5) (σ.2 2) p1 (sA σ 5) (fun s21 => oN ((s21.2 2) + 1) (sN s21 2) (fun s29 => some ((s29.2 2), s29))))
set_option maxRecDepth 100000 in
set_option maxHeartbeats 4000000 in
theorem m_X6_type {l : Launch} {G : va_G} {tys : List (ClassId × FieldType)} {S0 : Nat} {h h1 h2 : Nat → va_E} {b cN' : Nat} {cI cZ : ClassId} {σ : MS} {τ : MS} {p1 : Int32} {r : Int32} (hb : b + 8 ≤ cN') (ht : tys[0]? = some (cI, .int)) (htz : tys[2]? = some (cZ, .boolean)) (e1 : h1 = ov h b (ml S0 cI cZ b σ)) (e2 : h2 = ov h b (ml S0 cI cZ b τ)) (hf : f_X6_type σ p1 = some (r, τ)) : XMet l G tys S0 cN' yX6_type cX6_type 2 (some .int) 0 0 [.ref (S0 + (b + 0)), .int p1] h1 cN' (some (.int r)) h2 0 0 := by
  subst e1; subst e2
  refine XMet.ofE (ST := MS) (HP := fun σ => ov h b (ml S0 cI cZ b σ)) σ τ (by decide) (Nat.le_of_ble_eq_true rfl) ?_
  intro κ g1 g2 g3 g4 g5 g6 E X hQ
  subst g1; subst g2; subst g3; subst g4
  have Y : YM κ h b cI cZ := ⟨fun σ => by rw [g5], fun σ => by rw [g6]; exact hb, ht, htz⟩
  have X : XC κ cX6_type 2 RX6 (some .int) 0 0 := X
  show XG κ σ 0 [(0, .ref (κ.S0 + (b + 0))), (1, .int p1)] []
  unfold f_X6_type at hf
  refine x_aload_n X dX6_type_0 rfl 0 rfl ?_
  refine x_getf X fl_X6_136 (yM_0 Y) (yM_l Y 0 (by decide)) rfl dX6_type_1 ?_
  refine x_bipush (v := 60) X dX6_type_4 (by decide) ?_
  refine x_icmp_ne (tgt := 12) X dX6_type_6 (by decide) hf (fun hf => ?_) (fun hf => ?_)
  · refine x_aload_n X dX6_type_12 rfl 0 rfl ?_
    refine x_getf X fl_X6_22 (yM_0 Y) (yM_l Y 0 (by decide)) rfl dX6_type_13 ?_
    refine x_aload_n X dX6_type_16 rfl 0 rfl ?_
    refine x_getf X fl_X6_136 (yM_0 Y) (yM_l Y 0 (by decide)) rfl dX6_type_17 ?_
    refine x_iload_n X dX6_type_20 rfl 1 rfl ?_
    refine x_iast (w := sA σ 5) X E.1 0 (yM_ht Y) (yM_5 Y) (yM_l Y 5 (by decide)) (yM_s5 Y) dX6_type_21 hf (fun s21 hf => ?_)
    refine x_aload_n X dX6_type_22 rfl 0 rfl ?_
    refine x_dup X dX6_type_23 rfl ?_
    refine x_getf X fl_X6_136 (yM_0 Y) (yM_l Y 0 (by decide)) rfl dX6_type_24 ?_
    refine x_iconst (v := 1) X dX6_type_27 (by decide) ?_
    refine x_iadd X dX6_type_28 ?_
    refine x_putI (w := sN s21 2) X E.1 fp_X6_136 (yM_0 Y) (yM_l Y 0 (by decide)) (Nat.le_of_ble_eq_true rfl) (yM_p0_7 Y) dX6_type_29 hf (fun s29 hf => ?_)
    refine x_aload_n X dX6_type_32 rfl 0 rfl ?_
    refine x_getf X fl_X6_136 (yM_0 Y) (yM_l Y 0 (by decide)) rfl dX6_type_33 ?_
    exact x_iretW (σ0 := σ) X E hQ hf dX6_type_36
  · refine x_bipush (v := (-3)) X dX6_type_9 (by decide) ?_
    exact x_iretW (σ0 := σ) X E hQ hf dX6_type_11
def f_X6_clearText (σ : MS)  : Option (Int32 × MS) :=
  oN 0 (sN σ 2) (fun s7 => some ((σ.2 2), s7))
set_option maxRecDepth 100000 in
set_option maxHeartbeats 4000000 in
theorem m_X6_clearText {l : Launch} {G : va_G} {tys : List (ClassId × FieldType)} {S0 : Nat} {h h1 h2 : Nat → va_E} {b cN' : Nat} {cI cZ : ClassId} {σ : MS} {τ : MS}  {r : Int32} (hb : b + 8 ≤ cN') (ht : tys[0]? = some (cI, .int)) (htz : tys[2]? = some (cZ, .boolean)) (e1 : h1 = ov h b (ml S0 cI cZ b σ)) (e2 : h2 = ov h b (ml S0 cI cZ b τ)) (hf : f_X6_clearText σ = some (r, τ)) : XMet l G tys S0 cN' yX6_clearText cX6_clearText 2 (some .int) 0 0 [.ref (S0 + (b + 0))] h1 cN' (some (.int r)) h2 0 0 := by
  subst e1; subst e2
  refine XMet.ofE (ST := MS) (HP := fun σ => ov h b (ml S0 cI cZ b σ)) σ τ (by decide) (Nat.le_of_ble_eq_true rfl) ?_
  intro κ g1 g2 g3 g4 g5 g6 E X hQ
  subst g1; subst g2; subst g3; subst g4
  have Y : YM κ h b cI cZ := ⟨fun σ => by rw [g5], fun σ => by rw [g6]; exact hb, ht, htz⟩
  have X : XC κ cX6_clearText 2 RX6 (some .int) 0 0 := X
  show XG κ σ 0 [(0, .ref (κ.S0 + (b + 0)))] []
  unfold f_X6_clearText at hf
  refine x_aload_n X dX6_clearText_0 rfl 0 rfl ?_
  refine x_getf X fl_X6_136 (yM_0 Y) (yM_l Y 0 (by decide)) rfl dX6_clearText_1 ?_
  refine x_istore_n (lv' := [(1, .int (σ.2 2)), (0, .ref (κ.S0 + (b + 0)))]) X dX6_clearText_4 rfl (by decide) rfl ?_
  refine x_aload_n X dX6_clearText_5 rfl 1 rfl ?_
  refine x_iconst (v := 0) X dX6_clearText_6 (by decide) ?_
  refine x_putI (w := sN σ 2) X E.1 fp_X6_136 (yM_0 Y) (yM_l Y 0 (by decide)) (Nat.le_of_ble_eq_true rfl) (yM_p0_7 Y) dX6_clearText_7 hf (fun s7 hf => ?_)
  refine x_iload_n X dX6_clearText_10 rfl 0 rfl ?_
  exact x_iretW (σ0 := σ) X E hQ hf dX6_clearText_11
def f_X6_undo_L22  (kX22 : MS → Option (Int32 × MS)) : Nat → Int32 → MS → Option (Int32 × MS)
  | 0, _, _ => none
  | n + 1, v1_22, s22 =>
    if 2204 ≤ v1_22 then (kX22 s22) else (oA 8816 (s22.1 3) ((2204 * (s22.2 0)) + v1_22) (fun x48 => oS 2204 (s22.1 1) v1_22 x48 (sA s22 1) (fun s49 => f_X6_undo_L22 kX22 n (v1_22 + 1) s49)))
def f_X6_undo (σ : MS)  : Option (Int32 × MS) :=
  if (σ.2 0) = 0 then (some ((-5), σ)) else (oN ((σ.2 0) - 1) (sN σ 0) (fun s17 => f_X6_undo_L22 (fun sx56 => some ((sx56.2 0), sx56)) FU 0 s17))
set_option maxRecDepth 100000 in
set_option maxHeartbeats 4000000 in
theorem m_X6_undo {l : Launch} {G : va_G} {tys : List (ClassId × FieldType)} {S0 : Nat} {h h1 h2 : Nat → va_E} {b cN' : Nat} {cI cZ : ClassId} {σ : MS} {τ : MS}  {r : Int32} (hb : b + 8 ≤ cN') (ht : tys[0]? = some (cI, .int)) (htz : tys[2]? = some (cZ, .boolean)) (e1 : h1 = ov h b (ml S0 cI cZ b σ)) (e2 : h2 = ov h b (ml S0 cI cZ b τ)) (hf : f_X6_undo σ = some (r, τ)) : XMet l G tys S0 cN' yX6_undo cX6_undo 2 (some .int) 0 0 [.ref (S0 + (b + 0))] h1 cN' (some (.int r)) h2 0 0 := by
  subst e1; subst e2
  refine XMet.ofE (ST := MS) (HP := fun σ => ov h b (ml S0 cI cZ b σ)) σ τ (by decide) (Nat.le_of_ble_eq_true rfl) ?_
  intro κ g1 g2 g3 g4 g5 g6 E X hQ
  subst g1; subst g2; subst g3; subst g4
  have Y : YM κ h b cI cZ := ⟨fun σ => by rw [g5], fun σ => by rw [g6]; exact hb, ht, htz⟩
  have X : XC κ cX6_undo 2 RX6 (some .int) 0 0 := X
  show XG κ σ 0 [(0, .ref (κ.S0 + (b + 0)))] []
  unfold f_X6_undo at hf
  refine x_aload_n X dX6_undo_0 rfl 0 rfl ?_
  refine x_getf X fl_X6_47 (yM_0 Y) (yM_l Y 0 (by decide)) rfl dX6_undo_1 ?_
  refine x_if_ne (tgt := 10) X dX6_undo_4 (by decide) hf (fun hf => ?_) (fun hf => ?_)
  · refine x_aload_n X dX6_undo_10 rfl 0 rfl ?_
    refine x_dup X dX6_undo_11 rfl ?_
    refine x_getf X fl_X6_47 (yM_0 Y) (yM_l Y 0 (by decide)) rfl dX6_undo_12 ?_
    refine x_iconst (v := 1) X dX6_undo_15 (by decide) ?_
    refine x_isub X dX6_undo_16 ?_
    refine x_putI (w := sN σ 0) X E.1 fp_X6_47 (yM_0 Y) (yM_l Y 0 (by decide)) (Nat.le_of_ble_eq_true rfl) (yM_p0_3 Y) dX6_undo_17 hf (fun s17 hf => ?_)
    refine x_iconst (v := 0) X dX6_undo_20 (by decide) ?_
    refine x_istore_n (lv' := [(1, .int 0), (0, .ref (κ.S0 + (b + 0)))]) X dX6_undo_21 rfl (by decide) rfl ?_
    refine x_kont (b := fun kX22 => f_X6_undo_L22 kX22 FU 0 s17) (fun kX22 => ∀  (sx56 : MS), kX22 sx56 = some (r, τ) → XG κ sx56 56 [(0, .ref (κ.S0 + (b + 0)))] []) hf (fun sx56 hf => ?_) (fun kX22 JX22 hf => ?_)
    · refine x_aload_n X dX6_undo_56 rfl 0 rfl ?_
      refine x_getf X fl_X6_47 (yM_0 Y) (yM_l Y 0 (by decide)) rfl dX6_undo_57 ?_
      exact x_iretW (σ0 := σ) X E hQ hf dX6_undo_60
    · have LL : ∀ (n : Nat) (v1_22 : Int32) (s22 : MS), f_X6_undo_L22 kX22 n v1_22 s22 = some (r, τ) → XG κ s22 22 [(0, .ref (κ.S0 + (b + 0))), (1, .int v1_22)] [] := by
        intro n
        induction n with
        | zero => intro v1_22 s22 hf; rw [f_X6_undo_L22] at hf; cases hf
        | succ n ih22 =>
          intro v1_22 s22 hf
          rw [f_X6_undo_L22] at hf
          refine x_iload_n X dX6_undo_22 rfl 1 rfl ?_
          refine x_sipush (v := 2204) X dX6_undo_23 (by decide) ?_
          refine x_icmp_ge (tgt := 56) X dX6_undo_26 (by decide) hf (fun hf => ?_) (fun hf => ?_)
          · refine x_sub [0] rfl ?_
            exact JX22 s22 hf
          · refine x_aload_n X dX6_undo_29 rfl 0 rfl ?_
            refine x_getf X fl_X6_7 (yM_0 Y) (yM_l Y 0 (by decide)) rfl dX6_undo_30 ?_
            refine x_iload_n X dX6_undo_33 rfl 1 rfl ?_
            refine x_aload_n X dX6_undo_34 rfl 0 rfl ?_
            refine x_getf X fl_X6_16 (yM_0 Y) (yM_l Y 0 (by decide)) rfl dX6_undo_35 ?_
            refine x_sipush (v := 2204) X dX6_undo_38 (by decide) ?_
            refine x_aload_n X dX6_undo_41 rfl 0 rfl ?_
            refine x_getf X fl_X6_47 (yM_0 Y) (yM_l Y 0 (by decide)) rfl dX6_undo_42 ?_
            refine x_imul X dX6_undo_45 ?_
            refine x_iload_n X dX6_undo_46 rfl 1 rfl ?_
            refine x_iadd X dX6_undo_47 ?_
            refine x_iald X 0 (yM_ht Y) (yM_3 Y) (yM_l Y 3 (by decide)) dX6_undo_48 hf (fun x48 hf => ?_)
            refine x_iast (w := sA s22 1) X E.1 0 (yM_ht Y) (yM_1 Y) (yM_l Y 1 (by decide)) (yM_s1 Y) dX6_undo_49 hf (fun s49 hf => ?_)
            refine x_iinc (v := v1_22 + 1) (lv' := [(1, .int (v1_22 + 1)), (0, .ref (κ.S0 + (b + 0)))]) X dX6_undo_50 1 rfl rfl (by decide) rfl ?_
            refine x_goto (tgt := 22) X dX6_undo_53 (by decide) ?_
            refine x_sub [1, 0] rfl ?_
            exact ih22 (v1_22 + 1) s49 hf
      refine x_sub [1, 0] rfl ?_
      exact LL FU 0 s17 hf
  · refine x_bipush (v := (-5)) X dX6_undo_7 (by decide) ?_
    exact x_iretW (σ0 := σ) X E hQ hf dX6_undo_9
def f_X6_keep_L2  (kX2 : MS → Option (Int32 × MS)) : Nat → Int32 → MS → Option (Int32 × MS)
  | 0, _, _ => none
  | n + 1, v1_2, s2 =>
    if 2204 ≤ v1_2 then (kX2 s2) else (oA 2204 (s2.1 1) v1_2 (fun x19 => oS 2204 (s2.1 4) v1_2 x19 (sA s2 4) (fun s20 => f_X6_keep_L2 kX2 n (v1_2 + 1) s20)))
def f_X6_keep (σ : MS)  : Option (Int32 × MS) :=
  f_X6_keep_L2 (fun sx27 => oZ 1 (sN sx27 1) (fun s29 => oA 2204 (s29.1 1) 0 (fun x37 => some (x37, s29)))) FU 0 σ
set_option maxRecDepth 100000 in
set_option maxHeartbeats 4000000 in
theorem m_X6_keep {l : Launch} {G : va_G} {tys : List (ClassId × FieldType)} {S0 : Nat} {h h1 h2 : Nat → va_E} {b cN' : Nat} {cI cZ : ClassId} {σ : MS} {τ : MS}  {r : Int32} (hb : b + 8 ≤ cN') (ht : tys[0]? = some (cI, .int)) (htz : tys[2]? = some (cZ, .boolean)) (e1 : h1 = ov h b (ml S0 cI cZ b σ)) (e2 : h2 = ov h b (ml S0 cI cZ b τ)) (hf : f_X6_keep σ = some (r, τ)) : XMet l G tys S0 cN' yX6_keep cX6_keep 2 (some .int) 0 0 [.ref (S0 + (b + 0))] h1 cN' (some (.int r)) h2 0 0 := by
  subst e1; subst e2
  refine XMet.ofE (ST := MS) (HP := fun σ => ov h b (ml S0 cI cZ b σ)) σ τ (by decide) (Nat.le_of_ble_eq_true rfl) ?_
  intro κ g1 g2 g3 g4 g5 g6 E X hQ
  subst g1; subst g2; subst g3; subst g4
  have Y : YM κ h b cI cZ := ⟨fun σ => by rw [g5], fun σ => by rw [g6]; exact hb, ht, htz⟩
  have X : XC κ cX6_keep 2 RX6 (some .int) 0 0 := X
  show XG κ σ 0 [(0, .ref (κ.S0 + (b + 0)))] []
  unfold f_X6_keep at hf
  refine x_iconst (v := 0) X dX6_keep_0 (by decide) ?_
  refine x_istore_n (lv' := [(1, .int 0), (0, .ref (κ.S0 + (b + 0)))]) X dX6_keep_1 rfl (by decide) rfl ?_
  refine x_kont (b := fun kX2 => f_X6_keep_L2 kX2 FU 0 σ) (fun kX2 => ∀  (sx27 : MS), kX2 sx27 = some (r, τ) → XG κ sx27 27 [(0, .ref (κ.S0 + (b + 0)))] []) hf (fun sx27 hf => ?_) (fun kX2 JX2 hf => ?_)
  · refine x_aload_n X dX6_keep_27 rfl 0 rfl ?_
    refine x_iconst (v := 1) X dX6_keep_28 (by decide) ?_
    refine x_putZ (w := sN sx27 1) X E.1 fp_X6_163 (yM_0 Y) (yM_l Y 0 (by decide)) (Nat.le_of_ble_eq_true rfl) (yM_p0_5 Y) dX6_keep_29 hf (fun s29 hf => ?_)
    refine x_aload_n X dX6_keep_32 rfl 0 rfl ?_
    refine x_getf X fl_X6_7 (yM_0 Y) (yM_l Y 0 (by decide)) rfl dX6_keep_33 ?_
    refine x_iconst (v := 0) X dX6_keep_36 (by decide) ?_
    refine x_iald X 0 (yM_ht Y) (yM_1 Y) (yM_l Y 1 (by decide)) dX6_keep_37 hf (fun x37 hf => ?_)
    exact x_iretW (σ0 := σ) X E hQ hf dX6_keep_38
  · have LL : ∀ (n : Nat) (v1_2 : Int32) (s2 : MS), f_X6_keep_L2 kX2 n v1_2 s2 = some (r, τ) → XG κ s2 2 [(0, .ref (κ.S0 + (b + 0))), (1, .int v1_2)] [] := by
      intro n
      induction n with
      | zero => intro v1_2 s2 hf; rw [f_X6_keep_L2] at hf; cases hf
      | succ n ih2 =>
        intro v1_2 s2 hf
        rw [f_X6_keep_L2] at hf
        refine x_iload_n X dX6_keep_2 rfl 1 rfl ?_
        refine x_sipush (v := 2204) X dX6_keep_3 (by decide) ?_
        refine x_icmp_ge (tgt := 27) X dX6_keep_6 (by decide) hf (fun hf => ?_) (fun hf => ?_)
        · refine x_sub [0] rfl ?_
          exact JX2 s2 hf
        · refine x_aload_n X dX6_keep_9 rfl 0 rfl ?_
          refine x_getf X fl_X6_19 (yM_0 Y) (yM_l Y 0 (by decide)) rfl dX6_keep_10 ?_
          refine x_iload_n X dX6_keep_13 rfl 1 rfl ?_
          refine x_aload_n X dX6_keep_14 rfl 0 rfl ?_
          refine x_getf X fl_X6_7 (yM_0 Y) (yM_l Y 0 (by decide)) rfl dX6_keep_15 ?_
          refine x_iload_n X dX6_keep_18 rfl 1 rfl ?_
          refine x_iald X 0 (yM_ht Y) (yM_1 Y) (yM_l Y 1 (by decide)) dX6_keep_19 hf (fun x19 hf => ?_)
          refine x_iast (w := sA s2 4) X E.1 0 (yM_ht Y) (yM_4 Y) (yM_l Y 4 (by decide)) (yM_s4 Y) dX6_keep_20 hf (fun s20 hf => ?_)
          refine x_iinc (v := v1_2 + 1) (lv' := [(1, .int (v1_2 + 1)), (0, .ref (κ.S0 + (b + 0)))]) X dX6_keep_21 1 rfl rfl (by decide) rfl ?_
          refine x_goto (tgt := 2) X dX6_keep_24 (by decide) ?_
          refine x_sub [1, 0] rfl ?_
          exact ih2 (v1_2 + 1) s20 hf
    refine x_sub [1, 0] rfl ?_
    exact LL FU 0 σ hf
def f_X6_restore_L16  (kX16 : MS → Option (Int32 × MS)) : Nat → Int32 → MS → Option (Int32 × MS)
  | 0, _, _ => none
  | n + 1, v1_16, s16 =>
    if 2204 ≤ v1_16 then (kX16 s16) else (oA 2204 (s16.1 4) v1_16 (fun x33 => oS 2204 (s16.1 1) v1_16 x33 (sA s16 1) (fun s34 => f_X6_restore_L16 kX16 n (v1_16 + 1) s34)))
def f_X6_restore (σ : MS)  : Option (Int32 × MS) :=
  if (σ.2 1) = 0 then (some ((-5), σ)) else (oV (f_X6_know σ) (fun t => t) (fun s11 => f_X6_restore_L16 (fun sx41 => oA 2204 (sx41.1 1) 0 (fun x46 => some (x46, sx41))) FU 0 s11))
set_option maxRecDepth 100000 in
set_option maxHeartbeats 4000000 in
theorem m_X6_restore {l : Launch} {G : va_G} {tys : List (ClassId × FieldType)} {S0 : Nat} {h h1 h2 : Nat → va_E} {b cN' : Nat} {cI cZ : ClassId} {σ : MS} {τ : MS}  {r : Int32} (hb : b + 8 ≤ cN') (ht : tys[0]? = some (cI, .int)) (htz : tys[2]? = some (cZ, .boolean)) (e1 : h1 = ov h b (ml S0 cI cZ b σ)) (e2 : h2 = ov h b (ml S0 cI cZ b τ)) (hf : f_X6_restore σ = some (r, τ)) : XMet l G tys S0 cN' yX6_restore cX6_restore 2 (some .int) 1 21 [.ref (S0 + (b + 0))] h1 cN' (some (.int r)) h2 0 0 := by
  subst e1; subst e2
  refine XMet.ofE (ST := MS) (HP := fun σ => ov h b (ml S0 cI cZ b σ)) σ τ (by decide) (Nat.le_of_ble_eq_true rfl) ?_
  intro κ g1 g2 g3 g4 g5 g6 E X hQ
  subst g1; subst g2; subst g3; subst g4
  have Y : YM κ h b cI cZ := ⟨fun σ => by rw [g5], fun σ => by rw [g6]; exact hb, ht, htz⟩
  have X : XC κ cX6_restore 2 RX6 (some .int) 1 21 := X
  show XG κ σ 0 [(0, .ref (κ.S0 + (b + 0)))] []
  unfold f_X6_restore at hf
  refine x_aload_n X dX6_restore_0 rfl 0 rfl ?_
  refine x_getf X fl_X6_163 (yM_0 Y) (yM_l Y 0 (by decide)) rfl dX6_restore_1 ?_
  refine x_if_ne (tgt := 10) X dX6_restore_4 (by decide) hf (fun hf => ?_) (fun hf => ?_)
  · refine x_aload_n X dX6_restore_10 rfl 0 rfl ?_
    refine x_callV (rest := []) (w := fun t => t) X E.1 hf (fun t hr => x_cV (ci := 6) X cm_X6_know lkV_X6_51 rfl ⟨Nat.le_of_ble_eq_true rfl, Nat.le_of_ble_eq_true rfl⟩ (yM_0 Y) (yM_l Y 0 (by decide)) (m_X6_know (yM_hb Y σ) (yM_ht Y) (yM_htz Y) (yM_hp Y _) (yM_hp Y _) hr) rfl rfl (Nat.le_of_ble_eq_true rfl) (x_room E _) dX6_restore_11) (fun s11 hf => ?_)
    refine x_iconst (v := 0) X dX6_restore_14 (by decide) ?_
    refine x_istore_n (lv' := [(1, .int 0), (0, .ref (κ.S0 + (b + 0)))]) X dX6_restore_15 rfl (by decide) rfl ?_
    refine x_kont (b := fun kX16 => f_X6_restore_L16 kX16 FU 0 s11) (fun kX16 => ∀  (sx41 : MS), kX16 sx41 = some (r, τ) → XG κ sx41 41 [(0, .ref (κ.S0 + (b + 0)))] []) hf (fun sx41 hf => ?_) (fun kX16 JX16 hf => ?_)
    · refine x_aload_n X dX6_restore_41 rfl 0 rfl ?_
      refine x_getf X fl_X6_7 (yM_0 Y) (yM_l Y 0 (by decide)) rfl dX6_restore_42 ?_
      refine x_iconst (v := 0) X dX6_restore_45 (by decide) ?_
      refine x_iald X 0 (yM_ht Y) (yM_1 Y) (yM_l Y 1 (by decide)) dX6_restore_46 hf (fun x46 hf => ?_)
      exact x_iretW (σ0 := σ) X E hQ hf dX6_restore_47
    · have LL : ∀ (n : Nat) (v1_16 : Int32) (s16 : MS), f_X6_restore_L16 kX16 n v1_16 s16 = some (r, τ) → XG κ s16 16 [(0, .ref (κ.S0 + (b + 0))), (1, .int v1_16)] [] := by
        intro n
        induction n with
        | zero => intro v1_16 s16 hf; rw [f_X6_restore_L16] at hf; cases hf
        | succ n ih16 =>
          intro v1_16 s16 hf
          rw [f_X6_restore_L16] at hf
          refine x_iload_n X dX6_restore_16 rfl 1 rfl ?_
          refine x_sipush (v := 2204) X dX6_restore_17 (by decide) ?_
          refine x_icmp_ge (tgt := 41) X dX6_restore_20 (by decide) hf (fun hf => ?_) (fun hf => ?_)
          · refine x_sub [0] rfl ?_
            exact JX16 s16 hf
          · refine x_aload_n X dX6_restore_23 rfl 0 rfl ?_
            refine x_getf X fl_X6_7 (yM_0 Y) (yM_l Y 0 (by decide)) rfl dX6_restore_24 ?_
            refine x_iload_n X dX6_restore_27 rfl 1 rfl ?_
            refine x_aload_n X dX6_restore_28 rfl 0 rfl ?_
            refine x_getf X fl_X6_19 (yM_0 Y) (yM_l Y 0 (by decide)) rfl dX6_restore_29 ?_
            refine x_iload_n X dX6_restore_32 rfl 1 rfl ?_
            refine x_iald X 0 (yM_ht Y) (yM_4 Y) (yM_l Y 4 (by decide)) dX6_restore_33 hf (fun x33 hf => ?_)
            refine x_iast (w := sA s16 1) X E.1 0 (yM_ht Y) (yM_1 Y) (yM_l Y 1 (by decide)) (yM_s1 Y) dX6_restore_34 hf (fun s34 hf => ?_)
            refine x_iinc (v := v1_16 + 1) (lv' := [(1, .int (v1_16 + 1)), (0, .ref (κ.S0 + (b + 0)))]) X dX6_restore_35 1 rfl rfl (by decide) rfl ?_
            refine x_goto (tgt := 16) X dX6_restore_38 (by decide) ?_
            refine x_sub [1, 0] rfl ?_
            exact ih16 (v1_16 + 1) s34 hf
      refine x_sub [1, 0] rfl ?_
      exact LL FU 0 s11 hf
  · refine x_bipush (v := (-5)) X dX6_restore_7 (by decide) ?_
    exact x_iretW (σ0 := σ) X E hQ hf dX6_restore_9
def f_X6_read (σ : MS) (p1 : Int32) (p2 : Int32) : Option (Int32) :=
  oR (f_X6_isZone p1) (fun r1 => if r1 = 0 then (some (-1)) else (if 0 ≤ p2 then (oR (f_X6_of p1 3) (fun r23 => oA 2204 (σ.1 1) r23 (fun x26 => if p2 < x26 then (oR (f_X6_of p1 (6 + p2)) (fun r42 => oA 2204 (σ.1 1) r42 (fun x45 => if x45 = (-5) then (some (-4)) else (oR (f_X6_ofAppend x45 2) (fun r64 => oA 2204 (σ.1 1) r64 (fun x67 => some x67)))))) else (some (-5))))) else (some (-2))))
set_option maxRecDepth 100000 in
set_option maxHeartbeats 4000000 in
theorem m_X6_read {l : Launch} {G : va_G} {tys : List (ClassId × FieldType)} {S0 : Nat} {h h1 h2 : Nat → va_E} {b cN' : Nat} {cI cZ : ClassId} {σ : MS} {p1 : Int32} {p2 : Int32} {r : Int32} (hb : b + 8 ≤ cN') (ht : tys[0]? = some (cI, .int)) (htz : tys[2]? = some (cZ, .boolean)) (e1 : h1 = ov h b (ml S0 cI cZ b σ)) (e2 : h2 = ov h b (ml S0 cI cZ b σ)) (hf : f_X6_read σ p1 p2 = some r) : XMet l G tys S0 cN' yX6_read cX6_read 4 (some .int) 2 42 [.ref (S0 + (b + 0)), .int p1, .int p2] h1 cN' (some (.int r)) h2 0 0 := by
  subst e1; subst e2
  refine XMet.ofE (ST := MS) (HP := fun σ => ov h b (ml S0 cI cZ b σ)) σ σ (by decide) (Nat.le_of_ble_eq_true rfl) ?_
  intro κ g1 g2 g3 g4 g5 g6 E X hQ
  subst g1; subst g2; subst g3; subst g4
  have Y : YM κ h b cI cZ := ⟨fun σ => by rw [g5], fun σ => by rw [g6]; exact hb, ht, htz⟩
  have X : XC κ cX6_read 4 RX6 (some .int) 2 42 := X
  show XG κ σ 0 [(0, .ref (κ.S0 + (b + 0))), (1, .int p1), (2, .int p2)] []
  unfold f_X6_read at hf
  refine x_iload_n X dX6_read_0 rfl 1 rfl ?_
  refine x_callR (rest := []) X hf (fun r hr => x_cS X cm_X6_isZone lkS_X6_64 ⟨Nat.le_of_ble_eq_true rfl, Nat.le_of_ble_eq_true rfl⟩ (m_X6_isZone hr) rfl rfl (Nat.le_of_ble_eq_true rfl) (x_room E _) dX6_read_1) (fun r1 hf => ?_)
  refine x_if_ne (tgt := 9) X dX6_read_4 (by decide) hf (fun hf => ?_) (fun hf => ?_)
  · refine x_iload_n X dX6_read_9 rfl 2 rfl ?_
    refine x_if_ge (tgt := 16) X dX6_read_10 (by decide) hf (fun hf => ?_) (fun hf => ?_)
    · refine x_iload_n X dX6_read_16 rfl 2 rfl ?_
      refine x_aload_n X dX6_read_17 rfl 0 rfl ?_
      refine x_getf X fl_X6_7 (yM_0 Y) (yM_l Y 0 (by decide)) rfl dX6_read_18 ?_
      refine x_iload_n X dX6_read_21 rfl 1 rfl ?_
      refine x_iconst (v := 3) X dX6_read_22 (by decide) ?_
      refine x_callR (rest := [.ref (κ.S0 + (b + 1)), .int p2]) X hf (fun r hr => x_cS X cm_X6_of lkS_X6_32 ⟨Nat.le_of_ble_eq_true rfl, Nat.le_of_ble_eq_true rfl⟩ (m_X6_of hr) rfl rfl (Nat.le_of_ble_eq_true rfl) (x_room E _) dX6_read_23) (fun r23 hf => ?_)
      refine x_iald X 0 (yM_ht Y) (yM_1 Y) (yM_l Y 1 (by decide)) dX6_read_26 hf (fun x26 hf => ?_)
      refine x_icmp_lt (tgt := 33) X dX6_read_27 (by decide) hf (fun hf => ?_) (fun hf => ?_)
      · refine x_aload_n X dX6_read_33 rfl 0 rfl ?_
        refine x_getf X fl_X6_7 (yM_0 Y) (yM_l Y 0 (by decide)) rfl dX6_read_34 ?_
        refine x_iload_n X dX6_read_37 rfl 1 rfl ?_
        refine x_bipush (v := 6) X dX6_read_38 (by decide) ?_
        refine x_iload_n X dX6_read_40 rfl 2 rfl ?_
        refine x_iadd X dX6_read_41 ?_
        refine x_callR (rest := [.ref (κ.S0 + (b + 1))]) X hf (fun r hr => x_cS X cm_X6_of lkS_X6_32 ⟨Nat.le_of_ble_eq_true rfl, Nat.le_of_ble_eq_true rfl⟩ (m_X6_of hr) rfl rfl (Nat.le_of_ble_eq_true rfl) (x_room E _) dX6_read_42) (fun r42 hf => ?_)
        refine x_iald X 0 (yM_ht Y) (yM_1 Y) (yM_l Y 1 (by decide)) dX6_read_45 hf (fun x45 hf => ?_)
        refine x_istore_n (lv' := [(3, .int x45), (0, .ref (κ.S0 + (b + 0))), (1, .int p1), (2, .int p2)]) X dX6_read_46 rfl (by decide) rfl ?_
        refine x_iload_n X dX6_read_47 rfl 0 rfl ?_
        refine x_bipush (v := (-5)) X dX6_read_48 (by decide) ?_
        refine x_icmp_ne (tgt := 58) X dX6_read_50 (by decide) hf (fun hf => ?_) (fun hf => ?_)
        · refine x_aload_n X dX6_read_58 rfl 1 rfl ?_
          refine x_getf X fl_X6_7 (yM_0 Y) (yM_l Y 0 (by decide)) rfl dX6_read_59 ?_
          refine x_iload_n X dX6_read_62 rfl 0 rfl ?_
          refine x_iconst (v := 2) X dX6_read_63 (by decide) ?_
          refine x_callR (rest := [.ref (κ.S0 + (b + 1))]) X hf (fun r hr => x_cS X cm_X6_ofAppend lkS_X6_54 ⟨Nat.le_of_ble_eq_true rfl, Nat.le_of_ble_eq_true rfl⟩ (m_X6_ofAppend hr) rfl rfl (Nat.le_of_ble_eq_true rfl) (x_room E _) dX6_read_64) (fun r64 hf => ?_)
          refine x_iald X 0 (yM_ht Y) (yM_1 Y) (yM_l Y 1 (by decide)) dX6_read_67 hf (fun x67 hf => ?_)
          exact x_iretR (σ0 := σ) X E hQ hf dX6_read_68
        · refine x_bipush (v := (-4)) X dX6_read_53 (by decide) ?_
          refine x_goto (tgt := 68) X dX6_read_55 (by decide) ?_
          exact x_iretR (σ0 := σ) X E hQ hf dX6_read_68
      · refine x_bipush (v := (-5)) X dX6_read_30 (by decide) ?_
        exact x_iretR (σ0 := σ) X E hQ hf dX6_read_32
    · refine x_bipush (v := (-2)) X dX6_read_13 (by decide) ?_
      exact x_iretR (σ0 := σ) X E hQ hf dX6_read_15
  · refine x_iconst (v := (-1)) X dX6_read_7 (by decide) ?_
    exact x_iretR (σ0 := σ) X E hQ hf dX6_read_8
def f_X6_zone_L93 (σ : MS) (p1 : Int32) (kX93 : Int32 → Option (Int32)) : Nat → Int32 → Option (Int32)
  | 0, _ => none
  | n + 1, v3_93 =>
    if 16 ≤ v3_93 then (kX93 v3_93) else (oR (f_X6_of p1 (6 + v3_93)) (fun r108 => oA 2204 (σ.1 1) r108 (fun x111 => if x111 = (-5) then (kX93 v3_93) else (f_X6_zone_L93 σ p1 kX93 n (v3_93 + 1)))))
def f_X6_zone (σ : MS) (p1 : Int32) (p2 : Int32) : Option (Int32) :=
  oR (f_X6_isZone p1) (fun r1 => if r1 = 0 then (some (-1)) else (oJ (κ := Option (Int32)) (oR (f_X6_of p1 p2) (fun r66 => oA 2204 (σ.1 1) r66 (fun x69 => some x69))) (fun k60 => if p2 = 0 then k60 else (if p2 = 1 then k60 else (if p2 = 2 then k60 else (if p2 = 3 then k60 else (if p2 = 4 then k60 else (if p2 = 5 then (oR (f_X6_readable σ p1) (fun r73 => some r73)) else (if p2 = 6 then (oR (f_X6_appends σ 1 p1) (fun r80 => some r80)) else (if p2 = 7 then (oR (f_X6_appends σ 0 p1) (fun r87 => some r87)) else (if p2 = 8 then (f_X6_zone_L93 σ p1 (fun w3_123 => some w3_123) FU 0) else (some (-2)))))))))))))
set_option maxRecDepth 100000 in
set_option maxHeartbeats 4000000 in
theorem m_X6_zone {l : Launch} {G : va_G} {tys : List (ClassId × FieldType)} {S0 : Nat} {h h1 h2 : Nat → va_E} {b cN' : Nat} {cI cZ : ClassId} {σ : MS} {p1 : Int32} {p2 : Int32} {r : Int32} (hb : b + 8 ≤ cN') (ht : tys[0]? = some (cI, .int)) (htz : tys[2]? = some (cZ, .boolean)) (e1 : h1 = ov h b (ml S0 cI cZ b σ)) (e2 : h2 = ov h b (ml S0 cI cZ b σ)) (hf : f_X6_zone σ p1 p2 = some r) : XMet l G tys S0 cN' yX6_zone cX6_zone 4 (some .int) 2 45 [.ref (S0 + (b + 0)), .int p1, .int p2] h1 cN' (some (.int r)) h2 0 0 := by
  subst e1; subst e2
  refine XMet.ofE (ST := MS) (HP := fun σ => ov h b (ml S0 cI cZ b σ)) σ σ (by decide) (Nat.le_of_ble_eq_true rfl) ?_
  intro κ g1 g2 g3 g4 g5 g6 E X hQ
  subst g1; subst g2; subst g3; subst g4
  have Y : YM κ h b cI cZ := ⟨fun σ => by rw [g5], fun σ => by rw [g6]; exact hb, ht, htz⟩
  have X : XC κ cX6_zone 4 RX6 (some .int) 2 45 := X
  show XG κ σ 0 [(0, .ref (κ.S0 + (b + 0))), (1, .int p1), (2, .int p2)] []
  unfold f_X6_zone at hf
  refine x_iload_n X dX6_zone_0 rfl 1 rfl ?_
  refine x_callR (rest := []) X hf (fun r hr => x_cS X cm_X6_isZone lkS_X6_64 ⟨Nat.le_of_ble_eq_true rfl, Nat.le_of_ble_eq_true rfl⟩ (m_X6_isZone hr) rfl rfl (Nat.le_of_ble_eq_true rfl) (x_room E _) dX6_zone_1) (fun r1 hf => ?_)
  refine x_if_ne (tgt := 9) X dX6_zone_4 (by decide) hf (fun hf => ?_) (fun hf => ?_)
  · refine x_iload_n X dX6_zone_9 rfl 2 rfl ?_
    refine x_join (fun k60 => k60 = some r → XG κ σ 60 [(0, .ref (κ.S0 + (b + 0))), (1, .int p1), (2, .int p2)] []) hf (fun hf => ?_) (fun k60 J60 hf => ?_)
    · refine x_aload_n X dX6_zone_60 rfl 0 rfl ?_
      refine x_getf X fl_X6_7 (yM_0 Y) (yM_l Y 0 (by decide)) rfl dX6_zone_61 ?_
      refine x_iload_n X dX6_zone_64 rfl 1 rfl ?_
      refine x_iload_n X dX6_zone_65 rfl 2 rfl ?_
      refine x_callR (rest := [.ref (κ.S0 + (b + 1))]) X hf (fun r hr => x_cS X cm_X6_of lkS_X6_32 ⟨Nat.le_of_ble_eq_true rfl, Nat.le_of_ble_eq_true rfl⟩ (m_X6_of hr) rfl rfl (Nat.le_of_ble_eq_true rfl) (x_room E _) dX6_zone_66) (fun r66 hf => ?_)
      refine x_iald X 0 (yM_ht Y) (yM_1 Y) (yM_l Y 1 (by decide)) dX6_zone_69 hf (fun x69 hf => ?_)
      exact x_iretR (σ0 := σ) X E hQ hf dX6_zone_70
    · refine x_if hf (fun c0 hf => ?_) (fun c0 hf => ?_)
      · refine x_tabIn (off := 50) (tgt := 60) X dX6_zone_10 (by rw [c0]; decide) (by rw [c0]; decide) (by rw [c0]; rfl) (by decide) ?_
        exact J60 hf
      · refine x_if hf (fun c1 hf => ?_) (fun c1 hf => ?_)
        · refine x_tabIn (off := 50) (tgt := 60) X dX6_zone_10 (by rw [c1]; decide) (by rw [c1]; decide) (by rw [c1]; rfl) (by decide) ?_
          exact J60 hf
        · refine x_if hf (fun c2 hf => ?_) (fun c2 hf => ?_)
          · refine x_tabIn (off := 50) (tgt := 60) X dX6_zone_10 (by rw [c2]; decide) (by rw [c2]; decide) (by rw [c2]; rfl) (by decide) ?_
            exact J60 hf
          · refine x_if hf (fun c3 hf => ?_) (fun c3 hf => ?_)
            · refine x_tabIn (off := 50) (tgt := 60) X dX6_zone_10 (by rw [c3]; decide) (by rw [c3]; decide) (by rw [c3]; rfl) (by decide) ?_
              exact J60 hf
            · refine x_if hf (fun c4 hf => ?_) (fun c4 hf => ?_)
              · refine x_tabIn (off := 50) (tgt := 60) X dX6_zone_10 (by rw [c4]; decide) (by rw [c4]; decide) (by rw [c4]; rfl) (by decide) ?_
                exact J60 hf
              · refine x_if hf (fun c5 hf => ?_) (fun c5 hf => ?_)
                · refine x_tabIn (off := 61) (tgt := 71) X dX6_zone_10 (by rw [c5]; decide) (by rw [c5]; decide) (by rw [c5]; rfl) (by decide) ?_
                  refine x_aload_n X dX6_zone_71 rfl 0 rfl ?_
                  refine x_iload_n X dX6_zone_72 rfl 1 rfl ?_
                  refine x_callR (rest := []) X hf (fun r hr => x_cV (ci := 6) X cm_X6_readable lkV_X6_85 rfl ⟨Nat.le_of_ble_eq_true rfl, Nat.le_of_ble_eq_true rfl⟩ (yM_0 Y) (yM_l Y 0 (by decide)) (m_X6_readable (yM_hb Y σ) (yM_ht Y) (yM_htz Y) (yM_hp Y _) (yM_hp Y _) hr) rfl rfl (Nat.le_of_ble_eq_true rfl) (x_room E _) dX6_zone_73) (fun r73 hf => ?_)
                  exact x_iretR (σ0 := σ) X E hQ hf dX6_zone_76
                · refine x_if hf (fun c6 hf => ?_) (fun c6 hf => ?_)
                  · refine x_tabIn (off := 67) (tgt := 77) X dX6_zone_10 (by rw [c6]; decide) (by rw [c6]; decide) (by rw [c6]; rfl) (by decide) ?_
                    refine x_aload_n X dX6_zone_77 rfl 0 rfl ?_
                    refine x_iconst (v := 1) X dX6_zone_78 (by decide) ?_
                    refine x_iload_n X dX6_zone_79 rfl 1 rfl ?_
                    refine x_callR (rest := []) X hf (fun r hr => x_cV (ci := 6) X cm_X6_appends lkV_X6_101 rfl ⟨Nat.le_of_ble_eq_true rfl, Nat.le_of_ble_eq_true rfl⟩ (yM_0 Y) (yM_l Y 0 (by decide)) (m_X6_appends (yM_hb Y σ) (yM_ht Y) (yM_htz Y) (yM_hp Y _) (yM_hp Y _) hr) rfl rfl (Nat.le_of_ble_eq_true rfl) (x_room E _) dX6_zone_80) (fun r80 hf => ?_)
                    exact x_iretR (σ0 := σ) X E hQ hf dX6_zone_83
                  · refine x_if hf (fun c7 hf => ?_) (fun c7 hf => ?_)
                    · refine x_tabIn (off := 74) (tgt := 84) X dX6_zone_10 (by rw [c7]; decide) (by rw [c7]; decide) (by rw [c7]; rfl) (by decide) ?_
                      refine x_aload_n X dX6_zone_84 rfl 0 rfl ?_
                      refine x_iconst (v := 0) X dX6_zone_85 (by decide) ?_
                      refine x_iload_n X dX6_zone_86 rfl 1 rfl ?_
                      refine x_callR (rest := []) X hf (fun r hr => x_cV (ci := 6) X cm_X6_appends lkV_X6_101 rfl ⟨Nat.le_of_ble_eq_true rfl, Nat.le_of_ble_eq_true rfl⟩ (yM_0 Y) (yM_l Y 0 (by decide)) (m_X6_appends (yM_hb Y σ) (yM_ht Y) (yM_htz Y) (yM_hp Y _) (yM_hp Y _) hr) rfl rfl (Nat.le_of_ble_eq_true rfl) (x_room E _) dX6_zone_87) (fun r87 hf => ?_)
                      exact x_iretR (σ0 := σ) X E hQ hf dX6_zone_90
                    · refine x_if hf (fun c8 hf => ?_) (fun c8 hf => ?_)
                      · refine x_tabIn (off := 81) (tgt := 91) X dX6_zone_10 (by rw [c8]; decide) (by rw [c8]; decide) (by rw [c8]; rfl) (by decide) ?_
                        refine x_iconst (v := 0) X dX6_zone_91 (by decide) ?_
                        refine x_istore_n (lv' := [(3, .int 0), (0, .ref (κ.S0 + (b + 0))), (1, .int p1), (2, .int p2)]) X dX6_zone_92 rfl (by decide) rfl ?_
                        refine x_kont (b := fun kX93 => f_X6_zone_L93 σ p1 kX93 FU 0) (fun kX93 => ∀ (w3_123 : Int32), kX93 w3_123 = some r → XG κ σ 123 [(3, .int w3_123)] []) hf (fun w3_123 hf => ?_) (fun kX93 JX93 hf => ?_)
                        · refine x_iload_n X dX6_zone_123 rfl 0 rfl ?_
                          exact x_iretR (σ0 := σ) X E hQ hf dX6_zone_124
                        · have LL : ∀ (n : Nat) (v3_93 : Int32), f_X6_zone_L93 σ p1 kX93 n v3_93 = some r → XG κ σ 93 [(0, .ref (κ.S0 + (b + 0))), (1, .int p1), (3, .int v3_93)] [] := by
                            intro n
                            induction n with
                            | zero => intro v3_93 hf; rw [f_X6_zone_L93] at hf; cases hf
                            | succ n ih93 =>
                              intro v3_93 hf
                              rw [f_X6_zone_L93] at hf
                              refine x_iload_n X dX6_zone_93 rfl 2 rfl ?_
                              refine x_bipush (v := 16) X dX6_zone_94 (by decide) ?_
                              refine x_icmp_ge (tgt := 123) X dX6_zone_96 (by decide) hf (fun hf => ?_) (fun hf => ?_)
                              · refine x_sub [2] rfl ?_
                                exact JX93 v3_93 hf
                              · refine x_aload_n X dX6_zone_99 rfl 0 rfl ?_
                                refine x_getf X fl_X6_7 (yM_0 Y) (yM_l Y 0 (by decide)) rfl dX6_zone_100 ?_
                                refine x_iload_n X dX6_zone_103 rfl 1 rfl ?_
                                refine x_bipush (v := 6) X dX6_zone_104 (by decide) ?_
                                refine x_iload_n X dX6_zone_106 rfl 2 rfl ?_
                                refine x_iadd X dX6_zone_107 ?_
                                refine x_callR (rest := [.ref (κ.S0 + (b + 1))]) X hf (fun r hr => x_cS X cm_X6_of lkS_X6_32 ⟨Nat.le_of_ble_eq_true rfl, Nat.le_of_ble_eq_true rfl⟩ (m_X6_of hr) rfl rfl (Nat.le_of_ble_eq_true rfl) (x_room E _) dX6_zone_108) (fun r108 hf => ?_)
                                refine x_iald X 0 (yM_ht Y) (yM_1 Y) (yM_l Y 1 (by decide)) dX6_zone_111 hf (fun x111 hf => ?_)
                                refine x_bipush (v := (-5)) X dX6_zone_112 (by decide) ?_
                                refine x_icmp_eq (tgt := 123) X dX6_zone_114 (by decide) hf (fun hf => ?_) (fun hf => ?_)
                                · refine x_sub [2] rfl ?_
                                  exact JX93 v3_93 hf
                                · refine x_iinc (v := v3_93 + 1) (lv' := [(3, .int (v3_93 + 1)), (0, .ref (κ.S0 + (b + 0))), (1, .int p1)]) X dX6_zone_117 2 rfl rfl (by decide) rfl ?_
                                  refine x_goto (tgt := 93) X dX6_zone_120 (by decide) ?_
                                  refine x_sub [1, 2, 0] rfl ?_
                                  exact ih93 (v3_93 + 1) hf
                          refine x_sub [1, 2, 0] rfl ?_
                          exact LL FU 0 hf
                      · refine x_tabOut (tgt := 125) X dX6_zone_10 (by have h0 := lv_neT c0 (a := 0) rfl; have h1 := lv_neT c1 (a := 1) rfl; have h2 := lv_neT c2 (a := 2) rfl; have h3 := lv_neT c3 (a := 3) rfl; have h4 := lv_neT c4 (a := 4) rfl; have h5 := lv_neT c5 (a := 5) rfl; have h6 := lv_neT c6 (a := 6) rfl; have h7 := lv_neT c7 (a := 7) rfl; have h8 := lv_neT c8 (a := 8) rfl; omega) (by decide) ?_
                        refine x_bipush (v := (-2)) X dX6_zone_125 (by decide) ?_
                        exact x_iretR (σ0 := σ) X E hQ hf dX6_zone_127
  · refine x_iconst (v := (-1)) X dX6_zone_7 (by decide) ?_
    exact x_iretR (σ0 := σ) X E hQ hf dX6_zone_8
def f_X6_appended (σ : MS) (p1 : Int32) (p2 : Int32) : Option (Int32) :=
  oR (f_X6_isAppend σ p1) (fun r2 => if r2 = 0 then (some (-1)) else (oR (f_X6_in p2 0 7) (fun r14 => if r14 = 0 then (some (-2)) else (oR (f_X6_ofAppend p1 3) (fun r29 => oA 2204 (σ.1 1) r29 (fun x32 => oJ (κ := Int32 → Option (Int32)) (fun t0_42 => oJ (κ := Option (Int32)) (oR (f_X6_ofAppend p1 p2) (fun r63 => oA 2204 (σ.1 1) r63 (fun x66 => some x66))) (fun k57 => if p2 = 4 then (if t0_42 = 0 then (some (-5)) else k57) else k57)) (fun k42 => if x32 = 2 then (k42 1) else (k42 0))))))))
set_option maxRecDepth 100000 in
set_option maxHeartbeats 4000000 in
theorem m_X6_appended {l : Launch} {G : va_G} {tys : List (ClassId × FieldType)} {S0 : Nat} {h h1 h2 : Nat → va_E} {b cN' : Nat} {cI cZ : ClassId} {σ : MS} {p1 : Int32} {p2 : Int32} {r : Int32} (hb : b + 8 ≤ cN') (ht : tys[0]? = some (cI, .int)) (htz : tys[2]? = some (cZ, .boolean)) (e1 : h1 = ov h b (ml S0 cI cZ b σ)) (e2 : h2 = ov h b (ml S0 cI cZ b σ)) (hf : f_X6_appended σ p1 p2 = some r) : XMet l G tys S0 cN' yX6_appended cX6_appended 4 (some .int) 2 43 [.ref (S0 + (b + 0)), .int p1, .int p2] h1 cN' (some (.int r)) h2 0 0 := by
  subst e1; subst e2
  refine XMet.ofE (ST := MS) (HP := fun σ => ov h b (ml S0 cI cZ b σ)) σ σ (by decide) (Nat.le_of_ble_eq_true rfl) ?_
  intro κ g1 g2 g3 g4 g5 g6 E X hQ
  subst g1; subst g2; subst g3; subst g4
  have Y : YM κ h b cI cZ := ⟨fun σ => by rw [g5], fun σ => by rw [g6]; exact hb, ht, htz⟩
  have X : XC κ cX6_appended 4 RX6 (some .int) 2 43 := X
  show XG κ σ 0 [(0, .ref (κ.S0 + (b + 0))), (1, .int p1), (2, .int p2)] []
  unfold f_X6_appended at hf
  refine x_aload_n X dX6_appended_0 rfl 0 rfl ?_
  refine x_iload_n X dX6_appended_1 rfl 1 rfl ?_
  refine x_callR (rest := []) X hf (fun r hr => x_cV (ci := 6) X cm_X6_isAppend lkV_X6_166 rfl ⟨Nat.le_of_ble_eq_true rfl, Nat.le_of_ble_eq_true rfl⟩ (yM_0 Y) (yM_l Y 0 (by decide)) (m_X6_isAppend (yM_hb Y σ) (yM_ht Y) (yM_htz Y) (yM_hp Y _) (yM_hp Y _) hr) rfl rfl (Nat.le_of_ble_eq_true rfl) (x_room E _) dX6_appended_2) (fun r2 hf => ?_)
  refine x_if_ne (tgt := 10) X dX6_appended_5 (by decide) hf (fun hf => ?_) (fun hf => ?_)
  · refine x_iload_n X dX6_appended_10 rfl 2 rfl ?_
    refine x_iconst (v := 0) X dX6_appended_11 (by decide) ?_
    refine x_bipush (v := 7) X dX6_appended_12 (by decide) ?_
    refine x_callR (rest := []) X hf (fun r hr => x_cS X cm_X6_in lkS_X6_43 ⟨Nat.le_of_ble_eq_true rfl, Nat.le_of_ble_eq_true rfl⟩ (m_X6_in hr) rfl rfl (Nat.le_of_ble_eq_true rfl) (x_room E _) dX6_appended_14) (fun r14 hf => ?_)
    refine x_if_ne (tgt := 23) X dX6_appended_17 (by decide) hf (fun hf => ?_) (fun hf => ?_)
    · refine x_aload_n X dX6_appended_23 rfl 0 rfl ?_
      refine x_getf X fl_X6_7 (yM_0 Y) (yM_l Y 0 (by decide)) rfl dX6_appended_24 ?_
      refine x_iload_n X dX6_appended_27 rfl 1 rfl ?_
      refine x_iconst (v := 3) X dX6_appended_28 (by decide) ?_
      refine x_callR (rest := [.ref (κ.S0 + (b + 1))]) X hf (fun r hr => x_cS X cm_X6_ofAppend lkS_X6_54 ⟨Nat.le_of_ble_eq_true rfl, Nat.le_of_ble_eq_true rfl⟩ (m_X6_ofAppend hr) rfl rfl (Nat.le_of_ble_eq_true rfl) (x_room E _) dX6_appended_29) (fun r29 hf => ?_)
      refine x_iald X 0 (yM_ht Y) (yM_1 Y) (yM_l Y 1 (by decide)) dX6_appended_32 hf (fun x32 hf => ?_)
      refine x_iconst (v := 2) X dX6_appended_33 (by decide) ?_
      refine x_join (fun k42 => ∀ (t0_42 : Int32), k42 t0_42 = some r → XG κ σ 42 [(0, .ref (κ.S0 + (b + 0))), (1, .int p1), (2, .int p2)] [.int t0_42]) hf (fun t0_42 hf => ?_) (fun k42 J42 hf => ?_)
      · refine x_istore_n (lv' := [(3, .int t0_42), (0, .ref (κ.S0 + (b + 0))), (1, .int p1), (2, .int p2)]) X dX6_appended_42 rfl (by decide) rfl ?_
        refine x_iload_n X dX6_appended_43 rfl 3 rfl ?_
        refine x_iconst (v := 4) X dX6_appended_44 (by decide) ?_
        refine x_join (fun k57 => k57 = some r → XG κ σ 57 [(0, .ref (κ.S0 + (b + 0))), (1, .int p1), (2, .int p2)] []) hf (fun hf => ?_) (fun k57 J57 hf => ?_)
        · refine x_aload_n X dX6_appended_57 rfl 0 rfl ?_
          refine x_getf X fl_X6_7 (yM_0 Y) (yM_l Y 0 (by decide)) rfl dX6_appended_58 ?_
          refine x_iload_n X dX6_appended_61 rfl 1 rfl ?_
          refine x_iload_n X dX6_appended_62 rfl 2 rfl ?_
          refine x_callR (rest := [.ref (κ.S0 + (b + 1))]) X hf (fun r hr => x_cS X cm_X6_ofAppend lkS_X6_54 ⟨Nat.le_of_ble_eq_true rfl, Nat.le_of_ble_eq_true rfl⟩ (m_X6_ofAppend hr) rfl rfl (Nat.le_of_ble_eq_true rfl) (x_room E _) dX6_appended_63) (fun r63 hf => ?_)
          refine x_iald X 0 (yM_ht Y) (yM_1 Y) (yM_l Y 1 (by decide)) dX6_appended_66 hf (fun x66 hf => ?_)
          exact x_iretR (σ0 := σ) X E hQ hf dX6_appended_67
        · refine x_icmp_ne (tgt := 57) X dX6_appended_45 (by decide) hf (fun hf => ?_) (fun hf => ?_)
          · refine x_sub [1, 2, 3] rfl ?_
            exact J57 hf
          · refine x_iload_n X dX6_appended_48 rfl 0 rfl ?_
            refine x_if_ne (tgt := 57) X dX6_appended_49 (by decide) hf (fun hf => ?_) (fun hf => ?_)
            · refine x_sub [1, 2, 3] rfl ?_
              exact J57 hf
            · refine x_bipush (v := (-5)) X dX6_appended_52 (by decide) ?_
              refine x_goto (tgt := 67) X dX6_appended_54 (by decide) ?_
              exact x_iretR (σ0 := σ) X E hQ hf dX6_appended_67
      · refine x_icmp_ne (tgt := 41) X dX6_appended_34 (by decide) hf (fun hf => ?_) (fun hf => ?_)
        · refine x_iconst (v := 0) X dX6_appended_41 (by decide) ?_
          exact J42 0 hf
        · refine x_iconst (v := 1) X dX6_appended_37 (by decide) ?_
          refine x_goto (tgt := 42) X dX6_appended_38 (by decide) ?_
          exact J42 1 hf
    · refine x_bipush (v := (-2)) X dX6_appended_20 (by decide) ?_
      exact x_iretR (σ0 := σ) X E hQ hf dX6_appended_22
  · refine x_iconst (v := (-1)) X dX6_appended_8 (by decide) ?_
    exact x_iretR (σ0 := σ) X E hQ hf dX6_appended_9
def f_X6_writer (σ : MS) (p1 : Int32) (p2 : Int32) : Option (Int32) :=
  oR (f_X6_isWriter p1) (fun r1 => if r1 = 0 then (some (-1)) else (oJ (κ := Option (Int32)) (oR (f_X6_appendsOf σ (p2 - 1) p1) (fun r64 => some r64)) (fun k59 => if p2 = 0 then (oR (f_X6_ofWriter p1 0) (fun r54 => oA 2204 (σ.1 1) r54 (fun x57 => some x57))) else (if p2 = 1 then k59 else (if p2 = 2 then k59 else (if p2 = 3 then k59 else (if p2 = 4 then k59 else (if p2 = 5 then (oR (f_X6_ofWriter p1 1) (fun r74 => oA 2204 (σ.1 1) r74 (fun x77 => some x77))) else (some (-2))))))))))
set_option maxRecDepth 100000 in
set_option maxHeartbeats 4000000 in
theorem m_X6_writer {l : Launch} {G : va_G} {tys : List (ClassId × FieldType)} {S0 : Nat} {h h1 h2 : Nat → va_E} {b cN' : Nat} {cI cZ : ClassId} {σ : MS} {p1 : Int32} {p2 : Int32} {r : Int32} (hb : b + 8 ≤ cN') (ht : tys[0]? = some (cI, .int)) (htz : tys[2]? = some (cZ, .boolean)) (e1 : h1 = ov h b (ml S0 cI cZ b σ)) (e2 : h2 = ov h b (ml S0 cI cZ b σ)) (hf : f_X6_writer σ p1 p2 = some r) : XMet l G tys S0 cN' yX6_writer cX6_writer 3 (some .int) 2 45 [.ref (S0 + (b + 0)), .int p1, .int p2] h1 cN' (some (.int r)) h2 0 0 := by
  subst e1; subst e2
  refine XMet.ofE (ST := MS) (HP := fun σ => ov h b (ml S0 cI cZ b σ)) σ σ (by decide) (Nat.le_of_ble_eq_true rfl) ?_
  intro κ g1 g2 g3 g4 g5 g6 E X hQ
  subst g1; subst g2; subst g3; subst g4
  have Y : YM κ h b cI cZ := ⟨fun σ => by rw [g5], fun σ => by rw [g6]; exact hb, ht, htz⟩
  have X : XC κ cX6_writer 3 RX6 (some .int) 2 45 := X
  show XG κ σ 0 [(0, .ref (κ.S0 + (b + 0))), (1, .int p1), (2, .int p2)] []
  unfold f_X6_writer at hf
  refine x_iload_n X dX6_writer_0 rfl 1 rfl ?_
  refine x_callR (rest := []) X hf (fun r hr => x_cS X cm_X6_isWriter lkS_X6_68 ⟨Nat.le_of_ble_eq_true rfl, Nat.le_of_ble_eq_true rfl⟩ (m_X6_isWriter hr) rfl rfl (Nat.le_of_ble_eq_true rfl) (x_room E _) dX6_writer_1) (fun r1 hf => ?_)
  refine x_if_ne (tgt := 9) X dX6_writer_4 (by decide) hf (fun hf => ?_) (fun hf => ?_)
  · refine x_iload_n X dX6_writer_9 rfl 2 rfl ?_
    refine x_join (fun k59 => k59 = some r → XG κ σ 59 [(0, .ref (κ.S0 + (b + 0))), (1, .int p1), (2, .int p2)] []) hf (fun hf => ?_) (fun k59 J59 hf => ?_)
    · refine x_aload_n X dX6_writer_59 rfl 0 rfl ?_
      refine x_iload_n X dX6_writer_60 rfl 2 rfl ?_
      refine x_iconst (v := 1) X dX6_writer_61 (by decide) ?_
      refine x_isub X dX6_writer_62 ?_
      refine x_iload_n X dX6_writer_63 rfl 1 rfl ?_
      refine x_callR (rest := []) X hf (fun r hr => x_cV (ci := 6) X cm_X6_appendsOf lkV_X6_71 rfl ⟨Nat.le_of_ble_eq_true rfl, Nat.le_of_ble_eq_true rfl⟩ (yM_0 Y) (yM_l Y 0 (by decide)) (m_X6_appendsOf (yM_hb Y σ) (yM_ht Y) (yM_htz Y) (yM_hp Y _) (yM_hp Y _) hr) rfl rfl (Nat.le_of_ble_eq_true rfl) (x_room E _) dX6_writer_64) (fun r64 hf => ?_)
      exact x_iretR (σ0 := σ) X E hQ hf dX6_writer_67
    · refine x_if hf (fun c0 hf => ?_) (fun c0 hf => ?_)
      · refine x_tabIn (off := 38) (tgt := 48) X dX6_writer_10 (by rw [c0]; decide) (by rw [c0]; decide) (by rw [c0]; rfl) (by decide) ?_
        refine x_aload_n X dX6_writer_48 rfl 0 rfl ?_
        refine x_getf X fl_X6_7 (yM_0 Y) (yM_l Y 0 (by decide)) rfl dX6_writer_49 ?_
        refine x_iload_n X dX6_writer_52 rfl 1 rfl ?_
        refine x_iconst (v := 0) X dX6_writer_53 (by decide) ?_
        refine x_callR (rest := [.ref (κ.S0 + (b + 1))]) X hf (fun r hr => x_cS X cm_X6_ofWriter lkS_X6_40 ⟨Nat.le_of_ble_eq_true rfl, Nat.le_of_ble_eq_true rfl⟩ (m_X6_ofWriter hr) rfl rfl (Nat.le_of_ble_eq_true rfl) (x_room E _) dX6_writer_54) (fun r54 hf => ?_)
        refine x_iald X 0 (yM_ht Y) (yM_1 Y) (yM_l Y 1 (by decide)) dX6_writer_57 hf (fun x57 hf => ?_)
        exact x_iretR (σ0 := σ) X E hQ hf dX6_writer_58
      · refine x_if hf (fun c1 hf => ?_) (fun c1 hf => ?_)
        · refine x_tabIn (off := 49) (tgt := 59) X dX6_writer_10 (by rw [c1]; decide) (by rw [c1]; decide) (by rw [c1]; rfl) (by decide) ?_
          exact J59 hf
        · refine x_if hf (fun c2 hf => ?_) (fun c2 hf => ?_)
          · refine x_tabIn (off := 49) (tgt := 59) X dX6_writer_10 (by rw [c2]; decide) (by rw [c2]; decide) (by rw [c2]; rfl) (by decide) ?_
            exact J59 hf
          · refine x_if hf (fun c3 hf => ?_) (fun c3 hf => ?_)
            · refine x_tabIn (off := 49) (tgt := 59) X dX6_writer_10 (by rw [c3]; decide) (by rw [c3]; decide) (by rw [c3]; rfl) (by decide) ?_
              exact J59 hf
            · refine x_if hf (fun c4 hf => ?_) (fun c4 hf => ?_)
              · refine x_tabIn (off := 49) (tgt := 59) X dX6_writer_10 (by rw [c4]; decide) (by rw [c4]; decide) (by rw [c4]; rfl) (by decide) ?_
                exact J59 hf
              · refine x_if hf (fun c5 hf => ?_) (fun c5 hf => ?_)
                · refine x_tabIn (off := 58) (tgt := 68) X dX6_writer_10 (by rw [c5]; decide) (by rw [c5]; decide) (by rw [c5]; rfl) (by decide) ?_
                  refine x_aload_n X dX6_writer_68 rfl 0 rfl ?_
                  refine x_getf X fl_X6_7 (yM_0 Y) (yM_l Y 0 (by decide)) rfl dX6_writer_69 ?_
                  refine x_iload_n X dX6_writer_72 rfl 1 rfl ?_
                  refine x_iconst (v := 1) X dX6_writer_73 (by decide) ?_
                  refine x_callR (rest := [.ref (κ.S0 + (b + 1))]) X hf (fun r hr => x_cS X cm_X6_ofWriter lkS_X6_40 ⟨Nat.le_of_ble_eq_true rfl, Nat.le_of_ble_eq_true rfl⟩ (m_X6_ofWriter hr) rfl rfl (Nat.le_of_ble_eq_true rfl) (x_room E _) dX6_writer_74) (fun r74 hf => ?_)
                  refine x_iald X 0 (yM_ht Y) (yM_1 Y) (yM_l Y 1 (by decide)) dX6_writer_77 hf (fun x77 hf => ?_)
                  exact x_iretR (σ0 := σ) X E hQ hf dX6_writer_78
                · refine x_tabOut (tgt := 79) X dX6_writer_10 (by have h0 := lv_neT c0 (a := 0) rfl; have h1 := lv_neT c1 (a := 1) rfl; have h2 := lv_neT c2 (a := 2) rfl; have h3 := lv_neT c3 (a := 3) rfl; have h4 := lv_neT c4 (a := 4) rfl; have h5 := lv_neT c5 (a := 5) rfl; omega) (by decide) ?_
                  refine x_bipush (v := (-2)) X dX6_writer_79 (by decide) ?_
                  exact x_iretR (σ0 := σ) X E hQ hf dX6_writer_81
  · refine x_iconst (v := (-1)) X dX6_writer_7 (by decide) ?_
    exact x_iretR (σ0 := σ) X E hQ hf dX6_writer_8
def f_X6_told (σ : MS) (p1 : Int32) : Option (Int32) :=
  if 0 ≤ p1 then (oA 2204 (σ.1 1) 9 (fun x14 => if x14 ≤ p1 then (some (-5)) else (oA 2204 (σ.1 1) (2003 + p1) (fun x27 => some x27)))) else (some (-2))
set_option maxRecDepth 100000 in
set_option maxHeartbeats 4000000 in
theorem m_X6_told {l : Launch} {G : va_G} {tys : List (ClassId × FieldType)} {S0 : Nat} {h h1 h2 : Nat → va_E} {b cN' : Nat} {cI cZ : ClassId} {σ : MS} {p1 : Int32} {r : Int32} (hb : b + 8 ≤ cN') (ht : tys[0]? = some (cI, .int)) (htz : tys[2]? = some (cZ, .boolean)) (e1 : h1 = ov h b (ml S0 cI cZ b σ)) (e2 : h2 = ov h b (ml S0 cI cZ b σ)) (hf : f_X6_told σ p1 = some r) : XMet l G tys S0 cN' yX6_told cX6_told 2 (some .int) 0 0 [.ref (S0 + (b + 0)), .int p1] h1 cN' (some (.int r)) h2 0 0 := by
  subst e1; subst e2
  refine XMet.ofE (ST := MS) (HP := fun σ => ov h b (ml S0 cI cZ b σ)) σ σ (by decide) (Nat.le_of_ble_eq_true rfl) ?_
  intro κ g1 g2 g3 g4 g5 g6 E X hQ
  subst g1; subst g2; subst g3; subst g4
  have Y : YM κ h b cI cZ := ⟨fun σ => by rw [g5], fun σ => by rw [g6]; exact hb, ht, htz⟩
  have X : XC κ cX6_told 2 RX6 (some .int) 0 0 := X
  show XG κ σ 0 [(0, .ref (κ.S0 + (b + 0))), (1, .int p1)] []
  unfold f_X6_told at hf
  refine x_iload_n X dX6_told_0 rfl 1 rfl ?_
  refine x_if_ge (tgt := 7) X dX6_told_1 (by decide) hf (fun hf => ?_) (fun hf => ?_)
  · refine x_iload_n X dX6_told_7 rfl 1 rfl ?_
    refine x_aload_n X dX6_told_8 rfl 0 rfl ?_
    refine x_getf X fl_X6_7 (yM_0 Y) (yM_l Y 0 (by decide)) rfl dX6_told_9 ?_
    refine x_bipush (v := 9) X dX6_told_12 (by decide) ?_
    refine x_iald X 0 (yM_ht Y) (yM_1 Y) (yM_l Y 1 (by decide)) dX6_told_14 hf (fun x14 hf => ?_)
    refine x_icmp_ge (tgt := 31) X dX6_told_15 (by decide) hf (fun hf => ?_) (fun hf => ?_)
    · refine x_bipush (v := (-5)) X dX6_told_31 (by decide) ?_
      exact x_iretR (σ0 := σ) X E hQ hf dX6_told_33
    · refine x_aload_n X dX6_told_18 rfl 0 rfl ?_
      refine x_getf X fl_X6_7 (yM_0 Y) (yM_l Y 0 (by decide)) rfl dX6_told_19 ?_
      refine x_sipush (v := 2003) X dX6_told_22 (by decide) ?_
      refine x_iload_n X dX6_told_25 rfl 1 rfl ?_
      refine x_iadd X dX6_told_26 ?_
      refine x_iald X 0 (yM_ht Y) (yM_1 Y) (yM_l Y 1 (by decide)) dX6_told_27 hf (fun x27 hf => ?_)
      refine x_goto (tgt := 33) X dX6_told_28 (by decide) ?_
      exact x_iretR (σ0 := σ) X E hQ hf dX6_told_33
  · refine x_bipush (v := (-2)) X dX6_told_4 (by decide) ?_
    exact x_iretR (σ0 := σ) X E hQ hf dX6_told_6
def f_X6_ticksOf_L4 (p1 : Int32) (kX4 : Int32 → MS → Option (Int32 × MS)) : Nat → Int32 → Int32 → MS → Option (Int32 × MS)
  | 0, _, _, _ => none
  | n + 1, v2_4, v3_4, s4 =>
    if 999 ≤ v2_4 then (kX4 v2_4 s4) else (oR (f_X6_ofAppend p1 3) (fun r17 => oA 2204 (s4.1 1) r17 (fun x20 => if 2 ≤ x20 then (kX4 v2_4 s4) else (if v3_4 = 0 then (kX4 v2_4 s4) else (oW (f_X6_tick s4) (fun t => t) (fun r30 s30 => f_X6_ticksOf_L4 p1 kX4 n (v2_4 + 1) (s30.2 3) s30))))))
def f_X6_ticksOf (σ : MS) (p1 : Int32) : Option (Int32 × MS) :=
  f_X6_ticksOf_L4 p1 (fun w2_46 sx46 => oR (f_X6_ofAppend p1 3) (fun r52 => oA 2204 (sx46.1 1) r52 (fun x55 => if x55 = 2 then (some (w2_46, sx46)) else (some ((-5), sx46))))) FU 0 1 σ
set_option maxRecDepth 100000 in
set_option maxHeartbeats 4000000 in
theorem m_X6_ticksOf {l : Launch} {G : va_G} {tys : List (ClassId × FieldType)} {S0 : Nat} {h h1 h2 : Nat → va_E} {b cN' : Nat} {cI cZ : ClassId} {σ : MS} {τ : MS} {p1 : Int32} {r : Int32} (hb : b + 8 ≤ cN') (ht : tys[0]? = some (cI, .int)) (htz : tys[2]? = some (cZ, .boolean)) (e1 : h1 = ov h b (ml S0 cI cZ b σ)) (e2 : h2 = ov h b (ml S0 cI cZ b τ)) (hf : f_X6_ticksOf σ p1 = some (r, τ)) : XMet l G tys S0 cN' yX6_ticksOf cX6_ticksOf 5 (some .int) 7 160 [.ref (S0 + (b + 0)), .int p1] h1 cN' (some (.int r)) h2 0 0 := by
  subst e1; subst e2
  refine XMet.ofE (ST := MS) (HP := fun σ => ov h b (ml S0 cI cZ b σ)) σ τ (by decide) (Nat.le_of_ble_eq_true rfl) ?_
  intro κ g1 g2 g3 g4 g5 g6 E X hQ
  subst g1; subst g2; subst g3; subst g4
  have Y : YM κ h b cI cZ := ⟨fun σ => by rw [g5], fun σ => by rw [g6]; exact hb, ht, htz⟩
  have X : XC κ cX6_ticksOf 5 RX6 (some .int) 7 160 := X
  show XG κ σ 0 [(0, .ref (κ.S0 + (b + 0))), (1, .int p1)] []
  unfold f_X6_ticksOf at hf
  refine x_iconst (v := 0) X dX6_ticksOf_0 (by decide) ?_
  refine x_istore_n (lv' := [(2, .int 0), (0, .ref (κ.S0 + (b + 0))), (1, .int p1)]) X dX6_ticksOf_1 rfl (by decide) rfl ?_
  refine x_iconst (v := 1) X dX6_ticksOf_2 (by decide) ?_
  refine x_istore_n (lv' := [(3, .int 1), (2, .int 0), (0, .ref (κ.S0 + (b + 0))), (1, .int p1)]) X dX6_ticksOf_3 rfl (by decide) rfl ?_
  refine x_kont (b := fun kX4 => f_X6_ticksOf_L4 p1 kX4 FU 0 1 σ) (fun kX4 => ∀ (w2_46 : Int32) (sx46 : MS), kX4 w2_46 sx46 = some (r, τ) → XG κ sx46 46 [(0, .ref (κ.S0 + (b + 0))), (1, .int p1), (2, .int w2_46)] []) hf (fun w2_46 sx46 hf => ?_) (fun kX4 JX4 hf => ?_)
  · refine x_aload_n X dX6_ticksOf_46 rfl 0 rfl ?_
    refine x_getf X fl_X6_7 (yM_0 Y) (yM_l Y 0 (by decide)) rfl dX6_ticksOf_47 ?_
    refine x_iload_n X dX6_ticksOf_50 rfl 1 rfl ?_
    refine x_iconst (v := 3) X dX6_ticksOf_51 (by decide) ?_
    refine x_callR (rest := [.ref (κ.S0 + (b + 1))]) X hf (fun r hr => x_cS X cm_X6_ofAppend lkS_X6_54 ⟨Nat.le_of_ble_eq_true rfl, Nat.le_of_ble_eq_true rfl⟩ (m_X6_ofAppend hr) rfl rfl (Nat.le_of_ble_eq_true rfl) (x_room E _) dX6_ticksOf_52) (fun r52 hf => ?_)
    refine x_iald X 0 (yM_ht Y) (yM_1 Y) (yM_l Y 1 (by decide)) dX6_ticksOf_55 hf (fun x55 hf => ?_)
    refine x_iconst (v := 2) X dX6_ticksOf_56 (by decide) ?_
    refine x_icmp_ne (tgt := 64) X dX6_ticksOf_57 (by decide) hf (fun hf => ?_) (fun hf => ?_)
    · refine x_bipush (v := (-5)) X dX6_ticksOf_64 (by decide) ?_
      exact x_iretW (σ0 := σ) X E hQ hf dX6_ticksOf_66
    · refine x_iload_n X dX6_ticksOf_60 rfl 2 rfl ?_
      refine x_goto (tgt := 66) X dX6_ticksOf_61 (by decide) ?_
      exact x_iretW (σ0 := σ) X E hQ hf dX6_ticksOf_66
  · have LL : ∀ (n : Nat) (v2_4 : Int32) (v3_4 : Int32) (s4 : MS), f_X6_ticksOf_L4 p1 kX4 n v2_4 v3_4 s4 = some (r, τ) → XG κ s4 4 [(0, .ref (κ.S0 + (b + 0))), (1, .int p1), (2, .int v2_4), (3, .int v3_4)] [] := by
      intro n
      induction n with
      | zero => intro v2_4 v3_4 s4 hf; rw [f_X6_ticksOf_L4] at hf; cases hf
      | succ n ih4 =>
        intro v2_4 v3_4 s4 hf
        rw [f_X6_ticksOf_L4] at hf
        refine x_iload_n X dX6_ticksOf_4 rfl 2 rfl ?_
        refine x_sipush (v := 999) X dX6_ticksOf_5 (by decide) ?_
        refine x_icmp_ge (tgt := 46) X dX6_ticksOf_8 (by decide) hf (fun hf => ?_) (fun hf => ?_)
        · refine x_sub [0, 1, 2] rfl ?_
          exact JX4 v2_4 s4 hf
        · refine x_aload_n X dX6_ticksOf_11 rfl 0 rfl ?_
          refine x_getf X fl_X6_7 (yM_0 Y) (yM_l Y 0 (by decide)) rfl dX6_ticksOf_12 ?_
          refine x_iload_n X dX6_ticksOf_15 rfl 1 rfl ?_
          refine x_iconst (v := 3) X dX6_ticksOf_16 (by decide) ?_
          refine x_callR (rest := [.ref (κ.S0 + (b + 1))]) X hf (fun r hr => x_cS X cm_X6_ofAppend lkS_X6_54 ⟨Nat.le_of_ble_eq_true rfl, Nat.le_of_ble_eq_true rfl⟩ (m_X6_ofAppend hr) rfl rfl (Nat.le_of_ble_eq_true rfl) (x_room E _) dX6_ticksOf_17) (fun r17 hf => ?_)
          refine x_iald X 0 (yM_ht Y) (yM_1 Y) (yM_l Y 1 (by decide)) dX6_ticksOf_20 hf (fun x20 hf => ?_)
          refine x_iconst (v := 2) X dX6_ticksOf_21 (by decide) ?_
          refine x_icmp_ge (tgt := 46) X dX6_ticksOf_22 (by decide) hf (fun hf => ?_) (fun hf => ?_)
          · refine x_sub [0, 1, 2] rfl ?_
            exact JX4 v2_4 s4 hf
          · refine x_iload_n X dX6_ticksOf_25 rfl 3 rfl ?_
            refine x_if_eq (tgt := 46) X dX6_ticksOf_26 (by decide) hf (fun hf => ?_) (fun hf => ?_)
            · refine x_sub [0, 1, 2] rfl ?_
              exact JX4 v2_4 s4 hf
            · refine x_aload_n X dX6_ticksOf_29 rfl 0 rfl ?_
              refine x_callW (rest := []) (w := fun t => t) X E.1 hf (fun r t hr => x_cV (ci := 6) X cm_X6_tick lkV_X6_127 rfl ⟨Nat.le_of_ble_eq_true rfl, Nat.le_of_ble_eq_true rfl⟩ (yM_0 Y) (yM_l Y 0 (by decide)) (m_X6_tick (yM_hb Y s4) (yM_ht Y) (yM_htz Y) (yM_hp Y _) (yM_hp Y _) hr) rfl rfl (Nat.le_of_ble_eq_true rfl) (x_room E _) dX6_ticksOf_30) (fun r30 s30 hf => ?_)
              refine x_istore (lv' := [(4, .int r30), (0, .ref (κ.S0 + (b + 0))), (1, .int p1), (2, .int v2_4), (3, .int v3_4)]) X dX6_ticksOf_33 (by decide) rfl ?_
              refine x_iinc (v := v2_4 + 1) (lv' := [(2, .int (v2_4 + 1)), (4, .int r30), (0, .ref (κ.S0 + (b + 0))), (1, .int p1), (3, .int v3_4)]) X dX6_ticksOf_35 3 rfl rfl (by decide) rfl ?_
              refine x_aload_n X dX6_ticksOf_38 rfl 2 rfl ?_
              refine x_getf X fl_X6_114 (yM_0 Y) (yM_l Y 0 (by decide)) rfl dX6_ticksOf_39 ?_
              refine x_istore_n (lv' := [(3, .int (s30.2 3)), (2, .int (v2_4 + 1)), (4, .int r30), (0, .ref (κ.S0 + (b + 0))), (1, .int p1)]) X dX6_ticksOf_42 rfl (by decide) rfl ?_
              refine x_goto (tgt := 4) X dX6_ticksOf_43 (by decide) ?_
              refine x_sub [3, 4, 1, 0] rfl ?_
              exact ih4 (v2_4 + 1) (s30.2 3) s30 hf
    refine x_sub [2, 3, 1, 0] rfl ?_
    exact LL FU 0 1 σ hf
def f_X6_toldIn (σ : MS) (p1 : Int32) : Option (Int32 × MS) :=
  oR (f_X6_isAppend σ p1) (fun r2 => if r2 = 0 then (some ((-1), σ)) else (oR (f_X6_ofAppend p1 3) (fun r16 => oA 2204 (σ.1 1) r16 (fun x19 => if x19 ≤ 1 then (oV (f_X6_putAside σ) (fun t => t) (fun s28 => oW (f_X6_ticksOf s28 p1) (fun t => t) (fun r33 s33 => oV (f_X6_putBack s33) (fun t => t) (fun s38 => some (r33, s38))))) else (some ((-4), σ))))))
set_option maxRecDepth 100000 in
set_option maxHeartbeats 4000000 in
theorem m_X6_toldIn {l : Launch} {G : va_G} {tys : List (ClassId × FieldType)} {S0 : Nat} {h h1 h2 : Nat → va_E} {b cN' : Nat} {cI cZ : ClassId} {σ : MS} {τ : MS} {p1 : Int32} {r : Int32} (hb : b + 8 ≤ cN') (ht : tys[0]? = some (cI, .int)) (htz : tys[2]? = some (cZ, .boolean)) (e1 : h1 = ov h b (ml S0 cI cZ b σ)) (e2 : h2 = ov h b (ml S0 cI cZ b τ)) (hf : f_X6_toldIn σ p1 = some (r, τ)) : XMet l G tys S0 cN' yX6_toldIn cX6_toldIn 3 (some .int) 8 184 [.ref (S0 + (b + 0)), .int p1] h1 cN' (some (.int r)) h2 0 0 := by
  subst e1; subst e2
  refine XMet.ofE (ST := MS) (HP := fun σ => ov h b (ml S0 cI cZ b σ)) σ τ (by decide) (Nat.le_of_ble_eq_true rfl) ?_
  intro κ g1 g2 g3 g4 g5 g6 E X hQ
  subst g1; subst g2; subst g3; subst g4
  have Y : YM κ h b cI cZ := ⟨fun σ => by rw [g5], fun σ => by rw [g6]; exact hb, ht, htz⟩
  have X : XC κ cX6_toldIn 3 RX6 (some .int) 8 184 := X
  show XG κ σ 0 [(0, .ref (κ.S0 + (b + 0))), (1, .int p1)] []
  unfold f_X6_toldIn at hf
  refine x_aload_n X dX6_toldIn_0 rfl 0 rfl ?_
  refine x_iload_n X dX6_toldIn_1 rfl 1 rfl ?_
  refine x_callR (rest := []) X hf (fun r hr => x_cV (ci := 6) X cm_X6_isAppend lkV_X6_166 rfl ⟨Nat.le_of_ble_eq_true rfl, Nat.le_of_ble_eq_true rfl⟩ (yM_0 Y) (yM_l Y 0 (by decide)) (m_X6_isAppend (yM_hb Y σ) (yM_ht Y) (yM_htz Y) (yM_hp Y _) (yM_hp Y _) hr) rfl rfl (Nat.le_of_ble_eq_true rfl) (x_room E _) dX6_toldIn_2) (fun r2 hf => ?_)
  refine x_if_ne (tgt := 10) X dX6_toldIn_5 (by decide) hf (fun hf => ?_) (fun hf => ?_)
  · refine x_aload_n X dX6_toldIn_10 rfl 0 rfl ?_
    refine x_getf X fl_X6_7 (yM_0 Y) (yM_l Y 0 (by decide)) rfl dX6_toldIn_11 ?_
    refine x_iload_n X dX6_toldIn_14 rfl 1 rfl ?_
    refine x_iconst (v := 3) X dX6_toldIn_15 (by decide) ?_
    refine x_callR (rest := [.ref (κ.S0 + (b + 1))]) X hf (fun r hr => x_cS X cm_X6_ofAppend lkS_X6_54 ⟨Nat.le_of_ble_eq_true rfl, Nat.le_of_ble_eq_true rfl⟩ (m_X6_ofAppend hr) rfl rfl (Nat.le_of_ble_eq_true rfl) (x_room E _) dX6_toldIn_16) (fun r16 hf => ?_)
    refine x_iald X 0 (yM_ht Y) (yM_1 Y) (yM_l Y 1 (by decide)) dX6_toldIn_19 hf (fun x19 hf => ?_)
    refine x_iconst (v := 1) X dX6_toldIn_20 (by decide) ?_
    refine x_icmp_le (tgt := 27) X dX6_toldIn_21 (by decide) hf (fun hf => ?_) (fun hf => ?_)
    · refine x_aload_n X dX6_toldIn_27 rfl 0 rfl ?_
      refine x_callV (rest := []) (w := fun t => t) X E.1 hf (fun t hr => x_cV (ci := 6) X cm_X6_putAside lkV_X6_157 rfl ⟨Nat.le_of_ble_eq_true rfl, Nat.le_of_ble_eq_true rfl⟩ (yM_0 Y) (yM_l Y 0 (by decide)) (m_X6_putAside (yM_hb Y σ) (yM_ht Y) (yM_htz Y) (yM_hp Y _) (yM_hp Y _) hr) rfl rfl (Nat.le_of_ble_eq_true rfl) (x_room E _) dX6_toldIn_28) (fun s28 hf => ?_)
      refine x_aload_n X dX6_toldIn_31 rfl 0 rfl ?_
      refine x_iload_n X dX6_toldIn_32 rfl 1 rfl ?_
      refine x_callW (rest := []) (w := fun t => t) X E.1 hf (fun r t hr => x_cV (ci := 6) X cm_X6_ticksOf lkV_X6_169 rfl ⟨Nat.le_of_ble_eq_true rfl, Nat.le_of_ble_eq_true rfl⟩ (yM_0 Y) (yM_l Y 0 (by decide)) (m_X6_ticksOf (yM_hb Y s28) (yM_ht Y) (yM_htz Y) (yM_hp Y _) (yM_hp Y _) hr) rfl rfl (Nat.le_of_ble_eq_true rfl) (x_room E _) dX6_toldIn_33) (fun r33 s33 hf => ?_)
      refine x_istore_n (lv' := [(2, .int r33), (0, .ref (κ.S0 + (b + 0))), (1, .int p1)]) X dX6_toldIn_36 rfl (by decide) rfl ?_
      refine x_aload_n X dX6_toldIn_37 rfl 1 rfl ?_
      refine x_callV (rest := []) (w := fun t => t) X E.1 hf (fun t hr => x_cV (ci := 6) X cm_X6_putBack lkV_X6_160 rfl ⟨Nat.le_of_ble_eq_true rfl, Nat.le_of_ble_eq_true rfl⟩ (yM_0 Y) (yM_l Y 0 (by decide)) (m_X6_putBack (yM_hb Y s33) (yM_ht Y) (yM_htz Y) (yM_hp Y _) (yM_hp Y _) hr) rfl rfl (Nat.le_of_ble_eq_true rfl) (x_room E _) dX6_toldIn_38) (fun s38 hf => ?_)
      refine x_iload_n X dX6_toldIn_41 rfl 0 rfl ?_
      exact x_iretW (σ0 := σ) X E hQ hf dX6_toldIn_42
    · refine x_bipush (v := (-4)) X dX6_toldIn_24 (by decide) ?_
      exact x_iretW (σ0 := σ) X E hQ hf dX6_toldIn_26
  · refine x_iconst (v := (-1)) X dX6_toldIn_8 (by decide) ?_
    exact x_iretW (σ0 := σ) X E hQ hf dX6_toldIn_9
def f_X6_would (σ : MS) (p1 : Int32) (p2 : Int32) : Option (Int32 × MS) :=
  oR (f_X6_isZone p1) (fun r1 => if r1 = 0 then (some ((-1), σ)) else (oR (f_X6_in p2 0 1) (fun r12 => if r12 = 0 then (some ((-2), σ)) else (oV (f_X6_putAside σ) (fun t => t) (fun s22 => oW (f_X6_send s22 0 p1 0) (fun t => t) (fun r29 s29 => oW (f_X6_ticksOf s29 r29) (fun t => t) (fun r35 s35 => oR (f_X6_ofAppend r29 4) (fun r46 => oA 2204 (s35.1 1) r46 (fun x49 => oV (f_X6_putBack s35) (fun t => t) (fun s53 => if r35 = (-5) then (some (r35, s53)) else (if p2 = 1 then (some (r35, s53)) else (some (x49, s53)))))))))))))
set_option maxRecDepth 100000 in
set_option maxHeartbeats 4000000 in
theorem m_X6_would {l : Launch} {G : va_G} {tys : List (ClassId × FieldType)} {S0 : Nat} {h h1 h2 : Nat → va_E} {b cN' : Nat} {cI cZ : ClassId} {σ : MS} {τ : MS} {p1 : Int32} {p2 : Int32} {r : Int32} (hb : b + 8 ≤ cN') (ht : tys[0]? = some (cI, .int)) (htz : tys[2]? = some (cZ, .boolean)) (e1 : h1 = ov h b (ml S0 cI cZ b σ)) (e2 : h2 = ov h b (ml S0 cI cZ b τ)) (hf : f_X6_would σ p1 p2 = some (r, τ)) : XMet l G tys S0 cN' yX6_would cX6_would 6 (some .int) 8 184 [.ref (S0 + (b + 0)), .int p1, .int p2] h1 cN' (some (.int r)) h2 0 0 := by
  subst e1; subst e2
  refine XMet.ofE (ST := MS) (HP := fun σ => ov h b (ml S0 cI cZ b σ)) σ τ (by decide) (Nat.le_of_ble_eq_true rfl) ?_
  intro κ g1 g2 g3 g4 g5 g6 E X hQ
  subst g1; subst g2; subst g3; subst g4
  have Y : YM κ h b cI cZ := ⟨fun σ => by rw [g5], fun σ => by rw [g6]; exact hb, ht, htz⟩
  have X : XC κ cX6_would 6 RX6 (some .int) 8 184 := X
  show XG κ σ 0 [(0, .ref (κ.S0 + (b + 0))), (1, .int p1), (2, .int p2)] []
  unfold f_X6_would at hf
  refine x_iload_n X dX6_would_0 rfl 1 rfl ?_
  refine x_callR (rest := []) X hf (fun r hr => x_cS X cm_X6_isZone lkS_X6_64 ⟨Nat.le_of_ble_eq_true rfl, Nat.le_of_ble_eq_true rfl⟩ (m_X6_isZone hr) rfl rfl (Nat.le_of_ble_eq_true rfl) (x_room E _) dX6_would_1) (fun r1 hf => ?_)
  refine x_if_ne (tgt := 9) X dX6_would_4 (by decide) hf (fun hf => ?_) (fun hf => ?_)
  · refine x_iload_n X dX6_would_9 rfl 2 rfl ?_
    refine x_iconst (v := 0) X dX6_would_10 (by decide) ?_
    refine x_iconst (v := 1) X dX6_would_11 (by decide) ?_
    refine x_callR (rest := []) X hf (fun r hr => x_cS X cm_X6_in lkS_X6_43 ⟨Nat.le_of_ble_eq_true rfl, Nat.le_of_ble_eq_true rfl⟩ (m_X6_in hr) rfl rfl (Nat.le_of_ble_eq_true rfl) (x_room E _) dX6_would_12) (fun r12 hf => ?_)
    refine x_if_ne (tgt := 21) X dX6_would_15 (by decide) hf (fun hf => ?_) (fun hf => ?_)
    · refine x_aload_n X dX6_would_21 rfl 0 rfl ?_
      refine x_callV (rest := []) (w := fun t => t) X E.1 hf (fun t hr => x_cV (ci := 6) X cm_X6_putAside lkV_X6_157 rfl ⟨Nat.le_of_ble_eq_true rfl, Nat.le_of_ble_eq_true rfl⟩ (yM_0 Y) (yM_l Y 0 (by decide)) (m_X6_putAside (yM_hb Y σ) (yM_ht Y) (yM_htz Y) (yM_hp Y _) (yM_hp Y _) hr) rfl rfl (Nat.le_of_ble_eq_true rfl) (x_room E _) dX6_would_22) (fun s22 hf => ?_)
      refine x_aload_n X dX6_would_25 rfl 0 rfl ?_
      refine x_iconst (v := 0) X dX6_would_26 (by decide) ?_
      refine x_iload_n X dX6_would_27 rfl 1 rfl ?_
      refine x_iconst (v := 0) X dX6_would_28 (by decide) ?_
      refine x_callW (rest := []) (w := fun t => t) X E.1 hf (fun r t hr => x_cV (ci := 6) X cm_X6_send lkV_X6_77 rfl ⟨Nat.le_of_ble_eq_true rfl, Nat.le_of_ble_eq_true rfl⟩ (yM_0 Y) (yM_l Y 0 (by decide)) (m_X6_send (yM_hb Y s22) (yM_ht Y) (yM_htz Y) (yM_hp Y _) (yM_hp Y _) hr) rfl rfl (Nat.le_of_ble_eq_true rfl) (x_room E _) dX6_would_29) (fun r29 s29 hf => ?_)
      refine x_istore_n (lv' := [(3, .int r29), (0, .ref (κ.S0 + (b + 0))), (1, .int p1), (2, .int p2)]) X dX6_would_32 rfl (by decide) rfl ?_
      refine x_aload_n X dX6_would_33 rfl 1 rfl ?_
      refine x_iload_n X dX6_would_34 rfl 0 rfl ?_
      refine x_callW (rest := []) (w := fun t => t) X E.1 hf (fun r t hr => x_cV (ci := 6) X cm_X6_ticksOf lkV_X6_169 rfl ⟨Nat.le_of_ble_eq_true rfl, Nat.le_of_ble_eq_true rfl⟩ (yM_0 Y) (yM_l Y 0 (by decide)) (m_X6_ticksOf (yM_hb Y s29) (yM_ht Y) (yM_htz Y) (yM_hp Y _) (yM_hp Y _) hr) rfl rfl (Nat.le_of_ble_eq_true rfl) (x_room E _) dX6_would_35) (fun r35 s35 hf => ?_)
      refine x_istore (lv' := [(4, .int r35), (3, .int r29), (0, .ref (κ.S0 + (b + 0))), (1, .int p1), (2, .int p2)]) X dX6_would_38 (by decide) rfl ?_
      refine x_aload_n X dX6_would_40 rfl 2 rfl ?_
      refine x_getf X fl_X6_7 (yM_0 Y) (yM_l Y 0 (by decide)) rfl dX6_would_41 ?_
      refine x_iload_n X dX6_would_44 rfl 1 rfl ?_
      refine x_iconst (v := 4) X dX6_would_45 (by decide) ?_
      refine x_callR (rest := [.ref (κ.S0 + (b + 1))]) X hf (fun r hr => x_cS X cm_X6_ofAppend lkS_X6_54 ⟨Nat.le_of_ble_eq_true rfl, Nat.le_of_ble_eq_true rfl⟩ (m_X6_ofAppend hr) rfl rfl (Nat.le_of_ble_eq_true rfl) (x_room E _) dX6_would_46) (fun r46 hf => ?_)
      refine x_iald X 0 (yM_ht Y) (yM_1 Y) (yM_l Y 1 (by decide)) dX6_would_49 hf (fun x49 hf => ?_)
      refine x_istore (lv' := [(5, .int x49), (4, .int r35), (3, .int r29), (0, .ref (κ.S0 + (b + 0))), (1, .int p1), (2, .int p2)]) X dX6_would_50 (by decide) rfl ?_
      refine x_aload_n X dX6_would_52 rfl 3 rfl ?_
      refine x_callV (rest := []) (w := fun t => t) X E.1 hf (fun t hr => x_cV (ci := 6) X cm_X6_putBack lkV_X6_160 rfl ⟨Nat.le_of_ble_eq_true rfl, Nat.le_of_ble_eq_true rfl⟩ (yM_0 Y) (yM_l Y 0 (by decide)) (m_X6_putBack (yM_hb Y s35) (yM_ht Y) (yM_htz Y) (yM_hp Y _) (yM_hp Y _) hr) rfl rfl (Nat.le_of_ble_eq_true rfl) (x_room E _) dX6_would_53) (fun s53 hf => ?_)
      refine x_iload X dX6_would_56 1 rfl ?_
      refine x_bipush (v := (-5)) X dX6_would_58 (by decide) ?_
      refine x_icmp_eq (tgt := 68) X dX6_would_60 (by decide) hf (fun hf => ?_) (fun hf => ?_)
      · refine x_iload X dX6_would_68 1 rfl ?_
        refine x_goto (tgt := 75) X dX6_would_70 (by decide) ?_
        exact x_iretW (σ0 := σ) X E hQ hf dX6_would_75
      · refine x_iload_n X dX6_would_63 rfl 5 rfl ?_
        refine x_iconst (v := 1) X dX6_would_64 (by decide) ?_
        refine x_icmp_ne (tgt := 73) X dX6_would_65 (by decide) hf (fun hf => ?_) (fun hf => ?_)
        · refine x_iload X dX6_would_73 0 rfl ?_
          exact x_iretW (σ0 := σ) X E hQ hf dX6_would_75
        · refine x_iload X dX6_would_68 1 rfl ?_
          refine x_goto (tgt := 75) X dX6_would_70 (by decide) ?_
          exact x_iretW (σ0 := σ) X E hQ hf dX6_would_75
    · refine x_bipush (v := (-2)) X dX6_would_18 (by decide) ?_
      exact x_iretW (σ0 := σ) X E hQ hf dX6_would_20
  · refine x_iconst (v := (-1)) X dX6_would_7 (by decide) ?_
    exact x_iretW (σ0 := σ) X E hQ hf dX6_would_8
def f_X6_count (σ : MS) (p1 : Int32) : Option (Int32) :=
  oJ (κ := Option (Int32)) (oJ (κ := Int32 → Option (Int32)) (fun t0_99 => oR (f_X6_zones σ t0_99) (fun r99 => some r99)) (fun k99 => if p1 = 6 then (k99 1) else (k99 0))) (fun k87 => oJ (κ := Option (Int32)) (oR (f_X6_appends σ (p1 - 8) (-1)) (fun r116 => some r116)) (fun k110 => if p1 = 0 then (oA 2204 (σ.1 1) p1 (fun x85_5 => some x85_5)) else (if p1 = 1 then (oA 2204 (σ.1 1) p1 (fun x85_4 => some x85_4)) else (if p1 = 2 then (oA 2204 (σ.1 1) p1 (fun x85_3 => some x85_3)) else (if p1 = 3 then (oA 2204 (σ.1 1) p1 (fun x85_2 => some x85_2)) else (if p1 = 4 then (oA 2204 (σ.1 1) p1 (fun x85 => some x85)) else (if p1 = 5 then k87 else (if p1 = 6 then k87 else (if p1 = 7 then (oA 2204 (σ.1 1) 5 (fun x108 => some x108)) else (if p1 = 8 then k110 else (if p1 = 9 then k110 else (if p1 = 10 then k110 else (if p1 = 11 then k110 else (if p1 = 12 then (oA 2204 (σ.1 1) 7 (fun x126 => some x126)) else (if p1 = 13 then (oA 2204 (σ.1 1) 6 (fun x134 => some x134)) else (if p1 = 14 then (some (σ.2 0)) else (if p1 = 15 then (some (σ.2 2)) else (some (-2)))))))))))))))))))
set_option maxRecDepth 100000 in
set_option maxHeartbeats 4000000 in
theorem m_X6_count {l : Launch} {G : va_G} {tys : List (ClassId × FieldType)} {S0 : Nat} {h h1 h2 : Nat → va_E} {b cN' : Nat} {cI cZ : ClassId} {σ : MS} {p1 : Int32} {r : Int32} (hb : b + 8 ≤ cN') (ht : tys[0]? = some (cI, .int)) (htz : tys[2]? = some (cZ, .boolean)) (e1 : h1 = ov h b (ml S0 cI cZ b σ)) (e2 : h2 = ov h b (ml S0 cI cZ b σ)) (hf : f_X6_count σ p1 = some r) : XMet l G tys S0 cN' yX6_count cX6_count 2 (some .int) 2 45 [.ref (S0 + (b + 0)), .int p1] h1 cN' (some (.int r)) h2 0 0 := by
  subst e1; subst e2
  refine XMet.ofE (ST := MS) (HP := fun σ => ov h b (ml S0 cI cZ b σ)) σ σ (by decide) (Nat.le_of_ble_eq_true rfl) ?_
  intro κ g1 g2 g3 g4 g5 g6 E X hQ
  subst g1; subst g2; subst g3; subst g4
  have Y : YM κ h b cI cZ := ⟨fun σ => by rw [g5], fun σ => by rw [g6]; exact hb, ht, htz⟩
  have X : XC κ cX6_count 2 RX6 (some .int) 2 45 := X
  show XG κ σ 0 [(0, .ref (κ.S0 + (b + 0))), (1, .int p1)] []
  unfold f_X6_count at hf
  refine x_iload_n X dX6_count_0 rfl 1 rfl ?_
  refine x_join (fun k87 => k87 = some r → XG κ σ 87 [(0, .ref (κ.S0 + (b + 0))), (1, .int p1)] []) hf (fun hf => ?_) (fun k87 J87 hf => ?_)
  · refine x_aload_n X dX6_count_87 rfl 0 rfl ?_
    refine x_iload_n X dX6_count_88 rfl 1 rfl ?_
    refine x_bipush (v := 6) X dX6_count_89 (by decide) ?_
    refine x_join (fun k99 => ∀ (t0_99 : Int32), k99 t0_99 = some r → XG κ σ 99 [] [.int t0_99, .ref (κ.S0 + (b + 0))]) hf (fun t0_99 hf => ?_) (fun k99 J99 hf => ?_)
    · refine x_callR (rest := []) X hf (fun r hr => x_cV (ci := 6) X cm_X6_zones lkV_X6_57 rfl ⟨Nat.le_of_ble_eq_true rfl, Nat.le_of_ble_eq_true rfl⟩ (yM_0 Y) (yM_l Y 0 (by decide)) (m_X6_zones (yM_hb Y σ) (yM_ht Y) (yM_htz Y) (yM_hp Y _) (yM_hp Y _) hr) rfl rfl (Nat.le_of_ble_eq_true rfl) (x_room E _) dX6_count_99) (fun r99 hf => ?_)
      exact x_iretR (σ0 := σ) X E hQ hf dX6_count_102
    · refine x_icmp_ne (tgt := 98) X dX6_count_91 (by decide) hf (fun hf => ?_) (fun hf => ?_)
      · refine x_iconst (v := 0) X dX6_count_98 (by decide) ?_
        refine x_sub [] rfl ?_
        exact J99 0 hf
      · refine x_iconst (v := 1) X dX6_count_94 (by decide) ?_
        refine x_goto (tgt := 99) X dX6_count_95 (by decide) ?_
        refine x_sub [] rfl ?_
        exact J99 1 hf
  · refine x_join (fun k110 => k110 = some r → XG κ σ 110 [(0, .ref (κ.S0 + (b + 0))), (1, .int p1)] []) hf (fun hf => ?_) (fun k110 J110 hf => ?_)
    · refine x_aload_n X dX6_count_110 rfl 0 rfl ?_
      refine x_iload_n X dX6_count_111 rfl 1 rfl ?_
      refine x_bipush (v := 8) X dX6_count_112 (by decide) ?_
      refine x_isub X dX6_count_114 ?_
      refine x_iconst (v := (-1)) X dX6_count_115 (by decide) ?_
      refine x_callR (rest := []) X hf (fun r hr => x_cV (ci := 6) X cm_X6_appends lkV_X6_101 rfl ⟨Nat.le_of_ble_eq_true rfl, Nat.le_of_ble_eq_true rfl⟩ (yM_0 Y) (yM_l Y 0 (by decide)) (m_X6_appends (yM_hb Y σ) (yM_ht Y) (yM_htz Y) (yM_hp Y _) (yM_hp Y _) hr) rfl rfl (Nat.le_of_ble_eq_true rfl) (x_room E _) dX6_count_116) (fun r116 hf => ?_)
      exact x_iretR (σ0 := σ) X E hQ hf dX6_count_119
    · refine x_if hf (fun c0 hf => ?_) (fun c0 hf => ?_)
      · refine x_tabIn (off := 79) (tgt := 80) X dX6_count_1 (by rw [c0]; decide) (by rw [c0]; decide) (by rw [c0]; rfl) (by decide) ?_
        refine x_aload_n X dX6_count_80 rfl 0 rfl ?_
        refine x_getf X fl_X6_7 (yM_0 Y) (yM_l Y 0 (by decide)) rfl dX6_count_81 ?_
        refine x_iload_n X dX6_count_84 rfl 1 rfl ?_
        refine x_iald X 0 (yM_ht Y) (yM_1 Y) (yM_l Y 1 (by decide)) dX6_count_85 hf (fun x85_5 hf => ?_)
        exact x_iretR (σ0 := σ) X E hQ hf dX6_count_86
      · refine x_if hf (fun c1 hf => ?_) (fun c1 hf => ?_)
        · refine x_tabIn (off := 79) (tgt := 80) X dX6_count_1 (by rw [c1]; decide) (by rw [c1]; decide) (by rw [c1]; rfl) (by decide) ?_
          refine x_aload_n X dX6_count_80 rfl 0 rfl ?_
          refine x_getf X fl_X6_7 (yM_0 Y) (yM_l Y 0 (by decide)) rfl dX6_count_81 ?_
          refine x_iload_n X dX6_count_84 rfl 1 rfl ?_
          refine x_iald X 0 (yM_ht Y) (yM_1 Y) (yM_l Y 1 (by decide)) dX6_count_85 hf (fun x85_4 hf => ?_)
          exact x_iretR (σ0 := σ) X E hQ hf dX6_count_86
        · refine x_if hf (fun c2 hf => ?_) (fun c2 hf => ?_)
          · refine x_tabIn (off := 79) (tgt := 80) X dX6_count_1 (by rw [c2]; decide) (by rw [c2]; decide) (by rw [c2]; rfl) (by decide) ?_
            refine x_aload_n X dX6_count_80 rfl 0 rfl ?_
            refine x_getf X fl_X6_7 (yM_0 Y) (yM_l Y 0 (by decide)) rfl dX6_count_81 ?_
            refine x_iload_n X dX6_count_84 rfl 1 rfl ?_
            refine x_iald X 0 (yM_ht Y) (yM_1 Y) (yM_l Y 1 (by decide)) dX6_count_85 hf (fun x85_3 hf => ?_)
            exact x_iretR (σ0 := σ) X E hQ hf dX6_count_86
          · refine x_if hf (fun c3 hf => ?_) (fun c3 hf => ?_)
            · refine x_tabIn (off := 79) (tgt := 80) X dX6_count_1 (by rw [c3]; decide) (by rw [c3]; decide) (by rw [c3]; rfl) (by decide) ?_
              refine x_aload_n X dX6_count_80 rfl 0 rfl ?_
              refine x_getf X fl_X6_7 (yM_0 Y) (yM_l Y 0 (by decide)) rfl dX6_count_81 ?_
              refine x_iload_n X dX6_count_84 rfl 1 rfl ?_
              refine x_iald X 0 (yM_ht Y) (yM_1 Y) (yM_l Y 1 (by decide)) dX6_count_85 hf (fun x85_2 hf => ?_)
              exact x_iretR (σ0 := σ) X E hQ hf dX6_count_86
            · refine x_if hf (fun c4 hf => ?_) (fun c4 hf => ?_)
              · refine x_tabIn (off := 79) (tgt := 80) X dX6_count_1 (by rw [c4]; decide) (by rw [c4]; decide) (by rw [c4]; rfl) (by decide) ?_
                refine x_aload_n X dX6_count_80 rfl 0 rfl ?_
                refine x_getf X fl_X6_7 (yM_0 Y) (yM_l Y 0 (by decide)) rfl dX6_count_81 ?_
                refine x_iload_n X dX6_count_84 rfl 1 rfl ?_
                refine x_iald X 0 (yM_ht Y) (yM_1 Y) (yM_l Y 1 (by decide)) dX6_count_85 hf (fun x85 hf => ?_)
                exact x_iretR (σ0 := σ) X E hQ hf dX6_count_86
              · refine x_if hf (fun c5 hf => ?_) (fun c5 hf => ?_)
                · refine x_tabIn (off := 86) (tgt := 87) X dX6_count_1 (by rw [c5]; decide) (by rw [c5]; decide) (by rw [c5]; rfl) (by decide) ?_
                  exact J87 hf
                · refine x_if hf (fun c6 hf => ?_) (fun c6 hf => ?_)
                  · refine x_tabIn (off := 86) (tgt := 87) X dX6_count_1 (by rw [c6]; decide) (by rw [c6]; decide) (by rw [c6]; rfl) (by decide) ?_
                    exact J87 hf
                  · refine x_if hf (fun c7 hf => ?_) (fun c7 hf => ?_)
                    · refine x_tabIn (off := 102) (tgt := 103) X dX6_count_1 (by rw [c7]; decide) (by rw [c7]; decide) (by rw [c7]; rfl) (by decide) ?_
                      refine x_aload_n X dX6_count_103 rfl 0 rfl ?_
                      refine x_getf X fl_X6_7 (yM_0 Y) (yM_l Y 0 (by decide)) rfl dX6_count_104 ?_
                      refine x_iconst (v := 5) X dX6_count_107 (by decide) ?_
                      refine x_iald X 0 (yM_ht Y) (yM_1 Y) (yM_l Y 1 (by decide)) dX6_count_108 hf (fun x108 hf => ?_)
                      exact x_iretR (σ0 := σ) X E hQ hf dX6_count_109
                    · refine x_if hf (fun c8 hf => ?_) (fun c8 hf => ?_)
                      · refine x_tabIn (off := 109) (tgt := 110) X dX6_count_1 (by rw [c8]; decide) (by rw [c8]; decide) (by rw [c8]; rfl) (by decide) ?_
                        exact J110 hf
                      · refine x_if hf (fun c9 hf => ?_) (fun c9 hf => ?_)
                        · refine x_tabIn (off := 109) (tgt := 110) X dX6_count_1 (by rw [c9]; decide) (by rw [c9]; decide) (by rw [c9]; rfl) (by decide) ?_
                          exact J110 hf
                        · refine x_if hf (fun c10 hf => ?_) (fun c10 hf => ?_)
                          · refine x_tabIn (off := 109) (tgt := 110) X dX6_count_1 (by rw [c10]; decide) (by rw [c10]; decide) (by rw [c10]; rfl) (by decide) ?_
                            exact J110 hf
                          · refine x_if hf (fun c11 hf => ?_) (fun c11 hf => ?_)
                            · refine x_tabIn (off := 109) (tgt := 110) X dX6_count_1 (by rw [c11]; decide) (by rw [c11]; decide) (by rw [c11]; rfl) (by decide) ?_
                              exact J110 hf
                            · refine x_if hf (fun c12 hf => ?_) (fun c12 hf => ?_)
                              · refine x_tabIn (off := 119) (tgt := 120) X dX6_count_1 (by rw [c12]; decide) (by rw [c12]; decide) (by rw [c12]; rfl) (by decide) ?_
                                refine x_aload_n X dX6_count_120 rfl 0 rfl ?_
                                refine x_getf X fl_X6_7 (yM_0 Y) (yM_l Y 0 (by decide)) rfl dX6_count_121 ?_
                                refine x_bipush (v := 7) X dX6_count_124 (by decide) ?_
                                refine x_iald X 0 (yM_ht Y) (yM_1 Y) (yM_l Y 1 (by decide)) dX6_count_126 hf (fun x126 hf => ?_)
                                exact x_iretR (σ0 := σ) X E hQ hf dX6_count_127
                              · refine x_if hf (fun c13 hf => ?_) (fun c13 hf => ?_)
                                · refine x_tabIn (off := 127) (tgt := 128) X dX6_count_1 (by rw [c13]; decide) (by rw [c13]; decide) (by rw [c13]; rfl) (by decide) ?_
                                  refine x_aload_n X dX6_count_128 rfl 0 rfl ?_
                                  refine x_getf X fl_X6_7 (yM_0 Y) (yM_l Y 0 (by decide)) rfl dX6_count_129 ?_
                                  refine x_bipush (v := 6) X dX6_count_132 (by decide) ?_
                                  refine x_iald X 0 (yM_ht Y) (yM_1 Y) (yM_l Y 1 (by decide)) dX6_count_134 hf (fun x134 hf => ?_)
                                  exact x_iretR (σ0 := σ) X E hQ hf dX6_count_135
                                · refine x_if hf (fun c14 hf => ?_) (fun c14 hf => ?_)
                                  · refine x_tabIn (off := 135) (tgt := 136) X dX6_count_1 (by rw [c14]; decide) (by rw [c14]; decide) (by rw [c14]; rfl) (by decide) ?_
                                    refine x_aload_n X dX6_count_136 rfl 0 rfl ?_
                                    refine x_getf X fl_X6_47 (yM_0 Y) (yM_l Y 0 (by decide)) rfl dX6_count_137 ?_
                                    exact x_iretR (σ0 := σ) X E hQ hf dX6_count_140
                                  · refine x_if hf (fun c15 hf => ?_) (fun c15 hf => ?_)
                                    · refine x_tabIn (off := 140) (tgt := 141) X dX6_count_1 (by rw [c15]; decide) (by rw [c15]; decide) (by rw [c15]; rfl) (by decide) ?_
                                      refine x_aload_n X dX6_count_141 rfl 0 rfl ?_
                                      refine x_getf X fl_X6_136 (yM_0 Y) (yM_l Y 0 (by decide)) rfl dX6_count_142 ?_
                                      exact x_iretR (σ0 := σ) X E hQ hf dX6_count_145
                                    · refine x_tabOut (tgt := 146) X dX6_count_1 (by have h0 := lv_neT c0 (a := 0) rfl; have h1 := lv_neT c1 (a := 1) rfl; have h2 := lv_neT c2 (a := 2) rfl; have h3 := lv_neT c3 (a := 3) rfl; have h4 := lv_neT c4 (a := 4) rfl; have h5 := lv_neT c5 (a := 5) rfl; have h6 := lv_neT c6 (a := 6) rfl; have h7 := lv_neT c7 (a := 7) rfl; have h8 := lv_neT c8 (a := 8) rfl; have h9 := lv_neT c9 (a := 9) rfl; have h10 := lv_neT c10 (a := 10) rfl; have h11 := lv_neT c11 (a := 11) rfl; have h12 := lv_neT c12 (a := 12) rfl; have h13 := lv_neT c13 (a := 13) rfl; have h14 := lv_neT c14 (a := 14) rfl; have h15 := lv_neT c15 (a := 15) rfl; omega) (by decide) ?_
                                      refine x_bipush (v := (-2)) X dX6_count_146 (by decide) ?_
                                      exact x_iretR (σ0 := σ) X E hQ hf dX6_count_148
