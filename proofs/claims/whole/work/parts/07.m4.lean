def f_X6_opens (σ : MS) (p1 : Int32) : Option (Int32 × MS) :=
  oR (f_X6_of p1 0) (fun r6 => oA 2204 (σ.1 1) r6 (fun x9 => if x9 = 1 then ((oB 1).map (fun x => (x, σ))) else (oJ (κ := Option (Int32 × MS)) (oR (f_X6_zones σ 0) (fun r40 => oA 2204 (σ.1 1) 1 (fun x48 => oJ (κ := MS → Option (Int32 × MS)) (fun s_87 => oR (f_X6_of p1 0) (fun r93 => oS 2204 (s_87.1 1) r93 1 (sA s_87 1) (fun s97 => (oB 1).map (fun x => (x, s97))))) (fun k87 => if r40 < x48 then (k87 σ) else (oR (f_X6_idlest σ) (fun r53 => if r53 = (-5) then ((oB 0).map (fun x => (x, σ))) else (oR (f_X6_of r53 0) (fun r71 => oS 2204 (σ.1 1) r71 2 (sA σ 1) (fun s75 => oA 2204 (s75.1 1) 7 (fun x83 => oS 2204 (s75.1 1) 7 (x83 + 1) (sA s75 1) (fun s86 => k87 s86))))))))))) (fun k38 => if x9 = 0 then (oR (f_X6_zones σ 1) (fun r24 => oA 2204 (σ.1 1) 2 (fun x32 => if r24 < x32 then k38 else ((oB 0).map (fun x => (x, σ)))))) else k38))))
set_option maxRecDepth 100000 in
set_option maxHeartbeats 4000000 in
theorem m_X6_opens {l : Launch} {G : va_G} {tys : List (ClassId × FieldType)} {S0 : Nat} {h h1 h2 : Nat → va_E} {b cN' : Nat} {cI cZ : ClassId} {σ : MS} {τ : MS} {p1 : Int32} {r : Int32} (hb : b + 8 ≤ cN') (ht : tys[0]? = some (cI, .int)) (htz : tys[2]? = some (cZ, .boolean)) (e1 : h1 = ov h b (ml S0 cI cZ b σ)) (e2 : h2 = ov h b (ml S0 cI cZ b τ)) (hf : f_X6_opens σ p1 = some (r, τ)) : XMet l G tys S0 cN' yX6_opens cX6_opens 4 (some .boolean) 3 68 [.ref (S0 + (b + 0)), .int p1] h1 cN' (some (.int r)) h2 0 0 := by
  subst e1; subst e2
  refine XMet.ofE (ST := MS) (HP := fun σ => ov h b (ml S0 cI cZ b σ)) σ τ (by decide) (Nat.le_of_ble_eq_true rfl) ?_
  intro κ g1 g2 g3 g4 g5 g6 E X hQ
  subst g1; subst g2; subst g3; subst g4
  have Y : YM κ h b cI cZ := ⟨fun σ => by rw [g5], fun σ => by rw [g6]; exact hb, ht, htz⟩
  have X : XC κ cX6_opens 4 RX6 (some .boolean) 3 68 := X
  show XG κ σ 0 [(0, .ref (κ.S0 + (b + 0))), (1, .int p1)] []
  unfold f_X6_opens at hf
  refine x_aload_n X dX6_opens_0 rfl 0 rfl ?_
  refine x_getf X fl_X6_7 (yM_0 Y) (yM_l Y 0 (by decide)) rfl dX6_opens_1 ?_
  refine x_iload_n X dX6_opens_4 rfl 1 rfl ?_
  refine x_iconst (v := 0) X dX6_opens_5 (by decide) ?_
  refine x_callR (rest := [.ref (κ.S0 + (b + 1))]) X hf (fun r hr => x_cS X cm_X6_of lkS_X6_32 ⟨Nat.le_of_ble_eq_true rfl, Nat.le_of_ble_eq_true rfl⟩ (m_X6_of hr) rfl rfl (Nat.le_of_ble_eq_true rfl) (x_room E _) dX6_opens_6) (fun r6 hf => ?_)
  refine x_iald X 0 (yM_ht Y) (yM_1 Y) (yM_l Y 1 (by decide)) dX6_opens_9 hf (fun x9 hf => ?_)
  refine x_istore_n (lv' := [(2, .int x9), (0, .ref (κ.S0 + (b + 0))), (1, .int p1)]) X dX6_opens_10 rfl (by decide) rfl ?_
  refine x_iload_n X dX6_opens_11 rfl 0 rfl ?_
  refine x_iconst (v := 1) X dX6_opens_12 (by decide) ?_
  refine x_icmp_ne (tgt := 18) X dX6_opens_13 (by decide) hf (fun hf => ?_) (fun hf => ?_)
  · refine x_iload_n X dX6_opens_18 rfl 0 rfl ?_
    refine x_join (fun k38 => k38 = some (r, τ) → XG κ σ 38 [(0, .ref (κ.S0 + (b + 0))), (1, .int p1)] []) hf (fun hf => ?_) (fun k38 J38 hf => ?_)
    · refine x_aload_n X dX6_opens_38 rfl 0 rfl ?_
      refine x_iconst (v := 0) X dX6_opens_39 (by decide) ?_
      refine x_callR (rest := []) X hf (fun r hr => x_cV (ci := 6) X cm_X6_zones lkV_X6_57 rfl ⟨Nat.le_of_ble_eq_true rfl, Nat.le_of_ble_eq_true rfl⟩ (yM_0 Y) (yM_l Y 0 (by decide)) (m_X6_zones (yM_hb Y σ) (yM_ht Y) (yM_htz Y) (yM_hp Y _) (yM_hp Y _) hr) rfl rfl (Nat.le_of_ble_eq_true rfl) (x_room E _) dX6_opens_40) (fun r40 hf => ?_)
      refine x_aload_n X dX6_opens_43 rfl 0 rfl ?_
      refine x_getf X fl_X6_7 (yM_0 Y) (yM_l Y 0 (by decide)) rfl dX6_opens_44 ?_
      refine x_iconst (v := 1) X dX6_opens_47 (by decide) ?_
      refine x_iald X 0 (yM_ht Y) (yM_1 Y) (yM_l Y 1 (by decide)) dX6_opens_48 hf (fun x48 hf => ?_)
      refine x_join (fun k87 => ∀  (s_87 : MS), k87 s_87 = some (r, τ) → XG κ s_87 87 [(0, .ref (κ.S0 + (b + 0))), (1, .int p1)] []) hf (fun s_87 hf => ?_) (fun k87 J87 hf => ?_)
      · refine x_aload_n X dX6_opens_87 rfl 0 rfl ?_
        refine x_getf X fl_X6_7 (yM_0 Y) (yM_l Y 0 (by decide)) rfl dX6_opens_88 ?_
        refine x_iload_n X dX6_opens_91 rfl 1 rfl ?_
        refine x_iconst (v := 0) X dX6_opens_92 (by decide) ?_
        refine x_callR (rest := [.ref (κ.S0 + (b + 1))]) X hf (fun r hr => x_cS X cm_X6_of lkS_X6_32 ⟨Nat.le_of_ble_eq_true rfl, Nat.le_of_ble_eq_true rfl⟩ (m_X6_of hr) rfl rfl (Nat.le_of_ble_eq_true rfl) (x_room E _) dX6_opens_93) (fun r93 hf => ?_)
        refine x_iconst (v := 1) X dX6_opens_96 (by decide) ?_
        refine x_iast (w := sA s_87 1) X E.1 0 (yM_ht Y) (yM_1 Y) (yM_l Y 1 (by decide)) (yM_s1 Y) dX6_opens_97 hf (fun s97 hf => ?_)
        refine x_iconst (v := 1) X dX6_opens_98 (by decide) ?_
        exact x_zretW (σ0 := σ) X E hQ hf dX6_opens_99
      · refine x_icmp_lt (tgt := 87) X dX6_opens_49 (by decide) hf (fun hf => ?_) (fun hf => ?_)
        · exact J87 σ hf
        · refine x_aload_n X dX6_opens_52 rfl 0 rfl ?_
          refine x_callR (rest := []) X hf (fun r hr => x_cV (ci := 6) X cm_X6_idlest lkV_X6_104 rfl ⟨Nat.le_of_ble_eq_true rfl, Nat.le_of_ble_eq_true rfl⟩ (yM_0 Y) (yM_l Y 0 (by decide)) (m_X6_idlest (yM_hb Y σ) (yM_ht Y) (yM_htz Y) (yM_hp Y _) (yM_hp Y _) hr) rfl rfl (Nat.le_of_ble_eq_true rfl) (x_room E _) dX6_opens_53) (fun r53 hf => ?_)
          refine x_istore_n (lv' := [(3, .int r53), (0, .ref (κ.S0 + (b + 0))), (1, .int p1)]) X dX6_opens_56 rfl (by decide) rfl ?_
          refine x_iload_n X dX6_opens_57 rfl 0 rfl ?_
          refine x_bipush (v := (-5)) X dX6_opens_58 (by decide) ?_
          refine x_icmp_ne (tgt := 65) X dX6_opens_60 (by decide) hf (fun hf => ?_) (fun hf => ?_)
          · refine x_aload_n X dX6_opens_65 rfl 1 rfl ?_
            refine x_getf X fl_X6_7 (yM_0 Y) (yM_l Y 0 (by decide)) rfl dX6_opens_66 ?_
            refine x_iload_n X dX6_opens_69 rfl 0 rfl ?_
            refine x_iconst (v := 0) X dX6_opens_70 (by decide) ?_
            refine x_callR (rest := [.ref (κ.S0 + (b + 1))]) X hf (fun r hr => x_cS X cm_X6_of lkS_X6_32 ⟨Nat.le_of_ble_eq_true rfl, Nat.le_of_ble_eq_true rfl⟩ (m_X6_of hr) rfl rfl (Nat.le_of_ble_eq_true rfl) (x_room E _) dX6_opens_71) (fun r71 hf => ?_)
            refine x_iconst (v := 2) X dX6_opens_74 (by decide) ?_
            refine x_iast (w := sA σ 1) X E.1 0 (yM_ht Y) (yM_1 Y) (yM_l Y 1 (by decide)) (yM_s1 Y) dX6_opens_75 hf (fun s75 hf => ?_)
            refine x_aload_n X dX6_opens_76 rfl 1 rfl ?_
            refine x_getf X fl_X6_7 (yM_0 Y) (yM_l Y 0 (by decide)) rfl dX6_opens_77 ?_
            refine x_bipush (v := 7) X dX6_opens_80 (by decide) ?_
            refine x_dup2 X dX6_opens_82 rfl rfl ?_
            refine x_iald X 0 (yM_ht Y) (yM_1 Y) (yM_l Y 1 (by decide)) dX6_opens_83 hf (fun x83 hf => ?_)
            refine x_iconst (v := 1) X dX6_opens_84 (by decide) ?_
            refine x_iadd X dX6_opens_85 ?_
            refine x_iast (w := sA s75 1) X E.1 0 (yM_ht Y) (yM_1 Y) (yM_l Y 1 (by decide)) (yM_s1 Y) dX6_opens_86 hf (fun s86 hf => ?_)
            refine x_sub [1, 2] rfl ?_
            exact J87 s86 hf
          · refine x_iconst (v := 0) X dX6_opens_63 (by decide) ?_
            exact x_zretW (σ0 := σ) X E hQ hf dX6_opens_64
    · refine x_if_ne (tgt := 38) X dX6_opens_19 (by decide) hf (fun hf => ?_) (fun hf => ?_)
      · refine x_sub [1, 2] rfl ?_
        exact J38 hf
      · refine x_aload_n X dX6_opens_22 rfl 1 rfl ?_
        refine x_iconst (v := 1) X dX6_opens_23 (by decide) ?_
        refine x_callR (rest := []) X hf (fun r hr => x_cV (ci := 6) X cm_X6_zones lkV_X6_57 rfl ⟨Nat.le_of_ble_eq_true rfl, Nat.le_of_ble_eq_true rfl⟩ (yM_0 Y) (yM_l Y 0 (by decide)) (m_X6_zones (yM_hb Y σ) (yM_ht Y) (yM_htz Y) (yM_hp Y _) (yM_hp Y _) hr) rfl rfl (Nat.le_of_ble_eq_true rfl) (x_room E _) dX6_opens_24) (fun r24 hf => ?_)
        refine x_aload_n X dX6_opens_27 rfl 1 rfl ?_
        refine x_getf X fl_X6_7 (yM_0 Y) (yM_l Y 0 (by decide)) rfl dX6_opens_28 ?_
        refine x_iconst (v := 2) X dX6_opens_31 (by decide) ?_
        refine x_iald X 0 (yM_ht Y) (yM_1 Y) (yM_l Y 1 (by decide)) dX6_opens_32 hf (fun x32 hf => ?_)
        refine x_icmp_lt (tgt := 38) X dX6_opens_33 (by decide) hf (fun hf => ?_) (fun hf => ?_)
        · refine x_sub [1, 2] rfl ?_
          exact J38 hf
        · refine x_iconst (v := 0) X dX6_opens_36 (by decide) ?_
          exact x_zretW (σ0 := σ) X E hQ hf dX6_opens_37
  · refine x_iconst (v := 1) X dX6_opens_16 (by decide) ?_
    exact x_zretW (σ0 := σ) X E hQ hf dX6_opens_17
def f_X6_lookAt (σ : MS) (p1 : Int32) : Option (Int32 × MS) :=
  oR (f_X6_ofAppend p1 1) (fun r6 => oA 2204 (σ.1 1) r6 (fun x9 => oR (f_X6_of x9 0) (fun r17 => oA 2204 (σ.1 1) r17 (fun x20 => if x20 = 3 then (oV (f_X6_fail σ p1 1) (fun t => t) (fun s28 => some ((-1), s28))) else (oR (f_X6_appends σ 1 (-1)) (fun r36 => oA 2204 (σ.1 1) 3 (fun x44 => if x44 ≤ r36 then (some (0, σ)) else (oW (f_X6_opens σ x9) (fun t => t) (fun r50 s50 => if r50 = 0 then (some (0, s50)) else (oR (f_X6_of x9 3) (fun r64 => oA 2204 (s50.1 1) r64 (fun x67 => oR (f_X6_ofAppend p1 3) (fun r75 => oS 2204 (s50.1 1) r75 1 (sA s50 1) (fun s79 => oR (f_X6_ofAppend p1 4) (fun r86 => oS 2204 (s79.1 1) r86 x67 (sA s79 1) (fun s90 => oR (f_X6_ofAppend p1 8) (fun r98 => oA 2204 (s90.1 1) 0 (fun x106 => oR (f_X6_of x9 2) (fun r113 => oA 2204 (s90.1 1) r113 (fun x116 => oS 2204 (s90.1 1) r98 ((x106 + x116) + (x67 - x67 / 2 * 2)) (sA s90 1) (fun s122 => oR (f_X6_of x9 3) (fun r129 => oA 2204 (s122.1 1) r129 (fun x133 => oS 2204 (s122.1 1) r129 (x133 + 1) (sA s122 1) (fun s136 => oR (f_X6_of x9 5) (fun r143 => oA 2204 (s136.1 1) 8 (fun x152 => oS 2204 (s136.1 1) r143 x152 (sA s136 1) (fun s153 => oA 2204 (s153.1 1) 8 (fun x161 => oS 2204 (s153.1 1) 8 (x161 + 1) (sA s153 1) (fun s164 => oR (f_X6_of x9 0) (fun r171 => oR (f_X6_of x9 3) (fun r180 => oA 2204 (s164.1 1) r180 (fun x183 => oR (f_X6_of x9 1) (fun r190 => oA 2204 (s164.1 1) r190 (fun x193 => oJ (κ := Int32 → Option (Int32 × MS)) (fun t0_202 => oS 2204 (s164.1 1) r171 t0_202 (sA s164 1) (fun s202 => some (1, s202))) (fun k202 => if x183 = x193 then (k202 3) else (k202 1))))))))))))))))))))))))))))))))))))
set_option maxRecDepth 100000 in
set_option maxHeartbeats 4000000 in
theorem m_X6_lookAt {l : Launch} {G : va_G} {tys : List (ClassId × FieldType)} {S0 : Nat} {h h1 h2 : Nat → va_E} {b cN' : Nat} {cI cZ : ClassId} {σ : MS} {τ : MS} {p1 : Int32} {r : Int32} (hb : b + 8 ≤ cN') (ht : tys[0]? = some (cI, .int)) (htz : tys[2]? = some (cZ, .boolean)) (e1 : h1 = ov h b (ml S0 cI cZ b σ)) (e2 : h2 = ov h b (ml S0 cI cZ b τ)) (hf : f_X6_lookAt σ p1 = some (r, τ)) : XMet l G tys S0 cN' yX6_lookAt cX6_lookAt 4 (some .int) 4 91 [.ref (S0 + (b + 0)), .int p1] h1 cN' (some (.int r)) h2 0 0 := by
  subst e1; subst e2
  refine XMet.ofE (ST := MS) (HP := fun σ => ov h b (ml S0 cI cZ b σ)) σ τ (by decide) (Nat.le_of_ble_eq_true rfl) ?_
  intro κ g1 g2 g3 g4 g5 g6 E X hQ
  subst g1; subst g2; subst g3; subst g4
  have Y : YM κ h b cI cZ := ⟨fun σ => by rw [g5], fun σ => by rw [g6]; exact hb, ht, htz⟩
  have X : XC κ cX6_lookAt 4 RX6 (some .int) 4 91 := X
  show XG κ σ 0 [(0, .ref (κ.S0 + (b + 0))), (1, .int p1)] []
  unfold f_X6_lookAt at hf
  refine x_aload_n X dX6_lookAt_0 rfl 0 rfl ?_
  refine x_getf X fl_X6_7 (yM_0 Y) (yM_l Y 0 (by decide)) rfl dX6_lookAt_1 ?_
  refine x_iload_n X dX6_lookAt_4 rfl 1 rfl ?_
  refine x_iconst (v := 1) X dX6_lookAt_5 (by decide) ?_
  refine x_callR (rest := [.ref (κ.S0 + (b + 1))]) X hf (fun r hr => x_cS X cm_X6_ofAppend lkS_X6_54 ⟨Nat.le_of_ble_eq_true rfl, Nat.le_of_ble_eq_true rfl⟩ (m_X6_ofAppend hr) rfl rfl (Nat.le_of_ble_eq_true rfl) (x_room E _) dX6_lookAt_6) (fun r6 hf => ?_)
  refine x_iald X 0 (yM_ht Y) (yM_1 Y) (yM_l Y 1 (by decide)) dX6_lookAt_9 hf (fun x9 hf => ?_)
  refine x_istore_n (lv' := [(2, .int x9), (0, .ref (κ.S0 + (b + 0))), (1, .int p1)]) X dX6_lookAt_10 rfl (by decide) rfl ?_
  refine x_aload_n X dX6_lookAt_11 rfl 1 rfl ?_
  refine x_getf X fl_X6_7 (yM_0 Y) (yM_l Y 0 (by decide)) rfl dX6_lookAt_12 ?_
  refine x_iload_n X dX6_lookAt_15 rfl 0 rfl ?_
  refine x_iconst (v := 0) X dX6_lookAt_16 (by decide) ?_
  refine x_callR (rest := [.ref (κ.S0 + (b + 1))]) X hf (fun r hr => x_cS X cm_X6_of lkS_X6_32 ⟨Nat.le_of_ble_eq_true rfl, Nat.le_of_ble_eq_true rfl⟩ (m_X6_of hr) rfl rfl (Nat.le_of_ble_eq_true rfl) (x_room E _) dX6_lookAt_17) (fun r17 hf => ?_)
  refine x_iald X 0 (yM_ht Y) (yM_1 Y) (yM_l Y 1 (by decide)) dX6_lookAt_20 hf (fun x20 hf => ?_)
  refine x_iconst (v := 3) X dX6_lookAt_21 (by decide) ?_
  refine x_icmp_ne (tgt := 33) X dX6_lookAt_22 (by decide) hf (fun hf => ?_) (fun hf => ?_)
  · refine x_aload_n X dX6_lookAt_33 rfl 1 rfl ?_
    refine x_iconst (v := 1) X dX6_lookAt_34 (by decide) ?_
    refine x_iconst (v := (-1)) X dX6_lookAt_35 (by decide) ?_
    refine x_callR (rest := []) X hf (fun r hr => x_cV (ci := 6) X cm_X6_appends lkV_X6_101 rfl ⟨Nat.le_of_ble_eq_true rfl, Nat.le_of_ble_eq_true rfl⟩ (yM_0 Y) (yM_l Y 0 (by decide)) (m_X6_appends (yM_hb Y σ) (yM_ht Y) (yM_htz Y) (yM_hp Y _) (yM_hp Y _) hr) rfl rfl (Nat.le_of_ble_eq_true rfl) (x_room E _) dX6_lookAt_36) (fun r36 hf => ?_)
    refine x_aload_n X dX6_lookAt_39 rfl 1 rfl ?_
    refine x_getf X fl_X6_7 (yM_0 Y) (yM_l Y 0 (by decide)) rfl dX6_lookAt_40 ?_
    refine x_iconst (v := 3) X dX6_lookAt_43 (by decide) ?_
    refine x_iald X 0 (yM_ht Y) (yM_1 Y) (yM_l Y 1 (by decide)) dX6_lookAt_44 hf (fun x44 hf => ?_)
    refine x_icmp_ge (tgt := 56) X dX6_lookAt_45 (by decide) hf (fun hf => ?_) (fun hf => ?_)
    · refine x_iconst (v := 0) X dX6_lookAt_56 (by decide) ?_
      exact x_iretW (σ0 := σ) X E hQ hf dX6_lookAt_57
    · refine x_aload_n X dX6_lookAt_48 rfl 1 rfl ?_
      refine x_iload_n X dX6_lookAt_49 rfl 0 rfl ?_
      refine x_callW (rest := []) (w := fun t => t) X E.1 hf (fun r t hr => x_cV (ci := 6) X cm_X6_opens lkV_X6_108 rfl ⟨Nat.le_of_ble_eq_true rfl, Nat.le_of_ble_eq_true rfl⟩ (yM_0 Y) (yM_l Y 0 (by decide)) (m_X6_opens (yM_hb Y σ) (yM_ht Y) (yM_htz Y) (yM_hp Y _) (yM_hp Y _) hr) rfl rfl (Nat.le_of_ble_eq_true rfl) (x_room E _) dX6_lookAt_50) (fun r50 s50 hf => ?_)
      refine x_if_ne (tgt := 58) X dX6_lookAt_53 (by decide) hf (fun hf => ?_) (fun hf => ?_)
      · refine x_aload_n X dX6_lookAt_58 rfl 1 rfl ?_
        refine x_getf X fl_X6_7 (yM_0 Y) (yM_l Y 0 (by decide)) rfl dX6_lookAt_59 ?_
        refine x_iload_n X dX6_lookAt_62 rfl 0 rfl ?_
        refine x_iconst (v := 3) X dX6_lookAt_63 (by decide) ?_
        refine x_callR (rest := [.ref (κ.S0 + (b + 1))]) X hf (fun r hr => x_cS X cm_X6_of lkS_X6_32 ⟨Nat.le_of_ble_eq_true rfl, Nat.le_of_ble_eq_true rfl⟩ (m_X6_of hr) rfl rfl (Nat.le_of_ble_eq_true rfl) (x_room E _) dX6_lookAt_64) (fun r64 hf => ?_)
        refine x_iald X 0 (yM_ht Y) (yM_1 Y) (yM_l Y 1 (by decide)) dX6_lookAt_67 hf (fun x67 hf => ?_)
        refine x_istore_n (lv' := [(3, .int x67), (2, .int x9), (0, .ref (κ.S0 + (b + 0))), (1, .int p1)]) X dX6_lookAt_68 rfl (by decide) rfl ?_
        refine x_aload_n X dX6_lookAt_69 rfl 2 rfl ?_
        refine x_getf X fl_X6_7 (yM_0 Y) (yM_l Y 0 (by decide)) rfl dX6_lookAt_70 ?_
        refine x_iload_n X dX6_lookAt_73 rfl 3 rfl ?_
        refine x_iconst (v := 3) X dX6_lookAt_74 (by decide) ?_
        refine x_callR (rest := [.ref (κ.S0 + (b + 1))]) X hf (fun r hr => x_cS X cm_X6_ofAppend lkS_X6_54 ⟨Nat.le_of_ble_eq_true rfl, Nat.le_of_ble_eq_true rfl⟩ (m_X6_ofAppend hr) rfl rfl (Nat.le_of_ble_eq_true rfl) (x_room E _) dX6_lookAt_75) (fun r75 hf => ?_)
        refine x_iconst (v := 1) X dX6_lookAt_78 (by decide) ?_
        refine x_iast (w := sA s50 1) X E.1 0 (yM_ht Y) (yM_1 Y) (yM_l Y 1 (by decide)) (yM_s1 Y) dX6_lookAt_79 hf (fun s79 hf => ?_)
        refine x_aload_n X dX6_lookAt_80 rfl 2 rfl ?_
        refine x_getf X fl_X6_7 (yM_0 Y) (yM_l Y 0 (by decide)) rfl dX6_lookAt_81 ?_
        refine x_iload_n X dX6_lookAt_84 rfl 3 rfl ?_
        refine x_iconst (v := 4) X dX6_lookAt_85 (by decide) ?_
        refine x_callR (rest := [.ref (κ.S0 + (b + 1))]) X hf (fun r hr => x_cS X cm_X6_ofAppend lkS_X6_54 ⟨Nat.le_of_ble_eq_true rfl, Nat.le_of_ble_eq_true rfl⟩ (m_X6_ofAppend hr) rfl rfl (Nat.le_of_ble_eq_true rfl) (x_room E _) dX6_lookAt_86) (fun r86 hf => ?_)
        refine x_iload_n X dX6_lookAt_89 rfl 0 rfl ?_
        refine x_iast (w := sA s79 1) X E.1 0 (yM_ht Y) (yM_1 Y) (yM_l Y 1 (by decide)) (yM_s1 Y) dX6_lookAt_90 hf (fun s90 hf => ?_)
        refine x_aload_n X dX6_lookAt_91 rfl 2 rfl ?_
        refine x_getf X fl_X6_7 (yM_0 Y) (yM_l Y 0 (by decide)) rfl dX6_lookAt_92 ?_
        refine x_iload_n X dX6_lookAt_95 rfl 3 rfl ?_
        refine x_bipush (v := 8) X dX6_lookAt_96 (by decide) ?_
        refine x_callR (rest := [.ref (κ.S0 + (b + 1))]) X hf (fun r hr => x_cS X cm_X6_ofAppend lkS_X6_54 ⟨Nat.le_of_ble_eq_true rfl, Nat.le_of_ble_eq_true rfl⟩ (m_X6_ofAppend hr) rfl rfl (Nat.le_of_ble_eq_true rfl) (x_room E _) dX6_lookAt_98) (fun r98 hf => ?_)
        refine x_aload_n X dX6_lookAt_101 rfl 2 rfl ?_
        refine x_getf X fl_X6_7 (yM_0 Y) (yM_l Y 0 (by decide)) rfl dX6_lookAt_102 ?_
        refine x_iconst (v := 0) X dX6_lookAt_105 (by decide) ?_
        refine x_iald X 0 (yM_ht Y) (yM_1 Y) (yM_l Y 1 (by decide)) dX6_lookAt_106 hf (fun x106 hf => ?_)
        refine x_aload_n X dX6_lookAt_107 rfl 2 rfl ?_
        refine x_getf X fl_X6_7 (yM_0 Y) (yM_l Y 0 (by decide)) rfl dX6_lookAt_108 ?_
        refine x_iload_n X dX6_lookAt_111 rfl 1 rfl ?_
        refine x_iconst (v := 2) X dX6_lookAt_112 (by decide) ?_
        refine x_callR (rest := [.ref (κ.S0 + (b + 1)), .int x106, .int r98, .ref (κ.S0 + (b + 1))]) X hf (fun r hr => x_cS X cm_X6_of lkS_X6_32 ⟨Nat.le_of_ble_eq_true rfl, Nat.le_of_ble_eq_true rfl⟩ (m_X6_of hr) rfl rfl (Nat.le_of_ble_eq_true rfl) (x_room E _) dX6_lookAt_113) (fun r113 hf => ?_)
        refine x_iald X 0 (yM_ht Y) (yM_1 Y) (yM_l Y 1 (by decide)) dX6_lookAt_116 hf (fun x116 hf => ?_)
        refine x_iadd X dX6_lookAt_117 ?_
        refine x_iload_n X dX6_lookAt_118 rfl 0 rfl ?_
        refine x_iconst (v := 2) X dX6_lookAt_119 (by decide) ?_
        refine x_irem X dX6_lookAt_120 (by decide) ?_
        refine x_iadd X dX6_lookAt_121 ?_
        refine x_iast (w := sA s90 1) X E.1 0 (yM_ht Y) (yM_1 Y) (yM_l Y 1 (by decide)) (yM_s1 Y) dX6_lookAt_122 hf (fun s122 hf => ?_)
        refine x_aload_n X dX6_lookAt_123 rfl 2 rfl ?_
        refine x_getf X fl_X6_7 (yM_0 Y) (yM_l Y 0 (by decide)) rfl dX6_lookAt_124 ?_
        refine x_iload_n X dX6_lookAt_127 rfl 1 rfl ?_
        refine x_iconst (v := 3) X dX6_lookAt_128 (by decide) ?_
        refine x_callR (rest := [.ref (κ.S0 + (b + 1))]) X hf (fun r hr => x_cS X cm_X6_of lkS_X6_32 ⟨Nat.le_of_ble_eq_true rfl, Nat.le_of_ble_eq_true rfl⟩ (m_X6_of hr) rfl rfl (Nat.le_of_ble_eq_true rfl) (x_room E _) dX6_lookAt_129) (fun r129 hf => ?_)
        refine x_dup2 X dX6_lookAt_132 rfl rfl ?_
        refine x_iald X 0 (yM_ht Y) (yM_1 Y) (yM_l Y 1 (by decide)) dX6_lookAt_133 hf (fun x133 hf => ?_)
        refine x_iconst (v := 1) X dX6_lookAt_134 (by decide) ?_
        refine x_iadd X dX6_lookAt_135 ?_
        refine x_iast (w := sA s122 1) X E.1 0 (yM_ht Y) (yM_1 Y) (yM_l Y 1 (by decide)) (yM_s1 Y) dX6_lookAt_136 hf (fun s136 hf => ?_)
        refine x_aload_n X dX6_lookAt_137 rfl 2 rfl ?_
        refine x_getf X fl_X6_7 (yM_0 Y) (yM_l Y 0 (by decide)) rfl dX6_lookAt_138 ?_
        refine x_iload_n X dX6_lookAt_141 rfl 1 rfl ?_
        refine x_iconst (v := 5) X dX6_lookAt_142 (by decide) ?_
        refine x_callR (rest := [.ref (κ.S0 + (b + 1))]) X hf (fun r hr => x_cS X cm_X6_of lkS_X6_32 ⟨Nat.le_of_ble_eq_true rfl, Nat.le_of_ble_eq_true rfl⟩ (m_X6_of hr) rfl rfl (Nat.le_of_ble_eq_true rfl) (x_room E _) dX6_lookAt_143) (fun r143 hf => ?_)
        refine x_aload_n X dX6_lookAt_146 rfl 2 rfl ?_
        refine x_getf X fl_X6_7 (yM_0 Y) (yM_l Y 0 (by decide)) rfl dX6_lookAt_147 ?_
        refine x_bipush (v := 8) X dX6_lookAt_150 (by decide) ?_
        refine x_iald X 0 (yM_ht Y) (yM_1 Y) (yM_l Y 1 (by decide)) dX6_lookAt_152 hf (fun x152 hf => ?_)
        refine x_iast (w := sA s136 1) X E.1 0 (yM_ht Y) (yM_1 Y) (yM_l Y 1 (by decide)) (yM_s1 Y) dX6_lookAt_153 hf (fun s153 hf => ?_)
        refine x_aload_n X dX6_lookAt_154 rfl 2 rfl ?_
        refine x_getf X fl_X6_7 (yM_0 Y) (yM_l Y 0 (by decide)) rfl dX6_lookAt_155 ?_
        refine x_bipush (v := 8) X dX6_lookAt_158 (by decide) ?_
        refine x_dup2 X dX6_lookAt_160 rfl rfl ?_
        refine x_iald X 0 (yM_ht Y) (yM_1 Y) (yM_l Y 1 (by decide)) dX6_lookAt_161 hf (fun x161 hf => ?_)
        refine x_iconst (v := 1) X dX6_lookAt_162 (by decide) ?_
        refine x_iadd X dX6_lookAt_163 ?_
        refine x_iast (w := sA s153 1) X E.1 0 (yM_ht Y) (yM_1 Y) (yM_l Y 1 (by decide)) (yM_s1 Y) dX6_lookAt_164 hf (fun s164 hf => ?_)
        refine x_aload_n X dX6_lookAt_165 rfl 2 rfl ?_
        refine x_getf X fl_X6_7 (yM_0 Y) (yM_l Y 0 (by decide)) rfl dX6_lookAt_166 ?_
        refine x_iload_n X dX6_lookAt_169 rfl 1 rfl ?_
        refine x_iconst (v := 0) X dX6_lookAt_170 (by decide) ?_
        refine x_callR (rest := [.ref (κ.S0 + (b + 1))]) X hf (fun r hr => x_cS X cm_X6_of lkS_X6_32 ⟨Nat.le_of_ble_eq_true rfl, Nat.le_of_ble_eq_true rfl⟩ (m_X6_of hr) rfl rfl (Nat.le_of_ble_eq_true rfl) (x_room E _) dX6_lookAt_171) (fun r171 hf => ?_)
        refine x_aload_n X dX6_lookAt_174 rfl 2 rfl ?_
        refine x_getf X fl_X6_7 (yM_0 Y) (yM_l Y 0 (by decide)) rfl dX6_lookAt_175 ?_
        refine x_iload_n X dX6_lookAt_178 rfl 1 rfl ?_
        refine x_iconst (v := 3) X dX6_lookAt_179 (by decide) ?_
        refine x_callR (rest := [.ref (κ.S0 + (b + 1)), .int r171, .ref (κ.S0 + (b + 1))]) X hf (fun r hr => x_cS X cm_X6_of lkS_X6_32 ⟨Nat.le_of_ble_eq_true rfl, Nat.le_of_ble_eq_true rfl⟩ (m_X6_of hr) rfl rfl (Nat.le_of_ble_eq_true rfl) (x_room E _) dX6_lookAt_180) (fun r180 hf => ?_)
        refine x_iald X 0 (yM_ht Y) (yM_1 Y) (yM_l Y 1 (by decide)) dX6_lookAt_183 hf (fun x183 hf => ?_)
        refine x_aload_n X dX6_lookAt_184 rfl 2 rfl ?_
        refine x_getf X fl_X6_7 (yM_0 Y) (yM_l Y 0 (by decide)) rfl dX6_lookAt_185 ?_
        refine x_iload_n X dX6_lookAt_188 rfl 1 rfl ?_
        refine x_iconst (v := 1) X dX6_lookAt_189 (by decide) ?_
        refine x_callR (rest := [.ref (κ.S0 + (b + 1)), .int x183, .int r171, .ref (κ.S0 + (b + 1))]) X hf (fun r hr => x_cS X cm_X6_of lkS_X6_32 ⟨Nat.le_of_ble_eq_true rfl, Nat.le_of_ble_eq_true rfl⟩ (m_X6_of hr) rfl rfl (Nat.le_of_ble_eq_true rfl) (x_room E _) dX6_lookAt_190) (fun r190 hf => ?_)
        refine x_iald X 0 (yM_ht Y) (yM_1 Y) (yM_l Y 1 (by decide)) dX6_lookAt_193 hf (fun x193 hf => ?_)
        refine x_join (fun k202 => ∀ (t0_202 : Int32), k202 t0_202 = some (r, τ) → XG κ s164 202 [] [.int t0_202, .int r171, .ref (κ.S0 + (b + 1))]) hf (fun t0_202 hf => ?_) (fun k202 J202 hf => ?_)
        · refine x_iast (w := sA s164 1) X E.1 0 (yM_ht Y) (yM_1 Y) (yM_l Y 1 (by decide)) (yM_s1 Y) dX6_lookAt_202 hf (fun s202 hf => ?_)
          refine x_iconst (v := 1) X dX6_lookAt_203 (by decide) ?_
          exact x_iretW (σ0 := σ) X E hQ hf dX6_lookAt_204
        · refine x_icmp_ne (tgt := 201) X dX6_lookAt_194 (by decide) hf (fun hf => ?_) (fun hf => ?_)
          · refine x_iconst (v := 1) X dX6_lookAt_201 (by decide) ?_
            refine x_sub [] rfl ?_
            exact J202 1 hf
          · refine x_iconst (v := 3) X dX6_lookAt_197 (by decide) ?_
            refine x_goto (tgt := 202) X dX6_lookAt_198 (by decide) ?_
            refine x_sub [] rfl ?_
            exact J202 3 hf
      · refine x_iconst (v := 0) X dX6_lookAt_56 (by decide) ?_
        exact x_iretW (σ0 := σ) X E hQ hf dX6_lookAt_57
  · refine x_aload_n X dX6_lookAt_25 rfl 1 rfl ?_
    refine x_iload_n X dX6_lookAt_26 rfl 2 rfl ?_
    refine x_iconst (v := 1) X dX6_lookAt_27 (by decide) ?_
    refine x_callV (rest := []) (w := fun t => t) X E.1 hf (fun t hr => x_cV (ci := 6) X cm_X6_fail lkV_X6_81 rfl ⟨Nat.le_of_ble_eq_true rfl, Nat.le_of_ble_eq_true rfl⟩ (yM_0 Y) (yM_l Y 0 (by decide)) (m_X6_fail (yM_hb Y σ) (yM_ht Y) (yM_htz Y) (yM_hp Y _) (yM_hp Y _) hr) rfl rfl (Nat.le_of_ble_eq_true rfl) (x_room E _) dX6_lookAt_28) (fun s28 hf => ?_)
    refine x_iconst (v := (-1)) X dX6_lookAt_31 (by decide) ?_
    exact x_iretW (σ0 := σ) X E hQ hf dX6_lookAt_32
def f_X6_lookAtAll_L2 (p1 : Int32) (kX2 : MS → Option (MS)) : Nat → Int32 → MS → Option (MS)
  | 0, _, _ => none
  | n + 1, v2_2, s2 =>
    oA 2204 (s2.1 1) 5 (fun x8 => if x8 ≤ v2_2 then (kX2 s2) else (oA 201 (s2.1 6) v2_2 (fun x17 => oJ (κ := MS → Option (MS)) (fun s_100 => f_X6_lookAtAll_L2 p1 kX2 n (v2_2 + 1) s_100) (fun k100 => if x17 = 0 then (k100 s2) else (oJ (κ := Option (MS)) (oW (f_X6_lookAt s2 v2_2) (fun t => t) (fun r41 s41 => oJ (κ := Int32 → Option (MS)) (fun t0_62 => oZ t0_62 (sN s41 3) (fun s62 => oJ (κ := Int32 → Option (MS)) (fun t0_97 => oN t0_97 (sN s62 4) (fun s97 => k100 s97)) (fun k97 => oJ (κ := Option (MS)) (k97 (s62.2 4)) (fun k93 => if r41 = 1 then (if (s62.2 4) = (-5) then (oR (f_X6_ofAppend v2_2 1) (fun r86 => oA 2204 (s62.1 1) r86 (fun x89 => k97 x89))) else k93) else k93)))) (fun k62 => oJ (κ := Option (MS)) (k62 1) (fun k57 => if (s41.2 3) = 0 then (if r41 = 0 then (k62 0) else k57) else k57)))) (fun k39 => if p1 < 0 then k39 else (oR (f_X6_ofAppend v2_2 1) (fun r31 => oA 2204 (s2.1 1) r31 (fun x34 => if x34 = p1 then k39 else (k100 s2))))))))))
def f_X6_lookAtAll (σ : MS) (p1 : Int32) : Option (MS) :=
  f_X6_lookAtAll_L2 p1 (fun sx106 => some sx106) FU 0 σ
set_option maxRecDepth 100000 in
set_option maxHeartbeats 4000000 in
theorem m_X6_lookAtAll {l : Launch} {G : va_G} {tys : List (ClassId × FieldType)} {S0 : Nat} {h h1 h2 : Nat → va_E} {b cN' : Nat} {cI cZ : ClassId} {σ : MS} {τ : MS} {p1 : Int32} (hb : b + 8 ≤ cN') (ht : tys[0]? = some (cI, .int)) (htz : tys[2]? = some (cZ, .boolean)) (e1 : h1 = ov h b (ml S0 cI cZ b σ)) (e2 : h2 = ov h b (ml S0 cI cZ b τ)) (hf : f_X6_lookAtAll σ p1 = some τ) : XMet l G tys S0 cN' yX6_lookAtAll cX6_lookAtAll 4 none 5 114 [.ref (S0 + (b + 0)), .int p1] h1 cN' none h2 0 0 := by
  subst e1; subst e2
  refine XMet.ofE (ST := MS) (HP := fun σ => ov h b (ml S0 cI cZ b σ)) σ τ (by decide) (Nat.le_of_ble_eq_true rfl) ?_
  intro κ g1 g2 g3 g4 g5 g6 E X hQ
  subst g1; subst g2; subst g3; subst g4
  have Y : YM κ h b cI cZ := ⟨fun σ => by rw [g5], fun σ => by rw [g6]; exact hb, ht, htz⟩
  have X : XC κ cX6_lookAtAll 4 RX6 none 5 114 := X
  show XG κ σ 0 [(0, .ref (κ.S0 + (b + 0))), (1, .int p1)] []
  unfold f_X6_lookAtAll at hf
  refine x_iconst (v := 0) X dX6_lookAtAll_0 (by decide) ?_
  refine x_istore_n (lv' := [(2, .int 0), (0, .ref (κ.S0 + (b + 0))), (1, .int p1)]) X dX6_lookAtAll_1 rfl (by decide) rfl ?_
  refine x_kont (b := fun kX2 => f_X6_lookAtAll_L2 p1 kX2 FU 0 σ) (fun kX2 => ∀  (sx106 : MS), kX2 sx106 = some τ → XG κ sx106 106 [] []) hf (fun sx106 hf => ?_) (fun kX2 JX2 hf => ?_)
  · exact x_vretV (σ0 := σ) X E hQ hf dX6_lookAtAll_106
  · have LL : ∀ (n : Nat) (v2_2 : Int32) (s2 : MS), f_X6_lookAtAll_L2 p1 kX2 n v2_2 s2 = some τ → XG κ s2 2 [(0, .ref (κ.S0 + (b + 0))), (1, .int p1), (2, .int v2_2)] [] := by
      intro n
      induction n with
      | zero => intro v2_2 s2 hf; rw [f_X6_lookAtAll_L2] at hf; cases hf
      | succ n ih2 =>
        intro v2_2 s2 hf
        rw [f_X6_lookAtAll_L2] at hf
        refine x_iload_n X dX6_lookAtAll_2 rfl 2 rfl ?_
        refine x_aload_n X dX6_lookAtAll_3 rfl 0 rfl ?_
        refine x_getf X fl_X6_7 (yM_0 Y) (yM_l Y 0 (by decide)) rfl dX6_lookAtAll_4 ?_
        refine x_iconst (v := 5) X dX6_lookAtAll_7 (by decide) ?_
        refine x_iald X 0 (yM_ht Y) (yM_1 Y) (yM_l Y 1 (by decide)) dX6_lookAtAll_8 hf (fun x8 hf => ?_)
        refine x_icmp_ge (tgt := 106) X dX6_lookAtAll_9 (by decide) hf (fun hf => ?_) (fun hf => ?_)
        · refine x_sub [] rfl ?_
          exact JX2 s2 hf
        · refine x_aload_n X dX6_lookAtAll_12 rfl 0 rfl ?_
          refine x_getf X fl_X6_25 (yM_0 Y) (yM_l Y 0 (by decide)) rfl dX6_lookAtAll_13 ?_
          refine x_iload_n X dX6_lookAtAll_16 rfl 2 rfl ?_
          refine x_zald X 2 (yM_htz Y) (yM_6 Y) (yM_l Y 6 (by decide)) dX6_lookAtAll_17 hf (fun x17 hf => ?_)
          refine x_join (fun k100 => ∀  (s_100 : MS), k100 s_100 = some τ → XG κ s_100 100 [(0, .ref (κ.S0 + (b + 0))), (1, .int p1), (2, .int v2_2)] []) hf (fun s_100 hf => ?_) (fun k100 J100 hf => ?_)
          · refine x_iinc (v := v2_2 + 1) (lv' := [(2, .int (v2_2 + 1)), (0, .ref (κ.S0 + (b + 0))), (1, .int p1)]) X dX6_lookAtAll_100 2 rfl rfl (by decide) rfl ?_
            refine x_goto (tgt := 2) X dX6_lookAtAll_103 (by decide) ?_
            refine x_sub [1, 2, 0] rfl ?_
            exact ih2 (v2_2 + 1) s_100 hf
          · refine x_if_eq (tgt := 100) X dX6_lookAtAll_18 (by decide) hf (fun hf => ?_) (fun hf => ?_)
            · exact J100 s2 hf
            · refine x_iload_n X dX6_lookAtAll_21 rfl 1 rfl ?_
              refine x_join (fun k39 => k39 = some τ → XG κ s2 39 [(0, .ref (κ.S0 + (b + 0))), (1, .int p1), (2, .int v2_2)] []) hf (fun hf => ?_) (fun k39 J39 hf => ?_)
              · refine x_aload_n X dX6_lookAtAll_39 rfl 0 rfl ?_
                refine x_iload_n X dX6_lookAtAll_40 rfl 2 rfl ?_
                refine x_callW (rest := []) (w := fun t => t) X E.1 hf (fun r t hr => x_cV (ci := 6) X cm_X6_lookAt lkV_X6_111 rfl ⟨Nat.le_of_ble_eq_true rfl, Nat.le_of_ble_eq_true rfl⟩ (yM_0 Y) (yM_l Y 0 (by decide)) (m_X6_lookAt (yM_hb Y s2) (yM_ht Y) (yM_htz Y) (yM_hp Y _) (yM_hp Y _) hr) rfl rfl (Nat.le_of_ble_eq_true rfl) (x_room E _) dX6_lookAtAll_41) (fun r41 s41 hf => ?_)
                refine x_istore_n (lv' := [(3, .int r41), (0, .ref (κ.S0 + (b + 0))), (1, .int p1), (2, .int v2_2)]) X dX6_lookAtAll_44 rfl (by decide) rfl ?_
                refine x_aload_n X dX6_lookAtAll_45 rfl 1 rfl ?_
                refine x_aload_n X dX6_lookAtAll_46 rfl 1 rfl ?_
                refine x_getf X fl_X6_114 (yM_0 Y) (yM_l Y 0 (by decide)) rfl dX6_lookAtAll_47 ?_
                refine x_join (fun k62 => ∀ (t0_62 : Int32), k62 t0_62 = some τ → XG κ s41 62 [(0, .ref (κ.S0 + (b + 0))), (1, .int p1), (2, .int v2_2), (3, .int r41)] [.int t0_62, .ref (κ.S0 + (b + 0))]) hf (fun t0_62 hf => ?_) (fun k62 J62 hf => ?_)
                · refine x_putZ (w := sN s41 3) X E.1 fp_X6_114 (yM_0 Y) (yM_l Y 0 (by decide)) (Nat.le_of_ble_eq_true rfl) (yM_p0_9 Y) dX6_lookAtAll_62 hf (fun s62 hf => ?_)
                  refine x_aload_n X dX6_lookAtAll_65 rfl 0 rfl ?_
                  refine x_iload_n X dX6_lookAtAll_66 rfl 3 rfl ?_
                  refine x_iconst (v := 1) X dX6_lookAtAll_67 (by decide) ?_
                  refine x_join (fun k97 => ∀ (t0_97 : Int32), k97 t0_97 = some τ → XG κ s62 97 [(0, .ref (κ.S0 + (b + 0))), (1, .int p1), (2, .int v2_2)] [.int t0_97, .ref (κ.S0 + (b + 0))]) hf (fun t0_97 hf => ?_) (fun k97 J97 hf => ?_)
                  · refine x_putI (w := sN s62 4) X E.1 fp_X6_118 (yM_0 Y) (yM_l Y 0 (by decide)) (Nat.le_of_ble_eq_true rfl) (yM_p0_10 Y) dX6_lookAtAll_97 hf (fun s97 hf => ?_)
                    exact J100 s97 hf
                  · refine x_join (fun k93 => k93 = some τ → XG κ s62 93 [(0, .ref (κ.S0 + (b + 0))), (1, .int p1), (2, .int v2_2)] [.ref (κ.S0 + (b + 0))]) hf (fun hf => ?_) (fun k93 J93 hf => ?_)
                    · refine x_aload_n X dX6_lookAtAll_93 rfl 0 rfl ?_
                      refine x_getf X fl_X6_118 (yM_0 Y) (yM_l Y 0 (by decide)) rfl dX6_lookAtAll_94 ?_
                      exact J97 (s62.2 4) hf
                    · refine x_icmp_ne (tgt := 93) X dX6_lookAtAll_68 (by decide) hf (fun hf => ?_) (fun hf => ?_)
                      · refine x_sub [0, 1, 2] rfl ?_
                        exact J93 hf
                      · refine x_aload_n X dX6_lookAtAll_71 rfl 0 rfl ?_
                        refine x_getf X fl_X6_118 (yM_0 Y) (yM_l Y 0 (by decide)) rfl dX6_lookAtAll_72 ?_
                        refine x_bipush (v := (-5)) X dX6_lookAtAll_75 (by decide) ?_
                        refine x_icmp_ne (tgt := 93) X dX6_lookAtAll_77 (by decide) hf (fun hf => ?_) (fun hf => ?_)
                        · refine x_sub [0, 1, 2] rfl ?_
                          exact J93 hf
                        · refine x_aload_n X dX6_lookAtAll_80 rfl 0 rfl ?_
                          refine x_getf X fl_X6_7 (yM_0 Y) (yM_l Y 0 (by decide)) rfl dX6_lookAtAll_81 ?_
                          refine x_iload_n X dX6_lookAtAll_84 rfl 2 rfl ?_
                          refine x_iconst (v := 1) X dX6_lookAtAll_85 (by decide) ?_
                          refine x_callR (rest := [.ref (κ.S0 + (b + 1)), .ref (κ.S0 + (b + 0))]) X hf (fun r hr => x_cS X cm_X6_ofAppend lkS_X6_54 ⟨Nat.le_of_ble_eq_true rfl, Nat.le_of_ble_eq_true rfl⟩ (m_X6_ofAppend hr) rfl rfl (Nat.le_of_ble_eq_true rfl) (x_room E _) dX6_lookAtAll_86) (fun r86 hf => ?_)
                          refine x_iald X 0 (yM_ht Y) (yM_1 Y) (yM_l Y 1 (by decide)) dX6_lookAtAll_89 hf (fun x89 hf => ?_)
                          refine x_goto (tgt := 97) X dX6_lookAtAll_90 (by decide) ?_
                          refine x_sub [0, 1, 2] rfl ?_
                          exact J97 x89 hf
                · refine x_join (fun k57 => k57 = some τ → XG κ s41 57 [(0, .ref (κ.S0 + (b + 0))), (1, .int p1), (2, .int v2_2), (3, .int r41)] [.ref (κ.S0 + (b + 0))]) hf (fun hf => ?_) (fun k57 J57 hf => ?_)
                  · refine x_iconst (v := 1) X dX6_lookAtAll_57 (by decide) ?_
                    refine x_goto (tgt := 62) X dX6_lookAtAll_58 (by decide) ?_
                    exact J62 1 hf
                  · refine x_if_ne (tgt := 57) X dX6_lookAtAll_50 (by decide) hf (fun hf => ?_) (fun hf => ?_)
                    · refine x_sub [1, 2, 3, 0] rfl ?_
                      exact J57 hf
                    · refine x_iload_n X dX6_lookAtAll_53 rfl 0 rfl ?_
                      refine x_if_eq (tgt := 61) X dX6_lookAtAll_54 (by decide) hf (fun hf => ?_) (fun hf => ?_)
                      · refine x_iconst (v := 0) X dX6_lookAtAll_61 (by decide) ?_
                        refine x_sub [1, 2, 3, 0] rfl ?_
                        exact J62 0 hf
                      · refine x_sub [1, 2, 3, 0] rfl ?_
                        exact J57 hf
              · refine x_if_lt (tgt := 39) X dX6_lookAtAll_22 (by decide) hf (fun hf => ?_) (fun hf => ?_)
                · exact J39 hf
                · refine x_aload_n X dX6_lookAtAll_25 rfl 0 rfl ?_
                  refine x_getf X fl_X6_7 (yM_0 Y) (yM_l Y 0 (by decide)) rfl dX6_lookAtAll_26 ?_
                  refine x_iload_n X dX6_lookAtAll_29 rfl 2 rfl ?_
                  refine x_iconst (v := 1) X dX6_lookAtAll_30 (by decide) ?_
                  refine x_callR (rest := [.ref (κ.S0 + (b + 1))]) X hf (fun r hr => x_cS X cm_X6_ofAppend lkS_X6_54 ⟨Nat.le_of_ble_eq_true rfl, Nat.le_of_ble_eq_true rfl⟩ (m_X6_ofAppend hr) rfl rfl (Nat.le_of_ble_eq_true rfl) (x_room E _) dX6_lookAtAll_31) (fun r31 hf => ?_)
                  refine x_iald X 0 (yM_ht Y) (yM_1 Y) (yM_l Y 1 (by decide)) dX6_lookAtAll_34 hf (fun x34 hf => ?_)
                  refine x_iload_n X dX6_lookAtAll_35 rfl 1 rfl ?_
                  refine x_icmp_ne (tgt := 100) X dX6_lookAtAll_36 (by decide) hf (fun hf => ?_) (fun hf => ?_)
                  · exact J100 s2 hf
                  · exact J39 hf
    refine x_sub [1, 2, 0] rfl ?_
    exact LL FU 0 σ hf
def f_X6_tick_L158 (x154 : Int32) (kX158 : MS → Option (Int32 × MS)) : Nat → Int32 → MS → Option (Int32 × MS)
  | 0, _, _ => none
  | n + 1, v3_158, s158 =>
    if 8 ≤ v3_158 then (kX158 s158) else (oV (f_X6_lookAtAll s158 ((x154 + v3_158) - (x154 + v3_158) / 8 * 8)) (fun t => t) (fun s171 => f_X6_tick_L158 x154 kX158 n (v3_158 + 1) s171))
def f_X6_tick_L85  (kX85 : MS → Option (Int32 × MS)) : Nat → Int32 → MS → Option (Int32 × MS)
  | 0, _, _ => none
  | n + 1, v2_85, s85 =>
    oA 2204 (s85.1 1) 5 (fun x91 => if x91 ≤ v2_85 then (kX85 s85) else (oR (f_X6_ofAppend v2_85 3) (fun r106 => oA 2204 (s85.1 1) r106 (fun x109 => oJ (κ := Int32 → Option (Int32 × MS)) (fun t0_118 => oS 201 (s85.1 6) v2_85 (vp_nar .boolean t0_118) (sA s85 6) (fun s118 => f_X6_tick_L85 kX85 n (v2_85 + 1) s118)) (fun k118 => if x109 = 0 then (k118 1) else (k118 0))))))
def f_X6_tick_L28  (kX28 : MS → Option (Int32 × MS)) : Nat → Int32 → MS → Option (Int32 × MS)
  | 0, _, _ => none
  | n + 1, v2_28, s28 =>
    oA 2204 (s28.1 1) 5 (fun x34 => if x34 ≤ v2_28 then (kX28 s28) else (oR (f_X6_ofAppend v2_28 3) (fun r44 => oA 2204 (s28.1 1) r44 (fun x47 => oJ (κ := MS → Option (Int32 × MS)) (fun s_77 => f_X6_tick_L28 kX28 n (v2_28 + 1) s_77) (fun k77 => if x47 = 1 then (oR (f_X6_ofAppend v2_28 8) (fun r59 => oA 2204 (s28.1 1) r59 (fun x62 => oA 2204 (s28.1 1) 0 (fun x68 => if x62 = x68 then (oV (f_X6_tell s28 v2_28) (fun t => t) (fun s74 => k77 s74)) else (k77 s28))))) else (k77 s28))))))
def f_X6_tick (σ : MS)  : Option (Int32 × MS) :=
  oA 2204 (σ.1 1) 9 (fun x6 => oR (f_X6_appends σ 1 (-1)) (fun r12 => oJ (κ := Int32 → Option (Int32 × MS)) (fun t0_23 => oZ t0_23 (sN σ 3) (fun s23 => f_X6_tick_L28 (fun sx83 => f_X6_tick_L85 (fun sx125 => oN (-5) (sN sx125 4) (fun s128 => oA 2204 (s128.1 1) 4 (fun x136 => oJ (κ := MS → Option (Int32 × MS)) (fun s_209 => oA 2204 (s_209.1 1) 0 (fun x215 => oS 2204 (s_209.1 1) 0 (x215 + 1) (sA s_209 1) (fun s218 => oA 2204 (s218.1 1) 9 (fun x225 => some ((x225 - x6), s218))))) (fun k209 => if x136 = 0 then (oV (f_X6_lookAtAll s128 (-1)) (fun t => t) (fun s142 => k209 s142)) else (oA 2204 (s128.1 1) 6 (fun x154 => f_X6_tick_L158 x154 (fun sx180 => oJ (κ := Int32 → Option (Int32 × MS)) (fun t0_208 => oS 2204 (sx180.1 1) 6 t0_208 (sA sx180 1) (fun s208 => k209 s208)) (fun k208 => if (sx180.2 4) = (-5) then (k208 x154) else (k208 (((sx180.2 4) + 1) - ((sx180.2 4) + 1) / 8 * 8)))) FU 0 s128)))))) FU 0 sx83) FU 0 s23)) (fun k23 => if r12 ≤ 0 then (k23 0) else (k23 1))))
set_option maxRecDepth 100000 in
set_option maxHeartbeats 4000000 in
theorem m_X6_tick {l : Launch} {G : va_G} {tys : List (ClassId × FieldType)} {S0 : Nat} {h h1 h2 : Nat → va_E} {b cN' : Nat} {cI cZ : ClassId} {σ : MS} {τ : MS}  {r : Int32} (hb : b + 8 ≤ cN') (ht : tys[0]? = some (cI, .int)) (htz : tys[2]? = some (cZ, .boolean)) (e1 : h1 = ov h b (ml S0 cI cZ b σ)) (e2 : h2 = ov h b (ml S0 cI cZ b τ)) (hf : f_X6_tick σ = some (r, τ)) : XMet l G tys S0 cN' yX6_tick cX6_tick 4 (some .int) 6 137 [.ref (S0 + (b + 0))] h1 cN' (some (.int r)) h2 0 0 := by
  subst e1; subst e2
  refine XMet.ofE (ST := MS) (HP := fun σ => ov h b (ml S0 cI cZ b σ)) σ τ (by decide) (Nat.le_of_ble_eq_true rfl) ?_
  intro κ g1 g2 g3 g4 g5 g6 E X hQ
  subst g1; subst g2; subst g3; subst g4
  have Y : YM κ h b cI cZ := ⟨fun σ => by rw [g5], fun σ => by rw [g6]; exact hb, ht, htz⟩
  have X : XC κ cX6_tick 4 RX6 (some .int) 6 137 := X
  show XG κ σ 0 [(0, .ref (κ.S0 + (b + 0)))] []
  unfold f_X6_tick at hf
  refine x_aload_n X dX6_tick_0 rfl 0 rfl ?_
  refine x_getf X fl_X6_7 (yM_0 Y) (yM_l Y 0 (by decide)) rfl dX6_tick_1 ?_
  refine x_bipush (v := 9) X dX6_tick_4 (by decide) ?_
  refine x_iald X 0 (yM_ht Y) (yM_1 Y) (yM_l Y 1 (by decide)) dX6_tick_6 hf (fun x6 hf => ?_)
  refine x_istore_n (lv' := [(1, .int x6), (0, .ref (κ.S0 + (b + 0)))]) X dX6_tick_7 rfl (by decide) rfl ?_
  refine x_aload_n X dX6_tick_8 rfl 1 rfl ?_
  refine x_aload_n X dX6_tick_9 rfl 1 rfl ?_
  refine x_iconst (v := 1) X dX6_tick_10 (by decide) ?_
  refine x_iconst (v := (-1)) X dX6_tick_11 (by decide) ?_
  refine x_callR (rest := [.ref (κ.S0 + (b + 0))]) X hf (fun r hr => x_cV (ci := 6) X cm_X6_appends lkV_X6_101 rfl ⟨Nat.le_of_ble_eq_true rfl, Nat.le_of_ble_eq_true rfl⟩ (yM_0 Y) (yM_l Y 0 (by decide)) (m_X6_appends (yM_hb Y σ) (yM_ht Y) (yM_htz Y) (yM_hp Y _) (yM_hp Y _) hr) rfl rfl (Nat.le_of_ble_eq_true rfl) (x_room E _) dX6_tick_12) (fun r12 hf => ?_)
  refine x_join (fun k23 => ∀ (t0_23 : Int32), k23 t0_23 = some (r, τ) → XG κ σ 23 [(0, .ref (κ.S0 + (b + 0))), (1, .int x6)] [.int t0_23, .ref (κ.S0 + (b + 0))]) hf (fun t0_23 hf => ?_) (fun k23 J23 hf => ?_)
  · refine x_putZ (w := sN σ 3) X E.1 fp_X6_114 (yM_0 Y) (yM_l Y 0 (by decide)) (Nat.le_of_ble_eq_true rfl) (yM_p0_9 Y) dX6_tick_23 hf (fun s23 hf => ?_)
    refine x_iconst (v := 0) X dX6_tick_26 (by decide) ?_
    refine x_istore_n (lv' := [(2, .int 0), (0, .ref (κ.S0 + (b + 0))), (1, .int x6)]) X dX6_tick_27 rfl (by decide) rfl ?_
    refine x_kont (b := fun kX28 => f_X6_tick_L28 kX28 FU 0 s23) (fun kX28 => ∀  (sx83 : MS), kX28 sx83 = some (r, τ) → XG κ sx83 83 [(0, .ref (κ.S0 + (b + 0))), (1, .int x6)] []) hf (fun sx83 hf => ?_) (fun kX28 JX28 hf => ?_)
    · refine x_iconst (v := 0) X dX6_tick_83 (by decide) ?_
      refine x_istore_n (lv' := [(2, .int 0), (0, .ref (κ.S0 + (b + 0))), (1, .int x6)]) X dX6_tick_84 rfl (by decide) rfl ?_
      refine x_kont (b := fun kX85 => f_X6_tick_L85 kX85 FU 0 sx83) (fun kX85 => ∀  (sx125 : MS), kX85 sx125 = some (r, τ) → XG κ sx125 125 [(0, .ref (κ.S0 + (b + 0))), (1, .int x6)] []) hf (fun sx125 hf => ?_) (fun kX85 JX85 hf => ?_)
      · refine x_aload_n X dX6_tick_125 rfl 0 rfl ?_
        refine x_bipush (v := (-5)) X dX6_tick_126 (by decide) ?_
        refine x_putI (w := sN sx125 4) X E.1 fp_X6_118 (yM_0 Y) (yM_l Y 0 (by decide)) (Nat.le_of_ble_eq_true rfl) (yM_p0_10 Y) dX6_tick_128 hf (fun s128 hf => ?_)
        refine x_aload_n X dX6_tick_131 rfl 0 rfl ?_
        refine x_getf X fl_X6_7 (yM_0 Y) (yM_l Y 0 (by decide)) rfl dX6_tick_132 ?_
        refine x_iconst (v := 4) X dX6_tick_135 (by decide) ?_
        refine x_iald X 0 (yM_ht Y) (yM_1 Y) (yM_l Y 1 (by decide)) dX6_tick_136 hf (fun x136 hf => ?_)
        refine x_join (fun k209 => ∀  (s_209 : MS), k209 s_209 = some (r, τ) → XG κ s_209 209 [(0, .ref (κ.S0 + (b + 0))), (1, .int x6)] []) hf (fun s_209 hf => ?_) (fun k209 J209 hf => ?_)
        · refine x_aload_n X dX6_tick_209 rfl 0 rfl ?_
          refine x_getf X fl_X6_7 (yM_0 Y) (yM_l Y 0 (by decide)) rfl dX6_tick_210 ?_
          refine x_iconst (v := 0) X dX6_tick_213 (by decide) ?_
          refine x_dup2 X dX6_tick_214 rfl rfl ?_
          refine x_iald X 0 (yM_ht Y) (yM_1 Y) (yM_l Y 1 (by decide)) dX6_tick_215 hf (fun x215 hf => ?_)
          refine x_iconst (v := 1) X dX6_tick_216 (by decide) ?_
          refine x_iadd X dX6_tick_217 ?_
          refine x_iast (w := sA s_209 1) X E.1 0 (yM_ht Y) (yM_1 Y) (yM_l Y 1 (by decide)) (yM_s1 Y) dX6_tick_218 hf (fun s218 hf => ?_)
          refine x_aload_n X dX6_tick_219 rfl 0 rfl ?_
          refine x_getf X fl_X6_7 (yM_0 Y) (yM_l Y 0 (by decide)) rfl dX6_tick_220 ?_
          refine x_bipush (v := 9) X dX6_tick_223 (by decide) ?_
          refine x_iald X 0 (yM_ht Y) (yM_1 Y) (yM_l Y 1 (by decide)) dX6_tick_225 hf (fun x225 hf => ?_)
          refine x_iload_n X dX6_tick_226 rfl 1 rfl ?_
          refine x_isub X dX6_tick_227 ?_
          exact x_iretW (σ0 := σ) X E hQ hf dX6_tick_228
        · refine x_if_ne (tgt := 148) X dX6_tick_137 (by decide) hf (fun hf => ?_) (fun hf => ?_)
          · refine x_aload_n X dX6_tick_148 rfl 0 rfl ?_
            refine x_getf X fl_X6_7 (yM_0 Y) (yM_l Y 0 (by decide)) rfl dX6_tick_149 ?_
            refine x_bipush (v := 6) X dX6_tick_152 (by decide) ?_
            refine x_iald X 0 (yM_ht Y) (yM_1 Y) (yM_l Y 1 (by decide)) dX6_tick_154 hf (fun x154 hf => ?_)
            refine x_istore_n (lv' := [(2, .int x154), (0, .ref (κ.S0 + (b + 0))), (1, .int x6)]) X dX6_tick_155 rfl (by decide) rfl ?_
            refine x_iconst (v := 0) X dX6_tick_156 (by decide) ?_
            refine x_istore_n (lv' := [(3, .int 0), (2, .int x154), (0, .ref (κ.S0 + (b + 0))), (1, .int x6)]) X dX6_tick_157 rfl (by decide) rfl ?_
            refine x_kont (b := fun kX158 => f_X6_tick_L158 x154 kX158 FU 0 s128) (fun kX158 => ∀  (sx180 : MS), kX158 sx180 = some (r, τ) → XG κ sx180 180 [(0, .ref (κ.S0 + (b + 0))), (1, .int x6), (2, .int x154)] []) hf (fun sx180 hf => ?_) (fun kX158 JX158 hf => ?_)
            · refine x_aload_n X dX6_tick_180 rfl 0 rfl ?_
              refine x_getf X fl_X6_7 (yM_0 Y) (yM_l Y 0 (by decide)) rfl dX6_tick_181 ?_
              refine x_bipush (v := 6) X dX6_tick_184 (by decide) ?_
              refine x_aload_n X dX6_tick_186 rfl 0 rfl ?_
              refine x_getf X fl_X6_118 (yM_0 Y) (yM_l Y 0 (by decide)) rfl dX6_tick_187 ?_
              refine x_bipush (v := (-5)) X dX6_tick_190 (by decide) ?_
              refine x_join (fun k208 => ∀ (t0_208 : Int32), k208 t0_208 = some (r, τ) → XG κ sx180 208 [(0, .ref (κ.S0 + (b + 0))), (1, .int x6)] [.int t0_208, .int 6, .ref (κ.S0 + (b + 1))]) hf (fun t0_208 hf => ?_) (fun k208 J208 hf => ?_)
              · refine x_iast (w := sA sx180 1) X E.1 0 (yM_ht Y) (yM_1 Y) (yM_l Y 1 (by decide)) (yM_s1 Y) dX6_tick_208 hf (fun s208 hf => ?_)
                exact J209 s208 hf
              · refine x_icmp_ne (tgt := 199) X dX6_tick_192 (by decide) hf (fun hf => ?_) (fun hf => ?_)
                · refine x_aload_n X dX6_tick_199 rfl 0 rfl ?_
                  refine x_getf X fl_X6_118 (yM_0 Y) (yM_l Y 0 (by decide)) rfl dX6_tick_200 ?_
                  refine x_iconst (v := 1) X dX6_tick_203 (by decide) ?_
                  refine x_iadd X dX6_tick_204 ?_
                  refine x_bipush (v := 8) X dX6_tick_205 (by decide) ?_
                  refine x_irem X dX6_tick_207 (by decide) ?_
                  refine x_sub [0, 1] rfl ?_
                  exact J208 (((sx180.2 4) + 1) - ((sx180.2 4) + 1) / 8 * 8) hf
                · refine x_iload_n X dX6_tick_195 rfl 2 rfl ?_
                  refine x_goto (tgt := 208) X dX6_tick_196 (by decide) ?_
                  refine x_sub [0, 1] rfl ?_
                  exact J208 x154 hf
            · have LL : ∀ (n : Nat) (v3_158 : Int32) (s158 : MS), f_X6_tick_L158 x154 kX158 n v3_158 s158 = some (r, τ) → XG κ s158 158 [(0, .ref (κ.S0 + (b + 0))), (1, .int x6), (2, .int x154), (3, .int v3_158)] [] := by
                intro n
                induction n with
                | zero => intro v3_158 s158 hf; rw [f_X6_tick_L158] at hf; cases hf
                | succ n ih158 =>
                  intro v3_158 s158 hf
                  rw [f_X6_tick_L158] at hf
                  refine x_iload_n X dX6_tick_158 rfl 3 rfl ?_
                  refine x_bipush (v := 8) X dX6_tick_159 (by decide) ?_
                  refine x_icmp_ge (tgt := 180) X dX6_tick_161 (by decide) hf (fun hf => ?_) (fun hf => ?_)
                  · refine x_sub [0, 1, 2] rfl ?_
                    exact JX158 s158 hf
                  · refine x_aload_n X dX6_tick_164 rfl 0 rfl ?_
                    refine x_iload_n X dX6_tick_165 rfl 2 rfl ?_
                    refine x_iload_n X dX6_tick_166 rfl 3 rfl ?_
                    refine x_iadd X dX6_tick_167 ?_
                    refine x_bipush (v := 8) X dX6_tick_168 (by decide) ?_
                    refine x_irem X dX6_tick_170 (by decide) ?_
                    refine x_callV (rest := []) (w := fun t => t) X E.1 hf (fun t hr => x_cV (ci := 6) X cm_X6_lookAtAll lkV_X6_124 rfl ⟨Nat.le_of_ble_eq_true rfl, Nat.le_of_ble_eq_true rfl⟩ (yM_0 Y) (yM_l Y 0 (by decide)) (m_X6_lookAtAll (yM_hb Y s158) (yM_ht Y) (yM_htz Y) (yM_hp Y _) (yM_hp Y _) hr) rfl rfl (Nat.le_of_ble_eq_true rfl) (x_room E _) dX6_tick_171) (fun s171 hf => ?_)
                    refine x_iinc (v := v3_158 + 1) (lv' := [(3, .int (v3_158 + 1)), (0, .ref (κ.S0 + (b + 0))), (1, .int x6), (2, .int x154)]) X dX6_tick_174 3 rfl rfl (by decide) rfl ?_
                    refine x_goto (tgt := 158) X dX6_tick_177 (by decide) ?_
                    refine x_sub [1, 2, 3, 0] rfl ?_
                    exact ih158 (v3_158 + 1) s171 hf
              refine x_sub [2, 3, 1, 0] rfl ?_
              exact LL FU 0 s128 hf
          · refine x_aload_n X dX6_tick_140 rfl 0 rfl ?_
            refine x_iconst (v := (-1)) X dX6_tick_141 (by decide) ?_
            refine x_callV (rest := []) (w := fun t => t) X E.1 hf (fun t hr => x_cV (ci := 6) X cm_X6_lookAtAll lkV_X6_124 rfl ⟨Nat.le_of_ble_eq_true rfl, Nat.le_of_ble_eq_true rfl⟩ (yM_0 Y) (yM_l Y 0 (by decide)) (m_X6_lookAtAll (yM_hb Y s128) (yM_ht Y) (yM_htz Y) (yM_hp Y _) (yM_hp Y _) hr) rfl rfl (Nat.le_of_ble_eq_true rfl) (x_room E _) dX6_tick_142) (fun s142 hf => ?_)
            refine x_goto (tgt := 209) X dX6_tick_145 (by decide) ?_
            exact J209 s142 hf
      · have LL : ∀ (n : Nat) (v2_85 : Int32) (s85 : MS), f_X6_tick_L85 kX85 n v2_85 s85 = some (r, τ) → XG κ s85 85 [(0, .ref (κ.S0 + (b + 0))), (1, .int x6), (2, .int v2_85)] [] := by
          intro n
          induction n with
          | zero => intro v2_85 s85 hf; rw [f_X6_tick_L85] at hf; cases hf
          | succ n ih85 =>
            intro v2_85 s85 hf
            rw [f_X6_tick_L85] at hf
            refine x_iload_n X dX6_tick_85 rfl 2 rfl ?_
            refine x_aload_n X dX6_tick_86 rfl 0 rfl ?_
            refine x_getf X fl_X6_7 (yM_0 Y) (yM_l Y 0 (by decide)) rfl dX6_tick_87 ?_
            refine x_iconst (v := 5) X dX6_tick_90 (by decide) ?_
            refine x_iald X 0 (yM_ht Y) (yM_1 Y) (yM_l Y 1 (by decide)) dX6_tick_91 hf (fun x91 hf => ?_)
            refine x_icmp_ge (tgt := 125) X dX6_tick_92 (by decide) hf (fun hf => ?_) (fun hf => ?_)
            · refine x_sub [0, 1] rfl ?_
              exact JX85 s85 hf
            · refine x_aload_n X dX6_tick_95 rfl 0 rfl ?_
              refine x_getf X fl_X6_25 (yM_0 Y) (yM_l Y 0 (by decide)) rfl dX6_tick_96 ?_
              refine x_iload_n X dX6_tick_99 rfl 2 rfl ?_
              refine x_aload_n X dX6_tick_100 rfl 0 rfl ?_
              refine x_getf X fl_X6_7 (yM_0 Y) (yM_l Y 0 (by decide)) rfl dX6_tick_101 ?_
              refine x_iload_n X dX6_tick_104 rfl 2 rfl ?_
              refine x_iconst (v := 3) X dX6_tick_105 (by decide) ?_
              refine x_callR (rest := [.ref (κ.S0 + (b + 1)), .int v2_85, .ref (κ.S0 + (b + 6))]) X hf (fun r hr => x_cS X cm_X6_ofAppend lkS_X6_54 ⟨Nat.le_of_ble_eq_true rfl, Nat.le_of_ble_eq_true rfl⟩ (m_X6_ofAppend hr) rfl rfl (Nat.le_of_ble_eq_true rfl) (x_room E _) dX6_tick_106) (fun r106 hf => ?_)
              refine x_iald X 0 (yM_ht Y) (yM_1 Y) (yM_l Y 1 (by decide)) dX6_tick_109 hf (fun x109 hf => ?_)
              refine x_join (fun k118 => ∀ (t0_118 : Int32), k118 t0_118 = some (r, τ) → XG κ s85 118 [(0, .ref (κ.S0 + (b + 0))), (1, .int x6), (2, .int v2_85)] [.int t0_118, .int v2_85, .ref (κ.S0 + (b + 6))]) hf (fun t0_118 hf => ?_) (fun k118 J118 hf => ?_)
              · refine x_zast (w := sA s85 6) X E.1 2 (yM_htz Y) (yM_6 Y) (yM_l Y 6 (by decide)) (yM_s6 Y) dX6_tick_118 hf (fun s118 hf => ?_)
                refine x_iinc (v := v2_85 + 1) (lv' := [(2, .int (v2_85 + 1)), (0, .ref (κ.S0 + (b + 0))), (1, .int x6)]) X dX6_tick_119 2 rfl rfl (by decide) rfl ?_
                refine x_goto (tgt := 85) X dX6_tick_122 (by decide) ?_
                refine x_sub [1, 2, 0] rfl ?_
                exact ih85 (v2_85 + 1) s118 hf
              · refine x_if_ne (tgt := 117) X dX6_tick_110 (by decide) hf (fun hf => ?_) (fun hf => ?_)
                · refine x_iconst (v := 0) X dX6_tick_117 (by decide) ?_
                  exact J118 0 hf
                · refine x_iconst (v := 1) X dX6_tick_113 (by decide) ?_
                  refine x_goto (tgt := 118) X dX6_tick_114 (by decide) ?_
                  exact J118 1 hf
        refine x_sub [1, 2, 0] rfl ?_
        exact LL FU 0 sx83 hf
    · have LL : ∀ (n : Nat) (v2_28 : Int32) (s28 : MS), f_X6_tick_L28 kX28 n v2_28 s28 = some (r, τ) → XG κ s28 28 [(0, .ref (κ.S0 + (b + 0))), (1, .int x6), (2, .int v2_28)] [] := by
        intro n
        induction n with
        | zero => intro v2_28 s28 hf; rw [f_X6_tick_L28] at hf; cases hf
        | succ n ih28 =>
          intro v2_28 s28 hf
          rw [f_X6_tick_L28] at hf
          refine x_iload_n X dX6_tick_28 rfl 2 rfl ?_
          refine x_aload_n X dX6_tick_29 rfl 0 rfl ?_
          refine x_getf X fl_X6_7 (yM_0 Y) (yM_l Y 0 (by decide)) rfl dX6_tick_30 ?_
          refine x_iconst (v := 5) X dX6_tick_33 (by decide) ?_
          refine x_iald X 0 (yM_ht Y) (yM_1 Y) (yM_l Y 1 (by decide)) dX6_tick_34 hf (fun x34 hf => ?_)
          refine x_icmp_ge (tgt := 83) X dX6_tick_35 (by decide) hf (fun hf => ?_) (fun hf => ?_)
          · refine x_sub [0, 1] rfl ?_
            exact JX28 s28 hf
          · refine x_aload_n X dX6_tick_38 rfl 0 rfl ?_
            refine x_getf X fl_X6_7 (yM_0 Y) (yM_l Y 0 (by decide)) rfl dX6_tick_39 ?_
            refine x_iload_n X dX6_tick_42 rfl 2 rfl ?_
            refine x_iconst (v := 3) X dX6_tick_43 (by decide) ?_
            refine x_callR (rest := [.ref (κ.S0 + (b + 1))]) X hf (fun r hr => x_cS X cm_X6_ofAppend lkS_X6_54 ⟨Nat.le_of_ble_eq_true rfl, Nat.le_of_ble_eq_true rfl⟩ (m_X6_ofAppend hr) rfl rfl (Nat.le_of_ble_eq_true rfl) (x_room E _) dX6_tick_44) (fun r44 hf => ?_)
            refine x_iald X 0 (yM_ht Y) (yM_1 Y) (yM_l Y 1 (by decide)) dX6_tick_47 hf (fun x47 hf => ?_)
            refine x_iconst (v := 1) X dX6_tick_48 (by decide) ?_
            refine x_join (fun k77 => ∀  (s_77 : MS), k77 s_77 = some (r, τ) → XG κ s_77 77 [(0, .ref (κ.S0 + (b + 0))), (1, .int x6), (2, .int v2_28)] []) hf (fun s_77 hf => ?_) (fun k77 J77 hf => ?_)
            · refine x_iinc (v := v2_28 + 1) (lv' := [(2, .int (v2_28 + 1)), (0, .ref (κ.S0 + (b + 0))), (1, .int x6)]) X dX6_tick_77 2 rfl rfl (by decide) rfl ?_
              refine x_goto (tgt := 28) X dX6_tick_80 (by decide) ?_
              refine x_sub [1, 2, 0] rfl ?_
              exact ih28 (v2_28 + 1) s_77 hf
            · refine x_icmp_ne (tgt := 77) X dX6_tick_49 (by decide) hf (fun hf => ?_) (fun hf => ?_)
              · exact J77 s28 hf
              · refine x_aload_n X dX6_tick_52 rfl 0 rfl ?_
                refine x_getf X fl_X6_7 (yM_0 Y) (yM_l Y 0 (by decide)) rfl dX6_tick_53 ?_
                refine x_iload_n X dX6_tick_56 rfl 2 rfl ?_
                refine x_bipush (v := 8) X dX6_tick_57 (by decide) ?_
                refine x_callR (rest := [.ref (κ.S0 + (b + 1))]) X hf (fun r hr => x_cS X cm_X6_ofAppend lkS_X6_54 ⟨Nat.le_of_ble_eq_true rfl, Nat.le_of_ble_eq_true rfl⟩ (m_X6_ofAppend hr) rfl rfl (Nat.le_of_ble_eq_true rfl) (x_room E _) dX6_tick_59) (fun r59 hf => ?_)
                refine x_iald X 0 (yM_ht Y) (yM_1 Y) (yM_l Y 1 (by decide)) dX6_tick_62 hf (fun x62 hf => ?_)
                refine x_aload_n X dX6_tick_63 rfl 0 rfl ?_
                refine x_getf X fl_X6_7 (yM_0 Y) (yM_l Y 0 (by decide)) rfl dX6_tick_64 ?_
                refine x_iconst (v := 0) X dX6_tick_67 (by decide) ?_
                refine x_iald X 0 (yM_ht Y) (yM_1 Y) (yM_l Y 1 (by decide)) dX6_tick_68 hf (fun x68 hf => ?_)
                refine x_icmp_ne (tgt := 77) X dX6_tick_69 (by decide) hf (fun hf => ?_) (fun hf => ?_)
                · exact J77 s28 hf
                · refine x_aload_n X dX6_tick_72 rfl 0 rfl ?_
                  refine x_iload_n X dX6_tick_73 rfl 2 rfl ?_
                  refine x_callV (rest := []) (w := fun t => t) X E.1 hf (fun t hr => x_cV (ci := 6) X cm_X6_tell lkV_X6_121 rfl ⟨Nat.le_of_ble_eq_true rfl, Nat.le_of_ble_eq_true rfl⟩ (yM_0 Y) (yM_l Y 0 (by decide)) (m_X6_tell (yM_hb Y s28) (yM_ht Y) (yM_htz Y) (yM_hp Y _) (yM_hp Y _) hr) rfl rfl (Nat.le_of_ble_eq_true rfl) (x_room E _) dX6_tick_74) (fun s74 hf => ?_)
                  exact J77 s74 hf
      refine x_sub [1, 2, 0] rfl ?_
      exact LL FU 0 s23 hf
  · refine x_if_le (tgt := 22) X dX6_tick_15 (by decide) hf (fun hf => ?_) (fun hf => ?_)
    · refine x_iconst (v := 0) X dX6_tick_22 (by decide) ?_
      refine x_sub [1, 0] rfl ?_
      exact J23 0 hf
    · refine x_iconst (v := 1) X dX6_tick_18 (by decide) ?_
      refine x_goto (tgt := 23) X dX6_tick_19 (by decide) ?_
      refine x_sub [1, 0] rfl ?_
      exact J23 1 hf
def f_X6_goBy_L4 (p1 : Int32) (kX4 : Int32 → MS → Option (Int32 × MS)) : Nat → Int32 → Int32 → MS → Option (Int32 × MS)
  | 0, _, _, _ => none
  | n + 1, v2_4, v3_4, s4 =>
    if p1 ≤ v3_4 then (kX4 v2_4 s4) else (oW (f_X6_tick s4) (fun t => t) (fun r11 s11 => f_X6_goBy_L4 p1 kX4 n (v2_4 + r11) (v3_4 + 1) s11))
def f_X6_goBy (σ : MS) (p1 : Int32) : Option (Int32 × MS) :=
  f_X6_goBy_L4 p1 (fun w2_22 sx22 => some (w2_22, sx22)) FU 0 0 σ
set_option maxRecDepth 100000 in
set_option maxHeartbeats 4000000 in
theorem m_X6_goBy {l : Launch} {G : va_G} {tys : List (ClassId × FieldType)} {S0 : Nat} {h h1 h2 : Nat → va_E} {b cN' : Nat} {cI cZ : ClassId} {σ : MS} {τ : MS} {p1 : Int32} {r : Int32} (hb : b + 8 ≤ cN') (ht : tys[0]? = some (cI, .int)) (htz : tys[2]? = some (cZ, .boolean)) (e1 : h1 = ov h b (ml S0 cI cZ b σ)) (e2 : h2 = ov h b (ml S0 cI cZ b τ)) (hf : f_X6_goBy σ p1 = some (r, τ)) : XMet l G tys S0 cN' yX6_goBy cX6_goBy 4 (some .int) 7 160 [.ref (S0 + (b + 0)), .int p1] h1 cN' (some (.int r)) h2 0 0 := by
  subst e1; subst e2
  refine XMet.ofE (ST := MS) (HP := fun σ => ov h b (ml S0 cI cZ b σ)) σ τ (by decide) (Nat.le_of_ble_eq_true rfl) ?_
  intro κ g1 g2 g3 g4 g5 g6 E X hQ
  subst g1; subst g2; subst g3; subst g4
  have Y : YM κ h b cI cZ := ⟨fun σ => by rw [g5], fun σ => by rw [g6]; exact hb, ht, htz⟩
  have X : XC κ cX6_goBy 4 RX6 (some .int) 7 160 := X
  show XG κ σ 0 [(0, .ref (κ.S0 + (b + 0))), (1, .int p1)] []
  unfold f_X6_goBy at hf
  refine x_iconst (v := 0) X dX6_goBy_0 (by decide) ?_
  refine x_istore_n (lv' := [(2, .int 0), (0, .ref (κ.S0 + (b + 0))), (1, .int p1)]) X dX6_goBy_1 rfl (by decide) rfl ?_
  refine x_iconst (v := 0) X dX6_goBy_2 (by decide) ?_
  refine x_istore_n (lv' := [(3, .int 0), (2, .int 0), (0, .ref (κ.S0 + (b + 0))), (1, .int p1)]) X dX6_goBy_3 rfl (by decide) rfl ?_
  refine x_kont (b := fun kX4 => f_X6_goBy_L4 p1 kX4 FU 0 0 σ) (fun kX4 => ∀ (w2_22 : Int32) (sx22 : MS), kX4 w2_22 sx22 = some (r, τ) → XG κ sx22 22 [(2, .int w2_22)] []) hf (fun w2_22 sx22 hf => ?_) (fun kX4 JX4 hf => ?_)
  · refine x_iload_n X dX6_goBy_22 rfl 0 rfl ?_
    exact x_iretW (σ0 := σ) X E hQ hf dX6_goBy_23
  · have LL : ∀ (n : Nat) (v2_4 : Int32) (v3_4 : Int32) (s4 : MS), f_X6_goBy_L4 p1 kX4 n v2_4 v3_4 s4 = some (r, τ) → XG κ s4 4 [(0, .ref (κ.S0 + (b + 0))), (1, .int p1), (2, .int v2_4), (3, .int v3_4)] [] := by
      intro n
      induction n with
      | zero => intro v2_4 v3_4 s4 hf; rw [f_X6_goBy_L4] at hf; cases hf
      | succ n ih4 =>
        intro v2_4 v3_4 s4 hf
        rw [f_X6_goBy_L4] at hf
        refine x_iload_n X dX6_goBy_4 rfl 3 rfl ?_
        refine x_iload_n X dX6_goBy_5 rfl 1 rfl ?_
        refine x_icmp_ge (tgt := 22) X dX6_goBy_6 (by decide) hf (fun hf => ?_) (fun hf => ?_)
        · refine x_sub [2] rfl ?_
          exact JX4 v2_4 s4 hf
        · refine x_iload_n X dX6_goBy_9 rfl 2 rfl ?_
          refine x_aload_n X dX6_goBy_10 rfl 0 rfl ?_
          refine x_callW (rest := [.int v2_4]) (w := fun t => t) X E.1 hf (fun r t hr => x_cV (ci := 6) X cm_X6_tick lkV_X6_127 rfl ⟨Nat.le_of_ble_eq_true rfl, Nat.le_of_ble_eq_true rfl⟩ (yM_0 Y) (yM_l Y 0 (by decide)) (m_X6_tick (yM_hb Y s4) (yM_ht Y) (yM_htz Y) (yM_hp Y _) (yM_hp Y _) hr) rfl rfl (Nat.le_of_ble_eq_true rfl) (x_room E _) dX6_goBy_11) (fun r11 s11 hf => ?_)
          refine x_iadd X dX6_goBy_14 ?_
          refine x_istore_n (lv' := [(2, .int (v2_4 + r11)), (0, .ref (κ.S0 + (b + 0))), (1, .int p1), (3, .int v3_4)]) X dX6_goBy_15 rfl (by decide) rfl ?_
          refine x_iinc (v := v3_4 + 1) (lv' := [(3, .int (v3_4 + 1)), (2, .int (v2_4 + r11)), (0, .ref (κ.S0 + (b + 0))), (1, .int p1)]) X dX6_goBy_16 3 rfl rfl (by decide) rfl ?_
          refine x_goto (tgt := 4) X dX6_goBy_19 (by decide) ?_
          refine x_sub [2, 3, 1, 0] rfl ?_
          exact ih4 (v2_4 + r11) (v3_4 + 1) s11 hf
    refine x_sub [2, 3, 1, 0] rfl ?_
    exact LL FU 0 0 σ hf
def f_X6_pass (σ : MS) (p1 : Int32) : Option (Int32 × MS) :=
  oR (f_X6_in p1 1 99) (fun r4 => if r4 = 0 then (some ((-2), σ)) else (oA 2204 (σ.1 1) 0 (fun x18 => if (x18 + p1) ≤ 9999 then (oV (f_X6_know σ) (fun t => t) (fun s31 => oW (f_X6_goBy s31 p1) (fun t => t) (fun r36 s36 => some (r36, s36)))) else (some ((-3), σ)))))
set_option maxRecDepth 100000 in
set_option maxHeartbeats 4000000 in
theorem m_X6_pass {l : Launch} {G : va_G} {tys : List (ClassId × FieldType)} {S0 : Nat} {h h1 h2 : Nat → va_E} {b cN' : Nat} {cI cZ : ClassId} {σ : MS} {τ : MS} {p1 : Int32} {r : Int32} (hb : b + 8 ≤ cN') (ht : tys[0]? = some (cI, .int)) (htz : tys[2]? = some (cZ, .boolean)) (e1 : h1 = ov h b (ml S0 cI cZ b σ)) (e2 : h2 = ov h b (ml S0 cI cZ b τ)) (hf : f_X6_pass σ p1 = some (r, τ)) : XMet l G tys S0 cN' yX6_pass cX6_pass 2 (some .int) 8 183 [.ref (S0 + (b + 0)), .int p1] h1 cN' (some (.int r)) h2 0 0 := by
  subst e1; subst e2
  refine XMet.ofE (ST := MS) (HP := fun σ => ov h b (ml S0 cI cZ b σ)) σ τ (by decide) (Nat.le_of_ble_eq_true rfl) ?_
  intro κ g1 g2 g3 g4 g5 g6 E X hQ
  subst g1; subst g2; subst g3; subst g4
  have Y : YM κ h b cI cZ := ⟨fun σ => by rw [g5], fun σ => by rw [g6]; exact hb, ht, htz⟩
  have X : XC κ cX6_pass 2 RX6 (some .int) 8 183 := X
  show XG κ σ 0 [(0, .ref (κ.S0 + (b + 0))), (1, .int p1)] []
  unfold f_X6_pass at hf
  refine x_iload_n X dX6_pass_0 rfl 1 rfl ?_
  refine x_iconst (v := 1) X dX6_pass_1 (by decide) ?_
  refine x_bipush (v := 99) X dX6_pass_2 (by decide) ?_
  refine x_callR (rest := []) X hf (fun r hr => x_cS X cm_X6_in lkS_X6_43 ⟨Nat.le_of_ble_eq_true rfl, Nat.le_of_ble_eq_true rfl⟩ (m_X6_in hr) rfl rfl (Nat.le_of_ble_eq_true rfl) (x_room E _) dX6_pass_4) (fun r4 hf => ?_)
  refine x_if_ne (tgt := 13) X dX6_pass_7 (by decide) hf (fun hf => ?_) (fun hf => ?_)
  · refine x_aload_n X dX6_pass_13 rfl 0 rfl ?_
    refine x_getf X fl_X6_7 (yM_0 Y) (yM_l Y 0 (by decide)) rfl dX6_pass_14 ?_
    refine x_iconst (v := 0) X dX6_pass_17 (by decide) ?_
    refine x_iald X 0 (yM_ht Y) (yM_1 Y) (yM_l Y 1 (by decide)) dX6_pass_18 hf (fun x18 hf => ?_)
    refine x_iload_n X dX6_pass_19 rfl 1 rfl ?_
    refine x_iadd X dX6_pass_20 ?_
    refine x_sipush (v := 9999) X dX6_pass_21 (by decide) ?_
    refine x_icmp_le (tgt := 30) X dX6_pass_24 (by decide) hf (fun hf => ?_) (fun hf => ?_)
    · refine x_aload_n X dX6_pass_30 rfl 0 rfl ?_
      refine x_callV (rest := []) (w := fun t => t) X E.1 hf (fun t hr => x_cV (ci := 6) X cm_X6_know lkV_X6_51 rfl ⟨Nat.le_of_ble_eq_true rfl, Nat.le_of_ble_eq_true rfl⟩ (yM_0 Y) (yM_l Y 0 (by decide)) (m_X6_know (yM_hb Y σ) (yM_ht Y) (yM_htz Y) (yM_hp Y _) (yM_hp Y _) hr) rfl rfl (Nat.le_of_ble_eq_true rfl) (x_room E _) dX6_pass_31) (fun s31 hf => ?_)
      refine x_aload_n X dX6_pass_34 rfl 0 rfl ?_
      refine x_iload_n X dX6_pass_35 rfl 1 rfl ?_
      refine x_callW (rest := []) (w := fun t => t) X E.1 hf (fun r t hr => x_cV (ci := 6) X cm_X6_goBy lkV_X6_130 rfl ⟨Nat.le_of_ble_eq_true rfl, Nat.le_of_ble_eq_true rfl⟩ (yM_0 Y) (yM_l Y 0 (by decide)) (m_X6_goBy (yM_hb Y s31) (yM_ht Y) (yM_htz Y) (yM_hp Y _) (yM_hp Y _) hr) rfl rfl (Nat.le_of_ble_eq_true rfl) (x_room E _) dX6_pass_36) (fun r36 s36 hf => ?_)
      exact x_iretW (σ0 := σ) X E hQ hf dX6_pass_39
    · refine x_bipush (v := (-3)) X dX6_pass_27 (by decide) ?_
      exact x_iretW (σ0 := σ) X E hQ hf dX6_pass_29
  · refine x_bipush (v := (-2)) X dX6_pass_10 (by decide) ?_
    exact x_iretW (σ0 := σ) X E hQ hf dX6_pass_12
def f_X6_sign (σ : MS) (p1 : Int32) (p2 : Int32) : Option (Int32 × MS) :=
  oJ (κ := Int32 → Option (Int32 × MS)) (fun t0_24 => oJ (κ := Int32 → Option (Int32 × MS)) (fun t0_47 => oZ t0_47 (sN σ 6) (fun s47 => oJ (κ := Int32 → Option (Int32 × MS)) (fun t0_67 => oN ((s47.2 5) + t0_67) (sN s47 5) (fun s68 => some (t0_24, s68))) (fun k67 => if (s47.2 6) = 0 then (k67 1) else (k67 0)))) (fun k47 => oJ (κ := Option (Int32 × MS)) (k47 1) (fun k42 => if (σ.2 6) = 0 then (oR (f_X6_in t0_24 p1 p2) (fun r36 => if r36 = 0 then k42 else (k47 0))) else k42))) (fun k24 => if (σ.2 2) ≤ (σ.2 5) then (k24 0) else (oA 60 (σ.1 5) (σ.2 5) (fun x19 => k24 x19)))
set_option maxRecDepth 100000 in
set_option maxHeartbeats 4000000 in
theorem m_X6_sign {l : Launch} {G : va_G} {tys : List (ClassId × FieldType)} {S0 : Nat} {h h1 h2 : Nat → va_E} {b cN' : Nat} {cI cZ : ClassId} {σ : MS} {τ : MS} {p1 : Int32} {p2 : Int32} {r : Int32} (hb : b + 8 ≤ cN') (ht : tys[0]? = some (cI, .int)) (htz : tys[2]? = some (cZ, .boolean)) (e1 : h1 = ov h b (ml S0 cI cZ b σ)) (e2 : h2 = ov h b (ml S0 cI cZ b τ)) (hf : f_X6_sign σ p1 p2 = some (r, τ)) : XMet l G tys S0 cN' yX6_sign cX6_sign 4 (some .int) 1 22 [.ref (S0 + (b + 0)), .int p1, .int p2] h1 cN' (some (.int r)) h2 0 0 := by
  subst e1; subst e2
  refine XMet.ofE (ST := MS) (HP := fun σ => ov h b (ml S0 cI cZ b σ)) σ τ (by decide) (Nat.le_of_ble_eq_true rfl) ?_
  intro κ g1 g2 g3 g4 g5 g6 E X hQ
  subst g1; subst g2; subst g3; subst g4
  have Y : YM κ h b cI cZ := ⟨fun σ => by rw [g5], fun σ => by rw [g6]; exact hb, ht, htz⟩
  have X : XC κ cX6_sign 4 RX6 (some .int) 1 22 := X
  show XG κ σ 0 [(0, .ref (κ.S0 + (b + 0))), (1, .int p1), (2, .int p2)] []
  unfold f_X6_sign at hf
  refine x_aload_n X dX6_sign_0 rfl 0 rfl ?_
  refine x_getf X fl_X6_133 (yM_0 Y) (yM_l Y 0 (by decide)) rfl dX6_sign_1 ?_
  refine x_aload_n X dX6_sign_4 rfl 0 rfl ?_
  refine x_getf X fl_X6_136 (yM_0 Y) (yM_l Y 0 (by decide)) rfl dX6_sign_5 ?_
  refine x_join (fun k24 => ∀ (t0_24 : Int32), k24 t0_24 = some (r, τ) → XG κ σ 24 [(0, .ref (κ.S0 + (b + 0))), (1, .int p1), (2, .int p2)] [.int t0_24]) hf (fun t0_24 hf => ?_) (fun k24 J24 hf => ?_)
  · refine x_istore_n (lv' := [(3, .int t0_24), (0, .ref (κ.S0 + (b + 0))), (1, .int p1), (2, .int p2)]) X dX6_sign_24 rfl (by decide) rfl ?_
    refine x_aload_n X dX6_sign_25 rfl 1 rfl ?_
    refine x_aload_n X dX6_sign_26 rfl 1 rfl ?_
    refine x_getf X fl_X6_139 (yM_0 Y) (yM_l Y 0 (by decide)) rfl dX6_sign_27 ?_
    refine x_join (fun k47 => ∀ (t0_47 : Int32), k47 t0_47 = some (r, τ) → XG κ σ 47 [(0, .ref (κ.S0 + (b + 0))), (3, .int t0_24)] [.int t0_47, .ref (κ.S0 + (b + 0))]) hf (fun t0_47 hf => ?_) (fun k47 J47 hf => ?_)
    · refine x_putZ (w := sN σ 6) X E.1 fp_X6_139 (yM_0 Y) (yM_l Y 0 (by decide)) (Nat.le_of_ble_eq_true rfl) (yM_p0_12 Y) dX6_sign_47 hf (fun s47 hf => ?_)
      refine x_aload_n X dX6_sign_50 rfl 0 rfl ?_
      refine x_dup X dX6_sign_51 rfl ?_
      refine x_getf X fl_X6_133 (yM_0 Y) (yM_l Y 0 (by decide)) rfl dX6_sign_52 ?_
      refine x_aload_n X dX6_sign_55 rfl 0 rfl ?_
      refine x_getf X fl_X6_139 (yM_0 Y) (yM_l Y 0 (by decide)) rfl dX6_sign_56 ?_
      refine x_join (fun k67 => ∀ (t0_67 : Int32), k67 t0_67 = some (r, τ) → XG κ s47 67 [(3, .int t0_24)] [.int t0_67, .int (s47.2 5), .ref (κ.S0 + (b + 0))]) hf (fun t0_67 hf => ?_) (fun k67 J67 hf => ?_)
      · refine x_iadd X dX6_sign_67 ?_
        refine x_putI (w := sN s47 5) X E.1 fp_X6_133 (yM_0 Y) (yM_l Y 0 (by decide)) (Nat.le_of_ble_eq_true rfl) (yM_p0_11 Y) dX6_sign_68 hf (fun s68 hf => ?_)
        refine x_iload_n X dX6_sign_71 rfl 0 rfl ?_
        exact x_iretW (σ0 := σ) X E hQ hf dX6_sign_72
      · refine x_if_eq (tgt := 66) X dX6_sign_59 (by decide) hf (fun hf => ?_) (fun hf => ?_)
        · refine x_iconst (v := 1) X dX6_sign_66 (by decide) ?_
          refine x_sub [1] rfl ?_
          exact J67 1 hf
        · refine x_iconst (v := 0) X dX6_sign_62 (by decide) ?_
          refine x_goto (tgt := 67) X dX6_sign_63 (by decide) ?_
          refine x_sub [1] rfl ?_
          exact J67 0 hf
    · refine x_join (fun k42 => k42 = some (r, τ) → XG κ σ 42 [(0, .ref (κ.S0 + (b + 0))), (3, .int t0_24)] [.ref (κ.S0 + (b + 0))]) hf (fun hf => ?_) (fun k42 J42 hf => ?_)
      · refine x_iconst (v := 1) X dX6_sign_42 (by decide) ?_
        refine x_goto (tgt := 47) X dX6_sign_43 (by decide) ?_
        exact J47 1 hf
      · refine x_if_ne (tgt := 42) X dX6_sign_30 (by decide) hf (fun hf => ?_) (fun hf => ?_)
        · refine x_sub [1, 0] rfl ?_
          exact J42 hf
        · refine x_iload_n X dX6_sign_33 rfl 0 rfl ?_
          refine x_iload_n X dX6_sign_34 rfl 2 rfl ?_
          refine x_iload_n X dX6_sign_35 rfl 3 rfl ?_
          refine x_callR (rest := [.ref (κ.S0 + (b + 0))]) X hf (fun r hr => x_cS X cm_X6_in lkS_X6_43 ⟨Nat.le_of_ble_eq_true rfl, Nat.le_of_ble_eq_true rfl⟩ (m_X6_in hr) rfl rfl (Nat.le_of_ble_eq_true rfl) (x_room E _) dX6_sign_36) (fun r36 hf => ?_)
          refine x_if_ne (tgt := 46) X dX6_sign_39 (by decide) hf (fun hf => ?_) (fun hf => ?_)
          · refine x_iconst (v := 0) X dX6_sign_46 (by decide) ?_
            refine x_sub [1, 0] rfl ?_
            exact J47 0 hf
          · refine x_sub [1, 0] rfl ?_
            exact J42 hf
  · refine x_icmp_ge (tgt := 23) X dX6_sign_8 (by decide) hf (fun hf => ?_) (fun hf => ?_)
    · refine x_iconst (v := 0) X dX6_sign_23 (by decide) ?_
      exact J24 0 hf
    · refine x_aload_n X dX6_sign_11 rfl 0 rfl ?_
      refine x_getf X fl_X6_22 (yM_0 Y) (yM_l Y 0 (by decide)) rfl dX6_sign_12 ?_
      refine x_aload_n X dX6_sign_15 rfl 0 rfl ?_
      refine x_getf X fl_X6_133 (yM_0 Y) (yM_l Y 0 (by decide)) rfl dX6_sign_16 ?_
      refine x_iald X 0 (yM_ht Y) (yM_5 Y) (yM_l Y 5 (by decide)) dX6_sign_19 hf (fun x19 hf => ?_)
      refine x_goto (tgt := 24) X dX6_sign_20 (by decide) ?_
      exact J24 x19 hf
def f_X6_order (σ : MS)  : Option (MS) :=
  oJ (κ := Int32 → Option (MS)) (fun t0_24 => oJ (κ := Int32 → Option (MS)) (fun t0_48 => oJ (κ := Int32 → MS → Option (MS)) (fun t0_68 s_68 => oS 4 (s_68.1 7) 0 t0_68 (sA s_68 7) (fun s68 => oJ (κ := Int32 → MS → Option (MS)) (fun t0_123 s_123 => oS 4 (s_123.1 7) 1 t0_123 (sA s_123 7) (fun s123 => if t0_48 = 0 then (oW (f_X6_sign s123 62 62) (fun t => t) (fun r134 s134 => oW (f_X6_sign s134 48 55) (fun t => t) (fun r148 s148 => oS 4 (s148.1 7) 2 (r148 - 48) (sA s148 7) (fun s154 => oW (f_X6_sign s154 61 61) (fun t => t) (fun r160 s160 => oW (f_X6_sign s160 48 57) (fun t => t) (fun r175 s175 => oS 4 (s175.1 7) 3 (r175 - 48) (sA s175 7) (fun s181 => if (s181.2 6) = 0 then (oA 4 (s181.1 7) 3 (fun x194 => if x194 ≤ 0 then (some s181) else (if (s181.2 2) ≤ (s181.2 5) then (some s181) else (oA 60 (s181.1 5) (s181.2 5) (fun x217 => oR (f_X6_in x217 48 57) (fun r222 => if r222 = 0 then (some s181) else (oA 4 (s181.1 7) 3 (fun x240 => oW (f_X6_sign s181 48 57) (fun t => t) (fun r247 s247 => oS 4 (s247.1 7) 3 (((10 * x240) + r247) - 48) (sA s247 7) (fun s254 => some s254)))))))))) else (some s181)))))))) else (some s123))) (fun k123 => if t0_24 = 112 then (oW (f_X6_sign s68 49 57) (fun t => t) (fun r85 s85 => k123 (r85 - 48) s85)) else (if t0_48 = 0 then (oW (f_X6_sign s68 48 51) (fun t => t) (fun r117 s117 => k123 (r117 - 48) s117)) else (oW (f_X6_sign s68 48 55) (fun t => t) (fun r103 s103 => k123 (r103 - 48) s103)))))) (fun k68 => if t0_48 = 0 then (k68 0 σ) else (oW (f_X6_sign σ t0_24 t0_24) (fun t => t) (fun r61 s61 => k68 r61 s61)))) (fun k48 => oJ (κ := Option (MS)) (k48 1) (fun k43 => if t0_24 = 114 then k43 else (if t0_24 = 102 then k43 else (if t0_24 = 112 then k43 else (k48 0)))))) (fun k24 => if (σ.2 2) ≤ (σ.2 5) then (k24 0) else (oA 60 (σ.1 5) (σ.2 5) (fun x19 => k24 x19)))
set_option maxRecDepth 100000 in
set_option maxHeartbeats 4000000 in
theorem m_X6_order {l : Launch} {G : va_G} {tys : List (ClassId × FieldType)} {S0 : Nat} {h h1 h2 : Nat → va_E} {b cN' : Nat} {cI cZ : ClassId} {σ : MS} {τ : MS}  (hb : b + 8 ≤ cN') (ht : tys[0]? = some (cI, .int)) (htz : tys[2]? = some (cZ, .boolean)) (e1 : h1 = ov h b (ml S0 cI cZ b σ)) (e2 : h2 = ov h b (ml S0 cI cZ b τ)) (hf : f_X6_order σ = some τ) : XMet l G tys S0 cN' yX6_order cX6_order 5 none 2 45 [.ref (S0 + (b + 0))] h1 cN' none h2 0 0 := by
  subst e1; subst e2
  refine XMet.ofE (ST := MS) (HP := fun σ => ov h b (ml S0 cI cZ b σ)) σ τ (by decide) (Nat.le_of_ble_eq_true rfl) ?_
  intro κ g1 g2 g3 g4 g5 g6 E X hQ
  subst g1; subst g2; subst g3; subst g4
  have Y : YM κ h b cI cZ := ⟨fun σ => by rw [g5], fun σ => by rw [g6]; exact hb, ht, htz⟩
  have X : XC κ cX6_order 5 RX6 none 2 45 := X
  show XG κ σ 0 [(0, .ref (κ.S0 + (b + 0)))] []
  unfold f_X6_order at hf
  refine x_aload_n X dX6_order_0 rfl 0 rfl ?_
  refine x_getf X fl_X6_133 (yM_0 Y) (yM_l Y 0 (by decide)) rfl dX6_order_1 ?_
  refine x_aload_n X dX6_order_4 rfl 0 rfl ?_
  refine x_getf X fl_X6_136 (yM_0 Y) (yM_l Y 0 (by decide)) rfl dX6_order_5 ?_
  refine x_join (fun k24 => ∀ (t0_24 : Int32), k24 t0_24 = some τ → XG κ σ 24 [(0, .ref (κ.S0 + (b + 0)))] [.int t0_24]) hf (fun t0_24 hf => ?_) (fun k24 J24 hf => ?_)
  · refine x_istore_n (lv' := [(1, .int t0_24), (0, .ref (κ.S0 + (b + 0)))]) X dX6_order_24 rfl (by decide) rfl ?_
    refine x_iload_n X dX6_order_25 rfl 0 rfl ?_
    refine x_bipush (v := 114) X dX6_order_26 (by decide) ?_
    refine x_join (fun k48 => ∀ (t0_48 : Int32), k48 t0_48 = some τ → XG κ σ 48 [(0, .ref (κ.S0 + (b + 0))), (1, .int t0_24)] [.int t0_48]) hf (fun t0_48 hf => ?_) (fun k48 J48 hf => ?_)
    · refine x_istore_n (lv' := [(2, .int t0_48), (0, .ref (κ.S0 + (b + 0))), (1, .int t0_24)]) X dX6_order_48 rfl (by decide) rfl ?_
      refine x_aload_n X dX6_order_49 rfl 1 rfl ?_
      refine x_getf X fl_X6_29 (yM_0 Y) (yM_l Y 0 (by decide)) rfl dX6_order_50 ?_
      refine x_iconst (v := 0) X dX6_order_53 (by decide) ?_
      refine x_iload_n X dX6_order_54 rfl 0 rfl ?_
      refine x_join (fun k68 => ∀ (t0_68 : Int32) (s_68 : MS), k68 t0_68 s_68 = some τ → XG κ s_68 68 [(0, .ref (κ.S0 + (b + 0))), (1, .int t0_24), (2, .int t0_48)] [.int t0_68, .int 0, .ref (κ.S0 + (b + 7))]) hf (fun t0_68 s_68 hf => ?_) (fun k68 J68 hf => ?_)
      · refine x_iast (w := sA s_68 7) X E.1 0 (yM_ht Y) (yM_7 Y) (yM_l Y 7 (by decide)) (yM_s7 Y) dX6_order_68 hf (fun s68 hf => ?_)
        refine x_aload_n X dX6_order_69 rfl 0 rfl ?_
        refine x_getf X fl_X6_29 (yM_0 Y) (yM_l Y 0 (by decide)) rfl dX6_order_70 ?_
        refine x_iconst (v := 1) X dX6_order_73 (by decide) ?_
        refine x_iload_n X dX6_order_74 rfl 1 rfl ?_
        refine x_bipush (v := 112) X dX6_order_75 (by decide) ?_
        refine x_join (fun k123 => ∀ (t0_123 : Int32) (s_123 : MS), k123 t0_123 s_123 = some τ → XG κ s_123 123 [(0, .ref (κ.S0 + (b + 0))), (2, .int t0_48)] [.int t0_123, .int 1, .ref (κ.S0 + (b + 7))]) hf (fun t0_123 s_123 hf => ?_) (fun k123 J123 hf => ?_)
        · refine x_iast (w := sA s_123 7) X E.1 0 (yM_ht Y) (yM_7 Y) (yM_l Y 7 (by decide)) (yM_s7 Y) dX6_order_123 hf (fun s123 hf => ?_)
          refine x_iload_n X dX6_order_124 rfl 1 rfl ?_
          refine x_if_eq (tgt := 129) X dX6_order_125 (by decide) hf (fun hf => ?_) (fun hf => ?_)
          · refine x_aload_n X dX6_order_129 rfl 0 rfl ?_
            refine x_bipush (v := 62) X dX6_order_130 (by decide) ?_
            refine x_bipush (v := 62) X dX6_order_132 (by decide) ?_
            refine x_callW (rest := []) (w := fun t => t) X E.1 hf (fun r t hr => x_cV (ci := 6) X cm_X6_sign lkV_X6_142 rfl ⟨Nat.le_of_ble_eq_true rfl, Nat.le_of_ble_eq_true rfl⟩ (yM_0 Y) (yM_l Y 0 (by decide)) (m_X6_sign (yM_hb Y s123) (yM_ht Y) (yM_htz Y) (yM_hp Y _) (yM_hp Y _) hr) rfl rfl (Nat.le_of_ble_eq_true rfl) (x_room E _) dX6_order_134) (fun r134 s134 hf => ?_)
            refine x_istore_n (lv' := [(3, .int r134), (0, .ref (κ.S0 + (b + 0))), (2, .int t0_48)]) X dX6_order_137 rfl (by decide) rfl ?_
            refine x_aload_n X dX6_order_138 rfl 1 rfl ?_
            refine x_getf X fl_X6_29 (yM_0 Y) (yM_l Y 0 (by decide)) rfl dX6_order_139 ?_
            refine x_iconst (v := 2) X dX6_order_142 (by decide) ?_
            refine x_aload_n X dX6_order_143 rfl 1 rfl ?_
            refine x_bipush (v := 48) X dX6_order_144 (by decide) ?_
            refine x_bipush (v := 55) X dX6_order_146 (by decide) ?_
            refine x_callW (rest := [.int 2, .ref (κ.S0 + (b + 7))]) (w := fun t => t) X E.1 hf (fun r t hr => x_cV (ci := 6) X cm_X6_sign lkV_X6_142 rfl ⟨Nat.le_of_ble_eq_true rfl, Nat.le_of_ble_eq_true rfl⟩ (yM_0 Y) (yM_l Y 0 (by decide)) (m_X6_sign (yM_hb Y s134) (yM_ht Y) (yM_htz Y) (yM_hp Y _) (yM_hp Y _) hr) rfl rfl (Nat.le_of_ble_eq_true rfl) (x_room E _) dX6_order_148) (fun r148 s148 hf => ?_)
            refine x_bipush (v := 48) X dX6_order_151 (by decide) ?_
            refine x_isub X dX6_order_153 ?_
            refine x_iast (w := sA s148 7) X E.1 0 (yM_ht Y) (yM_7 Y) (yM_l Y 7 (by decide)) (yM_s7 Y) dX6_order_154 hf (fun s154 hf => ?_)
            refine x_aload_n X dX6_order_155 rfl 1 rfl ?_
            refine x_bipush (v := 61) X dX6_order_156 (by decide) ?_
            refine x_bipush (v := 61) X dX6_order_158 (by decide) ?_
            refine x_callW (rest := []) (w := fun t => t) X E.1 hf (fun r t hr => x_cV (ci := 6) X cm_X6_sign lkV_X6_142 rfl ⟨Nat.le_of_ble_eq_true rfl, Nat.le_of_ble_eq_true rfl⟩ (yM_0 Y) (yM_l Y 0 (by decide)) (m_X6_sign (yM_hb Y s154) (yM_ht Y) (yM_htz Y) (yM_hp Y _) (yM_hp Y _) hr) rfl rfl (Nat.le_of_ble_eq_true rfl) (x_room E _) dX6_order_160) (fun r160 s160 hf => ?_)
            refine x_istore (lv' := [(4, .int r160), (3, .int r134), (0, .ref (κ.S0 + (b + 0))), (2, .int t0_48)]) X dX6_order_163 (by decide) rfl ?_
            refine x_aload_n X dX6_order_165 rfl 2 rfl ?_
            refine x_getf X fl_X6_29 (yM_0 Y) (yM_l Y 0 (by decide)) rfl dX6_order_166 ?_
            refine x_iconst (v := 3) X dX6_order_169 (by decide) ?_
            refine x_aload_n X dX6_order_170 rfl 2 rfl ?_
            refine x_bipush (v := 48) X dX6_order_171 (by decide) ?_
            refine x_bipush (v := 57) X dX6_order_173 (by decide) ?_
            refine x_callW (rest := [.int 3, .ref (κ.S0 + (b + 7))]) (w := fun t => t) X E.1 hf (fun r t hr => x_cV (ci := 6) X cm_X6_sign lkV_X6_142 rfl ⟨Nat.le_of_ble_eq_true rfl, Nat.le_of_ble_eq_true rfl⟩ (yM_0 Y) (yM_l Y 0 (by decide)) (m_X6_sign (yM_hb Y s160) (yM_ht Y) (yM_htz Y) (yM_hp Y _) (yM_hp Y _) hr) rfl rfl (Nat.le_of_ble_eq_true rfl) (x_room E _) dX6_order_175) (fun r175 s175 hf => ?_)
            refine x_bipush (v := 48) X dX6_order_178 (by decide) ?_
            refine x_isub X dX6_order_180 ?_
            refine x_iast (w := sA s175 7) X E.1 0 (yM_ht Y) (yM_7 Y) (yM_l Y 7 (by decide)) (yM_s7 Y) dX6_order_181 hf (fun s181 hf => ?_)
            refine x_aload_n X dX6_order_182 rfl 2 rfl ?_
            refine x_getf X fl_X6_139 (yM_0 Y) (yM_l Y 0 (by decide)) rfl dX6_order_183 ?_
            refine x_if_ne (tgt := 255) X dX6_order_186 (by decide) hf (fun hf => ?_) (fun hf => ?_)
            · exact x_vretV (σ0 := σ) X E hQ hf dX6_order_255
            · refine x_aload_n X dX6_order_189 rfl 2 rfl ?_
              refine x_getf X fl_X6_29 (yM_0 Y) (yM_l Y 0 (by decide)) rfl dX6_order_190 ?_
              refine x_iconst (v := 3) X dX6_order_193 (by decide) ?_
              refine x_iald X 0 (yM_ht Y) (yM_7 Y) (yM_l Y 7 (by decide)) dX6_order_194 hf (fun x194 hf => ?_)
              refine x_if_le (tgt := 255) X dX6_order_195 (by decide) hf (fun hf => ?_) (fun hf => ?_)
              · exact x_vretV (σ0 := σ) X E hQ hf dX6_order_255
              · refine x_aload_n X dX6_order_198 rfl 2 rfl ?_
                refine x_getf X fl_X6_133 (yM_0 Y) (yM_l Y 0 (by decide)) rfl dX6_order_199 ?_
                refine x_aload_n X dX6_order_202 rfl 2 rfl ?_
                refine x_getf X fl_X6_136 (yM_0 Y) (yM_l Y 0 (by decide)) rfl dX6_order_203 ?_
                refine x_icmp_ge (tgt := 255) X dX6_order_206 (by decide) hf (fun hf => ?_) (fun hf => ?_)
                · exact x_vretV (σ0 := σ) X E hQ hf dX6_order_255
                · refine x_aload_n X dX6_order_209 rfl 2 rfl ?_
                  refine x_getf X fl_X6_22 (yM_0 Y) (yM_l Y 0 (by decide)) rfl dX6_order_210 ?_
                  refine x_aload_n X dX6_order_213 rfl 2 rfl ?_
                  refine x_getf X fl_X6_133 (yM_0 Y) (yM_l Y 0 (by decide)) rfl dX6_order_214 ?_
                  refine x_iald X 0 (yM_ht Y) (yM_5 Y) (yM_l Y 5 (by decide)) dX6_order_217 hf (fun x217 hf => ?_)
                  refine x_bipush (v := 48) X dX6_order_218 (by decide) ?_
                  refine x_bipush (v := 57) X dX6_order_220 (by decide) ?_
                  refine x_callR (rest := []) X hf (fun r hr => x_cS X cm_X6_in lkS_X6_43 ⟨Nat.le_of_ble_eq_true rfl, Nat.le_of_ble_eq_true rfl⟩ (m_X6_in hr) rfl rfl (Nat.le_of_ble_eq_true rfl) (x_room E _) dX6_order_222) (fun r222 hf => ?_)
                  refine x_if_eq (tgt := 255) X dX6_order_225 (by decide) hf (fun hf => ?_) (fun hf => ?_)
                  · exact x_vretV (σ0 := σ) X E hQ hf dX6_order_255
                  · refine x_aload_n X dX6_order_228 rfl 2 rfl ?_
                    refine x_getf X fl_X6_29 (yM_0 Y) (yM_l Y 0 (by decide)) rfl dX6_order_229 ?_
                    refine x_iconst (v := 3) X dX6_order_232 (by decide) ?_
                    refine x_bipush (v := 10) X dX6_order_233 (by decide) ?_
                    refine x_aload_n X dX6_order_235 rfl 2 rfl ?_
                    refine x_getf X fl_X6_29 (yM_0 Y) (yM_l Y 0 (by decide)) rfl dX6_order_236 ?_
                    refine x_iconst (v := 3) X dX6_order_239 (by decide) ?_
                    refine x_iald X 0 (yM_ht Y) (yM_7 Y) (yM_l Y 7 (by decide)) dX6_order_240 hf (fun x240 hf => ?_)
                    refine x_imul X dX6_order_241 ?_
                    refine x_aload_n X dX6_order_242 rfl 2 rfl ?_
                    refine x_bipush (v := 48) X dX6_order_243 (by decide) ?_
                    refine x_bipush (v := 57) X dX6_order_245 (by decide) ?_
                    refine x_callW (rest := [.int (10 * x240), .int 3, .ref (κ.S0 + (b + 7))]) (w := fun t => t) X E.1 hf (fun r t hr => x_cV (ci := 6) X cm_X6_sign lkV_X6_142 rfl ⟨Nat.le_of_ble_eq_true rfl, Nat.le_of_ble_eq_true rfl⟩ (yM_0 Y) (yM_l Y 0 (by decide)) (m_X6_sign (yM_hb Y s181) (yM_ht Y) (yM_htz Y) (yM_hp Y _) (yM_hp Y _) hr) rfl rfl (Nat.le_of_ble_eq_true rfl) (x_room E _) dX6_order_247) (fun r247 s247 hf => ?_)
                    refine x_iadd X dX6_order_250 ?_
                    refine x_bipush (v := 48) X dX6_order_251 (by decide) ?_
                    refine x_isub X dX6_order_253 ?_
                    refine x_iast (w := sA s247 7) X E.1 0 (yM_ht Y) (yM_7 Y) (yM_l Y 7 (by decide)) (yM_s7 Y) dX6_order_254 hf (fun s254 hf => ?_)
                    exact x_vretV (σ0 := σ) X E hQ hf dX6_order_255
          · exact x_vretV (σ0 := σ) X E hQ hf dX6_order_128
        · refine x_icmp_ne (tgt := 94) X dX6_order_77 (by decide) hf (fun hf => ?_) (fun hf => ?_)
          · refine x_iload_n X dX6_order_94 rfl 2 rfl ?_
            refine x_if_eq (tgt := 112) X dX6_order_95 (by decide) hf (fun hf => ?_) (fun hf => ?_)
            · refine x_aload_n X dX6_order_112 rfl 0 rfl ?_
              refine x_bipush (v := 48) X dX6_order_113 (by decide) ?_
              refine x_bipush (v := 51) X dX6_order_115 (by decide) ?_
              refine x_callW (rest := [.int 1, .ref (κ.S0 + (b + 7))]) (w := fun t => t) X E.1 hf (fun r t hr => x_cV (ci := 6) X cm_X6_sign lkV_X6_142 rfl ⟨Nat.le_of_ble_eq_true rfl, Nat.le_of_ble_eq_true rfl⟩ (yM_0 Y) (yM_l Y 0 (by decide)) (m_X6_sign (yM_hb Y s68) (yM_ht Y) (yM_htz Y) (yM_hp Y _) (yM_hp Y _) hr) rfl rfl (Nat.le_of_ble_eq_true rfl) (x_room E _) dX6_order_117) (fun r117 s117 hf => ?_)
              refine x_bipush (v := 48) X dX6_order_120 (by decide) ?_
              refine x_isub X dX6_order_122 ?_
              refine x_sub [0, 2] rfl ?_
              exact J123 (r117 - 48) s117 hf
            · refine x_aload_n X dX6_order_98 rfl 0 rfl ?_
              refine x_bipush (v := 48) X dX6_order_99 (by decide) ?_
              refine x_bipush (v := 55) X dX6_order_101 (by decide) ?_
              refine x_callW (rest := [.int 1, .ref (κ.S0 + (b + 7))]) (w := fun t => t) X E.1 hf (fun r t hr => x_cV (ci := 6) X cm_X6_sign lkV_X6_142 rfl ⟨Nat.le_of_ble_eq_true rfl, Nat.le_of_ble_eq_true rfl⟩ (yM_0 Y) (yM_l Y 0 (by decide)) (m_X6_sign (yM_hb Y s68) (yM_ht Y) (yM_htz Y) (yM_hp Y _) (yM_hp Y _) hr) rfl rfl (Nat.le_of_ble_eq_true rfl) (x_room E _) dX6_order_103) (fun r103 s103 hf => ?_)
              refine x_bipush (v := 48) X dX6_order_106 (by decide) ?_
              refine x_isub X dX6_order_108 ?_
              refine x_goto (tgt := 123) X dX6_order_109 (by decide) ?_
              refine x_sub [0, 2] rfl ?_
              exact J123 (r103 - 48) s103 hf
          · refine x_aload_n X dX6_order_80 rfl 0 rfl ?_
            refine x_bipush (v := 49) X dX6_order_81 (by decide) ?_
            refine x_bipush (v := 57) X dX6_order_83 (by decide) ?_
            refine x_callW (rest := [.int 1, .ref (κ.S0 + (b + 7))]) (w := fun t => t) X E.1 hf (fun r t hr => x_cV (ci := 6) X cm_X6_sign lkV_X6_142 rfl ⟨Nat.le_of_ble_eq_true rfl, Nat.le_of_ble_eq_true rfl⟩ (yM_0 Y) (yM_l Y 0 (by decide)) (m_X6_sign (yM_hb Y s68) (yM_ht Y) (yM_htz Y) (yM_hp Y _) (yM_hp Y _) hr) rfl rfl (Nat.le_of_ble_eq_true rfl) (x_room E _) dX6_order_85) (fun r85 s85 hf => ?_)
            refine x_bipush (v := 48) X dX6_order_88 (by decide) ?_
            refine x_isub X dX6_order_90 ?_
            refine x_goto (tgt := 123) X dX6_order_91 (by decide) ?_
            refine x_sub [0, 2] rfl ?_
            exact J123 (r85 - 48) s85 hf
      · refine x_if_eq (tgt := 67) X dX6_order_55 (by decide) hf (fun hf => ?_) (fun hf => ?_)
        · refine x_iconst (v := 0) X dX6_order_67 (by decide) ?_
          refine x_sub [1, 2, 0] rfl ?_
          exact J68 0 σ hf
        · refine x_aload_n X dX6_order_58 rfl 1 rfl ?_
          refine x_iload_n X dX6_order_59 rfl 2 rfl ?_
          refine x_iload_n X dX6_order_60 rfl 2 rfl ?_
          refine x_callW (rest := [.int 0, .ref (κ.S0 + (b + 7))]) (w := fun t => t) X E.1 hf (fun r t hr => x_cV (ci := 6) X cm_X6_sign lkV_X6_142 rfl ⟨Nat.le_of_ble_eq_true rfl, Nat.le_of_ble_eq_true rfl⟩ (yM_0 Y) (yM_l Y 0 (by decide)) (m_X6_sign (yM_hb Y σ) (yM_ht Y) (yM_htz Y) (yM_hp Y _) (yM_hp Y _) hr) rfl rfl (Nat.le_of_ble_eq_true rfl) (x_room E _) dX6_order_61) (fun r61 s61 hf => ?_)
          refine x_goto (tgt := 68) X dX6_order_64 (by decide) ?_
          refine x_sub [1, 2, 0] rfl ?_
          exact J68 r61 s61 hf
    · refine x_join (fun k43 => k43 = some τ → XG κ σ 43 [(0, .ref (κ.S0 + (b + 0))), (1, .int t0_24)] []) hf (fun hf => ?_) (fun k43 J43 hf => ?_)
      · refine x_iconst (v := 1) X dX6_order_43 (by decide) ?_
        refine x_goto (tgt := 48) X dX6_order_44 (by decide) ?_
        exact J48 1 hf
      · refine x_icmp_eq (tgt := 43) X dX6_order_28 (by decide) hf (fun hf => ?_) (fun hf => ?_)
        · refine x_sub [1, 0] rfl ?_
          exact J43 hf
        · refine x_iload_n X dX6_order_31 rfl 0 rfl ?_
          refine x_bipush (v := 102) X dX6_order_32 (by decide) ?_
          refine x_icmp_eq (tgt := 43) X dX6_order_34 (by decide) hf (fun hf => ?_) (fun hf => ?_)
          · refine x_sub [1, 0] rfl ?_
            exact J43 hf
          · refine x_iload_n X dX6_order_37 rfl 0 rfl ?_
            refine x_bipush (v := 112) X dX6_order_38 (by decide) ?_
            refine x_icmp_ne (tgt := 47) X dX6_order_40 (by decide) hf (fun hf => ?_) (fun hf => ?_)
            · refine x_iconst (v := 0) X dX6_order_47 (by decide) ?_
              refine x_sub [1, 0] rfl ?_
              exact J48 0 hf
            · refine x_sub [1, 0] rfl ?_
              exact J43 hf
  · refine x_icmp_ge (tgt := 23) X dX6_order_8 (by decide) hf (fun hf => ?_) (fun hf => ?_)
    · refine x_iconst (v := 0) X dX6_order_23 (by decide) ?_
      exact J24 0 hf
    · refine x_aload_n X dX6_order_11 rfl 0 rfl ?_
      refine x_getf X fl_X6_22 (yM_0 Y) (yM_l Y 0 (by decide)) rfl dX6_order_12 ?_
      refine x_aload_n X dX6_order_15 rfl 0 rfl ?_
      refine x_getf X fl_X6_133 (yM_0 Y) (yM_l Y 0 (by decide)) rfl dX6_order_16 ?_
      refine x_iald X 0 (yM_ht Y) (yM_5 Y) (yM_l Y 5 (by decide)) dX6_order_19 hf (fun x19 hf => ?_)
      refine x_goto (tgt := 24) X dX6_order_20 (by decide) ?_
      exact J24 x19 hf
def f_X6_does (σ : MS)  : Option (Int32 × MS) :=
  oA 4 (σ.1 7) 1 (fun x5 => oA 4 (σ.1 7) 0 (fun x12 => if x12 = 0 then (oR (f_X6_isRoom σ x5) (fun r50 => if r50 = 0 then (some ((-3), σ)) else (oA 4 (σ.1 7) 2 (fun x63 => oA 4 (σ.1 7) 3 (fun x69 => oW (f_X6_send σ x5 x63 x69) (fun t => t) (fun r70 s70 => some (r70, s70))))))) else (if x12 = 102 then (oR (f_X6_finishFault σ x5) (fun r104 => if r104 = (-4) then (some (r104, σ)) else (if r104 = (-5) then (some (0, σ)) else (oW (f_X6_finishes σ x5) (fun t => t) (fun r130 s130 => some (r130, s130)))))) else (if x12 = 114 then (oR (f_X6_of x5 0) (fun r85 => oA 2204 (σ.1 1) r85 (fun x88 => if x88 = 0 then (some (0, σ)) else (oW (f_X6_resets σ x5) (fun t => t) (fun r98 s98 => some (r98, s98)))))) else (oA 2204 (σ.1 1) 0 (fun x139 => if (x139 + x5) ≤ 9999 then (oW (f_X6_goBy σ x5) (fun t => t) (fun r155 s155 => some (r155, s155))) else (some ((-3), σ))))))))
set_option maxRecDepth 100000 in
set_option maxHeartbeats 4000000 in
theorem m_X6_does {l : Launch} {G : va_G} {tys : List (ClassId × FieldType)} {S0 : Nat} {h h1 h2 : Nat → va_E} {b cN' : Nat} {cI cZ : ClassId} {σ : MS} {τ : MS}  {r : Int32} (hb : b + 8 ≤ cN') (ht : tys[0]? = some (cI, .int)) (htz : tys[2]? = some (cZ, .boolean)) (e1 : h1 = ov h b (ml S0 cI cZ b σ)) (e2 : h2 = ov h b (ml S0 cI cZ b τ)) (hf : f_X6_does σ = some (r, τ)) : XMet l G tys S0 cN' yX6_does cX6_does 3 (some .int) 8 183 [.ref (S0 + (b + 0))] h1 cN' (some (.int r)) h2 0 0 := by
  subst e1; subst e2
  refine XMet.ofE (ST := MS) (HP := fun σ => ov h b (ml S0 cI cZ b σ)) σ τ (by decide) (Nat.le_of_ble_eq_true rfl) ?_
  intro κ g1 g2 g3 g4 g5 g6 E X hQ
  subst g1; subst g2; subst g3; subst g4
  have Y : YM κ h b cI cZ := ⟨fun σ => by rw [g5], fun σ => by rw [g6]; exact hb, ht, htz⟩
  have X : XC κ cX6_does 3 RX6 (some .int) 8 183 := X
  show XG κ σ 0 [(0, .ref (κ.S0 + (b + 0)))] []
  unfold f_X6_does at hf
  refine x_aload_n X dX6_does_0 rfl 0 rfl ?_
  refine x_getf X fl_X6_29 (yM_0 Y) (yM_l Y 0 (by decide)) rfl dX6_does_1 ?_
  refine x_iconst (v := 1) X dX6_does_4 (by decide) ?_
  refine x_iald X 0 (yM_ht Y) (yM_7 Y) (yM_l Y 7 (by decide)) dX6_does_5 hf (fun x5 hf => ?_)
  refine x_istore_n (lv' := [(1, .int x5), (0, .ref (κ.S0 + (b + 0)))]) X dX6_does_6 rfl (by decide) rfl ?_
  refine x_aload_n X dX6_does_7 rfl 1 rfl ?_
  refine x_getf X fl_X6_29 (yM_0 Y) (yM_l Y 0 (by decide)) rfl dX6_does_8 ?_
  refine x_iconst (v := 0) X dX6_does_11 (by decide) ?_
  refine x_iald X 0 (yM_ht Y) (yM_7 Y) (yM_l Y 7 (by decide)) dX6_does_12 hf (fun x12 hf => ?_)
  refine x_if hf (fun c0 hf => ?_) (fun c0 hf => ?_)
  · refine x_lookup (off := 35) (tgt := 48) X dX6_does_13 rfl (by rw [c0]; rfl) (by decide) ?_
    refine x_aload_n X dX6_does_48 rfl 1 rfl ?_
    refine x_iload_n X dX6_does_49 rfl 0 rfl ?_
    refine x_callR (rest := []) X hf (fun r hr => x_cV (ci := 6) X cm_X6_isRoom lkV_X6_74 rfl ⟨Nat.le_of_ble_eq_true rfl, Nat.le_of_ble_eq_true rfl⟩ (yM_0 Y) (yM_l Y 0 (by decide)) (m_X6_isRoom (yM_hb Y σ) (yM_ht Y) (yM_htz Y) (yM_hp Y _) (yM_hp Y _) hr) rfl rfl (Nat.le_of_ble_eq_true rfl) (x_room E _) dX6_does_50) (fun r50 hf => ?_)
    refine x_if_eq (tgt := 76) X dX6_does_53 (by decide) hf (fun hf => ?_) (fun hf => ?_)
    · refine x_bipush (v := (-3)) X dX6_does_76 (by decide) ?_
      exact x_iretW (σ0 := σ) X E hQ hf dX6_does_78
    · refine x_aload_n X dX6_does_56 rfl 1 rfl ?_
      refine x_iload_n X dX6_does_57 rfl 0 rfl ?_
      refine x_aload_n X dX6_does_58 rfl 1 rfl ?_
      refine x_getf X fl_X6_29 (yM_0 Y) (yM_l Y 0 (by decide)) rfl dX6_does_59 ?_
      refine x_iconst (v := 2) X dX6_does_62 (by decide) ?_
      refine x_iald X 0 (yM_ht Y) (yM_7 Y) (yM_l Y 7 (by decide)) dX6_does_63 hf (fun x63 hf => ?_)
      refine x_aload_n X dX6_does_64 rfl 1 rfl ?_
      refine x_getf X fl_X6_29 (yM_0 Y) (yM_l Y 0 (by decide)) rfl dX6_does_65 ?_
      refine x_iconst (v := 3) X dX6_does_68 (by decide) ?_
      refine x_iald X 0 (yM_ht Y) (yM_7 Y) (yM_l Y 7 (by decide)) dX6_does_69 hf (fun x69 hf => ?_)
      refine x_callW (rest := []) (w := fun t => t) X E.1 hf (fun r t hr => x_cV (ci := 6) X cm_X6_send lkV_X6_77 rfl ⟨Nat.le_of_ble_eq_true rfl, Nat.le_of_ble_eq_true rfl⟩ (yM_0 Y) (yM_l Y 0 (by decide)) (m_X6_send (yM_hb Y σ) (yM_ht Y) (yM_htz Y) (yM_hp Y _) (yM_hp Y _) hr) rfl rfl (Nat.le_of_ble_eq_true rfl) (x_room E _) dX6_does_70) (fun r70 s70 hf => ?_)
      refine x_goto (tgt := 78) X dX6_does_73 (by decide) ?_
      exact x_iretW (σ0 := σ) X E hQ hf dX6_does_78
  · refine x_if hf (fun c102 hf => ?_) (fun c102 hf => ?_)
    · refine x_lookup (off := 89) (tgt := 102) X dX6_does_13 rfl (by rw [c102]; rfl) (by decide) ?_
      refine x_aload_n X dX6_does_102 rfl 1 rfl ?_
      refine x_iload_n X dX6_does_103 rfl 0 rfl ?_
      refine x_callR (rest := []) X hf (fun r hr => x_cV (ci := 6) X cm_X6_finishFault lkV_X6_95 rfl ⟨Nat.le_of_ble_eq_true rfl, Nat.le_of_ble_eq_true rfl⟩ (yM_0 Y) (yM_l Y 0 (by decide)) (m_X6_finishFault (yM_hb Y σ) (yM_ht Y) (yM_htz Y) (yM_hp Y _) (yM_hp Y _) hr) rfl rfl (Nat.le_of_ble_eq_true rfl) (x_room E _) dX6_does_104) (fun r104 hf => ?_)
      refine x_istore_n (lv' := [(2, .int r104), (1, .int x5), (0, .ref (κ.S0 + (b + 0)))]) X dX6_does_107 rfl (by decide) rfl ?_
      refine x_iload_n X dX6_does_108 rfl 0 rfl ?_
      refine x_bipush (v := (-4)) X dX6_does_109 (by decide) ?_
      refine x_icmp_ne (tgt := 118) X dX6_does_111 (by decide) hf (fun hf => ?_) (fun hf => ?_)
      · refine x_iload_n X dX6_does_118 rfl 0 rfl ?_
        refine x_bipush (v := (-5)) X dX6_does_119 (by decide) ?_
        refine x_icmp_ne (tgt := 128) X dX6_does_121 (by decide) hf (fun hf => ?_) (fun hf => ?_)
        · refine x_aload_n X dX6_does_128 rfl 2 rfl ?_
          refine x_iload_n X dX6_does_129 rfl 1 rfl ?_
          refine x_callW (rest := []) (w := fun t => t) X E.1 hf (fun r t hr => x_cV (ci := 6) X cm_X6_finishes lkV_X6_98 rfl ⟨Nat.le_of_ble_eq_true rfl, Nat.le_of_ble_eq_true rfl⟩ (yM_0 Y) (yM_l Y 0 (by decide)) (m_X6_finishes (yM_hb Y σ) (yM_ht Y) (yM_htz Y) (yM_hp Y _) (yM_hp Y _) hr) rfl rfl (Nat.le_of_ble_eq_true rfl) (x_room E _) dX6_does_130) (fun r130 s130 hf => ?_)
          exact x_iretW (σ0 := σ) X E hQ hf dX6_does_133
        · refine x_iconst (v := 0) X dX6_does_124 (by decide) ?_
          refine x_goto (tgt := 133) X dX6_does_125 (by decide) ?_
          exact x_iretW (σ0 := σ) X E hQ hf dX6_does_133
      · refine x_iload_n X dX6_does_114 rfl 0 rfl ?_
        refine x_goto (tgt := 133) X dX6_does_115 (by decide) ?_
        exact x_iretW (σ0 := σ) X E hQ hf dX6_does_133
    · refine x_if hf (fun c114 hf => ?_) (fun c114 hf => ?_)
      · refine x_lookup (off := 66) (tgt := 79) X dX6_does_13 rfl (by rw [c114]; rfl) (by decide) ?_
        refine x_aload_n X dX6_does_79 rfl 1 rfl ?_
        refine x_getf X fl_X6_7 (yM_0 Y) (yM_l Y 0 (by decide)) rfl dX6_does_80 ?_
        refine x_iload_n X dX6_does_83 rfl 0 rfl ?_
        refine x_iconst (v := 0) X dX6_does_84 (by decide) ?_
        refine x_callR (rest := [.ref (κ.S0 + (b + 1))]) X hf (fun r hr => x_cS X cm_X6_of lkS_X6_32 ⟨Nat.le_of_ble_eq_true rfl, Nat.le_of_ble_eq_true rfl⟩ (m_X6_of hr) rfl rfl (Nat.le_of_ble_eq_true rfl) (x_room E _) dX6_does_85) (fun r85 hf => ?_)
        refine x_iald X 0 (yM_ht Y) (yM_1 Y) (yM_l Y 1 (by decide)) dX6_does_88 hf (fun x88 hf => ?_)
        refine x_if_ne (tgt := 96) X dX6_does_89 (by decide) hf (fun hf => ?_) (fun hf => ?_)
        · refine x_aload_n X dX6_does_96 rfl 1 rfl ?_
          refine x_iload_n X dX6_does_97 rfl 0 rfl ?_
          refine x_callW (rest := []) (w := fun t => t) X E.1 hf (fun r t hr => x_cV (ci := 6) X cm_X6_resets lkV_X6_92 rfl ⟨Nat.le_of_ble_eq_true rfl, Nat.le_of_ble_eq_true rfl⟩ (yM_0 Y) (yM_l Y 0 (by decide)) (m_X6_resets (yM_hb Y σ) (yM_ht Y) (yM_htz Y) (yM_hp Y _) (yM_hp Y _) hr) rfl rfl (Nat.le_of_ble_eq_true rfl) (x_room E _) dX6_does_98) (fun r98 s98 hf => ?_)
          exact x_iretW (σ0 := σ) X E hQ hf dX6_does_101
        · refine x_iconst (v := 0) X dX6_does_92 (by decide) ?_
          refine x_goto (tgt := 101) X dX6_does_93 (by decide) ?_
          exact x_iretW (σ0 := σ) X E hQ hf dX6_does_101
      · refine x_lookup (off := 121) (tgt := 134) X dX6_does_13 rfl ((lv_osw c0 rfl).trans ((lv_osw c102 rfl).trans ((lv_osw c114 rfl).trans rfl))) (by decide) ?_
        refine x_aload_n X dX6_does_134 rfl 1 rfl ?_
        refine x_getf X fl_X6_7 (yM_0 Y) (yM_l Y 0 (by decide)) rfl dX6_does_135 ?_
        refine x_iconst (v := 0) X dX6_does_138 (by decide) ?_
        refine x_iald X 0 (yM_ht Y) (yM_1 Y) (yM_l Y 1 (by decide)) dX6_does_139 hf (fun x139 hf => ?_)
        refine x_iload_n X dX6_does_140 rfl 0 rfl ?_
        refine x_iadd X dX6_does_141 ?_
        refine x_sipush (v := 9999) X dX6_does_142 (by decide) ?_
        refine x_icmp_le (tgt := 153) X dX6_does_145 (by decide) hf (fun hf => ?_) (fun hf => ?_)
        · refine x_aload_n X dX6_does_153 rfl 1 rfl ?_
          refine x_iload_n X dX6_does_154 rfl 0 rfl ?_
          refine x_callW (rest := []) (w := fun t => t) X E.1 hf (fun r t hr => x_cV (ci := 6) X cm_X6_goBy lkV_X6_130 rfl ⟨Nat.le_of_ble_eq_true rfl, Nat.le_of_ble_eq_true rfl⟩ (yM_0 Y) (yM_l Y 0 (by decide)) (m_X6_goBy (yM_hb Y σ) (yM_ht Y) (yM_htz Y) (yM_hp Y _) (yM_hp Y _) hr) rfl rfl (Nat.le_of_ble_eq_true rfl) (x_room E _) dX6_does_155) (fun r155 s155 hf => ?_)
          exact x_iretW (σ0 := σ) X E hQ hf dX6_does_158
        · refine x_bipush (v := (-3)) X dX6_does_148 (by decide) ?_
          refine x_goto (tgt := 158) X dX6_does_150 (by decide) ?_
          exact x_iretW (σ0 := σ) X E hQ hf dX6_does_158
def f_X6_go_L19 (p1 : Int32) (kX19 : Int32 → MS → Option (Int32 × MS)) : Nat → Int32 → Int32 → MS → Option (Int32 × MS)
  | 0, _, _, _ => none
  | n + 1, v2_19, v3_19, s19 =>
    if v3_19 = 0 then (kX19 v2_19 s19) else (oV (f_X6_order s19) (fun t => t) (fun s24 => oJ (κ := Int32 → MS → Option (Int32 × MS)) (fun t0_42 s_42 => oJ (κ := Int32 → Option (Int32 × MS)) (fun t0_56 => oN t0_56 (sN s_42 7) (fun s56 => oJ (κ := Int32 → Option (Int32 × MS)) (fun t0_89 => oJ (κ := Int32 → MS → Option (Int32 × MS)) (fun u3_117 s_117 => f_X6_go_L19 p1 kX19 n (v2_19 + 1) u3_117 s_117) (fun k117 => if t0_89 = 0 then (k117 t0_89 s56) else (oW (f_X6_sign s56 59 59) (fun t => t) (fun r99 s99 => oJ (κ := Int32 → Option (Int32 × MS)) (fun t0_116 => k117 t0_116 s99) (fun k116 => if (s99.2 6) = 0 then (k116 1) else (k116 0)))))) (fun k89 => oJ (κ := Option (Int32 × MS)) (k89 0) (fun k88 => if (s56.2 6) = 0 then (if (s56.2 7) = 0 then (if (s56.2 2) ≤ (s56.2 5) then k88 else (k89 1)) else k88) else k88)))) (fun k56 => if 0 ≤ t0_42 then (k56 0) else (k56 t0_42))) (fun k42 => if p1 = 0 then (k42 0 s24) else (oW (f_X6_does s24) (fun t => t) (fun r35 s35 => k42 r35 s35)))))
def f_X6_go (σ : MS) (p1 : Int32) : Option (Int32 × MS) :=
  oN 0 (sN σ 5) (fun s2 => oZ 0 (sN s2 6) (fun s7 => oN 0 (sN s7 7) (fun s12 => f_X6_go_L19 p1 (fun w2_120 sx120 => some (w2_120, sx120)) FU 0 1 s12)))
set_option maxRecDepth 100000 in
set_option maxHeartbeats 4000000 in
theorem m_X6_go {l : Launch} {G : va_G} {tys : List (ClassId × FieldType)} {S0 : Nat} {h h1 h2 : Nat → va_E} {b cN' : Nat} {cI cZ : ClassId} {σ : MS} {τ : MS} {p1 : Int32} {r : Int32} (hb : b + 8 ≤ cN') (ht : tys[0]? = some (cI, .int)) (htz : tys[2]? = some (cZ, .boolean)) (e1 : h1 = ov h b (ml S0 cI cZ b σ)) (e2 : h2 = ov h b (ml S0 cI cZ b τ)) (hf : f_X6_go σ p1 = some (r, τ)) : XMet l G tys S0 cN' yX6_go cX6_go 6 (some .int) 9 205 [.ref (S0 + (b + 0)), .int p1] h1 cN' (some (.int r)) h2 0 0 := by
  subst e1; subst e2
  refine XMet.ofE (ST := MS) (HP := fun σ => ov h b (ml S0 cI cZ b σ)) σ τ (by decide) (Nat.le_of_ble_eq_true rfl) ?_
  intro κ g1 g2 g3 g4 g5 g6 E X hQ
  subst g1; subst g2; subst g3; subst g4
  have Y : YM κ h b cI cZ := ⟨fun σ => by rw [g5], fun σ => by rw [g6]; exact hb, ht, htz⟩
  have X : XC κ cX6_go 6 RX6 (some .int) 9 205 := X
  show XG κ σ 0 [(0, .ref (κ.S0 + (b + 0))), (1, .int p1)] []
  unfold f_X6_go at hf
  refine x_aload_n X dX6_go_0 rfl 0 rfl ?_
  refine x_iconst (v := 0) X dX6_go_1 (by decide) ?_
  refine x_putI (w := sN σ 5) X E.1 fp_X6_133 (yM_0 Y) (yM_l Y 0 (by decide)) (Nat.le_of_ble_eq_true rfl) (yM_p0_11 Y) dX6_go_2 hf (fun s2 hf => ?_)
  refine x_aload_n X dX6_go_5 rfl 0 rfl ?_
  refine x_iconst (v := 0) X dX6_go_6 (by decide) ?_
  refine x_putZ (w := sN s2 6) X E.1 fp_X6_139 (yM_0 Y) (yM_l Y 0 (by decide)) (Nat.le_of_ble_eq_true rfl) (yM_p0_12 Y) dX6_go_7 hf (fun s7 hf => ?_)
  refine x_aload_n X dX6_go_10 rfl 0 rfl ?_
  refine x_iconst (v := 0) X dX6_go_11 (by decide) ?_
  refine x_putI (w := sN s7 7) X E.1 fp_X6_145 (yM_0 Y) (yM_l Y 0 (by decide)) (Nat.le_of_ble_eq_true rfl) (yM_p0_14 Y) dX6_go_12 hf (fun s12 hf => ?_)
  refine x_iconst (v := 0) X dX6_go_15 (by decide) ?_
  refine x_istore_n (lv' := [(2, .int 0), (0, .ref (κ.S0 + (b + 0))), (1, .int p1)]) X dX6_go_16 rfl (by decide) rfl ?_
  refine x_iconst (v := 1) X dX6_go_17 (by decide) ?_
  refine x_istore_n (lv' := [(3, .int 1), (2, .int 0), (0, .ref (κ.S0 + (b + 0))), (1, .int p1)]) X dX6_go_18 rfl (by decide) rfl ?_
  refine x_kont (b := fun kX19 => f_X6_go_L19 p1 kX19 FU 0 1 s12) (fun kX19 => ∀ (w2_120 : Int32) (sx120 : MS), kX19 w2_120 sx120 = some (r, τ) → XG κ sx120 120 [(2, .int w2_120)] []) hf (fun w2_120 sx120 hf => ?_) (fun kX19 JX19 hf => ?_)
  · refine x_iload_n X dX6_go_120 rfl 0 rfl ?_
    exact x_iretW (σ0 := σ) X E hQ hf dX6_go_121
  · have LL : ∀ (n : Nat) (v2_19 : Int32) (v3_19 : Int32) (s19 : MS), f_X6_go_L19 p1 kX19 n v2_19 v3_19 s19 = some (r, τ) → XG κ s19 19 [(0, .ref (κ.S0 + (b + 0))), (1, .int p1), (2, .int v2_19), (3, .int v3_19)] [] := by
      intro n
      induction n with
      | zero => intro v2_19 v3_19 s19 hf; rw [f_X6_go_L19] at hf; cases hf
      | succ n ih19 =>
        intro v2_19 v3_19 s19 hf
        rw [f_X6_go_L19] at hf
        refine x_iload_n X dX6_go_19 rfl 3 rfl ?_
        refine x_if_eq (tgt := 120) X dX6_go_20 (by decide) hf (fun hf => ?_) (fun hf => ?_)
        · refine x_sub [2] rfl ?_
          exact JX19 v2_19 s19 hf
        · refine x_aload_n X dX6_go_23 rfl 0 rfl ?_
          refine x_callV (rest := []) (w := fun t => t) X E.1 hf (fun t hr => x_cV (ci := 6) X cm_X6_order lkV_X6_148 rfl ⟨Nat.le_of_ble_eq_true rfl, Nat.le_of_ble_eq_true rfl⟩ (yM_0 Y) (yM_l Y 0 (by decide)) (m_X6_order (yM_hb Y s19) (yM_ht Y) (yM_htz Y) (yM_hp Y _) (yM_hp Y _) hr) rfl rfl (Nat.le_of_ble_eq_true rfl) (x_room E _) dX6_go_24) (fun s24 hf => ?_)
          refine x_iinc (v := v2_19 + 1) (lv' := [(2, .int (v2_19 + 1)), (0, .ref (κ.S0 + (b + 0))), (1, .int p1), (3, .int v3_19)]) X dX6_go_27 2 rfl rfl (by decide) rfl ?_
          refine x_iload_n X dX6_go_30 rfl 2 rfl ?_
          refine x_join (fun k42 => ∀ (t0_42 : Int32) (s_42 : MS), k42 t0_42 s_42 = some (r, τ) → XG κ s_42 42 [(0, .ref (κ.S0 + (b + 0))), (1, .int p1), (2, .int (v2_19 + 1))] [.int t0_42]) hf (fun t0_42 s_42 hf => ?_) (fun k42 J42 hf => ?_)
          · refine x_istore (lv' := [(4, .int t0_42), (0, .ref (κ.S0 + (b + 0))), (1, .int p1), (2, .int (v2_19 + 1))]) X dX6_go_42 (by decide) rfl ?_
            refine x_aload_n X dX6_go_44 rfl 1 rfl ?_
            refine x_iload X dX6_go_45 0 rfl ?_
            refine x_join (fun k56 => ∀ (t0_56 : Int32), k56 t0_56 = some (r, τ) → XG κ s_42 56 [(0, .ref (κ.S0 + (b + 0))), (1, .int p1), (2, .int (v2_19 + 1))] [.int t0_56, .ref (κ.S0 + (b + 0))]) hf (fun t0_56 hf => ?_) (fun k56 J56 hf => ?_)
            · refine x_putI (w := sN s_42 7) X E.1 fp_X6_145 (yM_0 Y) (yM_l Y 0 (by decide)) (Nat.le_of_ble_eq_true rfl) (yM_p0_14 Y) dX6_go_56 hf (fun s56 hf => ?_)
              refine x_aload_n X dX6_go_59 rfl 0 rfl ?_
              refine x_getf X fl_X6_139 (yM_0 Y) (yM_l Y 0 (by decide)) rfl dX6_go_60 ?_
              refine x_join (fun k89 => ∀ (t0_89 : Int32), k89 t0_89 = some (r, τ) → XG κ s56 89 [(0, .ref (κ.S0 + (b + 0))), (1, .int p1), (2, .int (v2_19 + 1))] [.int t0_89]) hf (fun t0_89 hf => ?_) (fun k89 J89 hf => ?_)
              · refine x_istore_n (lv' := [(3, .int t0_89), (0, .ref (κ.S0 + (b + 0))), (1, .int p1), (2, .int (v2_19 + 1))]) X dX6_go_89 rfl (by decide) rfl ?_
                refine x_iload_n X dX6_go_90 rfl 0 rfl ?_
                refine x_join (fun k117 => ∀ (u3_117 : Int32) (s_117 : MS), k117 u3_117 s_117 = some (r, τ) → XG κ s_117 117 [(0, .ref (κ.S0 + (b + 0))), (1, .int p1), (2, .int (v2_19 + 1)), (3, .int u3_117)] []) hf (fun u3_117 s_117 hf => ?_) (fun k117 J117 hf => ?_)
                · refine x_goto (tgt := 19) X dX6_go_117 (by decide) ?_
                  exact ih19 (v2_19 + 1) u3_117 s_117 hf
                · refine x_if_eq (tgt := 117) X dX6_go_91 (by decide) hf (fun hf => ?_) (fun hf => ?_)
                  · refine x_sub [1, 2, 3, 0] rfl ?_
                    exact J117 t0_89 s56 hf
                  · refine x_aload_n X dX6_go_94 rfl 1 rfl ?_
                    refine x_bipush (v := 59) X dX6_go_95 (by decide) ?_
                    refine x_bipush (v := 59) X dX6_go_97 (by decide) ?_
                    refine x_callW (rest := []) (w := fun t => t) X E.1 hf (fun r t hr => x_cV (ci := 6) X cm_X6_sign lkV_X6_142 rfl ⟨Nat.le_of_ble_eq_true rfl, Nat.le_of_ble_eq_true rfl⟩ (yM_0 Y) (yM_l Y 0 (by decide)) (m_X6_sign (yM_hb Y s56) (yM_ht Y) (yM_htz Y) (yM_hp Y _) (yM_hp Y _) hr) rfl rfl (Nat.le_of_ble_eq_true rfl) (x_room E _) dX6_go_99) (fun r99 s99 hf => ?_)
                    refine x_istore (lv' := [(5, .int r99), (3, .int t0_89), (0, .ref (κ.S0 + (b + 0))), (1, .int p1), (2, .int (v2_19 + 1))]) X dX6_go_102 (by decide) rfl ?_
                    refine x_aload_n X dX6_go_104 rfl 2 rfl ?_
                    refine x_getf X fl_X6_139 (yM_0 Y) (yM_l Y 0 (by decide)) rfl dX6_go_105 ?_
                    refine x_join (fun k116 => ∀ (t0_116 : Int32), k116 t0_116 = some (r, τ) → XG κ s99 116 [(0, .ref (κ.S0 + (b + 0))), (1, .int p1), (2, .int (v2_19 + 1))] [.int t0_116]) hf (fun t0_116 hf => ?_) (fun k116 J116 hf => ?_)
                    · refine x_istore_n (lv' := [(3, .int t0_116), (0, .ref (κ.S0 + (b + 0))), (1, .int p1), (2, .int (v2_19 + 1))]) X dX6_go_116 rfl (by decide) rfl ?_
                      refine x_sub [1, 2, 3, 0] rfl ?_
                      exact J117 t0_116 s99 hf
                    · refine x_if_ne (tgt := 115) X dX6_go_108 (by decide) hf (fun hf => ?_) (fun hf => ?_)
                      · refine x_iconst (v := 0) X dX6_go_115 (by decide) ?_
                        refine x_sub [2, 3, 4] rfl ?_
                        exact J116 0 hf
                      · refine x_iconst (v := 1) X dX6_go_111 (by decide) ?_
                        refine x_goto (tgt := 116) X dX6_go_112 (by decide) ?_
                        refine x_sub [2, 3, 4] rfl ?_
                        exact J116 1 hf
              · refine x_join (fun k88 => k88 = some (r, τ) → XG κ s56 88 [(0, .ref (κ.S0 + (b + 0))), (1, .int p1), (2, .int (v2_19 + 1))] []) hf (fun hf => ?_) (fun k88 J88 hf => ?_)
                · refine x_iconst (v := 0) X dX6_go_88 (by decide) ?_
                  exact J89 0 hf
                · refine x_if_ne (tgt := 88) X dX6_go_63 (by decide) hf (fun hf => ?_) (fun hf => ?_)
                  · exact J88 hf
                  · refine x_aload_n X dX6_go_66 rfl 0 rfl ?_
                    refine x_getf X fl_X6_145 (yM_0 Y) (yM_l Y 0 (by decide)) rfl dX6_go_67 ?_
                    refine x_if_ne (tgt := 88) X dX6_go_70 (by decide) hf (fun hf => ?_) (fun hf => ?_)
                    · exact J88 hf
                    · refine x_aload_n X dX6_go_73 rfl 0 rfl ?_
                      refine x_getf X fl_X6_133 (yM_0 Y) (yM_l Y 0 (by decide)) rfl dX6_go_74 ?_
                      refine x_aload_n X dX6_go_77 rfl 0 rfl ?_
                      refine x_getf X fl_X6_136 (yM_0 Y) (yM_l Y 0 (by decide)) rfl dX6_go_78 ?_
                      refine x_icmp_ge (tgt := 88) X dX6_go_81 (by decide) hf (fun hf => ?_) (fun hf => ?_)
                      · exact J88 hf
                      · refine x_iconst (v := 1) X dX6_go_84 (by decide) ?_
                        refine x_goto (tgt := 89) X dX6_go_85 (by decide) ?_
                        exact J89 1 hf
            · refine x_if_ge (tgt := 55) X dX6_go_47 (by decide) hf (fun hf => ?_) (fun hf => ?_)
              · refine x_iconst (v := 0) X dX6_go_55 (by decide) ?_
                refine x_sub [1, 2, 3] rfl ?_
                exact J56 0 hf
              · refine x_iload X dX6_go_50 0 rfl ?_
                refine x_goto (tgt := 56) X dX6_go_52 (by decide) ?_
                refine x_sub [1, 2, 3] rfl ?_
                exact J56 t0_42 hf
          · refine x_if_eq (tgt := 41) X dX6_go_31 (by decide) hf (fun hf => ?_) (fun hf => ?_)
            · refine x_iconst (v := 0) X dX6_go_41 (by decide) ?_
              refine x_sub [1, 2, 0] rfl ?_
              exact J42 0 s24 hf
            · refine x_aload_n X dX6_go_34 rfl 1 rfl ?_
              refine x_callW (rest := []) (w := fun t => t) X E.1 hf (fun r t hr => x_cV (ci := 6) X cm_X6_does lkV_X6_151 rfl ⟨Nat.le_of_ble_eq_true rfl, Nat.le_of_ble_eq_true rfl⟩ (yM_0 Y) (yM_l Y 0 (by decide)) (m_X6_does (yM_hb Y s24) (yM_ht Y) (yM_htz Y) (yM_hp Y _) (yM_hp Y _) hr) rfl rfl (Nat.le_of_ble_eq_true rfl) (x_room E _) dX6_go_35) (fun r35 s35 hf => ?_)
              refine x_goto (tgt := 42) X dX6_go_38 (by decide) ?_
              refine x_sub [1, 2, 0] rfl ?_
              exact J42 r35 s35 hf
    refine x_sub [2, 3, 1, 0] rfl ?_
    exact LL FU 0 1 s12 hf
def f_X6_follow_L49  (kX49 : MS → Option (Int32 × MS)) : Nat → Int32 → MS → Option (Int32 × MS)
  | 0, _, _ => none
  | n + 1, v2_49, s49 =>
    if 2204 ≤ v2_49 then (kX49 s49) else (oA 2204 (s49.1 1) v2_49 (fun x61 => oA 2204 (s49.1 2) v2_49 (fun x73 => oS 2204 (s49.1 1) v2_49 x73 (sA s49 1) (fun s74 => oS 2204 (s74.1 2) v2_49 x61 (sA s74 2) (fun s81 => f_X6_follow_L49 kX49 n (v2_49 + 1) s81)))))
def f_X6_follow (σ : MS)  : Option (Int32 × MS) :=
  oW (f_X6_go σ 0) (fun t => t) (fun r2 s2 => if (s2.2 6) = 0 then (oV (f_X6_putAside s2) (fun t => t) (fun s22 => oW (f_X6_go s22 1) (fun t => t) (fun r27 s27 => if 0 ≤ (s27.2 7) then (f_X6_follow_L49 (fun sx88 => oV (f_X6_know sx88) (fun t => t) (fun s89 => oV (f_X6_putBack s89) (fun t => t) (fun s93 => some (r27, s93)))) FU 0 s27) else (oV (f_X6_putBack s27) (fun t => t) (fun s39 => some ((s39.2 7), s39)))))) else (some (((-100) - (s2.2 5)), s2)))
set_option maxRecDepth 100000 in
set_option maxHeartbeats 4000000 in
theorem m_X6_follow {l : Launch} {G : va_G} {tys : List (ClassId × FieldType)} {S0 : Nat} {h h1 h2 : Nat → va_E} {b cN' : Nat} {cI cZ : ClassId} {σ : MS} {τ : MS}  {r : Int32} (hb : b + 8 ≤ cN') (ht : tys[0]? = some (cI, .int)) (htz : tys[2]? = some (cZ, .boolean)) (e1 : h1 = ov h b (ml S0 cI cZ b σ)) (e2 : h2 = ov h b (ml S0 cI cZ b τ)) (hf : f_X6_follow σ = some (r, τ)) : XMet l G tys S0 cN' yX6_follow cX6_follow 4 (some .int) 10 230 [.ref (S0 + (b + 0))] h1 cN' (some (.int r)) h2 0 0 := by
  subst e1; subst e2
  refine XMet.ofE (ST := MS) (HP := fun σ => ov h b (ml S0 cI cZ b σ)) σ τ (by decide) (Nat.le_of_ble_eq_true rfl) ?_
  intro κ g1 g2 g3 g4 g5 g6 E X hQ
  subst g1; subst g2; subst g3; subst g4
  have Y : YM κ h b cI cZ := ⟨fun σ => by rw [g5], fun σ => by rw [g6]; exact hb, ht, htz⟩
  have X : XC κ cX6_follow 4 RX6 (some .int) 10 230 := X
  show XG κ σ 0 [(0, .ref (κ.S0 + (b + 0)))] []
  unfold f_X6_follow at hf
  refine x_aload_n X dX6_follow_0 rfl 0 rfl ?_
  refine x_iconst (v := 0) X dX6_follow_1 (by decide) ?_
  refine x_callW (rest := []) (w := fun t => t) X E.1 hf (fun r t hr => x_cV (ci := 6) X cm_X6_go lkV_X6_154 rfl ⟨Nat.le_of_ble_eq_true rfl, Nat.le_of_ble_eq_true rfl⟩ (yM_0 Y) (yM_l Y 0 (by decide)) (m_X6_go (yM_hb Y σ) (yM_ht Y) (yM_htz Y) (yM_hp Y _) (yM_hp Y _) hr) rfl rfl (Nat.le_of_ble_eq_true rfl) (x_room E _) dX6_follow_2) (fun r2 s2 hf => ?_)
  refine x_istore_n (lv' := [(1, .int r2), (0, .ref (κ.S0 + (b + 0)))]) X dX6_follow_5 rfl (by decide) rfl ?_
  refine x_aload_n X dX6_follow_6 rfl 1 rfl ?_
  refine x_getf X fl_X6_139 (yM_0 Y) (yM_l Y 0 (by decide)) rfl dX6_follow_7 ?_
  refine x_if_eq (tgt := 21) X dX6_follow_10 (by decide) hf (fun hf => ?_) (fun hf => ?_)
  · refine x_aload_n X dX6_follow_21 rfl 1 rfl ?_
    refine x_callV (rest := []) (w := fun t => t) X E.1 hf (fun t hr => x_cV (ci := 6) X cm_X6_putAside lkV_X6_157 rfl ⟨Nat.le_of_ble_eq_true rfl, Nat.le_of_ble_eq_true rfl⟩ (yM_0 Y) (yM_l Y 0 (by decide)) (m_X6_putAside (yM_hb Y s2) (yM_ht Y) (yM_htz Y) (yM_hp Y _) (yM_hp Y _) hr) rfl rfl (Nat.le_of_ble_eq_true rfl) (x_room E _) dX6_follow_22) (fun s22 hf => ?_)
    refine x_aload_n X dX6_follow_25 rfl 1 rfl ?_
    refine x_iconst (v := 1) X dX6_follow_26 (by decide) ?_
    refine x_callW (rest := []) (w := fun t => t) X E.1 hf (fun r t hr => x_cV (ci := 6) X cm_X6_go lkV_X6_154 rfl ⟨Nat.le_of_ble_eq_true rfl, Nat.le_of_ble_eq_true rfl⟩ (yM_0 Y) (yM_l Y 0 (by decide)) (m_X6_go (yM_hb Y s22) (yM_ht Y) (yM_htz Y) (yM_hp Y _) (yM_hp Y _) hr) rfl rfl (Nat.le_of_ble_eq_true rfl) (x_room E _) dX6_follow_27) (fun r27 s27 hf => ?_)
    refine x_istore_n (lv' := [(1, .int r27), (0, .ref (κ.S0 + (b + 0)))]) X dX6_follow_30 rfl (by decide) rfl ?_
    refine x_aload_n X dX6_follow_31 rfl 1 rfl ?_
    refine x_getf X fl_X6_145 (yM_0 Y) (yM_l Y 0 (by decide)) rfl dX6_follow_32 ?_
    refine x_if_ge (tgt := 47) X dX6_follow_35 (by decide) hf (fun hf => ?_) (fun hf => ?_)
    · refine x_iconst (v := 0) X dX6_follow_47 (by decide) ?_
      refine x_istore_n (lv' := [(2, .int 0), (1, .int r27), (0, .ref (κ.S0 + (b + 0)))]) X dX6_follow_48 rfl (by decide) rfl ?_
      refine x_kont (b := fun kX49 => f_X6_follow_L49 kX49 FU 0 s27) (fun kX49 => ∀  (sx88 : MS), kX49 sx88 = some (r, τ) → XG κ sx88 88 [(0, .ref (κ.S0 + (b + 0))), (1, .int r27)] []) hf (fun sx88 hf => ?_) (fun kX49 JX49 hf => ?_)
      · refine x_aload_n X dX6_follow_88 rfl 0 rfl ?_
        refine x_callV (rest := []) (w := fun t => t) X E.1 hf (fun t hr => x_cV (ci := 6) X cm_X6_know lkV_X6_51 rfl ⟨Nat.le_of_ble_eq_true rfl, Nat.le_of_ble_eq_true rfl⟩ (yM_0 Y) (yM_l Y 0 (by decide)) (m_X6_know (yM_hb Y sx88) (yM_ht Y) (yM_htz Y) (yM_hp Y _) (yM_hp Y _) hr) rfl rfl (Nat.le_of_ble_eq_true rfl) (x_room E _) dX6_follow_89) (fun s89 hf => ?_)
        refine x_aload_n X dX6_follow_92 rfl 0 rfl ?_
        refine x_callV (rest := []) (w := fun t => t) X E.1 hf (fun t hr => x_cV (ci := 6) X cm_X6_putBack lkV_X6_160 rfl ⟨Nat.le_of_ble_eq_true rfl, Nat.le_of_ble_eq_true rfl⟩ (yM_0 Y) (yM_l Y 0 (by decide)) (m_X6_putBack (yM_hb Y s89) (yM_ht Y) (yM_htz Y) (yM_hp Y _) (yM_hp Y _) hr) rfl rfl (Nat.le_of_ble_eq_true rfl) (x_room E _) dX6_follow_93) (fun s93 hf => ?_)
        refine x_iload_n X dX6_follow_96 rfl 1 rfl ?_
        exact x_iretW (σ0 := σ) X E hQ hf dX6_follow_97
      · have LL : ∀ (n : Nat) (v2_49 : Int32) (s49 : MS), f_X6_follow_L49 kX49 n v2_49 s49 = some (r, τ) → XG κ s49 49 [(0, .ref (κ.S0 + (b + 0))), (1, .int r27), (2, .int v2_49)] [] := by
          intro n
          induction n with
          | zero => intro v2_49 s49 hf; rw [f_X6_follow_L49] at hf; cases hf
          | succ n ih49 =>
            intro v2_49 s49 hf
            rw [f_X6_follow_L49] at hf
            refine x_iload_n X dX6_follow_49 rfl 2 rfl ?_
            refine x_sipush (v := 2204) X dX6_follow_50 (by decide) ?_
            refine x_icmp_ge (tgt := 88) X dX6_follow_53 (by decide) hf (fun hf => ?_) (fun hf => ?_)
            · refine x_sub [0, 1] rfl ?_
              exact JX49 s49 hf
            · refine x_aload_n X dX6_follow_56 rfl 0 rfl ?_
              refine x_getf X fl_X6_7 (yM_0 Y) (yM_l Y 0 (by decide)) rfl dX6_follow_57 ?_
              refine x_iload_n X dX6_follow_60 rfl 2 rfl ?_
              refine x_iald X 0 (yM_ht Y) (yM_1 Y) (yM_l Y 1 (by decide)) dX6_follow_61 hf (fun x61 hf => ?_)
              refine x_istore_n (lv' := [(3, .int x61), (0, .ref (κ.S0 + (b + 0))), (1, .int r27), (2, .int v2_49)]) X dX6_follow_62 rfl (by decide) rfl ?_
              refine x_aload_n X dX6_follow_63 rfl 1 rfl ?_
              refine x_getf X fl_X6_7 (yM_0 Y) (yM_l Y 0 (by decide)) rfl dX6_follow_64 ?_
              refine x_iload_n X dX6_follow_67 rfl 3 rfl ?_
              refine x_aload_n X dX6_follow_68 rfl 1 rfl ?_
              refine x_getf X fl_X6_13 (yM_0 Y) (yM_l Y 0 (by decide)) rfl dX6_follow_69 ?_
              refine x_iload_n X dX6_follow_72 rfl 3 rfl ?_
              refine x_iald X 0 (yM_ht Y) (yM_2 Y) (yM_l Y 2 (by decide)) dX6_follow_73 hf (fun x73 hf => ?_)
              refine x_iast (w := sA s49 1) X E.1 0 (yM_ht Y) (yM_1 Y) (yM_l Y 1 (by decide)) (yM_s1 Y) dX6_follow_74 hf (fun s74 hf => ?_)
              refine x_aload_n X dX6_follow_75 rfl 1 rfl ?_
              refine x_getf X fl_X6_13 (yM_0 Y) (yM_l Y 0 (by decide)) rfl dX6_follow_76 ?_
              refine x_iload_n X dX6_follow_79 rfl 3 rfl ?_
              refine x_iload_n X dX6_follow_80 rfl 0 rfl ?_
              refine x_iast (w := sA s74 2) X E.1 0 (yM_ht Y) (yM_2 Y) (yM_l Y 2 (by decide)) (yM_s2 Y) dX6_follow_81 hf (fun s81 hf => ?_)
              refine x_iinc (v := v2_49 + 1) (lv' := [(2, .int (v2_49 + 1)), (3, .int x61), (0, .ref (κ.S0 + (b + 0))), (1, .int r27)]) X dX6_follow_82 3 rfl rfl (by decide) rfl ?_
              refine x_goto (tgt := 49) X dX6_follow_85 (by decide) ?_
              refine x_sub [2, 3, 0] rfl ?_
              exact ih49 (v2_49 + 1) s81 hf
        refine x_sub [2, 1, 0] rfl ?_
        exact LL FU 0 s27 hf
    · refine x_aload_n X dX6_follow_38 rfl 1 rfl ?_
      refine x_callV (rest := []) (w := fun t => t) X E.1 hf (fun t hr => x_cV (ci := 6) X cm_X6_putBack lkV_X6_160 rfl ⟨Nat.le_of_ble_eq_true rfl, Nat.le_of_ble_eq_true rfl⟩ (yM_0 Y) (yM_l Y 0 (by decide)) (m_X6_putBack (yM_hb Y s27) (yM_ht Y) (yM_htz Y) (yM_hp Y _) (yM_hp Y _) hr) rfl rfl (Nat.le_of_ble_eq_true rfl) (x_room E _) dX6_follow_39) (fun s39 hf => ?_)
      refine x_aload_n X dX6_follow_42 rfl 1 rfl ?_
      refine x_getf X fl_X6_145 (yM_0 Y) (yM_l Y 0 (by decide)) rfl dX6_follow_43 ?_
      exact x_iretW (σ0 := σ) X E hQ hf dX6_follow_46
  · refine x_bipush (v := (-100)) X dX6_follow_13 (by decide) ?_
    refine x_aload_n X dX6_follow_15 rfl 1 rfl ?_
    refine x_getf X fl_X6_133 (yM_0 Y) (yM_l Y 0 (by decide)) rfl dX6_follow_16 ?_
    refine x_isub X dX6_follow_19 ?_
    exact x_iretW (σ0 := σ) X E hQ hf dX6_follow_20
