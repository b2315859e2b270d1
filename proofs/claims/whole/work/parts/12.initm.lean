def f_X6_init_L133  (kX133 : MS → Option (MS)) : Nat → Int32 → MS → Option (MS)
  | 0, _, _ => none
  | n + 1, v1_133, s133 =>
    if 4 ≤ v1_133 then (kX133 s133) else (oR (f_X6_ofWriter v1_133 0) (fun r144 => oS 2204 (s133.1 1) r144 3 (sA s133 1) (fun s148 => f_X6_init_L133 kX133 n (v1_133 + 1) s148)))
def f_X6_init_L87  (kX87 : MS → Option (MS)) : Nat → Int32 → MS → Option (MS)
  | 0, _, _ => none
  | n + 1, v1_87, s87 =>
    if 8 ≤ v1_87 then (kX87 s87) else (oR (f_X6_of v1_87 1) (fun r99 => oS 2204 (s87.1 1) r99 8 (sA s87 1) (fun s104 => oR (f_X6_of v1_87 2) (fun r111 => oS 2204 (s104.1 1) r111 (2 + (v1_87 - v1_87 / 3 * 3)) (sA s104 1) (fun s119 => oV (f_X6_sweep s119 v1_87) (fun t => t) (fun s122 => f_X6_init_L87 kX87 n (v1_87 + 1) s122))))))
def f_X6_init (σ : MS) : Option MS :=
  oS 2204 (σ.1 1) 1 2 (sA σ 1) (fun s70 => oS 2204 (s70.1 1) 2 4 (sA s70 1) (fun s77 => oS 2204 (s77.1 1) 3 2 (sA s77 1) (fun s84 => f_X6_init_L87 (fun sx131 => f_X6_init_L133 (fun sx155 => some sx155) FU 0 sx131) FU 0 s84)))
set_option maxRecDepth 100000 in
set_option maxHeartbeats 4000000 in
theorem p2_X6_init {κ : XCtx MS} {h : Nat → va_E} {b : Nat} {cI cZ : ClassId} {mc ms : Nat} {σ τ : MS} (X : XC κ cX6_init 2 RX6 none 2 43) (Y : YM κ h b cI cZ) (Z : XZ κ) (hQ : XR κ (κ.HC σ) none (κ.HP τ) mc ms) (hK : ∀ σ, κ.K σ ≤ mc ∧ κ.N σ ≤ ms) (hR : ∀ σ, κ.K σ + 0 ≤ κ.R.cells ∧ κ.N σ + 0 ≤ κ.R.slots) (hf : f_X6_init σ = some τ) : XG κ σ 64 [(0, .ref (κ.S0 + (b + 0)))] [] := by
  unfold f_X6_init at hf
  refine x_aload_n X dX6_init_64 rfl 0 rfl ?_
  refine x_getf X fl_X6_7 (yM_0 Y) (yM_l Y 0 (by decide)) rfl dX6_init_65 ?_
  refine x_iconst (v := 1) X dX6_init_68 (by decide) ?_
  refine x_iconst (v := 2) X dX6_init_69 (by decide) ?_
  refine x_iast (w := sA σ 1) X Z 0 (yM_ht Y) (yM_1 Y) (yM_l Y 1 (by decide)) (yM_s1 Y) dX6_init_70 hf (fun s70 hf => ?_)
  refine x_aload_n X dX6_init_71 rfl 0 rfl ?_
  refine x_getf X fl_X6_7 (yM_0 Y) (yM_l Y 0 (by decide)) rfl dX6_init_72 ?_
  refine x_iconst (v := 2) X dX6_init_75 (by decide) ?_
  refine x_iconst (v := 4) X dX6_init_76 (by decide) ?_
  refine x_iast (w := sA s70 1) X Z 0 (yM_ht Y) (yM_1 Y) (yM_l Y 1 (by decide)) (yM_s1 Y) dX6_init_77 hf (fun s77 hf => ?_)
  refine x_aload_n X dX6_init_78 rfl 0 rfl ?_
  refine x_getf X fl_X6_7 (yM_0 Y) (yM_l Y 0 (by decide)) rfl dX6_init_79 ?_
  refine x_iconst (v := 3) X dX6_init_82 (by decide) ?_
  refine x_iconst (v := 2) X dX6_init_83 (by decide) ?_
  refine x_iast (w := sA s77 1) X Z 0 (yM_ht Y) (yM_1 Y) (yM_l Y 1 (by decide)) (yM_s1 Y) dX6_init_84 hf (fun s84 hf => ?_)
  refine x_iconst (v := 0) X dX6_init_85 (by decide) ?_
  refine x_istore_n (lv' := [(1, .int 0), (0, .ref (κ.S0 + (b + 0)))]) X dX6_init_86 rfl (by decide) rfl ?_
  refine x_kont (b := fun kX87 => f_X6_init_L87 kX87 FU 0 s84) (fun kX87 => ∀  (sx131 : MS), kX87 sx131 = some τ → XG κ sx131 131 [(0, .ref (κ.S0 + (b + 0)))] []) hf (fun sx131 hf => ?_) (fun kX87 JX87 hf => ?_)
  · refine x_iconst (v := 0) X dX6_init_131 (by decide) ?_
    refine x_istore_n (lv' := [(1, .int 0), (0, .ref (κ.S0 + (b + 0)))]) X dX6_init_132 rfl (by decide) rfl ?_
    refine x_kont (b := fun kX133 => f_X6_init_L133 kX133 FU 0 sx131) (fun kX133 => ∀  (sx155 : MS), kX133 sx155 = some τ → XG κ sx155 155 [] []) hf (fun sx155 hf => ?_) (fun kX133 JX133 hf => ?_)
    · exact x_vretP (σ0 := σ) X Z hQ hK hf dX6_init_155
    · have LL : ∀ (n : Nat) (v1_133 : Int32) (s133 : MS), f_X6_init_L133 kX133 n v1_133 s133 = some τ → XG κ s133 133 [(0, .ref (κ.S0 + (b + 0))), (1, .int v1_133)] [] := by
        intro n
        induction n with
        | zero => intro v1_133 s133 hf; rw [f_X6_init_L133] at hf; cases hf
        | succ n ih133 =>
          intro v1_133 s133 hf
          rw [f_X6_init_L133] at hf
          refine x_iload_n X dX6_init_133 rfl 1 rfl ?_
          refine x_iconst (v := 4) X dX6_init_134 (by decide) ?_
          refine x_icmp_ge (tgt := 155) X dX6_init_135 (by decide) hf (fun hf => ?_) (fun hf => ?_)
          · refine x_sub [] rfl ?_
            exact JX133 s133 hf
          · refine x_aload_n X dX6_init_138 rfl 0 rfl ?_
            refine x_getf X fl_X6_7 (yM_0 Y) (yM_l Y 0 (by decide)) rfl dX6_init_139 ?_
            refine x_iload_n X dX6_init_142 rfl 1 rfl ?_
            refine x_iconst (v := 0) X dX6_init_143 (by decide) ?_
            refine x_callR (rest := [.ref (κ.S0 + (b + 1))]) X hf (fun r hr => x_cS X cm_X6_ofWriter lkS_X6_40 ⟨Nat.le_of_ble_eq_true rfl, Nat.le_of_ble_eq_true rfl⟩ (m_X6_ofWriter hr) rfl rfl (Nat.le_of_ble_eq_true rfl) (hR _) dX6_init_144) (fun r144 hf => ?_)
            refine x_iconst (v := 3) X dX6_init_147 (by decide) ?_
            refine x_iast (w := sA s133 1) X Z 0 (yM_ht Y) (yM_1 Y) (yM_l Y 1 (by decide)) (yM_s1 Y) dX6_init_148 hf (fun s148 hf => ?_)
            refine x_iinc (v := v1_133 + 1) (lv' := [(1, .int (v1_133 + 1)), (0, .ref (κ.S0 + (b + 0)))]) X dX6_init_149 1 rfl rfl (by decide) rfl ?_
            refine x_goto (tgt := 133) X dX6_init_152 (by decide) ?_
            refine x_sub [1, 0] rfl ?_
            exact ih133 (v1_133 + 1) s148 hf
      refine x_sub [1, 0] rfl ?_
      exact LL FU 0 sx131 hf
  · have LL : ∀ (n : Nat) (v1_87 : Int32) (s87 : MS), f_X6_init_L87 kX87 n v1_87 s87 = some τ → XG κ s87 87 [(0, .ref (κ.S0 + (b + 0))), (1, .int v1_87)] [] := by
      intro n
      induction n with
      | zero => intro v1_87 s87 hf; rw [f_X6_init_L87] at hf; cases hf
      | succ n ih87 =>
        intro v1_87 s87 hf
        rw [f_X6_init_L87] at hf
        refine x_iload_n X dX6_init_87 rfl 1 rfl ?_
        refine x_bipush (v := 8) X dX6_init_88 (by decide) ?_
        refine x_icmp_ge (tgt := 131) X dX6_init_90 (by decide) hf (fun hf => ?_) (fun hf => ?_)
        · refine x_sub [0] rfl ?_
          exact JX87 s87 hf
        · refine x_aload_n X dX6_init_93 rfl 0 rfl ?_
          refine x_getf X fl_X6_7 (yM_0 Y) (yM_l Y 0 (by decide)) rfl dX6_init_94 ?_
          refine x_iload_n X dX6_init_97 rfl 1 rfl ?_
          refine x_iconst (v := 1) X dX6_init_98 (by decide) ?_
          refine x_callR (rest := [.ref (κ.S0 + (b + 1))]) X hf (fun r hr => x_cS X cm_X6_of lkS_X6_32 ⟨Nat.le_of_ble_eq_true rfl, Nat.le_of_ble_eq_true rfl⟩ (m_X6_of hr) rfl rfl (Nat.le_of_ble_eq_true rfl) (hR _) dX6_init_99) (fun r99 hf => ?_)
          refine x_bipush (v := 8) X dX6_init_102 (by decide) ?_
          refine x_iast (w := sA s87 1) X Z 0 (yM_ht Y) (yM_1 Y) (yM_l Y 1 (by decide)) (yM_s1 Y) dX6_init_104 hf (fun s104 hf => ?_)
          refine x_aload_n X dX6_init_105 rfl 0 rfl ?_
          refine x_getf X fl_X6_7 (yM_0 Y) (yM_l Y 0 (by decide)) rfl dX6_init_106 ?_
          refine x_iload_n X dX6_init_109 rfl 1 rfl ?_
          refine x_iconst (v := 2) X dX6_init_110 (by decide) ?_
          refine x_callR (rest := [.ref (κ.S0 + (b + 1))]) X hf (fun r hr => x_cS X cm_X6_of lkS_X6_32 ⟨Nat.le_of_ble_eq_true rfl, Nat.le_of_ble_eq_true rfl⟩ (m_X6_of hr) rfl rfl (Nat.le_of_ble_eq_true rfl) (hR _) dX6_init_111) (fun r111 hf => ?_)
          refine x_iconst (v := 2) X dX6_init_114 (by decide) ?_
          refine x_iload_n X dX6_init_115 rfl 1 rfl ?_
          refine x_iconst (v := 3) X dX6_init_116 (by decide) ?_
          refine x_irem X dX6_init_117 (by decide) ?_
          refine x_iadd X dX6_init_118 ?_
          refine x_iast (w := sA s104 1) X Z 0 (yM_ht Y) (yM_1 Y) (yM_l Y 1 (by decide)) (yM_s1 Y) dX6_init_119 hf (fun s119 hf => ?_)
          refine x_aload_n X dX6_init_120 rfl 0 rfl ?_
          refine x_iload_n X dX6_init_121 rfl 1 rfl ?_
          refine x_callV (rest := []) (w := fun t => t) X Z hf (fun t hr => x_cV (ci := 6) X cm_X6_sweep lkV_X6_36 rfl ⟨Nat.le_of_ble_eq_true rfl, Nat.le_of_ble_eq_true rfl⟩ (yM_0 Y) (yM_l Y 0 (by decide)) (m_X6_sweep (yM_hb Y s119) (yM_ht Y) (yM_htz Y) (yM_hp Y _) (yM_hp Y _) hr) rfl rfl (Nat.le_of_ble_eq_true rfl) (hR _) dX6_init_122) (fun s122 hf => ?_)
          refine x_iinc (v := v1_87 + 1) (lv' := [(1, .int (v1_87 + 1)), (0, .ref (κ.S0 + (b + 0)))]) X dX6_init_125 1 rfl rfl (by decide) rfl ?_
          refine x_goto (tgt := 87) X dX6_init_128 (by decide) ?_
          refine x_sub [1, 0] rfl ?_
          exact ih87 (v1_87 + 1) s122 hf
    refine x_sub [1, 0] rfl ?_
    exact LL FU 0 s84 hf
set_option maxRecDepth 100000 in
set_option maxHeartbeats 4000000 in
theorem k_X6_init {l : Launch} {G : va_G} {tys : List (ClassId × FieldType)} {S0 : Nat} {h h1 h2 : Nat → va_E} {b c1 c2 : Nat} {cI cZ : ClassId} {τ : MS} (ht : tys[0]? = some (cI, .int)) (htz : tys[2]? = some (cZ, .boolean)) (e0 : c1 = b + 1) (e1 : h1 = ov h b [.inr (6, [.null, .null, .null, .int 0, .null, .int 0, .null, .int 0, .null, .int 0, .int 0, .int 0, .int 0, .null, .int 0])]) (e2 : ov h b (ml S0 cI cZ b τ) = h2) (e3 : b + 8 = c2) (hf : f_X6_init (fun _ _ => 0, fun _ => 0) = some τ) : XMet l G tys S0 c1 yX6_init cX6_init 2 none 2 43 [.ref (S0 + (b + 0))] h1 c2 none h2 7 15693 := by
  subst e0; subst e1; subst e2; subst e3
  refine XMet.of (ST := LW) (fun M => b + M.1.length) (fun M => ov h b M.1) (fun M => M.2.1) (fun M => M.2.2) ([.inr (6, [.null, .null, .null, .int 0, .null, .int 0, .null, .int 0, .null, .int 0, .int 0, .int 0, .int 0, .null, .int 0])], 0, 0) (by decide) ⟨rfl, rfl⟩ (Nat.le_of_ble_eq_true rfl) ?_
  intro κ k1 k2 k3 k4 k5 k6 k7 k8 hrc hrs hin0 X hQ
  subst k5; subst k6; subst k7; subst k8
  have Y : YL κ h b := ⟨fun L => by rw [k2], fun L => by rw [k1], fun L => by rw [k3], fun L => by rw [k4]⟩
  have hin : κ.meth.name = "<init>" := hin0
  have X : XC κ cX6_init 2 RX6 none 2 43 := X
  show XG κ ([.inr (6, [.null, .null, .null, .int 0, .null, .int 0, .null, .int 0, .null, .int 0, .int 0, .int 0, .int 0, .null, .int 0])], 0, 0) 0 [(0, .ref (κ.S0 + (b + 0)))] []
  refine x_aload_n X dX6_init_0 rfl 0 rfl ?_
  refine x_objInit X oi_X6 (by decide) (Nat.le_of_ble_eq_true rfl) dX6_init_1 ?_
  refine x_aload_n X dX6_init_4 rfl 0 rfl ?_
  refine x_sipush (v := 2204) X dX6_init_5 (by decide) ?_
  refine x_newaL (Z' := [.inr (6, [.null, .null, .null, .int 0, .null, .int 0, .null, .int 0, .null, .int 0, .int 0, .int 0, .int 0, .null, .int 0]), .inl (cI, 2204, .inl (fun _ => 0))]) (q1' := 1) (q2' := 2204) X Y hrc hrs (atype := .int) rfl aw_int 0 ht (fun _ h => h) (N := 2204) (a0 := (2204, .inl (fun _ => 0))) (fun _ => rfl) (by decide) (by decide) (by decide) 1 rfl rfl (Nat.le_of_ble_eq_true rfl) (Nat.le_of_ble_eq_true rfl) rfl rfl rfl dX6_init_8 ?_
  refine x_putFL (Z' := [.inr (6, [.ref (κ.S0 + (b + 1)), .null, .null, .int 0, .null, .int 0, .null, .int 0, .null, .int 0, .int 0, .int 0, .int 0, .null, .int 0]), .inl (cI, 2204, .inl (fun _ => 0))]) (q1' := 1) (q2' := 2204) X Y fp_X6_7 hin (fun C T N h => by cases h; rfl) rfl (Nat.le_of_ble_eq_true rfl) rfl rfl rfl (Nat.le_of_ble_eq_true rfl) rfl rfl rfl dX6_init_10 ?_
  refine x_aload_n X dX6_init_13 rfl 0 rfl ?_
  refine x_sipush (v := 2204) X dX6_init_14 (by decide) ?_
  refine x_newaL (Z' := [.inr (6, [.ref (κ.S0 + (b + 1)), .null, .null, .int 0, .null, .int 0, .null, .int 0, .null, .int 0, .int 0, .int 0, .int 0, .null, .int 0]), .inl (cI, 2204, .inl (fun _ => 0)), .inl (cI, 2204, .inl (fun _ => 0))]) (q1' := 2) (q2' := 4408) X Y hrc hrs (atype := .int) rfl aw_int 0 ht (fun _ h => h) (N := 2204) (a0 := (2204, .inl (fun _ => 0))) (fun _ => rfl) (by decide) (by decide) (by decide) 2 rfl rfl (Nat.le_of_ble_eq_true rfl) (Nat.le_of_ble_eq_true rfl) rfl rfl rfl dX6_init_17 ?_
  refine x_putFL (Z' := [.inr (6, [.ref (κ.S0 + (b + 1)), .ref (κ.S0 + (b + 2)), .null, .int 0, .null, .int 0, .null, .int 0, .null, .int 0, .int 0, .int 0, .int 0, .null, .int 0]), .inl (cI, 2204, .inl (fun _ => 0)), .inl (cI, 2204, .inl (fun _ => 0))]) (q1' := 2) (q2' := 4408) X Y fp_X6_13 hin (fun C T N h => by cases h; rfl) rfl (Nat.le_of_ble_eq_true rfl) rfl rfl rfl (Nat.le_of_ble_eq_true rfl) rfl rfl rfl dX6_init_19 ?_
  refine x_aload_n X dX6_init_22 rfl 0 rfl ?_
  refine x_sipush (v := 8816) X dX6_init_23 (by decide) ?_
  refine x_newaL (Z' := [.inr (6, [.ref (κ.S0 + (b + 1)), .ref (κ.S0 + (b + 2)), .null, .int 0, .null, .int 0, .null, .int 0, .null, .int 0, .int 0, .int 0, .int 0, .null, .int 0]), .inl (cI, 2204, .inl (fun _ => 0)), .inl (cI, 2204, .inl (fun _ => 0)), .inl (cI, 8816, .inl (fun _ => 0))]) (q1' := 3) (q2' := 13224) X Y hrc hrs (atype := .int) rfl aw_int 0 ht (fun _ h => h) (N := 8816) (a0 := (8816, .inl (fun _ => 0))) (fun _ => rfl) (by decide) (by decide) (by decide) 3 rfl rfl (Nat.le_of_ble_eq_true rfl) (Nat.le_of_ble_eq_true rfl) rfl rfl rfl dX6_init_26 ?_
  refine x_putFL (Z' := [.inr (6, [.ref (κ.S0 + (b + 1)), .ref (κ.S0 + (b + 2)), .ref (κ.S0 + (b + 3)), .int 0, .null, .int 0, .null, .int 0, .null, .int 0, .int 0, .int 0, .int 0, .null, .int 0]), .inl (cI, 2204, .inl (fun _ => 0)), .inl (cI, 2204, .inl (fun _ => 0)), .inl (cI, 8816, .inl (fun _ => 0))]) (q1' := 3) (q2' := 13224) X Y fp_X6_16 hin (fun C T N h => by cases h; rfl) rfl (Nat.le_of_ble_eq_true rfl) rfl rfl rfl (Nat.le_of_ble_eq_true rfl) rfl rfl rfl dX6_init_28 ?_
  refine x_aload_n X dX6_init_31 rfl 0 rfl ?_
  refine x_sipush (v := 2204) X dX6_init_32 (by decide) ?_
  refine x_newaL (Z' := [.inr (6, [.ref (κ.S0 + (b + 1)), .ref (κ.S0 + (b + 2)), .ref (κ.S0 + (b + 3)), .int 0, .null, .int 0, .null, .int 0, .null, .int 0, .int 0, .int 0, .int 0, .null, .int 0]), .inl (cI, 2204, .inl (fun _ => 0)), .inl (cI, 2204, .inl (fun _ => 0)), .inl (cI, 8816, .inl (fun _ => 0)), .inl (cI, 2204, .inl (fun _ => 0))]) (q1' := 4) (q2' := 15428) X Y hrc hrs (atype := .int) rfl aw_int 0 ht (fun _ h => h) (N := 2204) (a0 := (2204, .inl (fun _ => 0))) (fun _ => rfl) (by decide) (by decide) (by decide) 4 rfl rfl (Nat.le_of_ble_eq_true rfl) (Nat.le_of_ble_eq_true rfl) rfl rfl rfl dX6_init_35 ?_
  refine x_putFL (Z' := [.inr (6, [.ref (κ.S0 + (b + 1)), .ref (κ.S0 + (b + 2)), .ref (κ.S0 + (b + 3)), .int 0, .ref (κ.S0 + (b + 4)), .int 0, .null, .int 0, .null, .int 0, .int 0, .int 0, .int 0, .null, .int 0]), .inl (cI, 2204, .inl (fun _ => 0)), .inl (cI, 2204, .inl (fun _ => 0)), .inl (cI, 8816, .inl (fun _ => 0)), .inl (cI, 2204, .inl (fun _ => 0))]) (q1' := 4) (q2' := 15428) X Y fp_X6_19 hin (fun C T N h => by cases h; rfl) rfl (Nat.le_of_ble_eq_true rfl) rfl rfl rfl (Nat.le_of_ble_eq_true rfl) rfl rfl rfl dX6_init_37 ?_
  refine x_aload_n X dX6_init_40 rfl 0 rfl ?_
  refine x_bipush (v := 60) X dX6_init_41 (by decide) ?_
  refine x_newaL (Z' := [.inr (6, [.ref (κ.S0 + (b + 1)), .ref (κ.S0 + (b + 2)), .ref (κ.S0 + (b + 3)), .int 0, .ref (κ.S0 + (b + 4)), .int 0, .null, .int 0, .null, .int 0, .int 0, .int 0, .int 0, .null, .int 0]), .inl (cI, 2204, .inl (fun _ => 0)), .inl (cI, 2204, .inl (fun _ => 0)), .inl (cI, 8816, .inl (fun _ => 0)), .inl (cI, 2204, .inl (fun _ => 0)), .inl (cI, 60, .inl (fun _ => 0))]) (q1' := 5) (q2' := 15488) X Y hrc hrs (atype := .int) rfl aw_int 0 ht (fun _ h => h) (N := 60) (a0 := (60, .inl (fun _ => 0))) (fun _ => rfl) (by decide) (by decide) (by decide) 5 rfl rfl (Nat.le_of_ble_eq_true rfl) (Nat.le_of_ble_eq_true rfl) rfl rfl rfl dX6_init_43 ?_
  refine x_putFL (Z' := [.inr (6, [.ref (κ.S0 + (b + 1)), .ref (κ.S0 + (b + 2)), .ref (κ.S0 + (b + 3)), .int 0, .ref (κ.S0 + (b + 4)), .int 0, .ref (κ.S0 + (b + 5)), .int 0, .null, .int 0, .int 0, .int 0, .int 0, .null, .int 0]), .inl (cI, 2204, .inl (fun _ => 0)), .inl (cI, 2204, .inl (fun _ => 0)), .inl (cI, 8816, .inl (fun _ => 0)), .inl (cI, 2204, .inl (fun _ => 0)), .inl (cI, 60, .inl (fun _ => 0))]) (q1' := 5) (q2' := 15488) X Y fp_X6_22 hin (fun C T N h => by cases h; rfl) rfl (Nat.le_of_ble_eq_true rfl) rfl rfl rfl (Nat.le_of_ble_eq_true rfl) rfl rfl rfl dX6_init_45 ?_
  refine x_aload_n X dX6_init_48 rfl 0 rfl ?_
  refine x_sipush (v := 201) X dX6_init_49 (by decide) ?_
  refine x_newaL (Z' := [.inr (6, [.ref (κ.S0 + (b + 1)), .ref (κ.S0 + (b + 2)), .ref (κ.S0 + (b + 3)), .int 0, .ref (κ.S0 + (b + 4)), .int 0, .ref (κ.S0 + (b + 5)), .int 0, .null, .int 0, .int 0, .int 0, .int 0, .null, .int 0]), .inl (cI, 2204, .inl (fun _ => 0)), .inl (cI, 2204, .inl (fun _ => 0)), .inl (cI, 8816, .inl (fun _ => 0)), .inl (cI, 2204, .inl (fun _ => 0)), .inl (cI, 60, .inl (fun _ => 0)), .inl (cZ, 201, .inl (fun _ => 0))]) (q1' := 6) (q2' := 15689) X Y hrc hrs (atype := .boolean) rfl aw_boolean 2 htz (fun _ h => h) (N := 201) (a0 := (201, .inl (fun _ => 0))) (fun _ => rfl) (by decide) (by decide) (by decide) 6 rfl rfl (Nat.le_of_ble_eq_true rfl) (Nat.le_of_ble_eq_true rfl) rfl rfl rfl dX6_init_52 ?_
  refine x_putFL (Z' := [.inr (6, [.ref (κ.S0 + (b + 1)), .ref (κ.S0 + (b + 2)), .ref (κ.S0 + (b + 3)), .int 0, .ref (κ.S0 + (b + 4)), .int 0, .ref (κ.S0 + (b + 5)), .int 0, .ref (κ.S0 + (b + 6)), .int 0, .int 0, .int 0, .int 0, .null, .int 0]), .inl (cI, 2204, .inl (fun _ => 0)), .inl (cI, 2204, .inl (fun _ => 0)), .inl (cI, 8816, .inl (fun _ => 0)), .inl (cI, 2204, .inl (fun _ => 0)), .inl (cI, 60, .inl (fun _ => 0)), .inl (cZ, 201, .inl (fun _ => 0))]) (q1' := 6) (q2' := 15689) X Y fp_X6_25 hin (fun C T N h => by cases h; rfl) rfl (Nat.le_of_ble_eq_true rfl) rfl rfl rfl (Nat.le_of_ble_eq_true rfl) rfl rfl rfl dX6_init_54 ?_
  refine x_aload_n X dX6_init_57 rfl 0 rfl ?_
  refine x_iconst (v := 4) X dX6_init_58 (by decide) ?_
  refine x_newaL (Z' := [.inr (6, [.ref (κ.S0 + (b + 1)), .ref (κ.S0 + (b + 2)), .ref (κ.S0 + (b + 3)), .int 0, .ref (κ.S0 + (b + 4)), .int 0, .ref (κ.S0 + (b + 5)), .int 0, .ref (κ.S0 + (b + 6)), .int 0, .int 0, .int 0, .int 0, .null, .int 0]), .inl (cI, 2204, .inl (fun _ => 0)), .inl (cI, 2204, .inl (fun _ => 0)), .inl (cI, 8816, .inl (fun _ => 0)), .inl (cI, 2204, .inl (fun _ => 0)), .inl (cI, 60, .inl (fun _ => 0)), .inl (cZ, 201, .inl (fun _ => 0)), .inl (cI, 4, .inl (fun _ => 0))]) (q1' := 7) (q2' := 15693) X Y hrc hrs (atype := .int) rfl aw_int 0 ht (fun _ h => h) (N := 4) (a0 := (4, .inl (fun _ => 0))) (fun _ => rfl) (by decide) (by decide) (by decide) 7 rfl rfl (Nat.le_of_ble_eq_true rfl) (Nat.le_of_ble_eq_true rfl) rfl rfl rfl dX6_init_59 ?_
  refine x_putFL (Z' := [.inr (6, [.ref (κ.S0 + (b + 1)), .ref (κ.S0 + (b + 2)), .ref (κ.S0 + (b + 3)), .int 0, .ref (κ.S0 + (b + 4)), .int 0, .ref (κ.S0 + (b + 5)), .int 0, .ref (κ.S0 + (b + 6)), .int 0, .int 0, .int 0, .int 0, .ref (κ.S0 + (b + 7)), .int 0]), .inl (cI, 2204, .inl (fun _ => 0)), .inl (cI, 2204, .inl (fun _ => 0)), .inl (cI, 8816, .inl (fun _ => 0)), .inl (cI, 2204, .inl (fun _ => 0)), .inl (cI, 60, .inl (fun _ => 0)), .inl (cZ, 201, .inl (fun _ => 0)), .inl (cI, 4, .inl (fun _ => 0))]) (q1' := 7) (q2' := 15693) X Y fp_X6_29 hin (fun C T N h => by cases h; rfl) rfl (Nat.le_of_ble_eq_true rfl) rfl rfl rfl (Nat.le_of_ble_eq_true rfl) rfl rfl rfl dX6_init_61 ?_
  refine x_swap (fun _ => b + 8) (fun σ => ov h b (ml κ.S0 cI cZ b σ)) (fun _ => 7) (fun _ => 15693) ((fun _ _ => 0, fun _ => 0) : MS) (by rw [Y.1]; rfl) (yL_hc Y (n := 8) rfl).symm (by rw [Y.2.2.1]) (by rw [Y.2.2.2]) ?_
  refine p2_X6_init (κ := κ.to (fun _ => b + 8) (fun σ => ov h b (ml κ.S0 cI cZ b σ)) (fun _ => 7) (fun _ => 15693)) (h := h) (cI := cI) (cZ := cZ) (mc := 7) (ms := 15693) (τ := τ) X ⟨fun _ => rfl, fun _ => Nat.le_refl _, ht, htz⟩ ⟨fun _ _ => rfl, fun _ _ => rfl, fun _ _ => rfl⟩ hQ (fun _ => ⟨Nat.le_refl _, Nat.le_refl _⟩) (fun _ => ⟨Nat.le_of_eq hrc.symm, Nat.le_of_eq hrs.symm⟩) hf
