def f_L_low (p0 : Int32) (p1 : Int32) : Option (Int32) :=
  oD p1 (some ((p0 &&& 2147483647) - (p0 &&& 2147483647) / p1 * p1))
set_option maxRecDepth 100000 in
set_option maxHeartbeats 4000000 in
theorem m_L_low {l : Launch} {G : va_G} {tys : List (ClassId × FieldType)} {S0 : Nat} {h1 : Nat → va_E} {cN' : Nat} {p0 : Int32} {p1 : Int32} {r : Int32}  (hf : f_L_low p0 p1 = some r) : XMet l G tys S0 cN' yL_low cL_low 2 (some .int) 0 0 [.int p0, .int p1] h1 cN' (some (.int r)) h1 0 0 := by
  refine XMet.ofE (ST := Unit) (HP := fun _ => h1) () () (by decide) (Nat.le_of_ble_eq_true rfl) ?_
  intro κ g1 g2 g3 g4 g5 g6 E X hQ
  subst g1; subst g2; subst g3; subst g4
  have X : XC κ cL_low 2 RL (some .int) 0 0 := X
  show XG κ () 0 [(0, .int p0), (1, .int p1)] []
  unfold f_L_low at hf
  refine x_iload_n X dL_low_0 rfl 0 rfl ?_
  refine x_ldc (v := 2147483647) X ldc_L_7 dL_low_1 ?_
  refine x_iand X dL_low_3 ?_
  refine x_iload_n X dL_low_4 rfl 1 rfl ?_
  refine x_iremG X dL_low_5 hf (fun hf => ?_)
  exact x_iretR (σ0 := ()) X E hQ hf dL_low_6
def f_L_does (σ : CS) (p1 : Int32) : Option (Int32 × CS) :=
  oJ (κ := Option (Int32 × CS)) (oJ (κ := Int32 → Option (Int32 × CS)) (fun t0_90 => oR (f_L_low (p1 >>> (10 &&& 31)) 100) (fun r96 => oW (f_X5_append σ ((p1 >>> (4 &&& 31)) &&& 3) t0_90 r96) (fun t => t) (fun r99 s99 => some (r99, s99)))) (fun k90 => if ((p1 >>> (9 &&& 31)) &&& 1) = 0 then (k90 (((p1 >>> (6 &&& 31)) &&& 7) &&& 3)) else (k90 ((p1 >>> (6 &&& 31)) &&& 7)))) (fun k72 => if (p1 &&& 15) = 0 then k72 else (if (p1 &&& 15) = 1 then k72 else (if (p1 &&& 15) = 2 then k72 else (if (p1 &&& 15) = 3 then k72 else (if (p1 &&& 15) = 4 then k72 else (if (p1 &&& 15) = 5 then k72 else (if (p1 &&& 15) = 6 then (if ((p1 >>> (9 &&& 31)) &&& 1) = 0 then (oW (f_X5_reset σ (((p1 >>> (6 &&& 31)) &&& 7) &&& 3)) (fun t => t) (fun r116 s116 => some (r116, s116))) else (oW (f_X5_finish σ (((p1 >>> (6 &&& 31)) &&& 7) &&& 3)) (fun t => t) (fun r126 s126 => some (r126, s126)))) else (if (p1 &&& 15) = 7 then (oW (f_X5_close σ ((p1 >>> (6 &&& 31)) &&& 7)) (fun t => t) (fun r132 s132 => some (r132, s132))) else (if (p1 &&& 15) = 8 then (oR (f_L_low (p1 >>> (9 &&& 31)) 9) (fun r144 => oW (f_X5_set σ ((p1 >>> (4 &&& 31)) &&& 3) r144) (fun t => t) (fun r147 s147 => some (r147, s147)))) else (if (p1 &&& 15) = 9 then (if ((p1 >>> (4 &&& 31)) &&& 1) = 0 then (oJ (κ := Int32 → Option (Int32 × CS)) (fun t0_175 => oR (f_L_low (p1 >>> (9 &&& 31)) 9) (fun r182 => oW (f_X5_setZone σ ((p1 >>> (6 &&& 31)) &&& 7) t0_175 ((1 : Int32) + r182)) (fun t => t) (fun r186 s186 => some (r186, s186)))) (fun k175 => if ((p1 >>> (5 &&& 31)) &&& 1) = 1 then (k175 1) else (k175 0))) else (oW (f_X5_setWindow σ ((p1 >>> (4 &&& 31)) &&& 3) ((1 : Int32) + ((p1 >>> (9 &&& 31)) &&& 7))) (fun t => t) (fun r203 s203 => some (r203, s203)))) else (oR (f_L_low (p1 >>> (4 &&& 31)) 4) (fun r213 => oW (f_X5_pass σ ((1 : Int32) + r213)) (fun t => t) (fun r217 s217 => some (r217, s217))))))))))))))
set_option maxRecDepth 100000 in
set_option maxHeartbeats 4000000 in
theorem m_L_does {l : Launch} {G : va_G} {tys : List (ClassId × FieldType)} {S0 : Nat} {h h1 h2 : Nat → va_E} {b cN' : Nat} {cI cC cS' : ClassId} {σ : CS} {τ : CS} {p1 : Int32} {r : Int32} (hb : b + 159 ≤ cN') (ht : tys[0]? = some (cI, .int)) (htc : tys[1]? = some (cC, .char)) (hts : tys[3]? = some (cS', .object "AppendZones$State")) (e1 : h1 = ov h b (cl S0 cI cC cS' b σ)) (e2 : h2 = ov h b (cl S0 cI cC cS' b τ)) (hf : f_L_does σ p1 = some (r, τ)) : XMet l G tys S0 cN' yL_does cL_does 4 (some .int) 6 149 [.ref (S0 + (b + 0)), .int p1] h1 cN' (some (.int r)) h2 0 0 := by
  subst e1; subst e2
  refine XMet.ofE (ST := CS) (HP := fun σ => ov h b (cl S0 cI cC cS' b σ)) σ τ (by decide) (Nat.le_of_ble_eq_true rfl) ?_
  intro κ g1 g2 g3 g4 g5 g6 E X hQ
  subst g1; subst g2; subst g3; subst g4
  have Y : YC κ h b cI cC cS' := ⟨fun σ => by rw [g5], fun σ => by rw [g6]; exact hb, ht, htc, hts⟩
  have X : XC κ cL_does 4 RL (some .int) 6 149 := X
  show XG κ σ 0 [(0, .ref (κ.S0 + (b + 0))), (1, .int p1)] []
  unfold f_L_does at hf
  refine x_iload_n X dL_does_0 rfl 1 rfl ?_
  refine x_iconst (v := 4) X dL_does_1 (by decide) ?_
  refine x_ishr X dL_does_2 ?_
  refine x_iconst (v := 3) X dL_does_3 (by decide) ?_
  refine x_iand X dL_does_4 ?_
  refine x_istore_n (lv' := [(2, .int ((p1 >>> (4 &&& 31)) &&& 3)), (0, .ref (κ.S0 + (b + 0))), (1, .int p1)]) X dL_does_5 rfl (by decide) rfl ?_
  refine x_iload_n X dL_does_6 rfl 2 rfl ?_
  refine x_bipush (v := 6) X dL_does_7 (by decide) ?_
  refine x_ishr X dL_does_9 ?_
  refine x_bipush (v := 7) X dL_does_10 (by decide) ?_
  refine x_iand X dL_does_12 ?_
  refine x_istore_n (lv' := [(3, .int ((p1 >>> (6 &&& 31)) &&& 7)), (2, .int ((p1 >>> (4 &&& 31)) &&& 3)), (0, .ref (κ.S0 + (b + 0))), (1, .int p1)]) X dL_does_13 rfl (by decide) rfl ?_
  refine x_iload_n X dL_does_14 rfl 3 rfl ?_
  refine x_bipush (v := 15) X dL_does_15 (by decide) ?_
  refine x_iand X dL_does_17 ?_
  refine x_join (fun k72 => k72 = some (r, τ) → XG κ σ 72 [(0, .ref (κ.S0 + (b + 0))), (1, .int p1), (2, .int ((p1 >>> (4 &&& 31)) &&& 3)), (3, .int ((p1 >>> (6 &&& 31)) &&& 7))] []) hf (fun hf => ?_) (fun k72 J72 hf => ?_)
  · refine x_aload_n X dL_does_72 rfl 0 rfl ?_
    refine x_iload_n X dL_does_73 rfl 2 rfl ?_
    refine x_iload_n X dL_does_74 rfl 1 rfl ?_
    refine x_bipush (v := 9) X dL_does_75 (by decide) ?_
    refine x_ishr X dL_does_77 ?_
    refine x_iconst (v := 1) X dL_does_78 (by decide) ?_
    refine x_iand X dL_does_79 ?_
    refine x_join (fun k90 => ∀ (t0_90 : Int32), k90 t0_90 = some (r, τ) → XG κ σ 90 [(1, .int p1)] [.int t0_90, .int ((p1 >>> (4 &&& 31)) &&& 3), .ref (κ.S0 + (b + 0))]) hf (fun t0_90 hf => ?_) (fun k90 J90 hf => ?_)
    · refine x_iload_n X dL_does_90 rfl 0 rfl ?_
      refine x_bipush (v := 10) X dL_does_91 (by decide) ?_
      refine x_ishr X dL_does_93 ?_
      refine x_bipush (v := 100) X dL_does_94 (by decide) ?_
      refine x_callR (rest := [.int t0_90, .int ((p1 >>> (4 &&& 31)) &&& 3), .ref (κ.S0 + (b + 0))]) X hf (fun r hr => x_cS X cm_L_low lkS_L_8 ⟨Nat.le_of_ble_eq_true rfl, Nat.le_of_ble_eq_true rfl⟩ (m_L_low hr) rfl rfl (Nat.le_of_ble_eq_true rfl) (x_room E _) dL_does_96) (fun r96 hf => ?_)
      refine x_callW (rest := []) (w := fun t => t) X E.1 hf (fun r t hr => x_cV (ci := 5) X cm_X5_append lkV_L_14 rfl ⟨Nat.le_of_ble_eq_true rfl, Nat.le_of_ble_eq_true rfl⟩ (yC_0 Y) (yC_l Y 0 (by decide)) (m_X5_append (yC_hb Y σ) (yC_ht Y) (yC_htc Y) (yC_hts Y) (yC_hp Y _) (yC_hp Y _) hr) rfl rfl (Nat.le_of_ble_eq_true rfl) (x_room E _) dL_does_99) (fun r99 s99 hf => ?_)
      exact x_iretW (σ0 := σ) X E hQ hf dL_does_102
    · refine x_if_ne (tgt := 89) X dL_does_80 (by decide) hf (fun hf => ?_) (fun hf => ?_)
      · refine x_iload_n X dL_does_89 rfl 3 rfl ?_
        refine x_sub [1] rfl ?_
        exact J90 ((p1 >>> (6 &&& 31)) &&& 7) hf
      · refine x_iload_n X dL_does_83 rfl 3 rfl ?_
        refine x_iconst (v := 3) X dL_does_84 (by decide) ?_
        refine x_iand X dL_does_85 ?_
        refine x_goto (tgt := 90) X dL_does_86 (by decide) ?_
        refine x_sub [1] rfl ?_
        exact J90 (((p1 >>> (6 &&& 31)) &&& 7) &&& 3) hf
  · refine x_if hf (fun c0 hf => ?_) (fun c0 hf => ?_)
    · refine x_tabIn (off := 54) (tgt := 72) X dL_does_18 (by rw [c0]; decide) (by rw [c0]; decide) (by rw [c0]; rfl) (by decide) ?_
      refine x_sub [2, 3, 1, 0] rfl ?_
      exact J72 hf
    · refine x_if hf (fun c1 hf => ?_) (fun c1 hf => ?_)
      · refine x_tabIn (off := 54) (tgt := 72) X dL_does_18 (by rw [c1]; decide) (by rw [c1]; decide) (by rw [c1]; rfl) (by decide) ?_
        refine x_sub [2, 3, 1, 0] rfl ?_
        exact J72 hf
      · refine x_if hf (fun c2 hf => ?_) (fun c2 hf => ?_)
        · refine x_tabIn (off := 54) (tgt := 72) X dL_does_18 (by rw [c2]; decide) (by rw [c2]; decide) (by rw [c2]; rfl) (by decide) ?_
          refine x_sub [2, 3, 1, 0] rfl ?_
          exact J72 hf
        · refine x_if hf (fun c3 hf => ?_) (fun c3 hf => ?_)
          · refine x_tabIn (off := 54) (tgt := 72) X dL_does_18 (by rw [c3]; decide) (by rw [c3]; decide) (by rw [c3]; rfl) (by decide) ?_
            refine x_sub [2, 3, 1, 0] rfl ?_
            exact J72 hf
          · refine x_if hf (fun c4 hf => ?_) (fun c4 hf => ?_)
            · refine x_tabIn (off := 54) (tgt := 72) X dL_does_18 (by rw [c4]; decide) (by rw [c4]; decide) (by rw [c4]; rfl) (by decide) ?_
              refine x_sub [2, 3, 1, 0] rfl ?_
              exact J72 hf
            · refine x_if hf (fun c5 hf => ?_) (fun c5 hf => ?_)
              · refine x_tabIn (off := 54) (tgt := 72) X dL_does_18 (by rw [c5]; decide) (by rw [c5]; decide) (by rw [c5]; rfl) (by decide) ?_
                refine x_sub [2, 3, 1, 0] rfl ?_
                exact J72 hf
              · refine x_if hf (fun c6 hf => ?_) (fun c6 hf => ?_)
                · refine x_tabIn (off := 85) (tgt := 103) X dL_does_18 (by rw [c6]; decide) (by rw [c6]; decide) (by rw [c6]; rfl) (by decide) ?_
                  refine x_iload_n X dL_does_103 rfl 3 rfl ?_
                  refine x_bipush (v := 9) X dL_does_104 (by decide) ?_
                  refine x_ishr X dL_does_106 ?_
                  refine x_iconst (v := 1) X dL_does_107 (by decide) ?_
                  refine x_iand X dL_does_108 ?_
                  refine x_if_ne (tgt := 122) X dL_does_109 (by decide) hf (fun hf => ?_) (fun hf => ?_)
                  · refine x_aload_n X dL_does_122 rfl 2 rfl ?_
                    refine x_iload_n X dL_does_123 rfl 0 rfl ?_
                    refine x_iconst (v := 3) X dL_does_124 (by decide) ?_
                    refine x_iand X dL_does_125 ?_
                    refine x_callW (rest := []) (w := fun t => t) X E.1 hf (fun r t hr => x_cV (ci := 5) X cm_X5_finish lkV_L_24 rfl ⟨Nat.le_of_ble_eq_true rfl, Nat.le_of_ble_eq_true rfl⟩ (yC_0 Y) (yC_l Y 0 (by decide)) (m_X5_finish (yC_hb Y σ) (yC_ht Y) (yC_htc Y) (yC_hts Y) (yC_hp Y _) (yC_hp Y _) hr) rfl rfl (Nat.le_of_ble_eq_true rfl) (x_room E _) dL_does_126) (fun r126 s126 hf => ?_)
                    exact x_iretW (σ0 := σ) X E hQ hf dL_does_129
                  · refine x_aload_n X dL_does_112 rfl 2 rfl ?_
                    refine x_iload_n X dL_does_113 rfl 0 rfl ?_
                    refine x_iconst (v := 3) X dL_does_114 (by decide) ?_
                    refine x_iand X dL_does_115 ?_
                    refine x_callW (rest := []) (w := fun t => t) X E.1 hf (fun r t hr => x_cV (ci := 5) X cm_X5_reset lkV_L_20 rfl ⟨Nat.le_of_ble_eq_true rfl, Nat.le_of_ble_eq_true rfl⟩ (yC_0 Y) (yC_l Y 0 (by decide)) (m_X5_reset (yC_hb Y σ) (yC_ht Y) (yC_htc Y) (yC_hts Y) (yC_hp Y _) (yC_hp Y _) hr) rfl rfl (Nat.le_of_ble_eq_true rfl) (x_room E _) dL_does_116) (fun r116 s116 hf => ?_)
                    refine x_goto (tgt := 129) X dL_does_119 (by decide) ?_
                    exact x_iretW (σ0 := σ) X E hQ hf dL_does_129
                · refine x_if hf (fun c7 hf => ?_) (fun c7 hf => ?_)
                  · refine x_tabIn (off := 112) (tgt := 130) X dL_does_18 (by rw [c7]; decide) (by rw [c7]; decide) (by rw [c7]; rfl) (by decide) ?_
                    refine x_aload_n X dL_does_130 rfl 2 rfl ?_
                    refine x_iload_n X dL_does_131 rfl 0 rfl ?_
                    refine x_callW (rest := []) (w := fun t => t) X E.1 hf (fun r t hr => x_cV (ci := 5) X cm_X5_close lkV_L_27 rfl ⟨Nat.le_of_ble_eq_true rfl, Nat.le_of_ble_eq_true rfl⟩ (yC_0 Y) (yC_l Y 0 (by decide)) (m_X5_close (yC_hb Y σ) (yC_ht Y) (yC_htc Y) (yC_hts Y) (yC_hp Y _) (yC_hp Y _) hr) rfl rfl (Nat.le_of_ble_eq_true rfl) (x_room E _) dL_does_132) (fun r132 s132 hf => ?_)
                    exact x_iretW (σ0 := σ) X E hQ hf dL_does_135
                  · refine x_if hf (fun c8 hf => ?_) (fun c8 hf => ?_)
                    · refine x_tabIn (off := 118) (tgt := 136) X dL_does_18 (by rw [c8]; decide) (by rw [c8]; decide) (by rw [c8]; rfl) (by decide) ?_
                      refine x_aload_n X dL_does_136 rfl 2 rfl ?_
                      refine x_iload_n X dL_does_137 rfl 1 rfl ?_
                      refine x_iload_n X dL_does_138 rfl 3 rfl ?_
                      refine x_bipush (v := 9) X dL_does_139 (by decide) ?_
                      refine x_ishr X dL_does_141 ?_
                      refine x_bipush (v := 9) X dL_does_142 (by decide) ?_
                      refine x_callR (rest := [.int ((p1 >>> (4 &&& 31)) &&& 3), .ref (κ.S0 + (b + 0))]) X hf (fun r hr => x_cS X cm_L_low lkS_L_8 ⟨Nat.le_of_ble_eq_true rfl, Nat.le_of_ble_eq_true rfl⟩ (m_L_low hr) rfl rfl (Nat.le_of_ble_eq_true rfl) (x_room E _) dL_does_144) (fun r144 hf => ?_)
                      refine x_callW (rest := []) (w := fun t => t) X E.1 hf (fun r t hr => x_cV (ci := 5) X cm_X5_set lkV_L_30 rfl ⟨Nat.le_of_ble_eq_true rfl, Nat.le_of_ble_eq_true rfl⟩ (yC_0 Y) (yC_l Y 0 (by decide)) (m_X5_set (yC_hb Y σ) (yC_ht Y) (yC_htc Y) (yC_hts Y) (yC_hp Y _) (yC_hp Y _) hr) rfl rfl (Nat.le_of_ble_eq_true rfl) (x_room E _) dL_does_147) (fun r147 s147 hf => ?_)
                      exact x_iretW (σ0 := σ) X E hQ hf dL_does_150
                    · refine x_if hf (fun c9 hf => ?_) (fun c9 hf => ?_)
                      · refine x_tabIn (off := 133) (tgt := 151) X dL_does_18 (by rw [c9]; decide) (by rw [c9]; decide) (by rw [c9]; rfl) (by decide) ?_
                        refine x_iload_n X dL_does_151 rfl 3 rfl ?_
                        refine x_iconst (v := 4) X dL_does_152 (by decide) ?_
                        refine x_ishr X dL_does_153 ?_
                        refine x_iconst (v := 1) X dL_does_154 (by decide) ?_
                        refine x_iand X dL_does_155 ?_
                        refine x_if_ne (tgt := 192) X dL_does_156 (by decide) hf (fun hf => ?_) (fun hf => ?_)
                        · refine x_aload_n X dL_does_192 rfl 2 rfl ?_
                          refine x_iload_n X dL_does_193 rfl 1 rfl ?_
                          refine x_iconst (v := 1) X dL_does_194 (by decide) ?_
                          refine x_iload_n X dL_does_195 rfl 3 rfl ?_
                          refine x_bipush (v := 9) X dL_does_196 (by decide) ?_
                          refine x_ishr X dL_does_198 ?_
                          refine x_bipush (v := 7) X dL_does_199 (by decide) ?_
                          refine x_iand X dL_does_201 ?_
                          refine x_iadd X dL_does_202 ?_
                          refine x_callW (rest := []) (w := fun t => t) X E.1 hf (fun r t hr => x_cV (ci := 5) X cm_X5_setWindow lkV_L_37 rfl ⟨Nat.le_of_ble_eq_true rfl, Nat.le_of_ble_eq_true rfl⟩ (yC_0 Y) (yC_l Y 0 (by decide)) (m_X5_setWindow (yC_hb Y σ) (yC_ht Y) (yC_htc Y) (yC_hts Y) (yC_hp Y _) (yC_hp Y _) hr) rfl rfl (Nat.le_of_ble_eq_true rfl) (x_room E _) dL_does_203) (fun r203 s203 hf => ?_)
                          exact x_iretW (σ0 := σ) X E hQ hf dL_does_206
                        · refine x_aload_n X dL_does_159 rfl 2 rfl ?_
                          refine x_iload_n X dL_does_160 rfl 0 rfl ?_
                          refine x_iload_n X dL_does_161 rfl 3 rfl ?_
                          refine x_iconst (v := 5) X dL_does_162 (by decide) ?_
                          refine x_ishr X dL_does_163 ?_
                          refine x_iconst (v := 1) X dL_does_164 (by decide) ?_
                          refine x_iand X dL_does_165 ?_
                          refine x_iconst (v := 1) X dL_does_166 (by decide) ?_
                          refine x_join (fun k175 => ∀ (t0_175 : Int32), k175 t0_175 = some (r, τ) → XG κ σ 175 [(1, .int p1)] [.int t0_175, .int ((p1 >>> (6 &&& 31)) &&& 7), .ref (κ.S0 + (b + 0))]) hf (fun t0_175 hf => ?_) (fun k175 J175 hf => ?_)
                          · refine x_iconst (v := 1) X dL_does_175 (by decide) ?_
                            refine x_iload_n X dL_does_176 rfl 0 rfl ?_
                            refine x_bipush (v := 9) X dL_does_177 (by decide) ?_
                            refine x_ishr X dL_does_179 ?_
                            refine x_bipush (v := 9) X dL_does_180 (by decide) ?_
                            refine x_callR (rest := [.int 1, .int t0_175, .int ((p1 >>> (6 &&& 31)) &&& 7), .ref (κ.S0 + (b + 0))]) X hf (fun r hr => x_cS X cm_L_low lkS_L_8 ⟨Nat.le_of_ble_eq_true rfl, Nat.le_of_ble_eq_true rfl⟩ (m_L_low hr) rfl rfl (Nat.le_of_ble_eq_true rfl) (x_room E _) dL_does_182) (fun r182 hf => ?_)
                            refine x_iadd X dL_does_185 ?_
                            refine x_callW (rest := []) (w := fun t => t) X E.1 hf (fun r t hr => x_cV (ci := 5) X cm_X5_setZone lkV_L_33 rfl ⟨Nat.le_of_ble_eq_true rfl, Nat.le_of_ble_eq_true rfl⟩ (yC_0 Y) (yC_l Y 0 (by decide)) (m_X5_setZone (yC_hb Y σ) (yC_ht Y) (yC_htc Y) (yC_hts Y) (yC_hp Y _) (yC_hp Y _) hr) rfl rfl (Nat.le_of_ble_eq_true rfl) (x_room E _) dL_does_186) (fun r186 s186 hf => ?_)
                            refine x_goto (tgt := 206) X dL_does_189 (by decide) ?_
                            exact x_iretW (σ0 := σ) X E hQ hf dL_does_206
                          · refine x_icmp_ne (tgt := 174) X dL_does_167 (by decide) hf (fun hf => ?_) (fun hf => ?_)
                            · refine x_iconst (v := 0) X dL_does_174 (by decide) ?_
                              refine x_sub [3] rfl ?_
                              exact J175 0 hf
                            · refine x_iconst (v := 1) X dL_does_170 (by decide) ?_
                              refine x_goto (tgt := 175) X dL_does_171 (by decide) ?_
                              refine x_sub [3] rfl ?_
                              exact J175 1 hf
                      · refine x_tabOut (tgt := 207) X dL_does_18 (by have h0 := lv_neT c0 (a := 0) rfl; have h1 := lv_neT c1 (a := 1) rfl; have h2 := lv_neT c2 (a := 2) rfl; have h3 := lv_neT c3 (a := 3) rfl; have h4 := lv_neT c4 (a := 4) rfl; have h5 := lv_neT c5 (a := 5) rfl; have h6 := lv_neT c6 (a := 6) rfl; have h7 := lv_neT c7 (a := 7) rfl; have h8 := lv_neT c8 (a := 8) rfl; have h9 := lv_neT c9 (a := 9) rfl; omega) (by decide) ?_
                        refine x_aload_n X dL_does_207 rfl 2 rfl ?_
                        refine x_iconst (v := 1) X dL_does_208 (by decide) ?_
                        refine x_iload_n X dL_does_209 rfl 3 rfl ?_
                        refine x_iconst (v := 4) X dL_does_210 (by decide) ?_
                        refine x_ishr X dL_does_211 ?_
                        refine x_iconst (v := 4) X dL_does_212 (by decide) ?_
                        refine x_callR (rest := [.int 1, .ref (κ.S0 + (b + 0))]) X hf (fun r hr => x_cS X cm_L_low lkS_L_8 ⟨Nat.le_of_ble_eq_true rfl, Nat.le_of_ble_eq_true rfl⟩ (m_L_low hr) rfl rfl (Nat.le_of_ble_eq_true rfl) (x_room E _) dL_does_213) (fun r213 hf => ?_)
                        refine x_iadd X dL_does_216 ?_
                        refine x_callW (rest := []) (w := fun t => t) X E.1 hf (fun r t hr => x_cV (ci := 5) X cm_X5_pass lkV_L_40 rfl ⟨Nat.le_of_ble_eq_true rfl, Nat.le_of_ble_eq_true rfl⟩ (yC_0 Y) (yC_l Y 0 (by decide)) (m_X5_pass (yC_hb Y σ) (yC_ht Y) (yC_htc Y) (yC_hts Y) (yC_hp Y _) (yC_hp Y _) hr) rfl rfl (Nat.le_of_ble_eq_true rfl) (x_room E _) dL_does_217) (fun r217 s217 hf => ?_)
                        exact x_iretW (σ0 := σ) X E hQ hf dL_does_220
def f_L_areZonesSo_L46 (σ : CS) (v5_12 : Int32) (r32 : Int32) (kX46 : Int32 → Int32 → Option (Int32)) : Nat → Int32 → Int32 → Int32 → Option (Int32)
  | 0, _, _, _ => none
  | n + 1, v8_46, v9_46, v10_46 =>
    if r32 ≤ v10_46 then (kX46 v8_46 v9_46) else (oR (f_X5_read σ v5_12 v10_46) (fun r58 => oJ (κ := Int32 → Option (Int32)) (fun t0_75 => oJ (κ := Int32 → Option (Int32)) (fun t0_95 => oJ (κ := Option (Int32)) (f_L_areZonesSo_L46 σ v5_12 r32 kX46 n (v8_46 + t0_75) t0_95 (v10_46 + 1)) (fun k111 => if 0 ≤ r58 then k111 else (if r58 = (-4) then k111 else (oB 0)))) (fun k95 => oJ (κ := Option (Int32)) (k95 v9_46) (fun k93 => if 0 ≤ r58 then k93 else (if 0 ≤ v9_46 then k93 else (k95 v10_46))))) (fun k75 => if r58 < 0 then (k75 0) else (k75 1))))
def f_L_areZonesSo_L12 (σ : CS) (kX12 : Int32 → Int32 → Int32 → Int32 → Option (Int32)) : Nat → Int32 → Int32 → Int32 → Int32 → Int32 → Option (Int32)
  | 0, _, _, _, _, _ => none
  | n + 1, v1_12, v2_12, v3_12, v4_12, v5_12 =>
    if 8 ≤ v5_12 then (kX12 v1_12 v2_12 v3_12 v4_12) else (oR (f_X5_zone σ v5_12 0) (fun r23 => oR (f_X5_zone σ v5_12 3) (fun r32 => f_L_areZonesSo_L46 σ v5_12 r32 (fun w8_117 w9_117 => oJ (κ := Int32 → Option (Int32)) (fun t0_129 => oJ (κ := Int32 → Option (Int32)) (fun t0_149 => oR (f_X5_zone σ v5_12 6) (fun r157 => oR (f_X5_zone σ v5_12 7) (fun r169 => oR (f_X5_zone σ v5_12 1) (fun r181 => oJ (κ := Int32 → Option (Int32)) (fun t0_233 => if t0_233 = 0 then (oB 0) else (oR (f_X5_zone σ v5_12 8) (fun r245 => oJ (κ := Int32 → Option (Int32)) (fun t0_260 => if r245 = t0_260 then (oJ (κ := Int32 → Option (Int32)) (fun t0_273 => oJ (κ := Int32 → Option (Int32)) (fun t0_283 => if t0_273 = t0_283 then (oJ (κ := Option (Int32)) (f_L_areZonesSo_L12 σ kX12 n (v1_12 + t0_129) (v2_12 + t0_149) (v3_12 + r157) (v4_12 + r169) (v5_12 + 1)) (fun k305 => if r23 = 2 then (oR (f_X5_zone σ v5_12 6) (fun r297 => if r297 ≤ 0 then k305 else (oB 0))) else k305)) else (oB 0)) (fun k283 => if r32 = 0 then (k283 1) else (k283 0))) (fun k273 => if r23 = 0 then (k273 1) else (k273 0))) else (oB 0)) (fun k260 => if 0 ≤ w9_117 then (k260 w9_117) else (k260 r32))))) (fun k233 => oJ (κ := Option (Int32)) (k233 0) (fun k232 => if r181 < r32 then k232 else (oR (f_X5_zone σ v5_12 6) (fun r194 => if (w8_117 + r194) = r32 then (oR (f_X5_zone σ v5_12 5) (fun r209 => if w8_117 = r209 then (oR (f_X5_read σ v5_12 r32) (fun r220 => if r220 = (-5) then (k233 1) else k232)) else k232)) else k232)))))))) (fun k149 => oJ (κ := Option (Int32)) (k149 1) (fun k144 => if r23 = 1 then k144 else (if r23 = 2 then k144 else (k149 0))))) (fun k129 => if r23 = 1 then (k129 1) else (k129 0))) FU 0 (-1) 0)))
def f_L_areZonesSo (σ : CS)  : Option (Int32) :=
  f_L_areZonesSo_L12 σ (fun w1_311 w2_311 w3_311 w4_311 => oR (f_X5_count σ 5) (fun r314 => if w1_311 = r314 then (oR (f_X5_count σ 6) (fun r324 => if w2_311 = r324 then (oR (f_X5_count σ 1) (fun r333 => if r333 < w1_311 then (oB 0) else (oR (f_X5_count σ 2) (fun r342 => if r342 < w2_311 then (oB 0) else (oR (f_X5_count σ 9) (fun r352 => if w3_311 = r352 then (oR (f_X5_count σ 8) (fun r363 => if w4_311 = r363 then (oB 1) else (oB 0))) else (oB 0))))))) else (oB 0))) else (oB 0))) FU 0 0 0 0 0
set_option maxRecDepth 100000 in
set_option maxHeartbeats 4000000 in
theorem m_L_areZonesSo {l : Launch} {G : va_G} {tys : List (ClassId × FieldType)} {S0 : Nat} {h h1 h2 : Nat → va_E} {b cN' : Nat} {cI cC cS' : ClassId} {σ : CS}  {r : Int32} (hb : b + 159 ≤ cN') (ht : tys[0]? = some (cI, .int)) (htc : tys[1]? = some (cC, .char)) (hts : tys[3]? = some (cS', .object "AppendZones$State")) (e1 : h1 = ov h b (cl S0 cI cC cS' b σ)) (e2 : h2 = ov h b (cl S0 cI cC cS' b σ)) (hf : f_L_areZonesSo σ = some r) : XMet l G tys S0 cN' yL_areZonesSo cL_areZonesSo 12 (some .boolean) 5 113 [.ref (S0 + (b + 0))] h1 cN' (some (.int r)) h2 0 0 := by
  subst e1; subst e2
  refine XMet.ofE (ST := CS) (HP := fun σ => ov h b (cl S0 cI cC cS' b σ)) σ σ (by decide) (Nat.le_of_ble_eq_true rfl) ?_
  intro κ g1 g2 g3 g4 g5 g6 E X hQ
  subst g1; subst g2; subst g3; subst g4
  have Y : YC κ h b cI cC cS' := ⟨fun σ => by rw [g5], fun σ => by rw [g6]; exact hb, ht, htc, hts⟩
  have X : XC κ cL_areZonesSo 12 RL (some .boolean) 5 113 := X
  show XG κ σ 0 [(0, .ref (κ.S0 + (b + 0)))] []
  unfold f_L_areZonesSo at hf
  refine x_iconst (v := 0) X dL_areZonesSo_0 (by decide) ?_
  refine x_istore_n (lv' := [(1, .int 0), (0, .ref (κ.S0 + (b + 0)))]) X dL_areZonesSo_1 rfl (by decide) rfl ?_
  refine x_iconst (v := 0) X dL_areZonesSo_2 (by decide) ?_
  refine x_istore_n (lv' := [(2, .int 0), (1, .int 0), (0, .ref (κ.S0 + (b + 0)))]) X dL_areZonesSo_3 rfl (by decide) rfl ?_
  refine x_iconst (v := 0) X dL_areZonesSo_4 (by decide) ?_
  refine x_istore_n (lv' := [(3, .int 0), (2, .int 0), (1, .int 0), (0, .ref (κ.S0 + (b + 0)))]) X dL_areZonesSo_5 rfl (by decide) rfl ?_
  refine x_iconst (v := 0) X dL_areZonesSo_6 (by decide) ?_
  refine x_istore (lv' := [(4, .int 0), (3, .int 0), (2, .int 0), (1, .int 0), (0, .ref (κ.S0 + (b + 0)))]) X dL_areZonesSo_7 (by decide) rfl ?_
  refine x_iconst (v := 0) X dL_areZonesSo_9 (by decide) ?_
  refine x_istore (lv' := [(5, .int 0), (4, .int 0), (3, .int 0), (2, .int 0), (1, .int 0), (0, .ref (κ.S0 + (b + 0)))]) X dL_areZonesSo_10 (by decide) rfl ?_
  refine x_kont (b := fun kX12 => f_L_areZonesSo_L12 σ kX12 FU 0 0 0 0 0) (fun kX12 => ∀ (w1_311 : Int32) (w2_311 : Int32) (w3_311 : Int32) (w4_311 : Int32), kX12 w1_311 w2_311 w3_311 w4_311 = some r → XG κ σ 311 [(0, .ref (κ.S0 + (b + 0))), (1, .int w1_311), (2, .int w2_311), (3, .int w3_311), (4, .int w4_311)] []) hf (fun w1_311 w2_311 w3_311 w4_311 hf => ?_) (fun kX12 JX12 hf => ?_)
  · refine x_iload_n X dL_areZonesSo_311 rfl 1 rfl ?_
    refine x_aload_n X dL_areZonesSo_312 rfl 0 rfl ?_
    refine x_iconst (v := 5) X dL_areZonesSo_313 (by decide) ?_
    refine x_callR (rest := [.int w1_311]) X hf (fun r hr => x_cV (ci := 5) X cm_X5_count lkV_L_49 rfl ⟨Nat.le_of_ble_eq_true rfl, Nat.le_of_ble_eq_true rfl⟩ (yC_0 Y) (yC_l Y 0 (by decide)) (m_X5_count (yC_hb Y σ) (yC_ht Y) (yC_htc Y) (yC_hts Y) (yC_hp Y _) (yC_hp Y _) hr) rfl rfl (Nat.le_of_ble_eq_true rfl) (x_room E _) dL_areZonesSo_314) (fun r314 hf => ?_)
    refine x_icmp_ne (tgt := 373) X dL_areZonesSo_317 (by decide) hf (fun hf => ?_) (fun hf => ?_)
    · refine x_iconst (v := 0) X dL_areZonesSo_373 (by decide) ?_
      exact x_zretR (σ0 := σ) X E hQ hf dL_areZonesSo_374
    · refine x_iload_n X dL_areZonesSo_320 rfl 2 rfl ?_
      refine x_aload_n X dL_areZonesSo_321 rfl 0 rfl ?_
      refine x_bipush (v := 6) X dL_areZonesSo_322 (by decide) ?_
      refine x_callR (rest := [.int w2_311]) X hf (fun r hr => x_cV (ci := 5) X cm_X5_count lkV_L_49 rfl ⟨Nat.le_of_ble_eq_true rfl, Nat.le_of_ble_eq_true rfl⟩ (yC_0 Y) (yC_l Y 0 (by decide)) (m_X5_count (yC_hb Y σ) (yC_ht Y) (yC_htc Y) (yC_hts Y) (yC_hp Y _) (yC_hp Y _) hr) rfl rfl (Nat.le_of_ble_eq_true rfl) (x_room E _) dL_areZonesSo_324) (fun r324 hf => ?_)
      refine x_icmp_ne (tgt := 373) X dL_areZonesSo_327 (by decide) hf (fun hf => ?_) (fun hf => ?_)
      · refine x_iconst (v := 0) X dL_areZonesSo_373 (by decide) ?_
        exact x_zretR (σ0 := σ) X E hQ hf dL_areZonesSo_374
      · refine x_iload_n X dL_areZonesSo_330 rfl 1 rfl ?_
        refine x_aload_n X dL_areZonesSo_331 rfl 0 rfl ?_
        refine x_iconst (v := 1) X dL_areZonesSo_332 (by decide) ?_
        refine x_callR (rest := [.int w1_311]) X hf (fun r hr => x_cV (ci := 5) X cm_X5_count lkV_L_49 rfl ⟨Nat.le_of_ble_eq_true rfl, Nat.le_of_ble_eq_true rfl⟩ (yC_0 Y) (yC_l Y 0 (by decide)) (m_X5_count (yC_hb Y σ) (yC_ht Y) (yC_htc Y) (yC_hts Y) (yC_hp Y _) (yC_hp Y _) hr) rfl rfl (Nat.le_of_ble_eq_true rfl) (x_room E _) dL_areZonesSo_333) (fun r333 hf => ?_)
        refine x_icmp_gt (tgt := 373) X dL_areZonesSo_336 (by decide) hf (fun hf => ?_) (fun hf => ?_)
        · refine x_iconst (v := 0) X dL_areZonesSo_373 (by decide) ?_
          exact x_zretR (σ0 := σ) X E hQ hf dL_areZonesSo_374
        · refine x_iload_n X dL_areZonesSo_339 rfl 2 rfl ?_
          refine x_aload_n X dL_areZonesSo_340 rfl 0 rfl ?_
          refine x_iconst (v := 2) X dL_areZonesSo_341 (by decide) ?_
          refine x_callR (rest := [.int w2_311]) X hf (fun r hr => x_cV (ci := 5) X cm_X5_count lkV_L_49 rfl ⟨Nat.le_of_ble_eq_true rfl, Nat.le_of_ble_eq_true rfl⟩ (yC_0 Y) (yC_l Y 0 (by decide)) (m_X5_count (yC_hb Y σ) (yC_ht Y) (yC_htc Y) (yC_hts Y) (yC_hp Y _) (yC_hp Y _) hr) rfl rfl (Nat.le_of_ble_eq_true rfl) (x_room E _) dL_areZonesSo_342) (fun r342 hf => ?_)
          refine x_icmp_gt (tgt := 373) X dL_areZonesSo_345 (by decide) hf (fun hf => ?_) (fun hf => ?_)
          · refine x_iconst (v := 0) X dL_areZonesSo_373 (by decide) ?_
            exact x_zretR (σ0 := σ) X E hQ hf dL_areZonesSo_374
          · refine x_iload_n X dL_areZonesSo_348 rfl 3 rfl ?_
            refine x_aload_n X dL_areZonesSo_349 rfl 0 rfl ?_
            refine x_bipush (v := 9) X dL_areZonesSo_350 (by decide) ?_
            refine x_callR (rest := [.int w3_311]) X hf (fun r hr => x_cV (ci := 5) X cm_X5_count lkV_L_49 rfl ⟨Nat.le_of_ble_eq_true rfl, Nat.le_of_ble_eq_true rfl⟩ (yC_0 Y) (yC_l Y 0 (by decide)) (m_X5_count (yC_hb Y σ) (yC_ht Y) (yC_htc Y) (yC_hts Y) (yC_hp Y _) (yC_hp Y _) hr) rfl rfl (Nat.le_of_ble_eq_true rfl) (x_room E _) dL_areZonesSo_352) (fun r352 hf => ?_)
            refine x_icmp_ne (tgt := 373) X dL_areZonesSo_355 (by decide) hf (fun hf => ?_) (fun hf => ?_)
            · refine x_iconst (v := 0) X dL_areZonesSo_373 (by decide) ?_
              exact x_zretR (σ0 := σ) X E hQ hf dL_areZonesSo_374
            · refine x_iload X dL_areZonesSo_358 4 rfl ?_
              refine x_aload_n X dL_areZonesSo_360 rfl 0 rfl ?_
              refine x_bipush (v := 8) X dL_areZonesSo_361 (by decide) ?_
              refine x_callR (rest := [.int w4_311]) X hf (fun r hr => x_cV (ci := 5) X cm_X5_count lkV_L_49 rfl ⟨Nat.le_of_ble_eq_true rfl, Nat.le_of_ble_eq_true rfl⟩ (yC_0 Y) (yC_l Y 0 (by decide)) (m_X5_count (yC_hb Y σ) (yC_ht Y) (yC_htc Y) (yC_hts Y) (yC_hp Y _) (yC_hp Y _) hr) rfl rfl (Nat.le_of_ble_eq_true rfl) (x_room E _) dL_areZonesSo_363) (fun r363 hf => ?_)
              refine x_icmp_ne (tgt := 373) X dL_areZonesSo_366 (by decide) hf (fun hf => ?_) (fun hf => ?_)
              · refine x_iconst (v := 0) X dL_areZonesSo_373 (by decide) ?_
                exact x_zretR (σ0 := σ) X E hQ hf dL_areZonesSo_374
              · refine x_iconst (v := 1) X dL_areZonesSo_369 (by decide) ?_
                refine x_goto (tgt := 374) X dL_areZonesSo_370 (by decide) ?_
                exact x_zretR (σ0 := σ) X E hQ hf dL_areZonesSo_374
  · have LL : ∀ (n : Nat) (v1_12 : Int32) (v2_12 : Int32) (v3_12 : Int32) (v4_12 : Int32) (v5_12 : Int32), f_L_areZonesSo_L12 σ kX12 n v1_12 v2_12 v3_12 v4_12 v5_12 = some r → XG κ σ 12 [(0, .ref (κ.S0 + (b + 0))), (1, .int v1_12), (2, .int v2_12), (3, .int v3_12), (4, .int v4_12), (5, .int v5_12)] [] := by
      intro n
      induction n with
      | zero => intro v1_12 v2_12 v3_12 v4_12 v5_12 hf; rw [f_L_areZonesSo_L12] at hf; cases hf
      | succ n ih12 =>
        intro v1_12 v2_12 v3_12 v4_12 v5_12 hf
        rw [f_L_areZonesSo_L12] at hf
        refine x_iload X dL_areZonesSo_12 5 rfl ?_
        refine x_bipush (v := 8) X dL_areZonesSo_14 (by decide) ?_
        refine x_icmp_ge (tgt := 311) X dL_areZonesSo_16 (by decide) hf (fun hf => ?_) (fun hf => ?_)
        · refine x_sub [0, 1, 2, 3, 4] rfl ?_
          exact JX12 v1_12 v2_12 v3_12 v4_12 hf
        · refine x_aload_n X dL_areZonesSo_19 rfl 0 rfl ?_
          refine x_iload X dL_areZonesSo_20 5 rfl ?_
          refine x_iconst (v := 0) X dL_areZonesSo_22 (by decide) ?_
          refine x_callR (rest := []) X hf (fun r hr => x_cV (ci := 5) X cm_X5_zone lkV_L_43 rfl ⟨Nat.le_of_ble_eq_true rfl, Nat.le_of_ble_eq_true rfl⟩ (yC_0 Y) (yC_l Y 0 (by decide)) (m_X5_zone (yC_hb Y σ) (yC_ht Y) (yC_htc Y) (yC_hts Y) (yC_hp Y _) (yC_hp Y _) hr) rfl rfl (Nat.le_of_ble_eq_true rfl) (x_room E _) dL_areZonesSo_23) (fun r23 hf => ?_)
          refine x_istore (lv' := [(6, .int r23), (0, .ref (κ.S0 + (b + 0))), (1, .int v1_12), (2, .int v2_12), (3, .int v3_12), (4, .int v4_12), (5, .int v5_12)]) X dL_areZonesSo_26 (by decide) rfl ?_
          refine x_aload_n X dL_areZonesSo_28 rfl 1 rfl ?_
          refine x_iload X dL_areZonesSo_29 6 rfl ?_
          refine x_iconst (v := 3) X dL_areZonesSo_31 (by decide) ?_
          refine x_callR (rest := []) X hf (fun r hr => x_cV (ci := 5) X cm_X5_zone lkV_L_43 rfl ⟨Nat.le_of_ble_eq_true rfl, Nat.le_of_ble_eq_true rfl⟩ (yC_0 Y) (yC_l Y 0 (by decide)) (m_X5_zone (yC_hb Y σ) (yC_ht Y) (yC_htc Y) (yC_hts Y) (yC_hp Y _) (yC_hp Y _) hr) rfl rfl (Nat.le_of_ble_eq_true rfl) (x_room E _) dL_areZonesSo_32) (fun r32 hf => ?_)
          refine x_istore (lv' := [(7, .int r32), (6, .int r23), (0, .ref (κ.S0 + (b + 0))), (1, .int v1_12), (2, .int v2_12), (3, .int v3_12), (4, .int v4_12), (5, .int v5_12)]) X dL_areZonesSo_35 (by decide) rfl ?_
          refine x_iconst (v := 0) X dL_areZonesSo_37 (by decide) ?_
          refine x_istore (lv' := [(8, .int 0), (7, .int r32), (6, .int r23), (0, .ref (κ.S0 + (b + 0))), (1, .int v1_12), (2, .int v2_12), (3, .int v3_12), (4, .int v4_12), (5, .int v5_12)]) X dL_areZonesSo_38 (by decide) rfl ?_
          refine x_iconst (v := (-1)) X dL_areZonesSo_40 (by decide) ?_
          refine x_istore (lv' := [(9, .int (-1)), (8, .int 0), (7, .int r32), (6, .int r23), (0, .ref (κ.S0 + (b + 0))), (1, .int v1_12), (2, .int v2_12), (3, .int v3_12), (4, .int v4_12), (5, .int v5_12)]) X dL_areZonesSo_41 (by decide) rfl ?_
          refine x_iconst (v := 0) X dL_areZonesSo_43 (by decide) ?_
          refine x_istore (lv' := [(10, .int 0), (9, .int (-1)), (8, .int 0), (7, .int r32), (6, .int r23), (0, .ref (κ.S0 + (b + 0))), (1, .int v1_12), (2, .int v2_12), (3, .int v3_12), (4, .int v4_12), (5, .int v5_12)]) X dL_areZonesSo_44 (by decide) rfl ?_
          refine x_kont (b := fun kX46 => f_L_areZonesSo_L46 σ v5_12 r32 kX46 FU 0 (-1) 0) (fun kX46 => ∀ (w8_117 : Int32) (w9_117 : Int32), kX46 w8_117 w9_117 = some r → XG κ σ 117 [(0, .ref (κ.S0 + (b + 0))), (1, .int v1_12), (2, .int v2_12), (3, .int v3_12), (4, .int v4_12), (5, .int v5_12), (6, .int r23), (7, .int r32), (8, .int w8_117), (9, .int w9_117)] []) hf (fun w8_117 w9_117 hf => ?_) (fun kX46 JX46 hf => ?_)
          · refine x_iload_n X dL_areZonesSo_117 rfl 1 rfl ?_
            refine x_iload X dL_areZonesSo_118 6 rfl ?_
            refine x_iconst (v := 1) X dL_areZonesSo_120 (by decide) ?_
            refine x_join (fun k129 => ∀ (t0_129 : Int32), k129 t0_129 = some r → XG κ σ 129 [(0, .ref (κ.S0 + (b + 0))), (2, .int v2_12), (3, .int v3_12), (4, .int v4_12), (5, .int v5_12), (6, .int r23), (7, .int r32), (8, .int w8_117), (9, .int w9_117)] [.int t0_129, .int v1_12]) hf (fun t0_129 hf => ?_) (fun k129 J129 hf => ?_)
            · refine x_iadd X dL_areZonesSo_129 ?_
              refine x_istore_n (lv' := [(1, .int (v1_12 + t0_129)), (0, .ref (κ.S0 + (b + 0))), (2, .int v2_12), (3, .int v3_12), (4, .int v4_12), (5, .int v5_12), (6, .int r23), (7, .int r32), (8, .int w8_117), (9, .int w9_117)]) X dL_areZonesSo_130 rfl (by decide) rfl ?_
              refine x_iload_n X dL_areZonesSo_131 rfl 2 rfl ?_
              refine x_iload X dL_areZonesSo_132 6 rfl ?_
              refine x_iconst (v := 1) X dL_areZonesSo_134 (by decide) ?_
              refine x_join (fun k149 => ∀ (t0_149 : Int32), k149 t0_149 = some r → XG κ σ 149 [(0, .ref (κ.S0 + (b + 0))), (1, .int (v1_12 + t0_129)), (3, .int v3_12), (4, .int v4_12), (5, .int v5_12), (6, .int r23), (7, .int r32), (8, .int w8_117), (9, .int w9_117)] [.int t0_149, .int v2_12]) hf (fun t0_149 hf => ?_) (fun k149 J149 hf => ?_)
              · refine x_iadd X dL_areZonesSo_149 ?_
                refine x_istore_n (lv' := [(2, .int (v2_12 + t0_149)), (0, .ref (κ.S0 + (b + 0))), (1, .int (v1_12 + t0_129)), (3, .int v3_12), (4, .int v4_12), (5, .int v5_12), (6, .int r23), (7, .int r32), (8, .int w8_117), (9, .int w9_117)]) X dL_areZonesSo_150 rfl (by decide) rfl ?_
                refine x_iload_n X dL_areZonesSo_151 rfl 3 rfl ?_
                refine x_aload_n X dL_areZonesSo_152 rfl 1 rfl ?_
                refine x_iload X dL_areZonesSo_153 5 rfl ?_
                refine x_bipush (v := 6) X dL_areZonesSo_155 (by decide) ?_
                refine x_callR (rest := [.int v3_12]) X hf (fun r hr => x_cV (ci := 5) X cm_X5_zone lkV_L_43 rfl ⟨Nat.le_of_ble_eq_true rfl, Nat.le_of_ble_eq_true rfl⟩ (yC_0 Y) (yC_l Y 0 (by decide)) (m_X5_zone (yC_hb Y σ) (yC_ht Y) (yC_htc Y) (yC_hts Y) (yC_hp Y _) (yC_hp Y _) hr) rfl rfl (Nat.le_of_ble_eq_true rfl) (x_room E _) dL_areZonesSo_157) (fun r157 hf => ?_)
                refine x_iadd X dL_areZonesSo_160 ?_
                refine x_istore_n (lv' := [(3, .int (v3_12 + r157)), (2, .int (v2_12 + t0_149)), (0, .ref (κ.S0 + (b + 0))), (1, .int (v1_12 + t0_129)), (4, .int v4_12), (5, .int v5_12), (6, .int r23), (7, .int r32), (8, .int w8_117), (9, .int w9_117)]) X dL_areZonesSo_161 rfl (by decide) rfl ?_
                refine x_iload X dL_areZonesSo_162 4 rfl ?_
                refine x_aload_n X dL_areZonesSo_164 rfl 2 rfl ?_
                refine x_iload X dL_areZonesSo_165 5 rfl ?_
                refine x_bipush (v := 7) X dL_areZonesSo_167 (by decide) ?_
                refine x_callR (rest := [.int v4_12]) X hf (fun r hr => x_cV (ci := 5) X cm_X5_zone lkV_L_43 rfl ⟨Nat.le_of_ble_eq_true rfl, Nat.le_of_ble_eq_true rfl⟩ (yC_0 Y) (yC_l Y 0 (by decide)) (m_X5_zone (yC_hb Y σ) (yC_ht Y) (yC_htc Y) (yC_hts Y) (yC_hp Y _) (yC_hp Y _) hr) rfl rfl (Nat.le_of_ble_eq_true rfl) (x_room E _) dL_areZonesSo_169) (fun r169 hf => ?_)
                refine x_iadd X dL_areZonesSo_172 ?_
                refine x_istore (lv' := [(4, .int (v4_12 + r169)), (3, .int (v3_12 + r157)), (2, .int (v2_12 + t0_149)), (0, .ref (κ.S0 + (b + 0))), (1, .int (v1_12 + t0_129)), (5, .int v5_12), (6, .int r23), (7, .int r32), (8, .int w8_117), (9, .int w9_117)]) X dL_areZonesSo_173 (by decide) rfl ?_
                refine x_iload X dL_areZonesSo_175 7 rfl ?_
                refine x_aload_n X dL_areZonesSo_177 rfl 3 rfl ?_
                refine x_iload X dL_areZonesSo_178 5 rfl ?_
                refine x_iconst (v := 1) X dL_areZonesSo_180 (by decide) ?_
                refine x_callR (rest := [.int r32]) X hf (fun r hr => x_cV (ci := 5) X cm_X5_zone lkV_L_43 rfl ⟨Nat.le_of_ble_eq_true rfl, Nat.le_of_ble_eq_true rfl⟩ (yC_0 Y) (yC_l Y 0 (by decide)) (m_X5_zone (yC_hb Y σ) (yC_ht Y) (yC_htc Y) (yC_hts Y) (yC_hp Y _) (yC_hp Y _) hr) rfl rfl (Nat.le_of_ble_eq_true rfl) (x_room E _) dL_areZonesSo_181) (fun r181 hf => ?_)
                refine x_join (fun k233 => ∀ (t0_233 : Int32), k233 t0_233 = some r → XG κ σ 233 [(0, .ref (κ.S0 + (b + 0))), (1, .int (v1_12 + t0_129)), (2, .int (v2_12 + t0_149)), (3, .int (v3_12 + r157)), (4, .int (v4_12 + r169)), (5, .int v5_12), (6, .int r23), (7, .int r32), (9, .int w9_117)] [.int t0_233]) hf (fun t0_233 hf => ?_) (fun k233 J233 hf => ?_)
                · refine x_istore (lv' := [(10, .int t0_233), (0, .ref (κ.S0 + (b + 0))), (1, .int (v1_12 + t0_129)), (2, .int (v2_12 + t0_149)), (3, .int (v3_12 + r157)), (4, .int (v4_12 + r169)), (5, .int v5_12), (6, .int r23), (7, .int r32), (9, .int w9_117)]) X dL_areZonesSo_233 (by decide) rfl ?_
                  refine x_iload X dL_areZonesSo_235 0 rfl ?_
                  refine x_if_eq (tgt := 303) X dL_areZonesSo_237 (by decide) hf (fun hf => ?_) (fun hf => ?_)
                  · refine x_iconst (v := 0) X dL_areZonesSo_303 (by decide) ?_
                    exact x_zretR (σ0 := σ) X E hQ hf dL_areZonesSo_304
                  · refine x_aload_n X dL_areZonesSo_240 rfl 1 rfl ?_
                    refine x_iload X dL_areZonesSo_241 6 rfl ?_
                    refine x_bipush (v := 8) X dL_areZonesSo_243 (by decide) ?_
                    refine x_callR (rest := []) X hf (fun r hr => x_cV (ci := 5) X cm_X5_zone lkV_L_43 rfl ⟨Nat.le_of_ble_eq_true rfl, Nat.le_of_ble_eq_true rfl⟩ (yC_0 Y) (yC_l Y 0 (by decide)) (m_X5_zone (yC_hb Y σ) (yC_ht Y) (yC_htc Y) (yC_hts Y) (yC_hp Y _) (yC_hp Y _) hr) rfl rfl (Nat.le_of_ble_eq_true rfl) (x_room E _) dL_areZonesSo_245) (fun r245 hf => ?_)
                    refine x_iload X dL_areZonesSo_248 9 rfl ?_
                    refine x_join (fun k260 => ∀ (t0_260 : Int32), k260 t0_260 = some r → XG κ σ 260 [(0, .ref (κ.S0 + (b + 0))), (1, .int (v1_12 + t0_129)), (2, .int (v2_12 + t0_149)), (3, .int (v3_12 + r157)), (4, .int (v4_12 + r169)), (5, .int v5_12), (6, .int r23), (7, .int r32)] [.int t0_260, .int r245]) hf (fun t0_260 hf => ?_) (fun k260 J260 hf => ?_)
                    · refine x_icmp_ne (tgt := 303) X dL_areZonesSo_260 (by decide) hf (fun hf => ?_) (fun hf => ?_)
                      · refine x_iconst (v := 0) X dL_areZonesSo_303 (by decide) ?_
                        exact x_zretR (σ0 := σ) X E hQ hf dL_areZonesSo_304
                      · refine x_iload X dL_areZonesSo_263 6 rfl ?_
                        refine x_join (fun k273 => ∀ (t0_273 : Int32), k273 t0_273 = some r → XG κ σ 273 [(0, .ref (κ.S0 + (b + 0))), (1, .int (v1_12 + t0_129)), (2, .int (v2_12 + t0_149)), (3, .int (v3_12 + r157)), (4, .int (v4_12 + r169)), (5, .int v5_12), (6, .int r23), (7, .int r32)] [.int t0_273]) hf (fun t0_273 hf => ?_) (fun k273 J273 hf => ?_)
                        · refine x_iload X dL_areZonesSo_273 7 rfl ?_
                          refine x_join (fun k283 => ∀ (t0_283 : Int32), k283 t0_283 = some r → XG κ σ 283 [(0, .ref (κ.S0 + (b + 0))), (1, .int (v1_12 + t0_129)), (2, .int (v2_12 + t0_149)), (3, .int (v3_12 + r157)), (4, .int (v4_12 + r169)), (5, .int v5_12), (6, .int r23)] [.int t0_283, .int t0_273]) hf (fun t0_283 hf => ?_) (fun k283 J283 hf => ?_)
                          · refine x_icmp_ne (tgt := 303) X dL_areZonesSo_283 (by decide) hf (fun hf => ?_) (fun hf => ?_)
                            · refine x_iconst (v := 0) X dL_areZonesSo_303 (by decide) ?_
                              exact x_zretR (σ0 := σ) X E hQ hf dL_areZonesSo_304
                            · refine x_iload X dL_areZonesSo_286 6 rfl ?_
                              refine x_iconst (v := 2) X dL_areZonesSo_288 (by decide) ?_
                              refine x_join (fun k305 => k305 = some r → XG κ σ 305 [(0, .ref (κ.S0 + (b + 0))), (1, .int (v1_12 + t0_129)), (2, .int (v2_12 + t0_149)), (3, .int (v3_12 + r157)), (4, .int (v4_12 + r169)), (5, .int v5_12)] []) hf (fun hf => ?_) (fun k305 J305 hf => ?_)
                              · refine x_iinc (v := v5_12 + 1) (lv' := [(5, .int (v5_12 + 1)), (0, .ref (κ.S0 + (b + 0))), (1, .int (v1_12 + t0_129)), (2, .int (v2_12 + t0_149)), (3, .int (v3_12 + r157)), (4, .int (v4_12 + r169))]) X dL_areZonesSo_305 5 rfl rfl (by decide) rfl ?_
                                refine x_goto (tgt := 12) X dL_areZonesSo_308 (by decide) ?_
                                refine x_sub [1, 2, 3, 4, 5, 0] rfl ?_
                                exact ih12 (v1_12 + t0_129) (v2_12 + t0_149) (v3_12 + r157) (v4_12 + r169) (v5_12 + 1) hf
                              · refine x_icmp_ne (tgt := 305) X dL_areZonesSo_289 (by decide) hf (fun hf => ?_) (fun hf => ?_)
                                · refine x_sub [0, 1, 2, 3, 4, 5] rfl ?_
                                  exact J305 hf
                                · refine x_aload_n X dL_areZonesSo_292 rfl 0 rfl ?_
                                  refine x_iload X dL_areZonesSo_293 5 rfl ?_
                                  refine x_bipush (v := 6) X dL_areZonesSo_295 (by decide) ?_
                                  refine x_callR (rest := []) X hf (fun r hr => x_cV (ci := 5) X cm_X5_zone lkV_L_43 rfl ⟨Nat.le_of_ble_eq_true rfl, Nat.le_of_ble_eq_true rfl⟩ (yC_0 Y) (yC_l Y 0 (by decide)) (m_X5_zone (yC_hb Y σ) (yC_ht Y) (yC_htc Y) (yC_hts Y) (yC_hp Y _) (yC_hp Y _) hr) rfl rfl (Nat.le_of_ble_eq_true rfl) (x_room E _) dL_areZonesSo_297) (fun r297 hf => ?_)
                                  refine x_if_le (tgt := 305) X dL_areZonesSo_300 (by decide) hf (fun hf => ?_) (fun hf => ?_)
                                  · refine x_sub [0, 1, 2, 3, 4, 5] rfl ?_
                                    exact J305 hf
                                  · refine x_iconst (v := 0) X dL_areZonesSo_303 (by decide) ?_
                                    exact x_zretR (σ0 := σ) X E hQ hf dL_areZonesSo_304
                          · refine x_if_ne (tgt := 282) X dL_areZonesSo_275 (by decide) hf (fun hf => ?_) (fun hf => ?_)
                            · refine x_iconst (v := 0) X dL_areZonesSo_282 (by decide) ?_
                              refine x_sub [0, 1, 2, 3, 4, 5, 6] rfl ?_
                              exact J283 0 hf
                            · refine x_iconst (v := 1) X dL_areZonesSo_278 (by decide) ?_
                              refine x_goto (tgt := 283) X dL_areZonesSo_279 (by decide) ?_
                              refine x_sub [0, 1, 2, 3, 4, 5, 6] rfl ?_
                              exact J283 1 hf
                        · refine x_if_ne (tgt := 272) X dL_areZonesSo_265 (by decide) hf (fun hf => ?_) (fun hf => ?_)
                          · refine x_iconst (v := 0) X dL_areZonesSo_272 (by decide) ?_
                            exact J273 0 hf
                          · refine x_iconst (v := 1) X dL_areZonesSo_268 (by decide) ?_
                            refine x_goto (tgt := 273) X dL_areZonesSo_269 (by decide) ?_
                            exact J273 1 hf
                    · refine x_if_ge (tgt := 258) X dL_areZonesSo_250 (by decide) hf (fun hf => ?_) (fun hf => ?_)
                      · refine x_iload X dL_areZonesSo_258 9 rfl ?_
                        refine x_sub [1, 2, 3, 4, 5, 6, 7, 8] rfl ?_
                        exact J260 w9_117 hf
                      · refine x_iload X dL_areZonesSo_253 8 rfl ?_
                        refine x_goto (tgt := 260) X dL_areZonesSo_255 (by decide) ?_
                        refine x_sub [1, 2, 3, 4, 5, 6, 7, 8] rfl ?_
                        exact J260 r32 hf
                · refine x_join (fun k232 => k232 = some r → XG κ σ 232 [(0, .ref (κ.S0 + (b + 0))), (1, .int (v1_12 + t0_129)), (2, .int (v2_12 + t0_149)), (3, .int (v3_12 + r157)), (4, .int (v4_12 + r169)), (5, .int v5_12), (6, .int r23), (7, .int r32), (9, .int w9_117)] []) hf (fun hf => ?_) (fun k232 J232 hf => ?_)
                  · refine x_iconst (v := 0) X dL_areZonesSo_232 (by decide) ?_
                    exact J233 0 hf
                  · refine x_icmp_gt (tgt := 232) X dL_areZonesSo_184 (by decide) hf (fun hf => ?_) (fun hf => ?_)
                    · refine x_sub [3, 4, 2, 1, 0, 5, 6, 7, 9] rfl ?_
                      exact J232 hf
                    · refine x_iload X dL_areZonesSo_187 8 rfl ?_
                      refine x_aload_n X dL_areZonesSo_189 rfl 3 rfl ?_
                      refine x_iload X dL_areZonesSo_190 5 rfl ?_
                      refine x_bipush (v := 6) X dL_areZonesSo_192 (by decide) ?_
                      refine x_callR (rest := [.int w8_117]) X hf (fun r hr => x_cV (ci := 5) X cm_X5_zone lkV_L_43 rfl ⟨Nat.le_of_ble_eq_true rfl, Nat.le_of_ble_eq_true rfl⟩ (yC_0 Y) (yC_l Y 0 (by decide)) (m_X5_zone (yC_hb Y σ) (yC_ht Y) (yC_htc Y) (yC_hts Y) (yC_hp Y _) (yC_hp Y _) hr) rfl rfl (Nat.le_of_ble_eq_true rfl) (x_room E _) dL_areZonesSo_194) (fun r194 hf => ?_)
                      refine x_iadd X dL_areZonesSo_197 ?_
                      refine x_iload X dL_areZonesSo_198 7 rfl ?_
                      refine x_icmp_ne (tgt := 232) X dL_areZonesSo_200 (by decide) hf (fun hf => ?_) (fun hf => ?_)
                      · refine x_sub [3, 4, 2, 1, 0, 5, 6, 7, 9] rfl ?_
                        exact J232 hf
                      · refine x_iload X dL_areZonesSo_203 8 rfl ?_
                        refine x_aload_n X dL_areZonesSo_205 rfl 3 rfl ?_
                        refine x_iload X dL_areZonesSo_206 5 rfl ?_
                        refine x_iconst (v := 5) X dL_areZonesSo_208 (by decide) ?_
                        refine x_callR (rest := [.int w8_117]) X hf (fun r hr => x_cV (ci := 5) X cm_X5_zone lkV_L_43 rfl ⟨Nat.le_of_ble_eq_true rfl, Nat.le_of_ble_eq_true rfl⟩ (yC_0 Y) (yC_l Y 0 (by decide)) (m_X5_zone (yC_hb Y σ) (yC_ht Y) (yC_htc Y) (yC_hts Y) (yC_hp Y _) (yC_hp Y _) hr) rfl rfl (Nat.le_of_ble_eq_true rfl) (x_room E _) dL_areZonesSo_209) (fun r209 hf => ?_)
                        refine x_icmp_ne (tgt := 232) X dL_areZonesSo_212 (by decide) hf (fun hf => ?_) (fun hf => ?_)
                        · refine x_sub [3, 4, 2, 1, 0, 5, 6, 7, 9] rfl ?_
                          exact J232 hf
                        · refine x_aload_n X dL_areZonesSo_215 rfl 3 rfl ?_
                          refine x_iload X dL_areZonesSo_216 5 rfl ?_
                          refine x_iload X dL_areZonesSo_218 7 rfl ?_
                          refine x_callR (rest := []) X hf (fun r hr => x_cV (ci := 5) X cm_X5_read lkV_L_46 rfl ⟨Nat.le_of_ble_eq_true rfl, Nat.le_of_ble_eq_true rfl⟩ (yC_0 Y) (yC_l Y 0 (by decide)) (m_X5_read (yC_hb Y σ) (yC_ht Y) (yC_htc Y) (yC_hts Y) (yC_hp Y _) (yC_hp Y _) hr) rfl rfl (Nat.le_of_ble_eq_true rfl) (x_room E _) dL_areZonesSo_220) (fun r220 hf => ?_)
                          refine x_bipush (v := (-5)) X dL_areZonesSo_223 (by decide) ?_
                          refine x_icmp_ne (tgt := 232) X dL_areZonesSo_225 (by decide) hf (fun hf => ?_) (fun hf => ?_)
                          · refine x_sub [3, 4, 2, 1, 0, 5, 6, 7, 9] rfl ?_
                            exact J232 hf
                          · refine x_iconst (v := 1) X dL_areZonesSo_228 (by decide) ?_
                            refine x_goto (tgt := 233) X dL_areZonesSo_229 (by decide) ?_
                            refine x_sub [3, 4, 2, 1, 0, 5, 6, 7, 9] rfl ?_
                            exact J233 1 hf
              · refine x_join (fun k144 => k144 = some r → XG κ σ 144 [(0, .ref (κ.S0 + (b + 0))), (1, .int (v1_12 + t0_129)), (3, .int v3_12), (4, .int v4_12), (5, .int v5_12), (6, .int r23), (7, .int r32), (8, .int w8_117), (9, .int w9_117)] [.int v2_12]) hf (fun hf => ?_) (fun k144 J144 hf => ?_)
                · refine x_iconst (v := 1) X dL_areZonesSo_144 (by decide) ?_
                  refine x_goto (tgt := 149) X dL_areZonesSo_145 (by decide) ?_
                  exact J149 1 hf
                · refine x_icmp_eq (tgt := 144) X dL_areZonesSo_135 (by decide) hf (fun hf => ?_) (fun hf => ?_)
                  · refine x_sub [1, 0, 3, 4, 5, 6, 7, 8, 9] rfl ?_
                    exact J144 hf
                  · refine x_iload X dL_areZonesSo_138 6 rfl ?_
                    refine x_iconst (v := 2) X dL_areZonesSo_140 (by decide) ?_
                    refine x_icmp_ne (tgt := 148) X dL_areZonesSo_141 (by decide) hf (fun hf => ?_) (fun hf => ?_)
                    · refine x_iconst (v := 0) X dL_areZonesSo_148 (by decide) ?_
                      refine x_sub [1, 0, 3, 4, 5, 6, 7, 8, 9] rfl ?_
                      exact J149 0 hf
                    · refine x_sub [1, 0, 3, 4, 5, 6, 7, 8, 9] rfl ?_
                      exact J144 hf
            · refine x_icmp_ne (tgt := 128) X dL_areZonesSo_121 (by decide) hf (fun hf => ?_) (fun hf => ?_)
              · refine x_iconst (v := 0) X dL_areZonesSo_128 (by decide) ?_
                refine x_sub [0, 2, 3, 4, 5, 6, 7, 8, 9] rfl ?_
                exact J129 0 hf
              · refine x_iconst (v := 1) X dL_areZonesSo_124 (by decide) ?_
                refine x_goto (tgt := 129) X dL_areZonesSo_125 (by decide) ?_
                refine x_sub [0, 2, 3, 4, 5, 6, 7, 8, 9] rfl ?_
                exact J129 1 hf
          · have LL : ∀ (n : Nat) (v8_46 : Int32) (v9_46 : Int32) (v10_46 : Int32), f_L_areZonesSo_L46 σ v5_12 r32 kX46 n v8_46 v9_46 v10_46 = some r → XG κ σ 46 [(0, .ref (κ.S0 + (b + 0))), (1, .int v1_12), (2, .int v2_12), (3, .int v3_12), (4, .int v4_12), (5, .int v5_12), (6, .int r23), (7, .int r32), (8, .int v8_46), (9, .int v9_46), (10, .int v10_46)] [] := by
              intro n
              induction n with
              | zero => intro v8_46 v9_46 v10_46 hf; rw [f_L_areZonesSo_L46] at hf; cases hf
              | succ n ih46 =>
                intro v8_46 v9_46 v10_46 hf
                rw [f_L_areZonesSo_L46] at hf
                refine x_iload X dL_areZonesSo_46 10 rfl ?_
                refine x_iload X dL_areZonesSo_48 7 rfl ?_
                refine x_icmp_ge (tgt := 117) X dL_areZonesSo_50 (by decide) hf (fun hf => ?_) (fun hf => ?_)
                · refine x_sub [0, 1, 2, 3, 4, 5, 6, 7, 8, 9] rfl ?_
                  exact JX46 v8_46 v9_46 hf
                · refine x_aload_n X dL_areZonesSo_53 rfl 0 rfl ?_
                  refine x_iload X dL_areZonesSo_54 5 rfl ?_
                  refine x_iload X dL_areZonesSo_56 10 rfl ?_
                  refine x_callR (rest := []) X hf (fun r hr => x_cV (ci := 5) X cm_X5_read lkV_L_46 rfl ⟨Nat.le_of_ble_eq_true rfl, Nat.le_of_ble_eq_true rfl⟩ (yC_0 Y) (yC_l Y 0 (by decide)) (m_X5_read (yC_hb Y σ) (yC_ht Y) (yC_htc Y) (yC_hts Y) (yC_hp Y _) (yC_hp Y _) hr) rfl rfl (Nat.le_of_ble_eq_true rfl) (x_room E _) dL_areZonesSo_58) (fun r58 hf => ?_)
                  refine x_istore (lv' := [(11, .int r58), (0, .ref (κ.S0 + (b + 0))), (1, .int v1_12), (2, .int v2_12), (3, .int v3_12), (4, .int v4_12), (5, .int v5_12), (6, .int r23), (7, .int r32), (8, .int v8_46), (9, .int v9_46), (10, .int v10_46)]) X dL_areZonesSo_61 (by decide) rfl ?_
                  refine x_iload X dL_areZonesSo_63 9 rfl ?_
                  refine x_iload X dL_areZonesSo_65 0 rfl ?_
                  refine x_join (fun k75 => ∀ (t0_75 : Int32), k75 t0_75 = some r → XG κ σ 75 [(0, .ref (κ.S0 + (b + 0))), (1, .int v1_12), (2, .int v2_12), (3, .int v3_12), (4, .int v4_12), (5, .int v5_12), (6, .int r23), (7, .int r32), (9, .int v9_46), (10, .int v10_46), (11, .int r58)] [.int t0_75, .int v8_46]) hf (fun t0_75 hf => ?_) (fun k75 J75 hf => ?_)
                  · refine x_iadd X dL_areZonesSo_75 ?_
                    refine x_istore (lv' := [(8, .int (v8_46 + t0_75)), (0, .ref (κ.S0 + (b + 0))), (1, .int v1_12), (2, .int v2_12), (3, .int v3_12), (4, .int v4_12), (5, .int v5_12), (6, .int r23), (7, .int r32), (9, .int v9_46), (10, .int v10_46), (11, .int r58)]) X dL_areZonesSo_76 (by decide) rfl ?_
                    refine x_iload X dL_areZonesSo_78 11 rfl ?_
                    refine x_join (fun k95 => ∀ (t0_95 : Int32), k95 t0_95 = some r → XG κ σ 95 [(0, .ref (κ.S0 + (b + 0))), (1, .int v1_12), (2, .int v2_12), (3, .int v3_12), (4, .int v4_12), (5, .int v5_12), (6, .int r23), (7, .int r32), (8, .int (v8_46 + t0_75)), (10, .int v10_46), (11, .int r58)] [.int t0_95]) hf (fun t0_95 hf => ?_) (fun k95 J95 hf => ?_)
                    · refine x_istore (lv' := [(9, .int t0_95), (0, .ref (κ.S0 + (b + 0))), (1, .int v1_12), (2, .int v2_12), (3, .int v3_12), (4, .int v4_12), (5, .int v5_12), (6, .int r23), (7, .int r32), (8, .int (v8_46 + t0_75)), (10, .int v10_46), (11, .int r58)]) X dL_areZonesSo_95 (by decide) rfl ?_
                      refine x_iload X dL_areZonesSo_97 11 rfl ?_
                      refine x_join (fun k111 => k111 = some r → XG κ σ 111 [(0, .ref (κ.S0 + (b + 0))), (1, .int v1_12), (2, .int v2_12), (3, .int v3_12), (4, .int v4_12), (5, .int v5_12), (6, .int r23), (7, .int r32), (8, .int (v8_46 + t0_75)), (9, .int t0_95), (10, .int v10_46)] []) hf (fun hf => ?_) (fun k111 J111 hf => ?_)
                      · refine x_iinc (v := v10_46 + 1) (lv' := [(10, .int (v10_46 + 1)), (0, .ref (κ.S0 + (b + 0))), (1, .int v1_12), (2, .int v2_12), (3, .int v3_12), (4, .int v4_12), (5, .int v5_12), (6, .int r23), (7, .int r32), (8, .int (v8_46 + t0_75)), (9, .int t0_95)]) X dL_areZonesSo_111 10 rfl rfl (by decide) rfl ?_
                        refine x_goto (tgt := 46) X dL_areZonesSo_114 (by decide) ?_
                        refine x_sub [1, 2, 3, 4, 5, 6, 7, 8, 9, 10, 0] rfl ?_
                        exact ih46 (v8_46 + t0_75) t0_95 (v10_46 + 1) hf
                      · refine x_if_ge (tgt := 111) X dL_areZonesSo_99 (by decide) hf (fun hf => ?_) (fun hf => ?_)
                        · refine x_sub [1, 2, 3, 4, 5, 6, 7, 8, 9, 0, 10] rfl ?_
                          exact J111 hf
                        · refine x_iload X dL_areZonesSo_102 11 rfl ?_
                          refine x_bipush (v := (-4)) X dL_areZonesSo_104 (by decide) ?_
                          refine x_icmp_eq (tgt := 111) X dL_areZonesSo_106 (by decide) hf (fun hf => ?_) (fun hf => ?_)
                          · refine x_sub [1, 2, 3, 4, 5, 6, 7, 8, 9, 0, 10] rfl ?_
                            exact J111 hf
                          · refine x_iconst (v := 0) X dL_areZonesSo_109 (by decide) ?_
                            exact x_zretR (σ0 := σ) X E hQ hf dL_areZonesSo_110
                    · refine x_join (fun k93 => k93 = some r → XG κ σ 93 [(0, .ref (κ.S0 + (b + 0))), (1, .int v1_12), (2, .int v2_12), (3, .int v3_12), (4, .int v4_12), (5, .int v5_12), (6, .int r23), (7, .int r32), (8, .int (v8_46 + t0_75)), (9, .int v9_46), (10, .int v10_46), (11, .int r58)] []) hf (fun hf => ?_) (fun k93 J93 hf => ?_)
                      · refine x_iload X dL_areZonesSo_93 9 rfl ?_
                        refine x_sub [0, 1, 2, 3, 4, 5, 6, 7, 8, 10, 11] rfl ?_
                        exact J95 v9_46 hf
                      · refine x_if_ge (tgt := 93) X dL_areZonesSo_80 (by decide) hf (fun hf => ?_) (fun hf => ?_)
                        · refine x_sub [1, 2, 3, 4, 5, 6, 7, 8, 0, 9, 10, 11] rfl ?_
                          exact J93 hf
                        · refine x_iload X dL_areZonesSo_83 9 rfl ?_
                          refine x_if_ge (tgt := 93) X dL_areZonesSo_85 (by decide) hf (fun hf => ?_) (fun hf => ?_)
                          · refine x_sub [1, 2, 3, 4, 5, 6, 7, 8, 0, 9, 10, 11] rfl ?_
                            exact J93 hf
                          · refine x_iload X dL_areZonesSo_88 10 rfl ?_
                            refine x_goto (tgt := 95) X dL_areZonesSo_90 (by decide) ?_
                            refine x_sub [1, 2, 3, 4, 5, 6, 7, 8, 0, 10, 11] rfl ?_
                            exact J95 v10_46 hf
                  · refine x_if_lt (tgt := 74) X dL_areZonesSo_67 (by decide) hf (fun hf => ?_) (fun hf => ?_)
                    · refine x_iconst (v := 0) X dL_areZonesSo_74 (by decide) ?_
                      refine x_sub [1, 2, 3, 4, 5, 6, 7, 8, 10, 11, 0] rfl ?_
                      exact J75 0 hf
                    · refine x_iconst (v := 1) X dL_areZonesSo_70 (by decide) ?_
                      refine x_goto (tgt := 75) X dL_areZonesSo_71 (by decide) ?_
                      refine x_sub [1, 2, 3, 4, 5, 6, 7, 8, 10, 11, 0] rfl ?_
                      exact J75 1 hf
            refine x_sub [5, 6, 7, 8, 9, 10, 4, 3, 2, 1, 0] rfl ?_
            exact LL FU 0 (-1) 0 hf
    refine x_sub [5, 4, 3, 2, 1, 0] rfl ?_
    exact LL FU 0 0 0 0 0 hf
def f_L_areAppendsSo_L245 (σ : CS) (kX245 : Int32 → Option (Int32)) : Nat → Int32 → Int32 → Option (Int32)
  | 0, _, _ => none
  | n + 1, v5_245, v6_245 =>
    if 4 ≤ v6_245 then (kX245 v5_245) else (oR (f_X5_writer σ v6_245 1) (fun r257 => oR (f_X5_writer σ v6_245 2) (fun r264 => oR (f_X5_writer σ v6_245 3) (fun r272 => oR (f_X5_writer σ v6_245 4) (fun r280 => f_L_areAppendsSo_L245 σ kX245 n (v5_245 + (((r257 + r264) + r272) + r280)) (v6_245 + 1))))))
def f_L_areAppendsSo_L191 (σ : CS) (w2_185 : Int32) (kX191 : Option (Int32)) : Nat → Int32 → Int32 → Option (Int32)
  | 0, _, _ => none
  | n + 1, v4_191, v5_191 =>
    if w2_185 ≤ v5_191 then kX191 else (oR (f_X5_told σ v5_191) (fun r200 => if r200 < 0 then (oB 0) else (oR (f_X5_appended σ r200 5) (fun r214 => if v4_191 ≤ r214 then (oR (f_X5_appended σ r200 5) (fun r228 => f_L_areAppendsSo_L191 σ w2_185 kX191 n r228 (v5_191 + 1))) else (oB 0)))))
def f_L_areAppendsSo_L14 (σ : CS) (r3 : Int32) (kX14 : Int32 → Int32 → Option (Int32)) : Nat → Int32 → Int32 → Int32 → Option (Int32)
  | 0, _, _, _ => none
  | n + 1, v2_14, v3_14, v4_14 =>
    if r3 ≤ v4_14 then (kX14 v2_14 v3_14) else (oR (f_X5_appended σ v4_14 3) (fun r24 => oR (f_X5_appended σ v4_14 1) (fun r33 => oR (f_X5_appended σ v4_14 4) (fun r42 => oJ (κ := Int32 → Option (Int32)) (fun t0_59 => oJ (κ := Int32 → Option (Int32)) (fun t0_73 => oJ (κ := Int32 → Option (Int32)) (fun t0_86 => oJ (κ := Int32 → Option (Int32)) (fun t0_98 => if t0_86 = t0_98 then (oB 0) else (oJ (κ := Int32 → Option (Int32)) (fun t0_112 => oR (f_X5_appended σ v4_14 6) (fun r117 => oJ (κ := Int32 → Option (Int32)) (fun t0_130 => if t0_112 = t0_130 then (oB 0) else (oJ (κ := Option (Int32)) (f_L_areAppendsSo_L14 σ r3 kX14 n (v2_14 + t0_59) (v3_14 + t0_73) (v4_14 + 1)) (fun k179 => if r24 = 2 then (oR (f_X5_appended σ v4_14 7) (fun r146 => oR (f_X5_zone σ r33 4) (fun r153 => if r146 = r153 then (oR (f_X5_read σ r33 r42) (fun r164 => oR (f_X5_appended σ v4_14 2) (fun r171 => if r164 = r171 then k179 else (oB 0)))) else k179))) else k179))) (fun k130 => if r117 = (-5) then (k130 1) else (k130 0)))) (fun k112 => if r24 = 3 then (k112 1) else (k112 0)))) (fun k98 => if r42 = (-5) then (k98 1) else (k98 0))) (fun k86 => if r24 = 2 then (k86 1) else (k86 0))) (fun k73 => if r24 = 3 then (k73 1) else (k73 0))) (fun k59 => if r24 = 2 then (k59 1) else (k59 0))))))
def f_L_areAppendsSo (σ : CS)  : Option (Int32) :=
  oR (f_X5_count σ 7) (fun r3 => f_L_areAppendsSo_L14 σ r3 (fun w2_185 w3_185 => f_L_areAppendsSo_L191 σ w2_185 (f_L_areAppendsSo_L245 σ (fun w5_293 => if w5_293 = r3 then (oR (f_X5_count σ 10) (fun r303 => if w2_185 = r303 then (oR (f_X5_count σ 11) (fun r313 => if w3_185 = r313 then (oR (f_X5_count σ 8) (fun r322 => oR (f_X5_count σ 9) (fun r328 => if (((r322 + r328) + w2_185) + w3_185) = r3 then (oR (f_X5_told σ w2_185) (fun r342 => if r342 = (-5) then (oB 1) else (oB 0))) else (oB 0)))) else (oB 0))) else (oB 0))) else (oB 0)) FU 0 0) FU 0 0) FU 0 0 0)
set_option maxRecDepth 100000 in
set_option maxHeartbeats 4000000 in
theorem m_L_areAppendsSo {l : Launch} {G : va_G} {tys : List (ClassId × FieldType)} {S0 : Nat} {h h1 h2 : Nat → va_E} {b cN' : Nat} {cI cC cS' : ClassId} {σ : CS}  {r : Int32} (hb : b + 159 ≤ cN') (ht : tys[0]? = some (cI, .int)) (htc : tys[1]? = some (cC, .char)) (hts : tys[3]? = some (cS', .object "AppendZones$State")) (e1 : h1 = ov h b (cl S0 cI cC cS' b σ)) (e2 : h2 = ov h b (cl S0 cI cC cS' b σ)) (hf : f_L_areAppendsSo σ = some r) : XMet l G tys S0 cN' yL_areAppendsSo cL_areAppendsSo 8 (some .boolean) 5 113 [.ref (S0 + (b + 0))] h1 cN' (some (.int r)) h2 0 0 := by
  subst e1; subst e2
  refine XMet.ofE (ST := CS) (HP := fun σ => ov h b (cl S0 cI cC cS' b σ)) σ σ (by decide) (Nat.le_of_ble_eq_true rfl) ?_
  intro κ g1 g2 g3 g4 g5 g6 E X hQ
  subst g1; subst g2; subst g3; subst g4
  have Y : YC κ h b cI cC cS' := ⟨fun σ => by rw [g5], fun σ => by rw [g6]; exact hb, ht, htc, hts⟩
  have X : XC κ cL_areAppendsSo 8 RL (some .boolean) 5 113 := X
  show XG κ σ 0 [(0, .ref (κ.S0 + (b + 0)))] []
  unfold f_L_areAppendsSo at hf
  refine x_aload_n X dL_areAppendsSo_0 rfl 0 rfl ?_
  refine x_bipush (v := 7) X dL_areAppendsSo_1 (by decide) ?_
  refine x_callR (rest := []) X hf (fun r hr => x_cV (ci := 5) X cm_X5_count lkV_L_49 rfl ⟨Nat.le_of_ble_eq_true rfl, Nat.le_of_ble_eq_true rfl⟩ (yC_0 Y) (yC_l Y 0 (by decide)) (m_X5_count (yC_hb Y σ) (yC_ht Y) (yC_htc Y) (yC_hts Y) (yC_hp Y _) (yC_hp Y _) hr) rfl rfl (Nat.le_of_ble_eq_true rfl) (x_room E _) dL_areAppendsSo_3) (fun r3 hf => ?_)
  refine x_istore_n (lv' := [(1, .int r3), (0, .ref (κ.S0 + (b + 0)))]) X dL_areAppendsSo_6 rfl (by decide) rfl ?_
  refine x_iconst (v := 0) X dL_areAppendsSo_7 (by decide) ?_
  refine x_istore_n (lv' := [(2, .int 0), (1, .int r3), (0, .ref (κ.S0 + (b + 0)))]) X dL_areAppendsSo_8 rfl (by decide) rfl ?_
  refine x_iconst (v := 0) X dL_areAppendsSo_9 (by decide) ?_
  refine x_istore_n (lv' := [(3, .int 0), (2, .int 0), (1, .int r3), (0, .ref (κ.S0 + (b + 0)))]) X dL_areAppendsSo_10 rfl (by decide) rfl ?_
  refine x_iconst (v := 0) X dL_areAppendsSo_11 (by decide) ?_
  refine x_istore (lv' := [(4, .int 0), (3, .int 0), (2, .int 0), (1, .int r3), (0, .ref (κ.S0 + (b + 0)))]) X dL_areAppendsSo_12 (by decide) rfl ?_
  refine x_kont (b := fun kX14 => f_L_areAppendsSo_L14 σ r3 kX14 FU 0 0 0) (fun kX14 => ∀ (w2_185 : Int32) (w3_185 : Int32), kX14 w2_185 w3_185 = some r → XG κ σ 185 [(0, .ref (κ.S0 + (b + 0))), (1, .int r3), (2, .int w2_185), (3, .int w3_185)] []) hf (fun w2_185 w3_185 hf => ?_) (fun kX14 JX14 hf => ?_)
  · refine x_iconst (v := 0) X dL_areAppendsSo_185 (by decide) ?_
    refine x_istore (lv' := [(4, .int 0), (0, .ref (κ.S0 + (b + 0))), (1, .int r3), (2, .int w2_185), (3, .int w3_185)]) X dL_areAppendsSo_186 (by decide) rfl ?_
    refine x_iconst (v := 0) X dL_areAppendsSo_188 (by decide) ?_
    refine x_istore (lv' := [(5, .int 0), (4, .int 0), (0, .ref (κ.S0 + (b + 0))), (1, .int r3), (2, .int w2_185), (3, .int w3_185)]) X dL_areAppendsSo_189 (by decide) rfl ?_
    refine x_kont (b := fun kX191 => f_L_areAppendsSo_L191 σ w2_185 kX191 FU 0 0) (fun kX191 => kX191 = some r → XG κ σ 239 [(0, .ref (κ.S0 + (b + 0))), (1, .int r3), (2, .int w2_185), (3, .int w3_185)] []) hf (fun hf => ?_) (fun kX191 JX191 hf => ?_)
    · refine x_iconst (v := 0) X dL_areAppendsSo_239 (by decide) ?_
      refine x_istore (lv' := [(5, .int 0), (0, .ref (κ.S0 + (b + 0))), (1, .int r3), (2, .int w2_185), (3, .int w3_185)]) X dL_areAppendsSo_240 (by decide) rfl ?_
      refine x_iconst (v := 0) X dL_areAppendsSo_242 (by decide) ?_
      refine x_istore (lv' := [(6, .int 0), (5, .int 0), (0, .ref (κ.S0 + (b + 0))), (1, .int r3), (2, .int w2_185), (3, .int w3_185)]) X dL_areAppendsSo_243 (by decide) rfl ?_
      refine x_kont (b := fun kX245 => f_L_areAppendsSo_L245 σ kX245 FU 0 0) (fun kX245 => ∀ (w5_293 : Int32), kX245 w5_293 = some r → XG κ σ 293 [(0, .ref (κ.S0 + (b + 0))), (1, .int r3), (2, .int w2_185), (3, .int w3_185), (5, .int w5_293)] []) hf (fun w5_293 hf => ?_) (fun kX245 JX245 hf => ?_)
      · refine x_iload X dL_areAppendsSo_293 4 rfl ?_
        refine x_iload_n X dL_areAppendsSo_295 rfl 1 rfl ?_
        refine x_icmp_ne (tgt := 354) X dL_areAppendsSo_296 (by decide) hf (fun hf => ?_) (fun hf => ?_)
        · refine x_iconst (v := 0) X dL_areAppendsSo_354 (by decide) ?_
          exact x_zretR (σ0 := σ) X E hQ hf dL_areAppendsSo_355
        · refine x_iload_n X dL_areAppendsSo_299 rfl 2 rfl ?_
          refine x_aload_n X dL_areAppendsSo_300 rfl 0 rfl ?_
          refine x_bipush (v := 10) X dL_areAppendsSo_301 (by decide) ?_
          refine x_callR (rest := [.int w2_185]) X hf (fun r hr => x_cV (ci := 5) X cm_X5_count lkV_L_49 rfl ⟨Nat.le_of_ble_eq_true rfl, Nat.le_of_ble_eq_true rfl⟩ (yC_0 Y) (yC_l Y 0 (by decide)) (m_X5_count (yC_hb Y σ) (yC_ht Y) (yC_htc Y) (yC_hts Y) (yC_hp Y _) (yC_hp Y _) hr) rfl rfl (Nat.le_of_ble_eq_true rfl) (x_room E _) dL_areAppendsSo_303) (fun r303 hf => ?_)
          refine x_icmp_ne (tgt := 354) X dL_areAppendsSo_306 (by decide) hf (fun hf => ?_) (fun hf => ?_)
          · refine x_iconst (v := 0) X dL_areAppendsSo_354 (by decide) ?_
            exact x_zretR (σ0 := σ) X E hQ hf dL_areAppendsSo_355
          · refine x_iload_n X dL_areAppendsSo_309 rfl 3 rfl ?_
            refine x_aload_n X dL_areAppendsSo_310 rfl 0 rfl ?_
            refine x_bipush (v := 11) X dL_areAppendsSo_311 (by decide) ?_
            refine x_callR (rest := [.int w3_185]) X hf (fun r hr => x_cV (ci := 5) X cm_X5_count lkV_L_49 rfl ⟨Nat.le_of_ble_eq_true rfl, Nat.le_of_ble_eq_true rfl⟩ (yC_0 Y) (yC_l Y 0 (by decide)) (m_X5_count (yC_hb Y σ) (yC_ht Y) (yC_htc Y) (yC_hts Y) (yC_hp Y _) (yC_hp Y _) hr) rfl rfl (Nat.le_of_ble_eq_true rfl) (x_room E _) dL_areAppendsSo_313) (fun r313 hf => ?_)
            refine x_icmp_ne (tgt := 354) X dL_areAppendsSo_316 (by decide) hf (fun hf => ?_) (fun hf => ?_)
            · refine x_iconst (v := 0) X dL_areAppendsSo_354 (by decide) ?_
              exact x_zretR (σ0 := σ) X E hQ hf dL_areAppendsSo_355
            · refine x_aload_n X dL_areAppendsSo_319 rfl 0 rfl ?_
              refine x_bipush (v := 8) X dL_areAppendsSo_320 (by decide) ?_
              refine x_callR (rest := []) X hf (fun r hr => x_cV (ci := 5) X cm_X5_count lkV_L_49 rfl ⟨Nat.le_of_ble_eq_true rfl, Nat.le_of_ble_eq_true rfl⟩ (yC_0 Y) (yC_l Y 0 (by decide)) (m_X5_count (yC_hb Y σ) (yC_ht Y) (yC_htc Y) (yC_hts Y) (yC_hp Y _) (yC_hp Y _) hr) rfl rfl (Nat.le_of_ble_eq_true rfl) (x_room E _) dL_areAppendsSo_322) (fun r322 hf => ?_)
              refine x_aload_n X dL_areAppendsSo_325 rfl 0 rfl ?_
              refine x_bipush (v := 9) X dL_areAppendsSo_326 (by decide) ?_
              refine x_callR (rest := [.int r322]) X hf (fun r hr => x_cV (ci := 5) X cm_X5_count lkV_L_49 rfl ⟨Nat.le_of_ble_eq_true rfl, Nat.le_of_ble_eq_true rfl⟩ (yC_0 Y) (yC_l Y 0 (by decide)) (m_X5_count (yC_hb Y σ) (yC_ht Y) (yC_htc Y) (yC_hts Y) (yC_hp Y _) (yC_hp Y _) hr) rfl rfl (Nat.le_of_ble_eq_true rfl) (x_room E _) dL_areAppendsSo_328) (fun r328 hf => ?_)
              refine x_iadd X dL_areAppendsSo_331 ?_
              refine x_iload_n X dL_areAppendsSo_332 rfl 2 rfl ?_
              refine x_iadd X dL_areAppendsSo_333 ?_
              refine x_iload_n X dL_areAppendsSo_334 rfl 3 rfl ?_
              refine x_iadd X dL_areAppendsSo_335 ?_
              refine x_iload_n X dL_areAppendsSo_336 rfl 1 rfl ?_
              refine x_icmp_ne (tgt := 354) X dL_areAppendsSo_337 (by decide) hf (fun hf => ?_) (fun hf => ?_)
              · refine x_iconst (v := 0) X dL_areAppendsSo_354 (by decide) ?_
                exact x_zretR (σ0 := σ) X E hQ hf dL_areAppendsSo_355
              · refine x_aload_n X dL_areAppendsSo_340 rfl 0 rfl ?_
                refine x_iload_n X dL_areAppendsSo_341 rfl 2 rfl ?_
                refine x_callR (rest := []) X hf (fun r hr => x_cV (ci := 5) X cm_X5_told lkV_L_55 rfl ⟨Nat.le_of_ble_eq_true rfl, Nat.le_of_ble_eq_true rfl⟩ (yC_0 Y) (yC_l Y 0 (by decide)) (m_X5_told (yC_hb Y σ) (yC_ht Y) (yC_htc Y) (yC_hts Y) (yC_hp Y _) (yC_hp Y _) hr) rfl rfl (Nat.le_of_ble_eq_true rfl) (x_room E _) dL_areAppendsSo_342) (fun r342 hf => ?_)
                refine x_bipush (v := (-5)) X dL_areAppendsSo_345 (by decide) ?_
                refine x_icmp_ne (tgt := 354) X dL_areAppendsSo_347 (by decide) hf (fun hf => ?_) (fun hf => ?_)
                · refine x_iconst (v := 0) X dL_areAppendsSo_354 (by decide) ?_
                  exact x_zretR (σ0 := σ) X E hQ hf dL_areAppendsSo_355
                · refine x_iconst (v := 1) X dL_areAppendsSo_350 (by decide) ?_
                  refine x_goto (tgt := 355) X dL_areAppendsSo_351 (by decide) ?_
                  exact x_zretR (σ0 := σ) X E hQ hf dL_areAppendsSo_355
      · have LL : ∀ (n : Nat) (v5_245 : Int32) (v6_245 : Int32), f_L_areAppendsSo_L245 σ kX245 n v5_245 v6_245 = some r → XG κ σ 245 [(0, .ref (κ.S0 + (b + 0))), (1, .int r3), (2, .int w2_185), (3, .int w3_185), (5, .int v5_245), (6, .int v6_245)] [] := by
          intro n
          induction n with
          | zero => intro v5_245 v6_245 hf; rw [f_L_areAppendsSo_L245] at hf; cases hf
          | succ n ih245 =>
            intro v5_245 v6_245 hf
            rw [f_L_areAppendsSo_L245] at hf
            refine x_iload X dL_areAppendsSo_245 5 rfl ?_
            refine x_iconst (v := 4) X dL_areAppendsSo_247 (by decide) ?_
            refine x_icmp_ge (tgt := 293) X dL_areAppendsSo_248 (by decide) hf (fun hf => ?_) (fun hf => ?_)
            · refine x_sub [0, 1, 2, 3, 4] rfl ?_
              exact JX245 v5_245 hf
            · refine x_iload X dL_areAppendsSo_251 4 rfl ?_
              refine x_aload_n X dL_areAppendsSo_253 rfl 0 rfl ?_
              refine x_iload X dL_areAppendsSo_254 5 rfl ?_
              refine x_iconst (v := 1) X dL_areAppendsSo_256 (by decide) ?_
              refine x_callR (rest := [.int v5_245]) X hf (fun r hr => x_cV (ci := 5) X cm_X5_writer lkV_L_58 rfl ⟨Nat.le_of_ble_eq_true rfl, Nat.le_of_ble_eq_true rfl⟩ (yC_0 Y) (yC_l Y 0 (by decide)) (m_X5_writer (yC_hb Y σ) (yC_ht Y) (yC_htc Y) (yC_hts Y) (yC_hp Y _) (yC_hp Y _) hr) rfl rfl (Nat.le_of_ble_eq_true rfl) (x_room E _) dL_areAppendsSo_257) (fun r257 hf => ?_)
              refine x_aload_n X dL_areAppendsSo_260 rfl 0 rfl ?_
              refine x_iload X dL_areAppendsSo_261 5 rfl ?_
              refine x_iconst (v := 2) X dL_areAppendsSo_263 (by decide) ?_
              refine x_callR (rest := [.int r257, .int v5_245]) X hf (fun r hr => x_cV (ci := 5) X cm_X5_writer lkV_L_58 rfl ⟨Nat.le_of_ble_eq_true rfl, Nat.le_of_ble_eq_true rfl⟩ (yC_0 Y) (yC_l Y 0 (by decide)) (m_X5_writer (yC_hb Y σ) (yC_ht Y) (yC_htc Y) (yC_hts Y) (yC_hp Y _) (yC_hp Y _) hr) rfl rfl (Nat.le_of_ble_eq_true rfl) (x_room E _) dL_areAppendsSo_264) (fun r264 hf => ?_)
              refine x_iadd X dL_areAppendsSo_267 ?_
              refine x_aload_n X dL_areAppendsSo_268 rfl 0 rfl ?_
              refine x_iload X dL_areAppendsSo_269 5 rfl ?_
              refine x_iconst (v := 3) X dL_areAppendsSo_271 (by decide) ?_
              refine x_callR (rest := [.int (r257 + r264), .int v5_245]) X hf (fun r hr => x_cV (ci := 5) X cm_X5_writer lkV_L_58 rfl ⟨Nat.le_of_ble_eq_true rfl, Nat.le_of_ble_eq_true rfl⟩ (yC_0 Y) (yC_l Y 0 (by decide)) (m_X5_writer (yC_hb Y σ) (yC_ht Y) (yC_htc Y) (yC_hts Y) (yC_hp Y _) (yC_hp Y _) hr) rfl rfl (Nat.le_of_ble_eq_true rfl) (x_room E _) dL_areAppendsSo_272) (fun r272 hf => ?_)
              refine x_iadd X dL_areAppendsSo_275 ?_
              refine x_aload_n X dL_areAppendsSo_276 rfl 0 rfl ?_
              refine x_iload X dL_areAppendsSo_277 5 rfl ?_
              refine x_iconst (v := 4) X dL_areAppendsSo_279 (by decide) ?_
              refine x_callR (rest := [.int ((r257 + r264) + r272), .int v5_245]) X hf (fun r hr => x_cV (ci := 5) X cm_X5_writer lkV_L_58 rfl ⟨Nat.le_of_ble_eq_true rfl, Nat.le_of_ble_eq_true rfl⟩ (yC_0 Y) (yC_l Y 0 (by decide)) (m_X5_writer (yC_hb Y σ) (yC_ht Y) (yC_htc Y) (yC_hts Y) (yC_hp Y _) (yC_hp Y _) hr) rfl rfl (Nat.le_of_ble_eq_true rfl) (x_room E _) dL_areAppendsSo_280) (fun r280 hf => ?_)
              refine x_iadd X dL_areAppendsSo_283 ?_
              refine x_iadd X dL_areAppendsSo_284 ?_
              refine x_istore (lv' := [(5, .int (v5_245 + (((r257 + r264) + r272) + r280))), (0, .ref (κ.S0 + (b + 0))), (1, .int r3), (2, .int w2_185), (3, .int w3_185), (6, .int v6_245)]) X dL_areAppendsSo_285 (by decide) rfl ?_
              refine x_iinc (v := v6_245 + 1) (lv' := [(6, .int (v6_245 + 1)), (5, .int (v5_245 + (((r257 + r264) + r272) + r280))), (0, .ref (κ.S0 + (b + 0))), (1, .int r3), (2, .int w2_185), (3, .int w3_185)]) X dL_areAppendsSo_287 5 rfl rfl (by decide) rfl ?_
              refine x_goto (tgt := 245) X dL_areAppendsSo_290 (by decide) ?_
              refine x_sub [2, 3, 4, 5, 1, 0] rfl ?_
              exact ih245 (v5_245 + (((r257 + r264) + r272) + r280)) (v6_245 + 1) hf
        refine x_sub [2, 3, 4, 5, 1, 0] rfl ?_
        exact LL FU 0 0 hf
    · have LL : ∀ (n : Nat) (v4_191 : Int32) (v5_191 : Int32), f_L_areAppendsSo_L191 σ w2_185 kX191 n v4_191 v5_191 = some r → XG κ σ 191 [(0, .ref (κ.S0 + (b + 0))), (1, .int r3), (2, .int w2_185), (3, .int w3_185), (4, .int v4_191), (5, .int v5_191)] [] := by
        intro n
        induction n with
        | zero => intro v4_191 v5_191 hf; rw [f_L_areAppendsSo_L191] at hf; cases hf
        | succ n ih191 =>
          intro v4_191 v5_191 hf
          rw [f_L_areAppendsSo_L191] at hf
          refine x_iload X dL_areAppendsSo_191 5 rfl ?_
          refine x_iload_n X dL_areAppendsSo_193 rfl 2 rfl ?_
          refine x_icmp_ge (tgt := 239) X dL_areAppendsSo_194 (by decide) hf (fun hf => ?_) (fun hf => ?_)
          · refine x_sub [0, 1, 2, 3] rfl ?_
            exact JX191 hf
          · refine x_aload_n X dL_areAppendsSo_197 rfl 0 rfl ?_
            refine x_iload X dL_areAppendsSo_198 5 rfl ?_
            refine x_callR (rest := []) X hf (fun r hr => x_cV (ci := 5) X cm_X5_told lkV_L_55 rfl ⟨Nat.le_of_ble_eq_true rfl, Nat.le_of_ble_eq_true rfl⟩ (yC_0 Y) (yC_l Y 0 (by decide)) (m_X5_told (yC_hb Y σ) (yC_ht Y) (yC_htc Y) (yC_hts Y) (yC_hp Y _) (yC_hp Y _) hr) rfl rfl (Nat.le_of_ble_eq_true rfl) (x_room E _) dL_areAppendsSo_200) (fun r200 hf => ?_)
            refine x_istore (lv' := [(6, .int r200), (0, .ref (κ.S0 + (b + 0))), (1, .int r3), (2, .int w2_185), (3, .int w3_185), (4, .int v4_191), (5, .int v5_191)]) X dL_areAppendsSo_203 (by decide) rfl ?_
            refine x_iload X dL_areAppendsSo_205 0 rfl ?_
            refine x_if_lt (tgt := 222) X dL_areAppendsSo_207 (by decide) hf (fun hf => ?_) (fun hf => ?_)
            · refine x_iconst (v := 0) X dL_areAppendsSo_222 (by decide) ?_
              exact x_zretR (σ0 := σ) X E hQ hf dL_areAppendsSo_223
            · refine x_aload_n X dL_areAppendsSo_210 rfl 1 rfl ?_
              refine x_iload X dL_areAppendsSo_211 0 rfl ?_
              refine x_iconst (v := 5) X dL_areAppendsSo_213 (by decide) ?_
              refine x_callR (rest := []) X hf (fun r hr => x_cV (ci := 5) X cm_X5_appended lkV_L_52 rfl ⟨Nat.le_of_ble_eq_true rfl, Nat.le_of_ble_eq_true rfl⟩ (yC_0 Y) (yC_l Y 0 (by decide)) (m_X5_appended (yC_hb Y σ) (yC_ht Y) (yC_htc Y) (yC_hts Y) (yC_hp Y _) (yC_hp Y _) hr) rfl rfl (Nat.le_of_ble_eq_true rfl) (x_room E _) dL_areAppendsSo_214) (fun r214 hf => ?_)
              refine x_iload X dL_areAppendsSo_217 5 rfl ?_
              refine x_icmp_ge (tgt := 224) X dL_areAppendsSo_219 (by decide) hf (fun hf => ?_) (fun hf => ?_)
              · refine x_aload_n X dL_areAppendsSo_224 rfl 1 rfl ?_
                refine x_iload X dL_areAppendsSo_225 0 rfl ?_
                refine x_iconst (v := 5) X dL_areAppendsSo_227 (by decide) ?_
                refine x_callR (rest := []) X hf (fun r hr => x_cV (ci := 5) X cm_X5_appended lkV_L_52 rfl ⟨Nat.le_of_ble_eq_true rfl, Nat.le_of_ble_eq_true rfl⟩ (yC_0 Y) (yC_l Y 0 (by decide)) (m_X5_appended (yC_hb Y σ) (yC_ht Y) (yC_htc Y) (yC_hts Y) (yC_hp Y _) (yC_hp Y _) hr) rfl rfl (Nat.le_of_ble_eq_true rfl) (x_room E _) dL_areAppendsSo_228) (fun r228 hf => ?_)
                refine x_istore (lv' := [(4, .int r228), (6, .int r200), (0, .ref (κ.S0 + (b + 0))), (1, .int r3), (2, .int w2_185), (3, .int w3_185), (5, .int v5_191)]) X dL_areAppendsSo_231 (by decide) rfl ?_
                refine x_iinc (v := v5_191 + 1) (lv' := [(5, .int (v5_191 + 1)), (4, .int r228), (6, .int r200), (0, .ref (κ.S0 + (b + 0))), (1, .int r3), (2, .int w2_185), (3, .int w3_185)]) X dL_areAppendsSo_233 6 rfl rfl (by decide) rfl ?_
                refine x_goto (tgt := 191) X dL_areAppendsSo_236 (by decide) ?_
                refine x_sub [3, 4, 5, 6, 1, 0] rfl ?_
                exact ih191 r228 (v5_191 + 1) hf
              · refine x_iconst (v := 0) X dL_areAppendsSo_222 (by decide) ?_
                exact x_zretR (σ0 := σ) X E hQ hf dL_areAppendsSo_223
      refine x_sub [2, 3, 4, 5, 1, 0] rfl ?_
      exact LL FU 0 0 hf
  · have LL : ∀ (n : Nat) (v2_14 : Int32) (v3_14 : Int32) (v4_14 : Int32), f_L_areAppendsSo_L14 σ r3 kX14 n v2_14 v3_14 v4_14 = some r → XG κ σ 14 [(0, .ref (κ.S0 + (b + 0))), (1, .int r3), (2, .int v2_14), (3, .int v3_14), (4, .int v4_14)] [] := by
      intro n
      induction n with
      | zero => intro v2_14 v3_14 v4_14 hf; rw [f_L_areAppendsSo_L14] at hf; cases hf
      | succ n ih14 =>
        intro v2_14 v3_14 v4_14 hf
        rw [f_L_areAppendsSo_L14] at hf
        refine x_iload X dL_areAppendsSo_14 4 rfl ?_
        refine x_iload_n X dL_areAppendsSo_16 rfl 1 rfl ?_
        refine x_icmp_ge (tgt := 185) X dL_areAppendsSo_17 (by decide) hf (fun hf => ?_) (fun hf => ?_)
        · refine x_sub [0, 1, 2, 3] rfl ?_
          exact JX14 v2_14 v3_14 hf
        · refine x_aload_n X dL_areAppendsSo_20 rfl 0 rfl ?_
          refine x_iload X dL_areAppendsSo_21 4 rfl ?_
          refine x_iconst (v := 3) X dL_areAppendsSo_23 (by decide) ?_
          refine x_callR (rest := []) X hf (fun r hr => x_cV (ci := 5) X cm_X5_appended lkV_L_52 rfl ⟨Nat.le_of_ble_eq_true rfl, Nat.le_of_ble_eq_true rfl⟩ (yC_0 Y) (yC_l Y 0 (by decide)) (m_X5_appended (yC_hb Y σ) (yC_ht Y) (yC_htc Y) (yC_hts Y) (yC_hp Y _) (yC_hp Y _) hr) rfl rfl (Nat.le_of_ble_eq_true rfl) (x_room E _) dL_areAppendsSo_24) (fun r24 hf => ?_)
          refine x_istore (lv' := [(5, .int r24), (0, .ref (κ.S0 + (b + 0))), (1, .int r3), (2, .int v2_14), (3, .int v3_14), (4, .int v4_14)]) X dL_areAppendsSo_27 (by decide) rfl ?_
          refine x_aload_n X dL_areAppendsSo_29 rfl 1 rfl ?_
          refine x_iload X dL_areAppendsSo_30 5 rfl ?_
          refine x_iconst (v := 1) X dL_areAppendsSo_32 (by decide) ?_
          refine x_callR (rest := []) X hf (fun r hr => x_cV (ci := 5) X cm_X5_appended lkV_L_52 rfl ⟨Nat.le_of_ble_eq_true rfl, Nat.le_of_ble_eq_true rfl⟩ (yC_0 Y) (yC_l Y 0 (by decide)) (m_X5_appended (yC_hb Y σ) (yC_ht Y) (yC_htc Y) (yC_hts Y) (yC_hp Y _) (yC_hp Y _) hr) rfl rfl (Nat.le_of_ble_eq_true rfl) (x_room E _) dL_areAppendsSo_33) (fun r33 hf => ?_)
          refine x_istore (lv' := [(6, .int r33), (5, .int r24), (0, .ref (κ.S0 + (b + 0))), (1, .int r3), (2, .int v2_14), (3, .int v3_14), (4, .int v4_14)]) X dL_areAppendsSo_36 (by decide) rfl ?_
          refine x_aload_n X dL_areAppendsSo_38 rfl 2 rfl ?_
          refine x_iload X dL_areAppendsSo_39 6 rfl ?_
          refine x_iconst (v := 4) X dL_areAppendsSo_41 (by decide) ?_
          refine x_callR (rest := []) X hf (fun r hr => x_cV (ci := 5) X cm_X5_appended lkV_L_52 rfl ⟨Nat.le_of_ble_eq_true rfl, Nat.le_of_ble_eq_true rfl⟩ (yC_0 Y) (yC_l Y 0 (by decide)) (m_X5_appended (yC_hb Y σ) (yC_ht Y) (yC_htc Y) (yC_hts Y) (yC_hp Y _) (yC_hp Y _) hr) rfl rfl (Nat.le_of_ble_eq_true rfl) (x_room E _) dL_areAppendsSo_42) (fun r42 hf => ?_)
          refine x_istore (lv' := [(7, .int r42), (6, .int r33), (5, .int r24), (0, .ref (κ.S0 + (b + 0))), (1, .int r3), (2, .int v2_14), (3, .int v3_14), (4, .int v4_14)]) X dL_areAppendsSo_45 (by decide) rfl ?_
          refine x_iload_n X dL_areAppendsSo_47 rfl 5 rfl ?_
          refine x_iload X dL_areAppendsSo_48 2 rfl ?_
          refine x_iconst (v := 2) X dL_areAppendsSo_50 (by decide) ?_
          refine x_join (fun k59 => ∀ (t0_59 : Int32), k59 t0_59 = some r → XG κ σ 59 [(0, .ref (κ.S0 + (b + 0))), (1, .int r3), (3, .int v3_14), (4, .int v4_14), (5, .int r24), (6, .int r33), (7, .int r42)] [.int t0_59, .int v2_14]) hf (fun t0_59 hf => ?_) (fun k59 J59 hf => ?_)
          · refine x_iadd X dL_areAppendsSo_59 ?_
            refine x_istore_n (lv' := [(2, .int (v2_14 + t0_59)), (0, .ref (κ.S0 + (b + 0))), (1, .int r3), (3, .int v3_14), (4, .int v4_14), (5, .int r24), (6, .int r33), (7, .int r42)]) X dL_areAppendsSo_60 rfl (by decide) rfl ?_
            refine x_iload_n X dL_areAppendsSo_61 rfl 3 rfl ?_
            refine x_iload X dL_areAppendsSo_62 5 rfl ?_
            refine x_iconst (v := 3) X dL_areAppendsSo_64 (by decide) ?_
            refine x_join (fun k73 => ∀ (t0_73 : Int32), k73 t0_73 = some r → XG κ σ 73 [(0, .ref (κ.S0 + (b + 0))), (1, .int r3), (2, .int (v2_14 + t0_59)), (4, .int v4_14), (5, .int r24), (6, .int r33), (7, .int r42)] [.int t0_73, .int v3_14]) hf (fun t0_73 hf => ?_) (fun k73 J73 hf => ?_)
            · refine x_iadd X dL_areAppendsSo_73 ?_
              refine x_istore_n (lv' := [(3, .int (v3_14 + t0_73)), (0, .ref (κ.S0 + (b + 0))), (1, .int r3), (2, .int (v2_14 + t0_59)), (4, .int v4_14), (5, .int r24), (6, .int r33), (7, .int r42)]) X dL_areAppendsSo_74 rfl (by decide) rfl ?_
              refine x_iload X dL_areAppendsSo_75 5 rfl ?_
              refine x_iconst (v := 2) X dL_areAppendsSo_77 (by decide) ?_
              refine x_join (fun k86 => ∀ (t0_86 : Int32), k86 t0_86 = some r → XG κ σ 86 [(0, .ref (κ.S0 + (b + 0))), (1, .int r3), (2, .int (v2_14 + t0_59)), (3, .int (v3_14 + t0_73)), (4, .int v4_14), (5, .int r24), (6, .int r33), (7, .int r42)] [.int t0_86]) hf (fun t0_86 hf => ?_) (fun k86 J86 hf => ?_)
              · refine x_iload X dL_areAppendsSo_86 7 rfl ?_
                refine x_bipush (v := (-5)) X dL_areAppendsSo_88 (by decide) ?_
                refine x_join (fun k98 => ∀ (t0_98 : Int32), k98 t0_98 = some r → XG κ σ 98 [(0, .ref (κ.S0 + (b + 0))), (1, .int r3), (2, .int (v2_14 + t0_59)), (3, .int (v3_14 + t0_73)), (4, .int v4_14), (5, .int r24), (6, .int r33), (7, .int r42)] [.int t0_98, .int t0_86]) hf (fun t0_98 hf => ?_) (fun k98 J98 hf => ?_)
                · refine x_icmp_eq (tgt := 133) X dL_areAppendsSo_98 (by decide) hf (fun hf => ?_) (fun hf => ?_)
                  · refine x_iconst (v := 0) X dL_areAppendsSo_133 (by decide) ?_
                    exact x_zretR (σ0 := σ) X E hQ hf dL_areAppendsSo_134
                  · refine x_iload X dL_areAppendsSo_101 5 rfl ?_
                    refine x_iconst (v := 3) X dL_areAppendsSo_103 (by decide) ?_
                    refine x_join (fun k112 => ∀ (t0_112 : Int32), k112 t0_112 = some r → XG κ σ 112 [(0, .ref (κ.S0 + (b + 0))), (1, .int r3), (2, .int (v2_14 + t0_59)), (3, .int (v3_14 + t0_73)), (4, .int v4_14), (5, .int r24), (6, .int r33), (7, .int r42)] [.int t0_112]) hf (fun t0_112 hf => ?_) (fun k112 J112 hf => ?_)
                    · refine x_aload_n X dL_areAppendsSo_112 rfl 0 rfl ?_
                      refine x_iload X dL_areAppendsSo_113 4 rfl ?_
                      refine x_bipush (v := 6) X dL_areAppendsSo_115 (by decide) ?_
                      refine x_callR (rest := [.int t0_112]) X hf (fun r hr => x_cV (ci := 5) X cm_X5_appended lkV_L_52 rfl ⟨Nat.le_of_ble_eq_true rfl, Nat.le_of_ble_eq_true rfl⟩ (yC_0 Y) (yC_l Y 0 (by decide)) (m_X5_appended (yC_hb Y σ) (yC_ht Y) (yC_htc Y) (yC_hts Y) (yC_hp Y _) (yC_hp Y _) hr) rfl rfl (Nat.le_of_ble_eq_true rfl) (x_room E _) dL_areAppendsSo_117) (fun r117 hf => ?_)
                      refine x_bipush (v := (-5)) X dL_areAppendsSo_120 (by decide) ?_
                      refine x_join (fun k130 => ∀ (t0_130 : Int32), k130 t0_130 = some r → XG κ σ 130 [(0, .ref (κ.S0 + (b + 0))), (1, .int r3), (2, .int (v2_14 + t0_59)), (3, .int (v3_14 + t0_73)), (4, .int v4_14), (5, .int r24), (6, .int r33), (7, .int r42)] [.int t0_130, .int t0_112]) hf (fun t0_130 hf => ?_) (fun k130 J130 hf => ?_)
                      · refine x_icmp_ne (tgt := 135) X dL_areAppendsSo_130 (by decide) hf (fun hf => ?_) (fun hf => ?_)
                        · refine x_iload X dL_areAppendsSo_135 5 rfl ?_
                          refine x_iconst (v := 2) X dL_areAppendsSo_137 (by decide) ?_
                          refine x_join (fun k179 => k179 = some r → XG κ σ 179 [(0, .ref (κ.S0 + (b + 0))), (1, .int r3), (2, .int (v2_14 + t0_59)), (3, .int (v3_14 + t0_73)), (4, .int v4_14)] []) hf (fun hf => ?_) (fun k179 J179 hf => ?_)
                          · refine x_iinc (v := v4_14 + 1) (lv' := [(4, .int (v4_14 + 1)), (0, .ref (κ.S0 + (b + 0))), (1, .int r3), (2, .int (v2_14 + t0_59)), (3, .int (v3_14 + t0_73))]) X dL_areAppendsSo_179 4 rfl rfl (by decide) rfl ?_
                            refine x_goto (tgt := 14) X dL_areAppendsSo_182 (by decide) ?_
                            refine x_sub [1, 2, 3, 4, 0] rfl ?_
                            exact ih14 (v2_14 + t0_59) (v3_14 + t0_73) (v4_14 + 1) hf
                          · refine x_icmp_ne (tgt := 179) X dL_areAppendsSo_138 (by decide) hf (fun hf => ?_) (fun hf => ?_)
                            · refine x_sub [0, 1, 2, 3, 4] rfl ?_
                              exact J179 hf
                            · refine x_aload_n X dL_areAppendsSo_141 rfl 0 rfl ?_
                              refine x_iload X dL_areAppendsSo_142 4 rfl ?_
                              refine x_bipush (v := 7) X dL_areAppendsSo_144 (by decide) ?_
                              refine x_callR (rest := []) X hf (fun r hr => x_cV (ci := 5) X cm_X5_appended lkV_L_52 rfl ⟨Nat.le_of_ble_eq_true rfl, Nat.le_of_ble_eq_true rfl⟩ (yC_0 Y) (yC_l Y 0 (by decide)) (m_X5_appended (yC_hb Y σ) (yC_ht Y) (yC_htc Y) (yC_hts Y) (yC_hp Y _) (yC_hp Y _) hr) rfl rfl (Nat.le_of_ble_eq_true rfl) (x_room E _) dL_areAppendsSo_146) (fun r146 hf => ?_)
                              refine x_aload_n X dL_areAppendsSo_149 rfl 0 rfl ?_
                              refine x_iload X dL_areAppendsSo_150 6 rfl ?_
                              refine x_iconst (v := 4) X dL_areAppendsSo_152 (by decide) ?_
                              refine x_callR (rest := [.int r146]) X hf (fun r hr => x_cV (ci := 5) X cm_X5_zone lkV_L_43 rfl ⟨Nat.le_of_ble_eq_true rfl, Nat.le_of_ble_eq_true rfl⟩ (yC_0 Y) (yC_l Y 0 (by decide)) (m_X5_zone (yC_hb Y σ) (yC_ht Y) (yC_htc Y) (yC_hts Y) (yC_hp Y _) (yC_hp Y _) hr) rfl rfl (Nat.le_of_ble_eq_true rfl) (x_room E _) dL_areAppendsSo_153) (fun r153 hf => ?_)
                              refine x_icmp_ne (tgt := 179) X dL_areAppendsSo_156 (by decide) hf (fun hf => ?_) (fun hf => ?_)
                              · refine x_sub [0, 1, 2, 3, 4] rfl ?_
                                exact J179 hf
                              · refine x_aload_n X dL_areAppendsSo_159 rfl 0 rfl ?_
                                refine x_iload X dL_areAppendsSo_160 6 rfl ?_
                                refine x_iload X dL_areAppendsSo_162 7 rfl ?_
                                refine x_callR (rest := []) X hf (fun r hr => x_cV (ci := 5) X cm_X5_read lkV_L_46 rfl ⟨Nat.le_of_ble_eq_true rfl, Nat.le_of_ble_eq_true rfl⟩ (yC_0 Y) (yC_l Y 0 (by decide)) (m_X5_read (yC_hb Y σ) (yC_ht Y) (yC_htc Y) (yC_hts Y) (yC_hp Y _) (yC_hp Y _) hr) rfl rfl (Nat.le_of_ble_eq_true rfl) (x_room E _) dL_areAppendsSo_164) (fun r164 hf => ?_)
                                refine x_aload_n X dL_areAppendsSo_167 rfl 0 rfl ?_
                                refine x_iload X dL_areAppendsSo_168 4 rfl ?_
                                refine x_iconst (v := 2) X dL_areAppendsSo_170 (by decide) ?_
                                refine x_callR (rest := [.int r164]) X hf (fun r hr => x_cV (ci := 5) X cm_X5_appended lkV_L_52 rfl ⟨Nat.le_of_ble_eq_true rfl, Nat.le_of_ble_eq_true rfl⟩ (yC_0 Y) (yC_l Y 0 (by decide)) (m_X5_appended (yC_hb Y σ) (yC_ht Y) (yC_htc Y) (yC_hts Y) (yC_hp Y _) (yC_hp Y _) hr) rfl rfl (Nat.le_of_ble_eq_true rfl) (x_room E _) dL_areAppendsSo_171) (fun r171 hf => ?_)
                                refine x_icmp_eq (tgt := 179) X dL_areAppendsSo_174 (by decide) hf (fun hf => ?_) (fun hf => ?_)
                                · refine x_sub [0, 1, 2, 3, 4] rfl ?_
                                  exact J179 hf
                                · refine x_iconst (v := 0) X dL_areAppendsSo_177 (by decide) ?_
                                  exact x_zretR (σ0 := σ) X E hQ hf dL_areAppendsSo_178
                        · refine x_iconst (v := 0) X dL_areAppendsSo_133 (by decide) ?_
                          exact x_zretR (σ0 := σ) X E hQ hf dL_areAppendsSo_134
                      · refine x_icmp_ne (tgt := 129) X dL_areAppendsSo_122 (by decide) hf (fun hf => ?_) (fun hf => ?_)
                        · refine x_iconst (v := 0) X dL_areAppendsSo_129 (by decide) ?_
                          exact J130 0 hf
                        · refine x_iconst (v := 1) X dL_areAppendsSo_125 (by decide) ?_
                          refine x_goto (tgt := 130) X dL_areAppendsSo_126 (by decide) ?_
                          exact J130 1 hf
                    · refine x_icmp_ne (tgt := 111) X dL_areAppendsSo_104 (by decide) hf (fun hf => ?_) (fun hf => ?_)
                      · refine x_iconst (v := 0) X dL_areAppendsSo_111 (by decide) ?_
                        exact J112 0 hf
                      · refine x_iconst (v := 1) X dL_areAppendsSo_107 (by decide) ?_
                        refine x_goto (tgt := 112) X dL_areAppendsSo_108 (by decide) ?_
                        exact J112 1 hf
                · refine x_icmp_ne (tgt := 97) X dL_areAppendsSo_90 (by decide) hf (fun hf => ?_) (fun hf => ?_)
                  · refine x_iconst (v := 0) X dL_areAppendsSo_97 (by decide) ?_
                    exact J98 0 hf
                  · refine x_iconst (v := 1) X dL_areAppendsSo_93 (by decide) ?_
                    refine x_goto (tgt := 98) X dL_areAppendsSo_94 (by decide) ?_
                    exact J98 1 hf
              · refine x_icmp_ne (tgt := 85) X dL_areAppendsSo_78 (by decide) hf (fun hf => ?_) (fun hf => ?_)
                · refine x_iconst (v := 0) X dL_areAppendsSo_85 (by decide) ?_
                  refine x_sub [1, 2, 3, 0, 4, 5, 6, 7] rfl ?_
                  exact J86 0 hf
                · refine x_iconst (v := 1) X dL_areAppendsSo_81 (by decide) ?_
                  refine x_goto (tgt := 86) X dL_areAppendsSo_82 (by decide) ?_
                  refine x_sub [1, 2, 3, 0, 4, 5, 6, 7] rfl ?_
                  exact J86 1 hf
            · refine x_icmp_ne (tgt := 72) X dL_areAppendsSo_65 (by decide) hf (fun hf => ?_) (fun hf => ?_)
              · refine x_iconst (v := 0) X dL_areAppendsSo_72 (by decide) ?_
                refine x_sub [1, 2, 0, 4, 5, 6, 7] rfl ?_
                exact J73 0 hf
              · refine x_iconst (v := 1) X dL_areAppendsSo_68 (by decide) ?_
                refine x_goto (tgt := 73) X dL_areAppendsSo_69 (by decide) ?_
                refine x_sub [1, 2, 0, 4, 5, 6, 7] rfl ?_
                exact J73 1 hf
          · refine x_icmp_ne (tgt := 58) X dL_areAppendsSo_51 (by decide) hf (fun hf => ?_) (fun hf => ?_)
            · refine x_iconst (v := 0) X dL_areAppendsSo_58 (by decide) ?_
              refine x_sub [3, 4, 6, 7, 2, 1, 0] rfl ?_
              exact J59 0 hf
            · refine x_iconst (v := 1) X dL_areAppendsSo_54 (by decide) ?_
              refine x_goto (tgt := 59) X dL_areAppendsSo_55 (by decide) ?_
              refine x_sub [3, 4, 6, 7, 2, 1, 0] rfl ?_
              exact J59 1 hf
    refine x_sub [4, 3, 2, 1, 0] rfl ?_
    exact LL FU 0 0 0 hf
def f_L_isToldSo (σ : CS) (p1 : Int32) (p2 : Int32) : Option (Int32 × CS) :=
  oJ (κ := Option (Int32 × CS)) (if 99 < p2 then ((oB 1).map (fun x => (x, σ))) else (if p2 = (-5) then ((oB 1).map (fun x => (x, σ))) else ((oB 0).map (fun x => (x, σ))))) (fun k11 => if p2 < 1 then k11 else (if p2 ≤ 99 then (oW (f_X5_pass σ p2) (fun t => t) (fun r31 s31 => oR (f_X5_appended s31 p1 3) (fun r38 => oJ (κ := Int32 → Option (Int32 × CS)) (fun t0_66 => oW (f_X5_undo s31) (fun t => t) (fun r68 s68 => if p2 ≤ 1 then ((oB t0_66).map (fun x => (x, s68))) else (oW (f_X5_pass s68 (p2 - 1)) (fun t => t) (fun r81 s81 => oJ (κ := Int32 → Option (Int32 × CS)) (fun t0_104 => oW (f_X5_undo s81) (fun t => t) (fun r106 s106 => (oB t0_104).map (fun x => (x, s106)))) (fun k104 => oJ (κ := Option (Int32 × CS)) (k104 0) (fun k103 => if t0_66 = 0 then k103 else (oR (f_X5_appended s81 p1 3) (fun r92 => if 2 ≤ r92 then k103 else (k104 1))))))))) (fun k66 => oJ (κ := Option (Int32 × CS)) (k66 0) (fun k65 => if r38 = 2 then (oR (f_X5_appended s31 p1 5) (fun r48 => oR (f_X5_count s31 0) (fun r53 => if r48 = (r53 - 1) then (k66 1) else k65))) else k65))))) else k11))
set_option maxRecDepth 100000 in
set_option maxHeartbeats 4000000 in
theorem m_L_isToldSo {l : Launch} {G : va_G} {tys : List (ClassId × FieldType)} {S0 : Nat} {h h1 h2 : Nat → va_E} {b cN' : Nat} {cI cC cS' : ClassId} {σ : CS} {τ : CS} {p1 : Int32} {p2 : Int32} {r : Int32} (hb : b + 159 ≤ cN') (ht : tys[0]? = some (cI, .int)) (htc : tys[1]? = some (cC, .char)) (hts : tys[3]? = some (cS', .object "AppendZones$State")) (e1 : h1 = ov h b (cl S0 cI cC cS' b σ)) (e2 : h2 = ov h b (cl S0 cI cC cS' b τ)) (hf : f_L_isToldSo σ p1 p2 = some (r, τ)) : XMet l G tys S0 cN' yL_isToldSo cL_isToldSo 4 (some .boolean) 6 147 [.ref (S0 + (b + 0)), .int p1, .int p2] h1 cN' (some (.int r)) h2 0 0 := by
  subst e1; subst e2
  refine XMet.ofE (ST := CS) (HP := fun σ => ov h b (cl S0 cI cC cS' b σ)) σ τ (by decide) (Nat.le_of_ble_eq_true rfl) ?_
  intro κ g1 g2 g3 g4 g5 g6 E X hQ
  subst g1; subst g2; subst g3; subst g4
  have Y : YC κ h b cI cC cS' := ⟨fun σ => by rw [g5], fun σ => by rw [g6]; exact hb, ht, htc, hts⟩
  have X : XC κ cL_isToldSo 4 RL (some .boolean) 6 147 := X
  show XG κ σ 0 [(0, .ref (κ.S0 + (b + 0))), (1, .int p1), (2, .int p2)] []
  unfold f_L_isToldSo at hf
  refine x_iload_n X dL_isToldSo_0 rfl 2 rfl ?_
  refine x_iconst (v := 1) X dL_isToldSo_1 (by decide) ?_
  refine x_join (fun k11 => k11 = some (r, τ) → XG κ σ 11 [(2, .int p2)] []) hf (fun hf => ?_) (fun k11 J11 hf => ?_)
  · refine x_iload_n X dL_isToldSo_11 rfl 0 rfl ?_
    refine x_bipush (v := 99) X dL_isToldSo_12 (by decide) ?_
    refine x_icmp_gt (tgt := 23) X dL_isToldSo_14 (by decide) hf (fun hf => ?_) (fun hf => ?_)
    · refine x_iconst (v := 1) X dL_isToldSo_23 (by decide) ?_
      refine x_goto (tgt := 28) X dL_isToldSo_24 (by decide) ?_
      exact x_zretW (σ0 := σ) X E hQ hf dL_isToldSo_28
    · refine x_iload_n X dL_isToldSo_17 rfl 0 rfl ?_
      refine x_bipush (v := (-5)) X dL_isToldSo_18 (by decide) ?_
      refine x_icmp_ne (tgt := 27) X dL_isToldSo_20 (by decide) hf (fun hf => ?_) (fun hf => ?_)
      · refine x_iconst (v := 0) X dL_isToldSo_27 (by decide) ?_
        exact x_zretW (σ0 := σ) X E hQ hf dL_isToldSo_28
      · refine x_iconst (v := 1) X dL_isToldSo_23 (by decide) ?_
        refine x_goto (tgt := 28) X dL_isToldSo_24 (by decide) ?_
        exact x_zretW (σ0 := σ) X E hQ hf dL_isToldSo_28
  · refine x_icmp_lt (tgt := 11) X dL_isToldSo_2 (by decide) hf (fun hf => ?_) (fun hf => ?_)
    · refine x_sub [2] rfl ?_
      exact J11 hf
    · refine x_iload_n X dL_isToldSo_5 rfl 2 rfl ?_
      refine x_bipush (v := 99) X dL_isToldSo_6 (by decide) ?_
      refine x_icmp_le (tgt := 29) X dL_isToldSo_8 (by decide) hf (fun hf => ?_) (fun hf => ?_)
      · refine x_aload_n X dL_isToldSo_29 rfl 0 rfl ?_
        refine x_iload_n X dL_isToldSo_30 rfl 2 rfl ?_
        refine x_callW (rest := []) (w := fun t => t) X E.1 hf (fun r t hr => x_cV (ci := 5) X cm_X5_pass lkV_L_40 rfl ⟨Nat.le_of_ble_eq_true rfl, Nat.le_of_ble_eq_true rfl⟩ (yC_0 Y) (yC_l Y 0 (by decide)) (m_X5_pass (yC_hb Y σ) (yC_ht Y) (yC_htc Y) (yC_hts Y) (yC_hp Y _) (yC_hp Y _) hr) rfl rfl (Nat.le_of_ble_eq_true rfl) (x_room E _) dL_isToldSo_31) (fun r31 s31 hf => ?_)
        refine x_pop X dL_isToldSo_34 rfl ?_
        refine x_aload_n X dL_isToldSo_35 rfl 0 rfl ?_
        refine x_iload_n X dL_isToldSo_36 rfl 1 rfl ?_
        refine x_iconst (v := 3) X dL_isToldSo_37 (by decide) ?_
        refine x_callR (rest := []) X hf (fun r hr => x_cV (ci := 5) X cm_X5_appended lkV_L_52 rfl ⟨Nat.le_of_ble_eq_true rfl, Nat.le_of_ble_eq_true rfl⟩ (yC_0 Y) (yC_l Y 0 (by decide)) (m_X5_appended (yC_hb Y s31) (yC_ht Y) (yC_htc Y) (yC_hts Y) (yC_hp Y _) (yC_hp Y _) hr) rfl rfl (Nat.le_of_ble_eq_true rfl) (x_room E _) dL_isToldSo_38) (fun r38 hf => ?_)
        refine x_iconst (v := 2) X dL_isToldSo_41 (by decide) ?_
        refine x_join (fun k66 => ∀ (t0_66 : Int32), k66 t0_66 = some (r, τ) → XG κ s31 66 [(0, .ref (κ.S0 + (b + 0))), (1, .int p1), (2, .int p2)] [.int t0_66]) hf (fun t0_66 hf => ?_) (fun k66 J66 hf => ?_)
        · refine x_istore_n (lv' := [(3, .int t0_66), (0, .ref (κ.S0 + (b + 0))), (1, .int p1), (2, .int p2)]) X dL_isToldSo_66 rfl (by decide) rfl ?_
          refine x_aload_n X dL_isToldSo_67 rfl 1 rfl ?_
          refine x_callW (rest := []) (w := fun t => t) X E.1 hf (fun r t hr => x_cV (ci := 5) X cm_X5_undo lkV_L_61 rfl ⟨Nat.le_of_ble_eq_true rfl, Nat.le_of_ble_eq_true rfl⟩ (yC_0 Y) (yC_l Y 0 (by decide)) (m_X5_undo (yC_hb Y s31) (yC_ht Y) (yC_htc Y) (yC_hts Y) (yC_hp Y _) (yC_hp Y _) hr) rfl rfl (Nat.le_of_ble_eq_true rfl) (x_room E _) dL_isToldSo_68) (fun r68 s68 hf => ?_)
          refine x_pop X dL_isToldSo_71 rfl ?_
          refine x_iload_n X dL_isToldSo_72 rfl 3 rfl ?_
          refine x_iconst (v := 1) X dL_isToldSo_73 (by decide) ?_
          refine x_icmp_le (tgt := 110) X dL_isToldSo_74 (by decide) hf (fun hf => ?_) (fun hf => ?_)
          · refine x_iload_n X dL_isToldSo_110 rfl 0 rfl ?_
            exact x_zretW (σ0 := σ) X E hQ hf dL_isToldSo_111
          · refine x_aload_n X dL_isToldSo_77 rfl 1 rfl ?_
            refine x_iload_n X dL_isToldSo_78 rfl 3 rfl ?_
            refine x_iconst (v := 1) X dL_isToldSo_79 (by decide) ?_
            refine x_isub X dL_isToldSo_80 ?_
            refine x_callW (rest := []) (w := fun t => t) X E.1 hf (fun r t hr => x_cV (ci := 5) X cm_X5_pass lkV_L_40 rfl ⟨Nat.le_of_ble_eq_true rfl, Nat.le_of_ble_eq_true rfl⟩ (yC_0 Y) (yC_l Y 0 (by decide)) (m_X5_pass (yC_hb Y s68) (yC_ht Y) (yC_htc Y) (yC_hts Y) (yC_hp Y _) (yC_hp Y _) hr) rfl rfl (Nat.le_of_ble_eq_true rfl) (x_room E _) dL_isToldSo_81) (fun r81 s81 hf => ?_)
            refine x_pop X dL_isToldSo_84 rfl ?_
            refine x_iload_n X dL_isToldSo_85 rfl 0 rfl ?_
            refine x_join (fun k104 => ∀ (t0_104 : Int32), k104 t0_104 = some (r, τ) → XG κ s81 104 [(0, .ref (κ.S0 + (b + 0)))] [.int t0_104]) hf (fun t0_104 hf => ?_) (fun k104 J104 hf => ?_)
            · refine x_istore_n (lv' := [(3, .int t0_104), (0, .ref (κ.S0 + (b + 0)))]) X dL_isToldSo_104 rfl (by decide) rfl ?_
              refine x_aload_n X dL_isToldSo_105 rfl 1 rfl ?_
              refine x_callW (rest := []) (w := fun t => t) X E.1 hf (fun r t hr => x_cV (ci := 5) X cm_X5_undo lkV_L_61 rfl ⟨Nat.le_of_ble_eq_true rfl, Nat.le_of_ble_eq_true rfl⟩ (yC_0 Y) (yC_l Y 0 (by decide)) (m_X5_undo (yC_hb Y s81) (yC_ht Y) (yC_htc Y) (yC_hts Y) (yC_hp Y _) (yC_hp Y _) hr) rfl rfl (Nat.le_of_ble_eq_true rfl) (x_room E _) dL_isToldSo_106) (fun r106 s106 hf => ?_)
              refine x_pop X dL_isToldSo_109 rfl ?_
              refine x_iload_n X dL_isToldSo_110 rfl 0 rfl ?_
              exact x_zretW (σ0 := σ) X E hQ hf dL_isToldSo_111
            · refine x_join (fun k103 => k103 = some (r, τ) → XG κ s81 103 [(0, .ref (κ.S0 + (b + 0)))] []) hf (fun hf => ?_) (fun k103 J103 hf => ?_)
              · refine x_iconst (v := 0) X dL_isToldSo_103 (by decide) ?_
                exact J104 0 hf
              · refine x_if_eq (tgt := 103) X dL_isToldSo_86 (by decide) hf (fun hf => ?_) (fun hf => ?_)
                · refine x_sub [1] rfl ?_
                  exact J103 hf
                · refine x_aload_n X dL_isToldSo_89 rfl 1 rfl ?_
                  refine x_iload_n X dL_isToldSo_90 rfl 2 rfl ?_
                  refine x_iconst (v := 3) X dL_isToldSo_91 (by decide) ?_
                  refine x_callR (rest := []) X hf (fun r hr => x_cV (ci := 5) X cm_X5_appended lkV_L_52 rfl ⟨Nat.le_of_ble_eq_true rfl, Nat.le_of_ble_eq_true rfl⟩ (yC_0 Y) (yC_l Y 0 (by decide)) (m_X5_appended (yC_hb Y s81) (yC_ht Y) (yC_htc Y) (yC_hts Y) (yC_hp Y _) (yC_hp Y _) hr) rfl rfl (Nat.le_of_ble_eq_true rfl) (x_room E _) dL_isToldSo_92) (fun r92 hf => ?_)
                  refine x_iconst (v := 2) X dL_isToldSo_95 (by decide) ?_
                  refine x_icmp_ge (tgt := 103) X dL_isToldSo_96 (by decide) hf (fun hf => ?_) (fun hf => ?_)
                  · refine x_sub [1] rfl ?_
                    exact J103 hf
                  · refine x_iconst (v := 1) X dL_isToldSo_99 (by decide) ?_
                    refine x_goto (tgt := 104) X dL_isToldSo_100 (by decide) ?_
                    refine x_sub [1] rfl ?_
                    exact J104 1 hf
        · refine x_join (fun k65 => k65 = some (r, τ) → XG κ s31 65 [(0, .ref (κ.S0 + (b + 0))), (1, .int p1), (2, .int p2)] []) hf (fun hf => ?_) (fun k65 J65 hf => ?_)
          · refine x_iconst (v := 0) X dL_isToldSo_65 (by decide) ?_
            exact J66 0 hf
          · refine x_icmp_ne (tgt := 65) X dL_isToldSo_42 (by decide) hf (fun hf => ?_) (fun hf => ?_)
            · exact J65 hf
            · refine x_aload_n X dL_isToldSo_45 rfl 0 rfl ?_
              refine x_iload_n X dL_isToldSo_46 rfl 1 rfl ?_
              refine x_iconst (v := 5) X dL_isToldSo_47 (by decide) ?_
              refine x_callR (rest := []) X hf (fun r hr => x_cV (ci := 5) X cm_X5_appended lkV_L_52 rfl ⟨Nat.le_of_ble_eq_true rfl, Nat.le_of_ble_eq_true rfl⟩ (yC_0 Y) (yC_l Y 0 (by decide)) (m_X5_appended (yC_hb Y s31) (yC_ht Y) (yC_htc Y) (yC_hts Y) (yC_hp Y _) (yC_hp Y _) hr) rfl rfl (Nat.le_of_ble_eq_true rfl) (x_room E _) dL_isToldSo_48) (fun r48 hf => ?_)
              refine x_aload_n X dL_isToldSo_51 rfl 0 rfl ?_
              refine x_iconst (v := 0) X dL_isToldSo_52 (by decide) ?_
              refine x_callR (rest := [.int r48]) X hf (fun r hr => x_cV (ci := 5) X cm_X5_count lkV_L_49 rfl ⟨Nat.le_of_ble_eq_true rfl, Nat.le_of_ble_eq_true rfl⟩ (yC_0 Y) (yC_l Y 0 (by decide)) (m_X5_count (yC_hb Y s31) (yC_ht Y) (yC_htc Y) (yC_hts Y) (yC_hp Y _) (yC_hp Y _) hr) rfl rfl (Nat.le_of_ble_eq_true rfl) (x_room E _) dL_isToldSo_53) (fun r53 hf => ?_)
              refine x_iconst (v := 1) X dL_isToldSo_56 (by decide) ?_
              refine x_isub X dL_isToldSo_57 ?_
              refine x_icmp_ne (tgt := 65) X dL_isToldSo_58 (by decide) hf (fun hf => ?_) (fun hf => ?_)
              · exact J65 hf
              · refine x_iconst (v := 1) X dL_isToldSo_61 (by decide) ?_
                refine x_goto (tgt := 66) X dL_isToldSo_62 (by decide) ?_
                exact J66 1 hf
      · refine x_sub [2] rfl ?_
        exact J11 hf
def f_L_isWouldSo (σ : CS) (p1 : Int32) (p2 : Int32) : Option (Int32 × CS) :=
  oW (f_X5_would σ p2 0) (fun t => t) (fun r3 s3 => oW (f_X5_would s3 p2 1) (fun t => t) (fun r10 s10 => oW (f_X5_append s10 p1 p2 7) (fun t => t) (fun r20 s20 => if 0 ≤ r20 then (oJ (κ := Int32 → Option (Int32 × CS)) (fun t0_54 => oJ (κ := Int32 → Option (Int32 × CS)) (fun t0_66 => oJ (κ := Int32 → CS → Option (Int32 × CS)) (fun t0_85 s_85 => oJ (κ := Int32 → CS → Option (Int32 × CS)) (fun u6_134 s_134 => oW (f_X5_undo s_134) (fun t => t) (fun r135 s135 => (oB u6_134).map (fun x => (x, s135)))) (fun k134 => if r10 ≤ 0 then (k134 t0_85 s_85) else (if 99 < r10 then (k134 t0_85 s_85) else (oW (f_X5_pass s_85 r10) (fun t => t) (fun r102 s102 => oJ (κ := Int32 → Option (Int32 × CS)) (fun t0_127 => oW (f_X5_undo s102) (fun t => t) (fun r130 s130 => k134 t0_127 s130)) (fun k127 => oJ (κ := Option (Int32 × CS)) (k127 0) (fun k126 => if t0_85 = 0 then k126 else (oR (f_X5_appended s102 r20 4) (fun r115 => if r115 = r3 then (k127 1) else k126))))))))) (fun k85 => oJ (κ := CS → Option (Int32 × CS)) (fun s_84 => k85 0 s_84) (fun k84 => if t0_54 = t0_66 then (oW (f_X5_toldIn s20 r20) (fun t => t) (fun r72 s72 => if r72 = r10 then (k85 1 s72) else (k84 s72))) else (k84 s20)))) (fun k66 => if r10 = (-5) then (k66 1) else (k66 0))) (fun k54 => if r3 = (-5) then (k54 1) else (k54 0))) else (if r20 = (-3) then ((oB 1).map (fun x => (x, s20))) else ((oB 0).map (fun x => (x, s20)))))))
set_option maxRecDepth 100000 in
set_option maxHeartbeats 4000000 in
theorem m_L_isWouldSo {l : Launch} {G : va_G} {tys : List (ClassId × FieldType)} {S0 : Nat} {h h1 h2 : Nat → va_E} {b cN' : Nat} {cI cC cS' : ClassId} {σ : CS} {τ : CS} {p1 : Int32} {p2 : Int32} {r : Int32} (hb : b + 159 ≤ cN') (ht : tys[0]? = some (cI, .int)) (htc : tys[1]? = some (cC, .char)) (hts : tys[3]? = some (cS', .object "AppendZones$State")) (e1 : h1 = ov h b (cl S0 cI cC cS' b σ)) (e2 : h2 = ov h b (cl S0 cI cC cS' b τ)) (hf : f_L_isWouldSo σ p1 p2 = some (r, τ)) : XMet l G tys S0 cN' yL_isWouldSo cL_isWouldSo 7 (some .boolean) 6 151 [.ref (S0 + (b + 0)), .int p1, .int p2] h1 cN' (some (.int r)) h2 0 0 := by
  subst e1; subst e2
  refine XMet.ofE (ST := CS) (HP := fun σ => ov h b (cl S0 cI cC cS' b σ)) σ τ (by decide) (Nat.le_of_ble_eq_true rfl) ?_
  intro κ g1 g2 g3 g4 g5 g6 E X hQ
  subst g1; subst g2; subst g3; subst g4
  have Y : YC κ h b cI cC cS' := ⟨fun σ => by rw [g5], fun σ => by rw [g6]; exact hb, ht, htc, hts⟩
  have X : XC κ cL_isWouldSo 7 RL (some .boolean) 6 151 := X
  show XG κ σ 0 [(0, .ref (κ.S0 + (b + 0))), (1, .int p1), (2, .int p2)] []
  unfold f_L_isWouldSo at hf
  refine x_aload_n X dL_isWouldSo_0 rfl 0 rfl ?_
  refine x_iload_n X dL_isWouldSo_1 rfl 2 rfl ?_
  refine x_iconst (v := 0) X dL_isWouldSo_2 (by decide) ?_
  refine x_callW (rest := []) (w := fun t => t) X E.1 hf (fun r t hr => x_cV (ci := 5) X cm_X5_would lkV_L_65 rfl ⟨Nat.le_of_ble_eq_true rfl, Nat.le_of_ble_eq_true rfl⟩ (yC_0 Y) (yC_l Y 0 (by decide)) (m_X5_would (yC_hb Y σ) (yC_ht Y) (yC_htc Y) (yC_hts Y) (yC_hp Y _) (yC_hp Y _) hr) rfl rfl (Nat.le_of_ble_eq_true rfl) (x_room E _) dL_isWouldSo_3) (fun r3 s3 hf => ?_)
  refine x_istore_n (lv' := [(3, .int r3), (0, .ref (κ.S0 + (b + 0))), (1, .int p1), (2, .int p2)]) X dL_isWouldSo_6 rfl (by decide) rfl ?_
  refine x_aload_n X dL_isWouldSo_7 rfl 1 rfl ?_
  refine x_iload_n X dL_isWouldSo_8 rfl 3 rfl ?_
  refine x_iconst (v := 1) X dL_isWouldSo_9 (by decide) ?_
  refine x_callW (rest := []) (w := fun t => t) X E.1 hf (fun r t hr => x_cV (ci := 5) X cm_X5_would lkV_L_65 rfl ⟨Nat.le_of_ble_eq_true rfl, Nat.le_of_ble_eq_true rfl⟩ (yC_0 Y) (yC_l Y 0 (by decide)) (m_X5_would (yC_hb Y s3) (yC_ht Y) (yC_htc Y) (yC_hts Y) (yC_hp Y _) (yC_hp Y _) hr) rfl rfl (Nat.le_of_ble_eq_true rfl) (x_room E _) dL_isWouldSo_10) (fun r10 s10 hf => ?_)
  refine x_istore (lv' := [(4, .int r10), (3, .int r3), (0, .ref (κ.S0 + (b + 0))), (1, .int p1), (2, .int p2)]) X dL_isWouldSo_13 (by decide) rfl ?_
  refine x_aload_n X dL_isWouldSo_15 rfl 2 rfl ?_
  refine x_iload_n X dL_isWouldSo_16 rfl 3 rfl ?_
  refine x_iload_n X dL_isWouldSo_17 rfl 4 rfl ?_
  refine x_bipush (v := 7) X dL_isWouldSo_18 (by decide) ?_
  refine x_callW (rest := []) (w := fun t => t) X E.1 hf (fun r t hr => x_cV (ci := 5) X cm_X5_append lkV_L_14 rfl ⟨Nat.le_of_ble_eq_true rfl, Nat.le_of_ble_eq_true rfl⟩ (yC_0 Y) (yC_l Y 0 (by decide)) (m_X5_append (yC_hb Y s10) (yC_ht Y) (yC_htc Y) (yC_hts Y) (yC_hp Y _) (yC_hp Y _) hr) rfl rfl (Nat.le_of_ble_eq_true rfl) (x_room E _) dL_isWouldSo_20) (fun r20 s20 hf => ?_)
  refine x_istore (lv' := [(5, .int r20), (4, .int r10), (3, .int r3), (0, .ref (κ.S0 + (b + 0))), (1, .int p1), (2, .int p2)]) X dL_isWouldSo_23 (by decide) rfl ?_
  refine x_iload X dL_isWouldSo_25 0 rfl ?_
  refine x_if_ge (tgt := 43) X dL_isWouldSo_27 (by decide) hf (fun hf => ?_) (fun hf => ?_)
  · refine x_iload_n X dL_isWouldSo_43 rfl 2 rfl ?_
    refine x_bipush (v := (-5)) X dL_isWouldSo_44 (by decide) ?_
    refine x_join (fun k54 => ∀ (t0_54 : Int32), k54 t0_54 = some (r, τ) → XG κ s20 54 [(0, .ref (κ.S0 + (b + 0))), (3, .int r3), (4, .int r10), (5, .int r20)] [.int t0_54]) hf (fun t0_54 hf => ?_) (fun k54 J54 hf => ?_)
    · refine x_iload X dL_isWouldSo_54 2 rfl ?_
      refine x_bipush (v := (-5)) X dL_isWouldSo_56 (by decide) ?_
      refine x_join (fun k66 => ∀ (t0_66 : Int32), k66 t0_66 = some (r, τ) → XG κ s20 66 [(0, .ref (κ.S0 + (b + 0))), (3, .int r3), (4, .int r10), (5, .int r20)] [.int t0_66, .int t0_54]) hf (fun t0_66 hf => ?_) (fun k66 J66 hf => ?_)
      · refine x_join (fun k85 => ∀ (t0_85 : Int32) (s_85 : CS), k85 t0_85 s_85 = some (r, τ) → XG κ s_85 85 [(0, .ref (κ.S0 + (b + 0))), (3, .int r3), (4, .int r10), (5, .int r20)] [.int t0_85]) hf (fun t0_85 s_85 hf => ?_) (fun k85 J85 hf => ?_)
        · refine x_istore (lv' := [(6, .int t0_85), (0, .ref (κ.S0 + (b + 0))), (3, .int r3), (4, .int r10), (5, .int r20)]) X dL_isWouldSo_85 (by decide) rfl ?_
          refine x_iload X dL_isWouldSo_87 3 rfl ?_
          refine x_join (fun k134 => ∀ (u6_134 : Int32) (s_134 : CS), k134 u6_134 s_134 = some (r, τ) → XG κ s_134 134 [(0, .ref (κ.S0 + (b + 0))), (6, .int u6_134)] []) hf (fun u6_134 s_134 hf => ?_) (fun k134 J134 hf => ?_)
          · refine x_aload_n X dL_isWouldSo_134 rfl 0 rfl ?_
            refine x_callW (rest := []) (w := fun t => t) X E.1 hf (fun r t hr => x_cV (ci := 5) X cm_X5_undo lkV_L_61 rfl ⟨Nat.le_of_ble_eq_true rfl, Nat.le_of_ble_eq_true rfl⟩ (yC_0 Y) (yC_l Y 0 (by decide)) (m_X5_undo (yC_hb Y s_134) (yC_ht Y) (yC_htc Y) (yC_hts Y) (yC_hp Y _) (yC_hp Y _) hr) rfl rfl (Nat.le_of_ble_eq_true rfl) (x_room E _) dL_isWouldSo_135) (fun r135 s135 hf => ?_)
            refine x_pop X dL_isWouldSo_138 rfl ?_
            refine x_iload X dL_isWouldSo_139 1 rfl ?_
            exact x_zretW (σ0 := σ) X E hQ hf dL_isWouldSo_141
          · refine x_if_le (tgt := 134) X dL_isWouldSo_89 (by decide) hf (fun hf => ?_) (fun hf => ?_)
            · refine x_sub [1, 0] rfl ?_
              exact J134 t0_85 s_85 hf
            · refine x_iload X dL_isWouldSo_92 3 rfl ?_
              refine x_bipush (v := 99) X dL_isWouldSo_94 (by decide) ?_
              refine x_icmp_gt (tgt := 134) X dL_isWouldSo_96 (by decide) hf (fun hf => ?_) (fun hf => ?_)
              · refine x_sub [1, 0] rfl ?_
                exact J134 t0_85 s_85 hf
              · refine x_aload_n X dL_isWouldSo_99 rfl 1 rfl ?_
                refine x_iload X dL_isWouldSo_100 3 rfl ?_
                refine x_callW (rest := []) (w := fun t => t) X E.1 hf (fun r t hr => x_cV (ci := 5) X cm_X5_pass lkV_L_40 rfl ⟨Nat.le_of_ble_eq_true rfl, Nat.le_of_ble_eq_true rfl⟩ (yC_0 Y) (yC_l Y 0 (by decide)) (m_X5_pass (yC_hb Y s_85) (yC_ht Y) (yC_htc Y) (yC_hts Y) (yC_hp Y _) (yC_hp Y _) hr) rfl rfl (Nat.le_of_ble_eq_true rfl) (x_room E _) dL_isWouldSo_102) (fun r102 s102 hf => ?_)
                refine x_pop X dL_isWouldSo_105 rfl ?_
                refine x_iload X dL_isWouldSo_106 0 rfl ?_
                refine x_join (fun k127 => ∀ (t0_127 : Int32), k127 t0_127 = some (r, τ) → XG κ s102 127 [(0, .ref (κ.S0 + (b + 0)))] [.int t0_127]) hf (fun t0_127 hf => ?_) (fun k127 J127 hf => ?_)
                · refine x_istore (lv' := [(6, .int t0_127), (0, .ref (κ.S0 + (b + 0)))]) X dL_isWouldSo_127 (by decide) rfl ?_
                  refine x_aload_n X dL_isWouldSo_129 rfl 1 rfl ?_
                  refine x_callW (rest := []) (w := fun t => t) X E.1 hf (fun r t hr => x_cV (ci := 5) X cm_X5_undo lkV_L_61 rfl ⟨Nat.le_of_ble_eq_true rfl, Nat.le_of_ble_eq_true rfl⟩ (yC_0 Y) (yC_l Y 0 (by decide)) (m_X5_undo (yC_hb Y s102) (yC_ht Y) (yC_htc Y) (yC_hts Y) (yC_hp Y _) (yC_hp Y _) hr) rfl rfl (Nat.le_of_ble_eq_true rfl) (x_room E _) dL_isWouldSo_130) (fun r130 s130 hf => ?_)
                  refine x_pop X dL_isWouldSo_133 rfl ?_
                  refine x_sub [1, 0] rfl ?_
                  exact J134 t0_127 s130 hf
                · refine x_join (fun k126 => k126 = some (r, τ) → XG κ s102 126 [(0, .ref (κ.S0 + (b + 0)))] []) hf (fun hf => ?_) (fun k126 J126 hf => ?_)
                  · refine x_iconst (v := 0) X dL_isWouldSo_126 (by decide) ?_
                    exact J127 0 hf
                  · refine x_if_eq (tgt := 126) X dL_isWouldSo_108 (by decide) hf (fun hf => ?_) (fun hf => ?_)
                    · refine x_sub [1] rfl ?_
                      exact J126 hf
                    · refine x_aload_n X dL_isWouldSo_111 rfl 1 rfl ?_
                      refine x_iload X dL_isWouldSo_112 4 rfl ?_
                      refine x_iconst (v := 4) X dL_isWouldSo_114 (by decide) ?_
                      refine x_callR (rest := []) X hf (fun r hr => x_cV (ci := 5) X cm_X5_appended lkV_L_52 rfl ⟨Nat.le_of_ble_eq_true rfl, Nat.le_of_ble_eq_true rfl⟩ (yC_0 Y) (yC_l Y 0 (by decide)) (m_X5_appended (yC_hb Y s102) (yC_ht Y) (yC_htc Y) (yC_hts Y) (yC_hp Y _) (yC_hp Y _) hr) rfl rfl (Nat.le_of_ble_eq_true rfl) (x_room E _) dL_isWouldSo_115) (fun r115 hf => ?_)
                      refine x_iload_n X dL_isWouldSo_118 rfl 2 rfl ?_
                      refine x_icmp_ne (tgt := 126) X dL_isWouldSo_119 (by decide) hf (fun hf => ?_) (fun hf => ?_)
                      · refine x_sub [1] rfl ?_
                        exact J126 hf
                      · refine x_iconst (v := 1) X dL_isWouldSo_122 (by decide) ?_
                        refine x_goto (tgt := 127) X dL_isWouldSo_123 (by decide) ?_
                        refine x_sub [1] rfl ?_
                        exact J127 1 hf
        · refine x_join (fun k84 => ∀  (s_84 : CS), k84 s_84 = some (r, τ) → XG κ s_84 84 [(0, .ref (κ.S0 + (b + 0))), (3, .int r3), (4, .int r10), (5, .int r20)] []) hf (fun s_84 hf => ?_) (fun k84 J84 hf => ?_)
          · refine x_iconst (v := 0) X dL_isWouldSo_84 (by decide) ?_
            exact J85 0 s_84 hf
          · refine x_icmp_ne (tgt := 84) X dL_isWouldSo_66 (by decide) hf (fun hf => ?_) (fun hf => ?_)
            · exact J84 s20 hf
            · refine x_aload_n X dL_isWouldSo_69 rfl 0 rfl ?_
              refine x_iload X dL_isWouldSo_70 3 rfl ?_
              refine x_callW (rest := []) (w := fun t => t) X E.1 hf (fun r t hr => x_cV (ci := 5) X cm_X5_toldIn lkV_L_68 rfl ⟨Nat.le_of_ble_eq_true rfl, Nat.le_of_ble_eq_true rfl⟩ (yC_0 Y) (yC_l Y 0 (by decide)) (m_X5_toldIn (yC_hb Y s20) (yC_ht Y) (yC_htc Y) (yC_hts Y) (yC_hp Y _) (yC_hp Y _) hr) rfl rfl (Nat.le_of_ble_eq_true rfl) (x_room E _) dL_isWouldSo_72) (fun r72 s72 hf => ?_)
              refine x_iload X dL_isWouldSo_75 2 rfl ?_
              refine x_icmp_ne (tgt := 84) X dL_isWouldSo_77 (by decide) hf (fun hf => ?_) (fun hf => ?_)
              · exact J84 s72 hf
              · refine x_iconst (v := 1) X dL_isWouldSo_80 (by decide) ?_
                refine x_goto (tgt := 85) X dL_isWouldSo_81 (by decide) ?_
                exact J85 1 s72 hf
      · refine x_icmp_ne (tgt := 65) X dL_isWouldSo_58 (by decide) hf (fun hf => ?_) (fun hf => ?_)
        · refine x_iconst (v := 0) X dL_isWouldSo_65 (by decide) ?_
          exact J66 0 hf
        · refine x_iconst (v := 1) X dL_isWouldSo_61 (by decide) ?_
          refine x_goto (tgt := 66) X dL_isWouldSo_62 (by decide) ?_
          exact J66 1 hf
    · refine x_icmp_ne (tgt := 53) X dL_isWouldSo_46 (by decide) hf (fun hf => ?_) (fun hf => ?_)
      · refine x_iconst (v := 0) X dL_isWouldSo_53 (by decide) ?_
        refine x_sub [3, 2, 1, 0] rfl ?_
        exact J54 0 hf
      · refine x_iconst (v := 1) X dL_isWouldSo_49 (by decide) ?_
        refine x_goto (tgt := 54) X dL_isWouldSo_50 (by decide) ?_
        refine x_sub [3, 2, 1, 0] rfl ?_
        exact J54 1 hf
  · refine x_iload X dL_isWouldSo_30 0 rfl ?_
    refine x_bipush (v := (-3)) X dL_isWouldSo_32 (by decide) ?_
    refine x_icmp_ne (tgt := 41) X dL_isWouldSo_34 (by decide) hf (fun hf => ?_) (fun hf => ?_)
    · refine x_iconst (v := 0) X dL_isWouldSo_41 (by decide) ?_
      exact x_zretW (σ0 := σ) X E hQ hf dL_isWouldSo_42
    · refine x_iconst (v := 1) X dL_isWouldSo_37 (by decide) ?_
      refine x_goto (tgt := 42) X dL_isWouldSo_38 (by decide) ?_
      exact x_zretW (σ0 := σ) X E hQ hf dL_isWouldSo_42
def f_L_cell (Ls : Nat) (xs : Nat → Int32) (p1 : Int32) : Option Int32 :=
  if (Int32.ofNat Ls) ≤ p1 then (some (((7919 : Int32) * (p1 + 3)) * (p1 + 11))) else (oA Ls xs p1 (fun x8 => some x8))
set_option maxRecDepth 100000 in
set_option maxHeartbeats 4000000 in
theorem m_L_cell {l : Launch} {G : va_G} {tys : List (ClassId × FieldType)} {S0 c : Nat} {h1 : Nat → va_E} {bs Ls : Nat} {xs : Nat → Int32} {p1 r : Int32} (hf : f_L_cell Ls xs p1 = some r) : Met l yL_cell (.code yL_cell cL_cell 2 (some .int) :: goodTbl) { frames := 0, cells := 0, slots := 0, locals := 0 } (XPX G tys S0 c h1 bs Ls xs [.ref bs, .int p1]) (XQ G S0 c (some (.int r)) h1) 0 0 (XA S0) := by
  refine XMetX.of (by decide) (Nat.le_of_ble_eq_true rfl) ?_
  intro κ g4 hX hbl hS0 E X hQ
  have X : XC κ cL_cell 2 RL (some .int) 0 0 := X
  show XG κ () 0 [(0, .ref bs), (1, .int p1)] []
  unfold f_L_cell at hf
  refine x_iload_n X dL_cell_0 rfl 1 rfl ?_
  refine x_aload_n X dL_cell_1 rfl 0 rfl ?_
  refine x_slen2 X hX hbl hS0 dL_cell_2 ?_
  refine x_icmp_ge (tgt := 12) X dL_cell_3 (by decide) hf (fun hf => ?_) (fun hf => ?_)
  · refine x_sipush (v := 7919) X dL_cell_12 (by decide) ?_
    refine x_iload_n X dL_cell_15 rfl 1 rfl ?_
    refine x_iconst (v := 3) X dL_cell_16 (by decide) ?_
    refine x_iadd X dL_cell_17 ?_
    refine x_imul X dL_cell_18 ?_
    refine x_iload_n X dL_cell_19 rfl 1 rfl ?_
    refine x_bipush (v := 11) X dL_cell_20 (by decide) ?_
    refine x_iadd X dL_cell_22 ?_
    refine x_imul X dL_cell_23 ?_
    exact x_iretR (σ0 := ()) X E hQ hf dL_cell_24
  · refine x_aload_n X dL_cell_6 rfl 0 rfl ?_
    refine x_iload_n X dL_cell_7 rfl 1 rfl ?_
    refine x_sld2 X hX hbl hS0 dL_cell_8 hf (fun x8 hf => ?_)
    refine x_goto (tgt := 24) X dL_cell_9 (by decide) ?_
    exact x_iretR (σ0 := ()) X E hQ hf dL_cell_24
