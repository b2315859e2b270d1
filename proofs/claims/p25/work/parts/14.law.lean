def f_L_law_L10 (Ls : Nat) (xs : Nat → Int32) (kX10 : CS → Option (Int32)) : Nat → Int32 → CS → Option (Int32)
  | 0, _, _ => none
  | n + 1, v2_10, s10 =>
    if 56 ≤ v2_10 then (kX10 s10) else (oR (f_L_cell Ls xs v2_10) (fun r18 => oR (f_X5_count s10 9) (fun r25 => oW (f_L_does s10 r18) (fun t => t) (fun r32 s32 => if r32 < (-5) then (some 0) else (oR (f_X5_count s32 9) (fun r47 => oJ (κ := Option (Int32)) (oR (f_L_areZonesSo s32) (fun r70 => if r70 = 0 then (some 0) else (oJ (κ := CS → Option (Int32)) (fun s_112 => oR (f_X5_count s_112 7) (fun r115 => oJ (κ := Int32 → Option (Int32)) (fun t0_138 => oJ (κ := CS → Option (Int32)) (fun s_194 => f_L_law_L10 Ls xs kX10 n (v2_10 + 1) s_194) (fun k194 => if r115 ≤ 0 then (k194 s_112) else (if (v2_10 - v2_10 / 3 * 3) = 1 then (oR (f_X5_appended s_112 t0_138 3) (fun r156 => if r156 ≤ 1 then (oW (f_X5_toldIn s_112 t0_138) (fun t => t) (fun r183 s183 => oW (f_L_isToldSo s183 t0_138 r183) (fun t => t) (fun r186 s186 => if r186 = 0 then (some 0) else (k194 s186)))) else (oW (f_X5_toldIn s_112 t0_138) (fun t => t) (fun r166 s166 => if r166 = (-4) then (k194 s166) else (some 0))))) else (k194 s_112)))) (fun k138 => if r115 = 0 then (k138 0) else (oR (f_L_low (r18 >>> (9 &&& 31)) r115) (fun r135 => k138 r135))))) (fun k112 => if (v2_10 - v2_10 / 4 * 4) = 3 then (oR (f_L_areAppendsSo s32) (fun r86 => if r86 = 0 then (some 0) else (oW (f_L_isWouldSo s32 ((r18 >>> (5 &&& 31)) &&& 3) ((r18 >>> (7 &&& 31)) &&& 3)) (fun t => t) (fun r104 s104 => if r104 = 0 then (some 0) else (k112 s104))))) else (k112 s32))))) (fun k69 => if r47 ≤ r25 then k69 else (oR (f_X5_count s32 9) (fun r58 => oR (f_X5_count s32 3) (fun r63 => if r63 < r58 then (some 0) else k69))))))))))
def f_L_law (Ls : Nat) (xs : Nat → Int32) (σ : CS) : Option Int32 :=
  f_L_law_L10 Ls xs (fun sx200 => some 1) FU 0 σ
set_option maxRecDepth 100000 in
set_option maxHeartbeats 4000000 in
theorem p2_law {κ : XCtx CS} {h : Nat → va_E} {b : Nat} {cI cC cS' : ClassId} {bs Ls : Nat} {xs : Nat → Int32} {σ : CS} (X : XC κ code 8 RL (some .boolean) 7 177) (Y : YC κ h b cI cC cS') (Z : XZ κ) (hR : ∀ σ, κ.K σ + 0 ≤ κ.R.cells ∧ κ.N σ + 0 ≤ κ.R.slots) (hX : va_X bs Ls xs κ.s κ.s.heap) (hbl : bs < κ.s.heap.size) (hS0 : bs < κ.S0) (hQ : XLQ κ) (hf : f_L_law Ls xs σ = some 1) : XG κ σ 8 [(1, .ref (κ.S0 + (b + 0))), (0, .ref bs)] [] := by
  unfold f_L_law at hf
  refine x_iconst (v := 0) X dL_law_8 (by decide) ?_
  refine x_istore_n (lv' := [(2, .int 0), (1, .ref (κ.S0 + (b + 0))), (0, .ref bs)]) X dL_law_9 rfl (by decide) rfl ?_
  refine x_kont (b := fun kX10 => f_L_law_L10 Ls xs kX10 FU 0 σ) (fun kX10 => ∀  (sx200 : CS), kX10 sx200 = some 1 → XG κ sx200 200 [] []) hf (fun sx200 hf => ?_) (fun kX10 JX10 hf => ?_)
  · refine x_iconst (v := 1) X dL_law_200 (by decide) ?_
    exact x_lret X hQ hf dL_law_201
  · have LL : ∀ (n : Nat) (v2_10 : Int32) (s10 : CS), f_L_law_L10 Ls xs kX10 n v2_10 s10 = some 1 → XG κ s10 10 [(0, .ref bs), (1, .ref (κ.S0 + (b + 0))), (2, .int v2_10)] [] := by
      intro n
      induction n with
      | zero => intro v2_10 s10 hf; rw [f_L_law_L10] at hf; cases hf
      | succ n ih10 =>
        intro v2_10 s10 hf
        rw [f_L_law_L10] at hf
        refine x_iload_n X dL_law_10 rfl 2 rfl ?_
        refine x_bipush (v := 56) X dL_law_11 (by decide) ?_
        refine x_icmp_ge (tgt := 200) X dL_law_13 (by decide) hf (fun hf => ?_) (fun hf => ?_)
        · refine x_sub [] rfl ?_
          exact JX10 s10 hf
        · refine x_aload_n X dL_law_16 rfl 0 rfl ?_
          refine x_iload_n X dL_law_17 rfl 2 rfl ?_
          refine x_callX (rest := []) (As := [.ref bs, .int v2_10]) X hX hbl hS0 hf cm_L_cell lkS_L_72 ⟨Nat.le_of_ble_eq_true rfl, Nat.le_of_ble_eq_true rfl⟩ (fun r hr => m_L_cell hr) rfl rfl (Nat.le_of_ble_eq_true rfl) (hR _) dL_law_18 (fun r18 hf => ?_)
          refine x_istore_n (lv' := [(3, .int r18), (0, .ref bs), (1, .ref (κ.S0 + (b + 0))), (2, .int v2_10)]) X dL_law_21 rfl (by decide) rfl ?_
          refine x_aload_n X dL_law_22 rfl 2 rfl ?_
          refine x_bipush (v := 9) X dL_law_23 (by decide) ?_
          refine x_callR (rest := []) X hf (fun r hr => x_cV (ci := 5) X cm_X5_count lkV_L_49 rfl ⟨Nat.le_of_ble_eq_true rfl, Nat.le_of_ble_eq_true rfl⟩ (yC_0 Y) (yC_l Y 0 (by decide)) (m_X5_count (yC_hb Y s10) (yC_ht Y) (yC_htc Y) (yC_hts Y) (yC_hp Y _) (yC_hp Y _) hr) rfl rfl (Nat.le_of_ble_eq_true rfl) (hR _) dL_law_25) (fun r25 hf => ?_)
          refine x_istore (lv' := [(4, .int r25), (3, .int r18), (0, .ref bs), (1, .ref (κ.S0 + (b + 0))), (2, .int v2_10)]) X dL_law_28 (by decide) rfl ?_
          refine x_aload_n X dL_law_30 rfl 3 rfl ?_
          refine x_iload_n X dL_law_31 rfl 1 rfl ?_
          refine x_callW (rest := []) (w := fun t => t) X Z hf (fun r t hr => x_cS X cm_L_does lkS_L_76 ⟨Nat.le_of_ble_eq_true rfl, Nat.le_of_ble_eq_true rfl⟩ (m_L_does (yC_hb Y s10) (yC_ht Y) (yC_htc Y) (yC_hts Y) (yC_hp Y _) (yC_hp Y _) hr) rfl rfl (Nat.le_of_ble_eq_true rfl) (hR _) dL_law_32) (fun r32 s32 hf => ?_)
          refine x_istore (lv' := [(5, .int r32), (4, .int r25), (3, .int r18), (0, .ref bs), (1, .ref (κ.S0 + (b + 0))), (2, .int v2_10)]) X dL_law_35 (by decide) rfl ?_
          refine x_iload X dL_law_37 0 rfl ?_
          refine x_bipush (v := (-5)) X dL_law_39 (by decide) ?_
          refine x_icmp_lt (tgt := 76) X dL_law_41 (by decide) hf (fun hf => ?_) (fun hf => ?_)
          · refine x_iconst (v := 0) X dL_law_76 (by decide) ?_
            exact x_lret X hQ hf dL_law_77
          · refine x_aload_n X dL_law_44 rfl 4 rfl ?_
            refine x_bipush (v := 9) X dL_law_45 (by decide) ?_
            refine x_callR (rest := []) X hf (fun r hr => x_cV (ci := 5) X cm_X5_count lkV_L_49 rfl ⟨Nat.le_of_ble_eq_true rfl, Nat.le_of_ble_eq_true rfl⟩ (yC_0 Y) (yC_l Y 0 (by decide)) (m_X5_count (yC_hb Y s32) (yC_ht Y) (yC_htc Y) (yC_hts Y) (yC_hp Y _) (yC_hp Y _) hr) rfl rfl (Nat.le_of_ble_eq_true rfl) (hR _) dL_law_47) (fun r47 hf => ?_)
            refine x_iload X dL_law_50 1 rfl ?_
            refine x_join (fun k69 => k69 = some 1 → XG κ s32 69 [(0, .ref bs), (1, .ref (κ.S0 + (b + 0))), (2, .int v2_10), (3, .int r18)] []) hf (fun hf => ?_) (fun k69 J69 hf => ?_)
            · refine x_aload_n X dL_law_69 rfl 1 rfl ?_
              refine x_callR (rest := []) X hf (fun r hr => x_cS X cm_L_areZonesSo lkS_L_80 ⟨Nat.le_of_ble_eq_true rfl, Nat.le_of_ble_eq_true rfl⟩ (m_L_areZonesSo (yC_hb Y s32) (yC_ht Y) (yC_htc Y) (yC_hts Y) (yC_hp Y _) (yC_hp Y _) hr) rfl rfl (Nat.le_of_ble_eq_true rfl) (hR _) dL_law_70) (fun r70 hf => ?_)
              refine x_if_ne (tgt := 78) X dL_law_73 (by decide) hf (fun hf => ?_) (fun hf => ?_)
              · refine x_iload_n X dL_law_78 rfl 2 rfl ?_
                refine x_iconst (v := 4) X dL_law_79 (by decide) ?_
                refine x_irem X dL_law_80 (by decide) ?_
                refine x_iconst (v := 3) X dL_law_81 (by decide) ?_
                refine x_join (fun k112 => ∀  (s_112 : CS), k112 s_112 = some 1 → XG κ s_112 112 [(0, .ref bs), (1, .ref (κ.S0 + (b + 0))), (2, .int v2_10), (3, .int r18)] []) hf (fun s_112 hf => ?_) (fun k112 J112 hf => ?_)
                · refine x_aload_n X dL_law_112 rfl 1 rfl ?_
                  refine x_bipush (v := 7) X dL_law_113 (by decide) ?_
                  refine x_callR (rest := []) X hf (fun r hr => x_cV (ci := 5) X cm_X5_count lkV_L_49 rfl ⟨Nat.le_of_ble_eq_true rfl, Nat.le_of_ble_eq_true rfl⟩ (yC_0 Y) (yC_l Y 0 (by decide)) (m_X5_count (yC_hb Y s_112) (yC_ht Y) (yC_htc Y) (yC_hts Y) (yC_hp Y _) (yC_hp Y _) hr) rfl rfl (Nat.le_of_ble_eq_true rfl) (hR _) dL_law_115) (fun r115 hf => ?_)
                  refine x_istore (lv' := [(6, .int r115), (0, .ref bs), (1, .ref (κ.S0 + (b + 0))), (2, .int v2_10), (3, .int r18)]) X dL_law_118 (by decide) rfl ?_
                  refine x_iload X dL_law_120 0 rfl ?_
                  refine x_join (fun k138 => ∀ (t0_138 : Int32), k138 t0_138 = some 1 → XG κ s_112 138 [(0, .ref bs), (1, .ref (κ.S0 + (b + 0))), (2, .int v2_10), (6, .int r115)] [.int t0_138]) hf (fun t0_138 hf => ?_) (fun k138 J138 hf => ?_)
                  · refine x_istore (lv' := [(7, .int t0_138), (0, .ref bs), (1, .ref (κ.S0 + (b + 0))), (2, .int v2_10), (6, .int r115)]) X dL_law_138 (by decide) rfl ?_
                    refine x_iload X dL_law_140 4 rfl ?_
                    refine x_join (fun k194 => ∀  (s_194 : CS), k194 s_194 = some 1 → XG κ s_194 194 [(0, .ref bs), (1, .ref (κ.S0 + (b + 0))), (2, .int v2_10)] []) hf (fun s_194 hf => ?_) (fun k194 J194 hf => ?_)
                    · refine x_iinc (v := v2_10 + 1) (lv' := [(2, .int (v2_10 + 1)), (0, .ref bs), (1, .ref (κ.S0 + (b + 0)))]) X dL_law_194 2 rfl rfl (by decide) rfl ?_
                      refine x_goto (tgt := 10) X dL_law_197 (by decide) ?_
                      refine x_sub [1, 2, 0] rfl ?_
                      exact ih10 (v2_10 + 1) s_194 hf
                    · refine x_if_le (tgt := 194) X dL_law_142 (by decide) hf (fun hf => ?_) (fun hf => ?_)
                      · refine x_sub [1, 2, 3] rfl ?_
                        exact J194 s_112 hf
                      · refine x_iload_n X dL_law_145 rfl 3 rfl ?_
                        refine x_iconst (v := 3) X dL_law_146 (by decide) ?_
                        refine x_irem X dL_law_147 (by decide) ?_
                        refine x_iconst (v := 1) X dL_law_148 (by decide) ?_
                        refine x_icmp_ne (tgt := 194) X dL_law_149 (by decide) hf (fun hf => ?_) (fun hf => ?_)
                        · refine x_sub [1, 2, 3] rfl ?_
                          exact J194 s_112 hf
                        · refine x_aload_n X dL_law_152 rfl 2 rfl ?_
                          refine x_iload X dL_law_153 0 rfl ?_
                          refine x_iconst (v := 3) X dL_law_155 (by decide) ?_
                          refine x_callR (rest := []) X hf (fun r hr => x_cV (ci := 5) X cm_X5_appended lkV_L_52 rfl ⟨Nat.le_of_ble_eq_true rfl, Nat.le_of_ble_eq_true rfl⟩ (yC_0 Y) (yC_l Y 0 (by decide)) (m_X5_appended (yC_hb Y s_112) (yC_ht Y) (yC_htc Y) (yC_hts Y) (yC_hp Y _) (yC_hp Y _) hr) rfl rfl (Nat.le_of_ble_eq_true rfl) (hR _) dL_law_156) (fun r156 hf => ?_)
                          refine x_iconst (v := 1) X dL_law_159 (by decide) ?_
                          refine x_icmp_le (tgt := 177) X dL_law_160 (by decide) hf (fun hf => ?_) (fun hf => ?_)
                          · refine x_aload_n X dL_law_177 rfl 2 rfl ?_
                            refine x_iload X dL_law_178 0 rfl ?_
                            refine x_aload_n X dL_law_180 rfl 2 rfl ?_
                            refine x_iload X dL_law_181 0 rfl ?_
                            refine x_callW (rest := [.int t0_138, .ref (κ.S0 + (b + 0))]) (w := fun t => t) X Z hf (fun r t hr => x_cV (ci := 5) X cm_X5_toldIn lkV_L_68 rfl ⟨Nat.le_of_ble_eq_true rfl, Nat.le_of_ble_eq_true rfl⟩ (yC_0 Y) (yC_l Y 0 (by decide)) (m_X5_toldIn (yC_hb Y s_112) (yC_ht Y) (yC_htc Y) (yC_hts Y) (yC_hp Y _) (yC_hp Y _) hr) rfl rfl (Nat.le_of_ble_eq_true rfl) (hR _) dL_law_183) (fun r183 s183 hf => ?_)
                            refine x_callW (rest := []) (w := fun t => t) X Z hf (fun r t hr => x_cS X cm_L_isToldSo lkS_L_91 ⟨Nat.le_of_ble_eq_true rfl, Nat.le_of_ble_eq_true rfl⟩ (m_L_isToldSo (yC_hb Y s183) (yC_ht Y) (yC_htc Y) (yC_hts Y) (yC_hp Y _) (yC_hp Y _) hr) rfl rfl (Nat.le_of_ble_eq_true rfl) (hR _) dL_law_186) (fun r186 s186 hf => ?_)
                            refine x_if_ne (tgt := 194) X dL_law_189 (by decide) hf (fun hf => ?_) (fun hf => ?_)
                            · refine x_sub [1, 2, 3] rfl ?_
                              exact J194 s186 hf
                            · refine x_iconst (v := 0) X dL_law_192 (by decide) ?_
                              exact x_lret X hQ hf dL_law_193
                          · refine x_aload_n X dL_law_163 rfl 2 rfl ?_
                            refine x_iload X dL_law_164 0 rfl ?_
                            refine x_callW (rest := []) (w := fun t => t) X Z hf (fun r t hr => x_cV (ci := 5) X cm_X5_toldIn lkV_L_68 rfl ⟨Nat.le_of_ble_eq_true rfl, Nat.le_of_ble_eq_true rfl⟩ (yC_0 Y) (yC_l Y 0 (by decide)) (m_X5_toldIn (yC_hb Y s_112) (yC_ht Y) (yC_htc Y) (yC_hts Y) (yC_hp Y _) (yC_hp Y _) hr) rfl rfl (Nat.le_of_ble_eq_true rfl) (hR _) dL_law_166) (fun r166 s166 hf => ?_)
                            refine x_bipush (v := (-4)) X dL_law_169 (by decide) ?_
                            refine x_icmp_eq (tgt := 194) X dL_law_171 (by decide) hf (fun hf => ?_) (fun hf => ?_)
                            · refine x_sub [1, 2, 3] rfl ?_
                              exact J194 s166 hf
                            · refine x_goto (tgt := 192) X dL_law_174 (by decide) ?_
                              refine x_iconst (v := 0) X dL_law_192 (by decide) ?_
                              exact x_lret X hQ hf dL_law_193
                  · refine x_if_ne (tgt := 129) X dL_law_122 (by decide) hf (fun hf => ?_) (fun hf => ?_)
                    · refine x_iload_n X dL_law_129 rfl 4 rfl ?_
                      refine x_bipush (v := 9) X dL_law_130 (by decide) ?_
                      refine x_ishr X dL_law_132 ?_
                      refine x_iload X dL_law_133 0 rfl ?_
                      refine x_callR (rest := []) X hf (fun r hr => x_cS X cm_L_low lkS_L_8 ⟨Nat.le_of_ble_eq_true rfl, Nat.le_of_ble_eq_true rfl⟩ (m_L_low hr) rfl rfl (Nat.le_of_ble_eq_true rfl) (hR _) dL_law_135) (fun r135 hf => ?_)
                      refine x_sub [1, 2, 3, 0] rfl ?_
                      exact J138 r135 hf
                    · refine x_iconst (v := 0) X dL_law_125 (by decide) ?_
                      refine x_goto (tgt := 138) X dL_law_126 (by decide) ?_
                      refine x_sub [1, 2, 3, 0] rfl ?_
                      exact J138 0 hf
                · refine x_icmp_ne (tgt := 112) X dL_law_82 (by decide) hf (fun hf => ?_) (fun hf => ?_)
                  · exact J112 s32 hf
                  · refine x_aload_n X dL_law_85 rfl 1 rfl ?_
                    refine x_callR (rest := []) X hf (fun r hr => x_cS X cm_L_areAppendsSo lkS_L_84 ⟨Nat.le_of_ble_eq_true rfl, Nat.le_of_ble_eq_true rfl⟩ (m_L_areAppendsSo (yC_hb Y s32) (yC_ht Y) (yC_htc Y) (yC_hts Y) (yC_hp Y _) (yC_hp Y _) hr) rfl rfl (Nat.le_of_ble_eq_true rfl) (hR _) dL_law_86) (fun r86 hf => ?_)
                    refine x_if_eq (tgt := 110) X dL_law_89 (by decide) hf (fun hf => ?_) (fun hf => ?_)
                    · refine x_iconst (v := 0) X dL_law_110 (by decide) ?_
                      exact x_lret X hQ hf dL_law_111
                    · refine x_aload_n X dL_law_92 rfl 1 rfl ?_
                      refine x_iload_n X dL_law_93 rfl 3 rfl ?_
                      refine x_iconst (v := 5) X dL_law_94 (by decide) ?_
                      refine x_ishr X dL_law_95 ?_
                      refine x_iconst (v := 3) X dL_law_96 (by decide) ?_
                      refine x_iand X dL_law_97 ?_
                      refine x_iload_n X dL_law_98 rfl 3 rfl ?_
                      refine x_bipush (v := 7) X dL_law_99 (by decide) ?_
                      refine x_ishr X dL_law_101 ?_
                      refine x_iconst (v := 3) X dL_law_102 (by decide) ?_
                      refine x_iand X dL_law_103 ?_
                      refine x_callW (rest := []) (w := fun t => t) X Z hf (fun r t hr => x_cS X cm_L_isWouldSo lkS_L_87 ⟨Nat.le_of_ble_eq_true rfl, Nat.le_of_ble_eq_true rfl⟩ (m_L_isWouldSo (yC_hb Y s32) (yC_ht Y) (yC_htc Y) (yC_hts Y) (yC_hp Y _) (yC_hp Y _) hr) rfl rfl (Nat.le_of_ble_eq_true rfl) (hR _) dL_law_104) (fun r104 s104 hf => ?_)
                      refine x_if_ne (tgt := 112) X dL_law_107 (by decide) hf (fun hf => ?_) (fun hf => ?_)
                      · exact J112 s104 hf
                      · refine x_iconst (v := 0) X dL_law_110 (by decide) ?_
                        exact x_lret X hQ hf dL_law_111
              · refine x_iconst (v := 0) X dL_law_76 (by decide) ?_
                exact x_lret X hQ hf dL_law_77
            · refine x_icmp_le (tgt := 69) X dL_law_52 (by decide) hf (fun hf => ?_) (fun hf => ?_)
              · refine x_sub [3, 4, 5, 2] rfl ?_
                exact J69 hf
              · refine x_aload_n X dL_law_55 rfl 4 rfl ?_
                refine x_bipush (v := 9) X dL_law_56 (by decide) ?_
                refine x_callR (rest := []) X hf (fun r hr => x_cV (ci := 5) X cm_X5_count lkV_L_49 rfl ⟨Nat.le_of_ble_eq_true rfl, Nat.le_of_ble_eq_true rfl⟩ (yC_0 Y) (yC_l Y 0 (by decide)) (m_X5_count (yC_hb Y s32) (yC_ht Y) (yC_htc Y) (yC_hts Y) (yC_hp Y _) (yC_hp Y _) hr) rfl rfl (Nat.le_of_ble_eq_true rfl) (hR _) dL_law_58) (fun r58 hf => ?_)
                refine x_aload_n X dL_law_61 rfl 4 rfl ?_
                refine x_iconst (v := 3) X dL_law_62 (by decide) ?_
                refine x_callR (rest := [.int r58]) X hf (fun r hr => x_cV (ci := 5) X cm_X5_count lkV_L_49 rfl ⟨Nat.le_of_ble_eq_true rfl, Nat.le_of_ble_eq_true rfl⟩ (yC_0 Y) (yC_l Y 0 (by decide)) (m_X5_count (yC_hb Y s32) (yC_ht Y) (yC_htc Y) (yC_hts Y) (yC_hp Y _) (yC_hp Y _) hr) rfl rfl (Nat.le_of_ble_eq_true rfl) (hR _) dL_law_63) (fun r63 hf => ?_)
                refine x_icmp_gt (tgt := 76) X dL_law_66 (by decide) hf (fun hf => ?_) (fun hf => ?_)
                · refine x_iconst (v := 0) X dL_law_76 (by decide) ?_
                  exact x_lret X hQ hf dL_law_77
                · refine x_sub [3, 4, 5, 2] rfl ?_
                  exact J69 hf
    refine x_sub [2, 1, 0] rfl ?_
    exact LL FU 0 σ hf
