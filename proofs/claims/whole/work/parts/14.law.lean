def f_law_L18 (Ls : Nat) (xs : Nat → Int32) (kX18 : CS × MS → Option (Int32)) : Nat → Int32 → CS × MS → Option (Int32)
  | 0, _, _ => none
  | n + 1, v3_18, s18 =>
    if ((Int32.ofNat Ls) - 4) < v3_18 then (kX18 s18) else (oA Ls xs v3_18 (fun x28 => oJ (κ := CS × MS → Option (Int32)) (fun s_720 => f_law_L18 Ls xs kX18 n (v3_18 + 4) s_720) (fun k720 => if (x28 &&& 31) = 0 then (oA Ls xs (v3_18 + 1) (fun x141 => oA Ls xs (v3_18 + 2) (fun x146 => oW (f_X5_set s18.1 x141 x146) (fun t => (t, s18.2)) (fun r147 s147 => oA Ls xs (v3_18 + 1) (fun x155 => oA Ls xs (v3_18 + 2) (fun x160 => oW (f_X6_set s147.2 x155 x160) (fun t => (s147.1, t)) (fun r161 s161 => if r147 = r161 then (k720 s161) else (some 0)))))))) else (if (x28 &&& 31) = 1 then (oA Ls xs (v3_18 + 1) (fun x174 => oA Ls xs (v3_18 + 2) (fun x179 => oJ (κ := Int32 → CS × MS → Option (Int32)) (fun t0_188 s_188 => oA Ls xs (v3_18 + 3) (fun x192 => oW (f_X5_setZone s_188.1 x174 t0_188 x192) (fun t => (t, s_188.2)) (fun r193 s193 => oA Ls xs (v3_18 + 1) (fun x201 => oA Ls xs (v3_18 + 2) (fun x206 => oJ (κ := Int32 → CS × MS → Option (Int32)) (fun t0_215 s_215 => oA Ls xs (v3_18 + 3) (fun x219 => oW (f_X6_setZone s_215.2 x201 t0_215 x219) (fun t => (s_215.1, t)) (fun r220 s220 => if r193 = r220 then (k720 s220) else (some 0)))) (fun k215 => if x206 = 0 then (k215 0 s193) else (k215 1 s193))))))) (fun k188 => if x179 = 0 then (k188 0 s18) else (k188 1 s18))))) else (if (x28 &&& 31) = 2 then (oA Ls xs (v3_18 + 1) (fun x233 => oA Ls xs (v3_18 + 2) (fun x238 => oW (f_X5_setWindow s18.1 x233 x238) (fun t => (t, s18.2)) (fun r239 s239 => oA Ls xs (v3_18 + 1) (fun x247 => oA Ls xs (v3_18 + 2) (fun x252 => oW (f_X6_setWindow s239.2 x247 x252) (fun t => (s239.1, t)) (fun r253 s253 => if r239 = r253 then (k720 s253) else (some 0)))))))) else (if (x28 &&& 31) = 3 then (oA Ls xs (v3_18 + 1) (fun x266 => oA Ls xs (v3_18 + 2) (fun x271 => oA Ls xs (v3_18 + 3) (fun x276 => oW (f_X5_append s18.1 x266 x271 x276) (fun t => (t, s18.2)) (fun r277 s277 => oA Ls xs (v3_18 + 1) (fun x285 => oA Ls xs (v3_18 + 2) (fun x290 => oA Ls xs (v3_18 + 3) (fun x295 => oW (f_X6_append s277.2 x285 x290 x295) (fun t => (s277.1, t)) (fun r296 s296 => if r277 = r296 then (k720 s296) else (some 0)))))))))) else (if (x28 &&& 31) = 4 then (oA Ls xs (v3_18 + 1) (fun x309 => oW (f_X5_reset s18.1 x309) (fun t => (t, s18.2)) (fun r310 s310 => oA Ls xs (v3_18 + 1) (fun x318 => oW (f_X6_reset s310.2 x318) (fun t => (s310.1, t)) (fun r319 s319 => if r310 = r319 then (k720 s319) else (some 0)))))) else (if (x28 &&& 31) = 5 then (oA Ls xs (v3_18 + 1) (fun x332 => oW (f_X5_finish s18.1 x332) (fun t => (t, s18.2)) (fun r333 s333 => oA Ls xs (v3_18 + 1) (fun x341 => oW (f_X6_finish s333.2 x341) (fun t => (s333.1, t)) (fun r342 s342 => if r333 = r342 then (k720 s342) else (some 0)))))) else (if (x28 &&& 31) = 6 then (oA Ls xs (v3_18 + 1) (fun x355 => oW (f_X5_close s18.1 x355) (fun t => (t, s18.2)) (fun r356 s356 => oA Ls xs (v3_18 + 1) (fun x364 => oW (f_X6_close s356.2 x364) (fun t => (s356.1, t)) (fun r365 s365 => if r356 = r365 then (k720 s365) else (some 0)))))) else (if (x28 &&& 31) = 7 then (oA Ls xs (v3_18 + 1) (fun x378 => oW (f_X5_pass s18.1 x378) (fun t => (t, s18.2)) (fun r379 s379 => oA Ls xs (v3_18 + 1) (fun x387 => oW (f_X6_pass s379.2 x387) (fun t => (s379.1, t)) (fun r388 s388 => if r379 = r388 then (k720 s388) else (some 0)))))) else (if (x28 &&& 31) = 8 then (oW (f_X5_follow s18.1) (fun t => (t, s18.2)) (fun r397 s397 => oW (f_X6_follow s397.2) (fun t => (s397.1, t)) (fun r401 s401 => if r397 = r401 then (k720 s401) else (some 0)))) else (if (x28 &&& 31) = 9 then (oA Ls xs (v3_18 + 1) (fun x414 => oW (f_X5_type s18.1 ((x414.toUInt32 % 65536).toInt32)) (fun t => (t, s18.2)) (fun r416 s416 => oA Ls xs (v3_18 + 1) (fun x424 => oW (f_X6_type s416.2 ((x424.toUInt32 % 65536).toInt32)) (fun t => (s416.1, t)) (fun r426 s426 => if r416 = r426 then (k720 s426) else (some 0)))))) else (if (x28 &&& 31) = 10 then (oW (f_X5_clearText s18.1) (fun t => (t, s18.2)) (fun r435 s435 => oW (f_X6_clearText s435.2) (fun t => (s435.1, t)) (fun r439 s439 => if r435 = r439 then (k720 s439) else (some 0)))) else (if (x28 &&& 31) = 11 then (oW (f_X5_undo s18.1) (fun t => (t, s18.2)) (fun r448 s448 => oW (f_X6_undo s448.2) (fun t => (s448.1, t)) (fun r452 s452 => if r448 = r452 then (k720 s452) else (some 0)))) else (if (x28 &&& 31) = 12 then (oW (f_X5_keep s18.1) (fun t => (t, s18.2)) (fun r461 s461 => oW (f_X6_keep s461.2) (fun t => (s461.1, t)) (fun r465 s465 => if r461 = r465 then (k720 s465) else (some 0)))) else (if (x28 &&& 31) = 13 then (oW (f_X5_restore s18.1) (fun t => (t, s18.2)) (fun r474 s474 => oW (f_X6_restore s474.2) (fun t => (s474.1, t)) (fun r478 s478 => if r474 = r478 then (k720 s478) else (some 0)))) else (if (x28 &&& 31) = 14 then (oA Ls xs (v3_18 + 1) (fun x491 => oA Ls xs (v3_18 + 2) (fun x496 => oR (f_X5_read s18.1 x491 x496) (fun r497 => oA Ls xs (v3_18 + 1) (fun x505 => oA Ls xs (v3_18 + 2) (fun x510 => oR (f_X6_read s18.2 x505 x510) (fun r511 => if r497 = r511 then (k720 s18) else (some 0)))))))) else (if (x28 &&& 31) = 15 then (oA Ls xs (v3_18 + 1) (fun x524 => oA Ls xs (v3_18 + 2) (fun x529 => oR (f_X5_zone s18.1 x524 x529) (fun r530 => oA Ls xs (v3_18 + 1) (fun x538 => oA Ls xs (v3_18 + 2) (fun x543 => oR (f_X6_zone s18.2 x538 x543) (fun r544 => if r530 = r544 then (k720 s18) else (some 0)))))))) else (if (x28 &&& 31) = 16 then (oA Ls xs (v3_18 + 1) (fun x557 => oA Ls xs (v3_18 + 2) (fun x562 => oR (f_X5_appended s18.1 x557 x562) (fun r563 => oA Ls xs (v3_18 + 1) (fun x571 => oA Ls xs (v3_18 + 2) (fun x576 => oR (f_X6_appended s18.2 x571 x576) (fun r577 => if r563 = r577 then (k720 s18) else (some 0)))))))) else (if (x28 &&& 31) = 17 then (oA Ls xs (v3_18 + 1) (fun x590 => oA Ls xs (v3_18 + 2) (fun x595 => oR (f_X5_writer s18.1 x590 x595) (fun r596 => oA Ls xs (v3_18 + 1) (fun x604 => oA Ls xs (v3_18 + 2) (fun x609 => oR (f_X6_writer s18.2 x604 x609) (fun r610 => if r596 = r610 then (k720 s18) else (some 0)))))))) else (if (x28 &&& 31) = 18 then (oA Ls xs (v3_18 + 1) (fun x623 => oR (f_X5_told s18.1 x623) (fun r624 => oA Ls xs (v3_18 + 1) (fun x632 => oR (f_X6_told s18.2 x632) (fun r633 => if r624 = r633 then (k720 s18) else (some 0)))))) else (if (x28 &&& 31) = 19 then (oA Ls xs (v3_18 + 1) (fun x646 => oW (f_X5_toldIn s18.1 x646) (fun t => (t, s18.2)) (fun r647 s647 => oA Ls xs (v3_18 + 1) (fun x655 => oW (f_X6_toldIn s647.2 x655) (fun t => (s647.1, t)) (fun r656 s656 => if r647 = r656 then (k720 s656) else (some 0)))))) else (if (x28 &&& 31) = 20 then (oA Ls xs (v3_18 + 1) (fun x669 => oA Ls xs (v3_18 + 2) (fun x674 => oW (f_X5_would s18.1 x669 x674) (fun t => (t, s18.2)) (fun r675 s675 => oA Ls xs (v3_18 + 1) (fun x683 => oA Ls xs (v3_18 + 2) (fun x688 => oW (f_X6_would s675.2 x683 x688) (fun t => (s675.1, t)) (fun r689 s689 => if r675 = r689 then (k720 s689) else (some 0)))))))) else (if (x28 &&& 31) = 21 then (oA Ls xs (v3_18 + 1) (fun x702 => oR (f_X5_count s18.1 x702) (fun r703 => oA Ls xs (v3_18 + 1) (fun x711 => oR (f_X6_count s18.2 x711) (fun r712 => if r703 = r712 then (k720 s18) else (some 0)))))) else (k720 s18)))))))))))))))))))))))))
def f_law (Ls : Nat) (xs : Nat → Int32) (σ : CS × MS) : Option Int32 :=
  f_law_L18 Ls xs (fun sx726 => some 1) FU 0 σ
set_option maxRecDepth 100000 in
set_option maxHeartbeats 4000000 in
theorem p2_law {κ : XCtx (CS × MS)} {h0 : Nat → va_E} {cI cC cZ cS' : ClassId} {bs Ls : Nat} {xs : Nat → Int32} {σ : CS × MS} (X : XC κ code 4 RL (some .boolean) 11 253) (Y : YW κ h0 cI cC cZ cS') (Z : XZ κ) (hR : ∀ σ, κ.K σ + 0 ≤ κ.R.cells ∧ κ.N σ + 0 ≤ κ.R.slots) (hX : va_X bs Ls xs κ.s κ.s.heap) (hbl : bs < κ.s.heap.size) (hS0 : κ.S0 = κ.s.heap.size) (hQ : XLQ κ) (hf : f_law Ls xs σ = some 1) : XG κ σ 16 [(2, .ref (κ.S0 + (159 + 0))), (1, .ref (κ.S0 + (0 + 0))), (0, .ref bs)] [] := by
  unfold f_law at hf
  refine x_iconst (v := 0) X dL_law_16 (by decide) ?_
  refine x_istore_n (lv' := [(3, .int 0), (2, .ref (κ.S0 + (159 + 0))), (1, .ref (κ.S0 + (0 + 0))), (0, .ref bs)]) X dL_law_17 rfl (by decide) rfl ?_
  refine x_kont (b := fun kX18 => f_law_L18 Ls xs kX18 FU 0 σ) (fun kX18 => ∀  (sx726 : CS × MS), kX18 sx726 = some 1 → XG κ sx726 726 [] []) hf (fun sx726 hf => ?_) (fun kX18 JX18 hf => ?_)
  · refine x_iconst (v := 1) X dL_law_726 (by decide) ?_
    exact x_lret X hQ hf dL_law_727
  · have LL : ∀ (n : Nat) (v3_18 : Int32) (s18 : CS × MS), f_law_L18 Ls xs kX18 n v3_18 s18 = some 1 → XG κ s18 18 [(0, .ref bs), (1, .ref (κ.S0 + (0 + 0))), (2, .ref (κ.S0 + (159 + 0))), (3, .int v3_18)] [] := by
      intro n
      induction n with
      | zero => intro v3_18 s18 hf; rw [f_law_L18] at hf; cases hf
      | succ n ih18 =>
        intro v3_18 s18 hf
        rw [f_law_L18] at hf
        refine x_iload_n X dL_law_18 rfl 3 rfl ?_
        refine x_aload_n X dL_law_19 rfl 0 rfl ?_
        refine x_slen X hX hbl hS0 dL_law_20 ?_
        refine x_iconst (v := 4) X dL_law_21 (by decide) ?_
        refine x_isub X dL_law_22 ?_
        refine x_icmp_gt (tgt := 726) X dL_law_23 (by decide) hf (fun hf => ?_) (fun hf => ?_)
        · refine x_sub [] rfl ?_
          exact JX18 s18 hf
        · refine x_aload_n X dL_law_26 rfl 0 rfl ?_
          refine x_iload_n X dL_law_27 rfl 3 rfl ?_
          refine x_sld X hX hbl hS0 dL_law_28 hf (fun x28 hf => ?_)
          refine x_bipush (v := 31) X dL_law_29 (by decide) ?_
          refine x_iand X dL_law_31 ?_
          refine x_join (fun k720 => ∀  (s_720 : CS × MS), k720 s_720 = some 1 → XG κ s_720 720 [(0, .ref bs), (1, .ref (κ.S0 + (0 + 0))), (2, .ref (κ.S0 + (159 + 0))), (3, .int v3_18)] []) hf (fun s_720 hf => ?_) (fun k720 J720 hf => ?_)
          · refine x_iinc (v := v3_18 + 4) (lv' := [(3, .int (v3_18 + 4)), (0, .ref bs), (1, .ref (κ.S0 + (0 + 0))), (2, .ref (κ.S0 + (159 + 0)))]) X dL_law_720 3 rfl rfl (by decide) rfl ?_
            refine x_goto (tgt := 18) X dL_law_723 (by decide) ?_
            refine x_sub [1, 2, 3, 0] rfl ?_
            exact ih18 (v3_18 + 4) s_720 hf
          · refine x_if hf (fun c0 hf => ?_) (fun c0 hf => ?_)
            · refine x_tabIn (off := 104) (tgt := 136) X dL_law_32 (by rw [c0]; decide) (by rw [c0]; decide) (by rw [c0]; rfl) (by decide) ?_
              refine x_aload_n X dL_law_136 rfl 1 rfl ?_
              refine x_aload_n X dL_law_137 rfl 0 rfl ?_
              refine x_iload_n X dL_law_138 rfl 3 rfl ?_
              refine x_iconst (v := 1) X dL_law_139 (by decide) ?_
              refine x_iadd X dL_law_140 ?_
              refine x_sld X hX hbl hS0 dL_law_141 hf (fun x141 hf => ?_)
              refine x_aload_n X dL_law_142 rfl 0 rfl ?_
              refine x_iload_n X dL_law_143 rfl 3 rfl ?_
              refine x_iconst (v := 2) X dL_law_144 (by decide) ?_
              refine x_iadd X dL_law_145 ?_
              refine x_sld X hX hbl hS0 dL_law_146 hf (fun x146 hf => ?_)
              refine x_callW (rest := []) (w := fun t => (t, s18.2)) X Z hf (fun r t hr => x_cV (ci := 5) X cm_X5_set lkV_L_13 rfl ⟨Nat.le_of_ble_eq_true rfl, Nat.le_of_ble_eq_true rfl⟩ (yW_oc Y) (yW_lc Y) (m_X5_set (yW_bc Y s18) (yW_ht Y) (yW_htc Y) (yW_hts Y) (yW_c Y s18) (yW_C Y s18 _) hr) rfl rfl (Nat.le_of_ble_eq_true rfl) (hR _) dL_law_147) (fun r147 s147 hf => ?_)
              refine x_aload_n X dL_law_150 rfl 2 rfl ?_
              refine x_aload_n X dL_law_151 rfl 0 rfl ?_
              refine x_iload_n X dL_law_152 rfl 3 rfl ?_
              refine x_iconst (v := 1) X dL_law_153 (by decide) ?_
              refine x_iadd X dL_law_154 ?_
              refine x_sld X hX hbl hS0 dL_law_155 hf (fun x155 hf => ?_)
              refine x_aload_n X dL_law_156 rfl 0 rfl ?_
              refine x_iload_n X dL_law_157 rfl 3 rfl ?_
              refine x_iconst (v := 2) X dL_law_158 (by decide) ?_
              refine x_iadd X dL_law_159 ?_
              refine x_sld X hX hbl hS0 dL_law_160 hf (fun x160 hf => ?_)
              refine x_callW (rest := [.int r147]) (w := fun t => (s147.1, t)) X Z hf (fun r t hr => x_cV (ci := 6) X cm_X6_set lkV_L_17 rfl ⟨Nat.le_of_ble_eq_true rfl, Nat.le_of_ble_eq_true rfl⟩ (yW_om Y) (yW_lm Y) (m_X6_set (yW_bm Y s147) (yW_ht Y) (yW_htz Y) (yW_m Y s147) (yW_M Y s147 _) hr) rfl rfl (Nat.le_of_ble_eq_true rfl) (hR _) dL_law_161) (fun r161 s161 hf => ?_)
              refine x_icmp_eq (tgt := 720) X dL_law_164 (by decide) hf (fun hf => ?_) (fun hf => ?_)
              · exact J720 s161 hf
              · refine x_iconst (v := 0) X dL_law_167 (by decide) ?_
                exact x_lret X hQ hf dL_law_168
            · refine x_if hf (fun c1 hf => ?_) (fun c1 hf => ?_)
              · refine x_tabIn (off := 137) (tgt := 169) X dL_law_32 (by rw [c1]; decide) (by rw [c1]; decide) (by rw [c1]; rfl) (by decide) ?_
                refine x_aload_n X dL_law_169 rfl 1 rfl ?_
                refine x_aload_n X dL_law_170 rfl 0 rfl ?_
                refine x_iload_n X dL_law_171 rfl 3 rfl ?_
                refine x_iconst (v := 1) X dL_law_172 (by decide) ?_
                refine x_iadd X dL_law_173 ?_
                refine x_sld X hX hbl hS0 dL_law_174 hf (fun x174 hf => ?_)
                refine x_aload_n X dL_law_175 rfl 0 rfl ?_
                refine x_iload_n X dL_law_176 rfl 3 rfl ?_
                refine x_iconst (v := 2) X dL_law_177 (by decide) ?_
                refine x_iadd X dL_law_178 ?_
                refine x_sld X hX hbl hS0 dL_law_179 hf (fun x179 hf => ?_)
                refine x_join (fun k188 => ∀ (t0_188 : Int32) (s_188 : CS × MS), k188 t0_188 s_188 = some 1 → XG κ s_188 188 [(0, .ref bs), (1, .ref (κ.S0 + (0 + 0))), (2, .ref (κ.S0 + (159 + 0))), (3, .int v3_18)] [.int t0_188, .int x174, .ref (κ.S0 + (0 + 0))]) hf (fun t0_188 s_188 hf => ?_) (fun k188 J188 hf => ?_)
                · refine x_aload_n X dL_law_188 rfl 0 rfl ?_
                  refine x_iload_n X dL_law_189 rfl 3 rfl ?_
                  refine x_iconst (v := 3) X dL_law_190 (by decide) ?_
                  refine x_iadd X dL_law_191 ?_
                  refine x_sld X hX hbl hS0 dL_law_192 hf (fun x192 hf => ?_)
                  refine x_callW (rest := []) (w := fun t => (t, s_188.2)) X Z hf (fun r t hr => x_cV (ci := 5) X cm_X5_setZone lkV_L_18 rfl ⟨Nat.le_of_ble_eq_true rfl, Nat.le_of_ble_eq_true rfl⟩ (yW_oc Y) (yW_lc Y) (m_X5_setZone (yW_bc Y s_188) (yW_ht Y) (yW_htc Y) (yW_hts Y) (yW_c Y s_188) (yW_C Y s_188 _) hr) rfl rfl (Nat.le_of_ble_eq_true rfl) (hR _) dL_law_193) (fun r193 s193 hf => ?_)
                  refine x_aload_n X dL_law_196 rfl 2 rfl ?_
                  refine x_aload_n X dL_law_197 rfl 0 rfl ?_
                  refine x_iload_n X dL_law_198 rfl 3 rfl ?_
                  refine x_iconst (v := 1) X dL_law_199 (by decide) ?_
                  refine x_iadd X dL_law_200 ?_
                  refine x_sld X hX hbl hS0 dL_law_201 hf (fun x201 hf => ?_)
                  refine x_aload_n X dL_law_202 rfl 0 rfl ?_
                  refine x_iload_n X dL_law_203 rfl 3 rfl ?_
                  refine x_iconst (v := 2) X dL_law_204 (by decide) ?_
                  refine x_iadd X dL_law_205 ?_
                  refine x_sld X hX hbl hS0 dL_law_206 hf (fun x206 hf => ?_)
                  refine x_join (fun k215 => ∀ (t0_215 : Int32) (s_215 : CS × MS), k215 t0_215 s_215 = some 1 → XG κ s_215 215 [(0, .ref bs), (1, .ref (κ.S0 + (0 + 0))), (2, .ref (κ.S0 + (159 + 0))), (3, .int v3_18)] [.int t0_215, .int x201, .ref (κ.S0 + (159 + 0)), .int r193]) hf (fun t0_215 s_215 hf => ?_) (fun k215 J215 hf => ?_)
                  · refine x_aload_n X dL_law_215 rfl 0 rfl ?_
                    refine x_iload_n X dL_law_216 rfl 3 rfl ?_
                    refine x_iconst (v := 3) X dL_law_217 (by decide) ?_
                    refine x_iadd X dL_law_218 ?_
                    refine x_sld X hX hbl hS0 dL_law_219 hf (fun x219 hf => ?_)
                    refine x_callW (rest := [.int r193]) (w := fun t => (s_215.1, t)) X Z hf (fun r t hr => x_cV (ci := 6) X cm_X6_setZone lkV_L_22 rfl ⟨Nat.le_of_ble_eq_true rfl, Nat.le_of_ble_eq_true rfl⟩ (yW_om Y) (yW_lm Y) (m_X6_setZone (yW_bm Y s_215) (yW_ht Y) (yW_htz Y) (yW_m Y s_215) (yW_M Y s_215 _) hr) rfl rfl (Nat.le_of_ble_eq_true rfl) (hR _) dL_law_220) (fun r220 s220 hf => ?_)
                    refine x_icmp_eq (tgt := 720) X dL_law_223 (by decide) hf (fun hf => ?_) (fun hf => ?_)
                    · exact J720 s220 hf
                    · refine x_iconst (v := 0) X dL_law_226 (by decide) ?_
                      exact x_lret X hQ hf dL_law_227
                  · refine x_if_eq (tgt := 214) X dL_law_207 (by decide) hf (fun hf => ?_) (fun hf => ?_)
                    · refine x_iconst (v := 0) X dL_law_214 (by decide) ?_
                      exact J215 0 s193 hf
                    · refine x_iconst (v := 1) X dL_law_210 (by decide) ?_
                      refine x_goto (tgt := 215) X dL_law_211 (by decide) ?_
                      exact J215 1 s193 hf
                · refine x_if_eq (tgt := 187) X dL_law_180 (by decide) hf (fun hf => ?_) (fun hf => ?_)
                  · refine x_iconst (v := 0) X dL_law_187 (by decide) ?_
                    exact J188 0 s18 hf
                  · refine x_iconst (v := 1) X dL_law_183 (by decide) ?_
                    refine x_goto (tgt := 188) X dL_law_184 (by decide) ?_
                    exact J188 1 s18 hf
              · refine x_if hf (fun c2 hf => ?_) (fun c2 hf => ?_)
                · refine x_tabIn (off := 196) (tgt := 228) X dL_law_32 (by rw [c2]; decide) (by rw [c2]; decide) (by rw [c2]; rfl) (by decide) ?_
                  refine x_aload_n X dL_law_228 rfl 1 rfl ?_
                  refine x_aload_n X dL_law_229 rfl 0 rfl ?_
                  refine x_iload_n X dL_law_230 rfl 3 rfl ?_
                  refine x_iconst (v := 1) X dL_law_231 (by decide) ?_
                  refine x_iadd X dL_law_232 ?_
                  refine x_sld X hX hbl hS0 dL_law_233 hf (fun x233 hf => ?_)
                  refine x_aload_n X dL_law_234 rfl 0 rfl ?_
                  refine x_iload_n X dL_law_235 rfl 3 rfl ?_
                  refine x_iconst (v := 2) X dL_law_236 (by decide) ?_
                  refine x_iadd X dL_law_237 ?_
                  refine x_sld X hX hbl hS0 dL_law_238 hf (fun x238 hf => ?_)
                  refine x_callW (rest := []) (w := fun t => (t, s18.2)) X Z hf (fun r t hr => x_cV (ci := 5) X cm_X5_setWindow lkV_L_23 rfl ⟨Nat.le_of_ble_eq_true rfl, Nat.le_of_ble_eq_true rfl⟩ (yW_oc Y) (yW_lc Y) (m_X5_setWindow (yW_bc Y s18) (yW_ht Y) (yW_htc Y) (yW_hts Y) (yW_c Y s18) (yW_C Y s18 _) hr) rfl rfl (Nat.le_of_ble_eq_true rfl) (hR _) dL_law_239) (fun r239 s239 hf => ?_)
                  refine x_aload_n X dL_law_242 rfl 2 rfl ?_
                  refine x_aload_n X dL_law_243 rfl 0 rfl ?_
                  refine x_iload_n X dL_law_244 rfl 3 rfl ?_
                  refine x_iconst (v := 1) X dL_law_245 (by decide) ?_
                  refine x_iadd X dL_law_246 ?_
                  refine x_sld X hX hbl hS0 dL_law_247 hf (fun x247 hf => ?_)
                  refine x_aload_n X dL_law_248 rfl 0 rfl ?_
                  refine x_iload_n X dL_law_249 rfl 3 rfl ?_
                  refine x_iconst (v := 2) X dL_law_250 (by decide) ?_
                  refine x_iadd X dL_law_251 ?_
                  refine x_sld X hX hbl hS0 dL_law_252 hf (fun x252 hf => ?_)
                  refine x_callW (rest := [.int r239]) (w := fun t => (s239.1, t)) X Z hf (fun r t hr => x_cV (ci := 6) X cm_X6_setWindow lkV_L_26 rfl ⟨Nat.le_of_ble_eq_true rfl, Nat.le_of_ble_eq_true rfl⟩ (yW_om Y) (yW_lm Y) (m_X6_setWindow (yW_bm Y s239) (yW_ht Y) (yW_htz Y) (yW_m Y s239) (yW_M Y s239 _) hr) rfl rfl (Nat.le_of_ble_eq_true rfl) (hR _) dL_law_253) (fun r253 s253 hf => ?_)
                  refine x_icmp_eq (tgt := 720) X dL_law_256 (by decide) hf (fun hf => ?_) (fun hf => ?_)
                  · exact J720 s253 hf
                  · refine x_iconst (v := 0) X dL_law_259 (by decide) ?_
                    exact x_lret X hQ hf dL_law_260
                · refine x_if hf (fun c3 hf => ?_) (fun c3 hf => ?_)
                  · refine x_tabIn (off := 229) (tgt := 261) X dL_law_32 (by rw [c3]; decide) (by rw [c3]; decide) (by rw [c3]; rfl) (by decide) ?_
                    refine x_aload_n X dL_law_261 rfl 1 rfl ?_
                    refine x_aload_n X dL_law_262 rfl 0 rfl ?_
                    refine x_iload_n X dL_law_263 rfl 3 rfl ?_
                    refine x_iconst (v := 1) X dL_law_264 (by decide) ?_
                    refine x_iadd X dL_law_265 ?_
                    refine x_sld X hX hbl hS0 dL_law_266 hf (fun x266 hf => ?_)
                    refine x_aload_n X dL_law_267 rfl 0 rfl ?_
                    refine x_iload_n X dL_law_268 rfl 3 rfl ?_
                    refine x_iconst (v := 2) X dL_law_269 (by decide) ?_
                    refine x_iadd X dL_law_270 ?_
                    refine x_sld X hX hbl hS0 dL_law_271 hf (fun x271 hf => ?_)
                    refine x_aload_n X dL_law_272 rfl 0 rfl ?_
                    refine x_iload_n X dL_law_273 rfl 3 rfl ?_
                    refine x_iconst (v := 3) X dL_law_274 (by decide) ?_
                    refine x_iadd X dL_law_275 ?_
                    refine x_sld X hX hbl hS0 dL_law_276 hf (fun x276 hf => ?_)
                    refine x_callW (rest := []) (w := fun t => (t, s18.2)) X Z hf (fun r t hr => x_cV (ci := 5) X cm_X5_append lkV_L_27 rfl ⟨Nat.le_of_ble_eq_true rfl, Nat.le_of_ble_eq_true rfl⟩ (yW_oc Y) (yW_lc Y) (m_X5_append (yW_bc Y s18) (yW_ht Y) (yW_htc Y) (yW_hts Y) (yW_c Y s18) (yW_C Y s18 _) hr) rfl rfl (Nat.le_of_ble_eq_true rfl) (hR _) dL_law_277) (fun r277 s277 hf => ?_)
                    refine x_aload_n X dL_law_280 rfl 2 rfl ?_
                    refine x_aload_n X dL_law_281 rfl 0 rfl ?_
                    refine x_iload_n X dL_law_282 rfl 3 rfl ?_
                    refine x_iconst (v := 1) X dL_law_283 (by decide) ?_
                    refine x_iadd X dL_law_284 ?_
                    refine x_sld X hX hbl hS0 dL_law_285 hf (fun x285 hf => ?_)
                    refine x_aload_n X dL_law_286 rfl 0 rfl ?_
                    refine x_iload_n X dL_law_287 rfl 3 rfl ?_
                    refine x_iconst (v := 2) X dL_law_288 (by decide) ?_
                    refine x_iadd X dL_law_289 ?_
                    refine x_sld X hX hbl hS0 dL_law_290 hf (fun x290 hf => ?_)
                    refine x_aload_n X dL_law_291 rfl 0 rfl ?_
                    refine x_iload_n X dL_law_292 rfl 3 rfl ?_
                    refine x_iconst (v := 3) X dL_law_293 (by decide) ?_
                    refine x_iadd X dL_law_294 ?_
                    refine x_sld X hX hbl hS0 dL_law_295 hf (fun x295 hf => ?_)
                    refine x_callW (rest := [.int r277]) (w := fun t => (s277.1, t)) X Z hf (fun r t hr => x_cV (ci := 6) X cm_X6_append lkV_L_31 rfl ⟨Nat.le_of_ble_eq_true rfl, Nat.le_of_ble_eq_true rfl⟩ (yW_om Y) (yW_lm Y) (m_X6_append (yW_bm Y s277) (yW_ht Y) (yW_htz Y) (yW_m Y s277) (yW_M Y s277 _) hr) rfl rfl (Nat.le_of_ble_eq_true rfl) (hR _) dL_law_296) (fun r296 s296 hf => ?_)
                    refine x_icmp_eq (tgt := 720) X dL_law_299 (by decide) hf (fun hf => ?_) (fun hf => ?_)
                    · exact J720 s296 hf
                    · refine x_iconst (v := 0) X dL_law_302 (by decide) ?_
                      exact x_lret X hQ hf dL_law_303
                  · refine x_if hf (fun c4 hf => ?_) (fun c4 hf => ?_)
                    · refine x_tabIn (off := 272) (tgt := 304) X dL_law_32 (by rw [c4]; decide) (by rw [c4]; decide) (by rw [c4]; rfl) (by decide) ?_
                      refine x_aload_n X dL_law_304 rfl 1 rfl ?_
                      refine x_aload_n X dL_law_305 rfl 0 rfl ?_
                      refine x_iload_n X dL_law_306 rfl 3 rfl ?_
                      refine x_iconst (v := 1) X dL_law_307 (by decide) ?_
                      refine x_iadd X dL_law_308 ?_
                      refine x_sld X hX hbl hS0 dL_law_309 hf (fun x309 hf => ?_)
                      refine x_callW (rest := []) (w := fun t => (t, s18.2)) X Z hf (fun r t hr => x_cV (ci := 5) X cm_X5_reset lkV_L_32 rfl ⟨Nat.le_of_ble_eq_true rfl, Nat.le_of_ble_eq_true rfl⟩ (yW_oc Y) (yW_lc Y) (m_X5_reset (yW_bc Y s18) (yW_ht Y) (yW_htc Y) (yW_hts Y) (yW_c Y s18) (yW_C Y s18 _) hr) rfl rfl (Nat.le_of_ble_eq_true rfl) (hR _) dL_law_310) (fun r310 s310 hf => ?_)
                      refine x_aload_n X dL_law_313 rfl 2 rfl ?_
                      refine x_aload_n X dL_law_314 rfl 0 rfl ?_
                      refine x_iload_n X dL_law_315 rfl 3 rfl ?_
                      refine x_iconst (v := 1) X dL_law_316 (by decide) ?_
                      refine x_iadd X dL_law_317 ?_
                      refine x_sld X hX hbl hS0 dL_law_318 hf (fun x318 hf => ?_)
                      refine x_callW (rest := [.int r310]) (w := fun t => (s310.1, t)) X Z hf (fun r t hr => x_cV (ci := 6) X cm_X6_reset lkV_L_36 rfl ⟨Nat.le_of_ble_eq_true rfl, Nat.le_of_ble_eq_true rfl⟩ (yW_om Y) (yW_lm Y) (m_X6_reset (yW_bm Y s310) (yW_ht Y) (yW_htz Y) (yW_m Y s310) (yW_M Y s310 _) hr) rfl rfl (Nat.le_of_ble_eq_true rfl) (hR _) dL_law_319) (fun r319 s319 hf => ?_)
                      refine x_icmp_eq (tgt := 720) X dL_law_322 (by decide) hf (fun hf => ?_) (fun hf => ?_)
                      · exact J720 s319 hf
                      · refine x_iconst (v := 0) X dL_law_325 (by decide) ?_
                        exact x_lret X hQ hf dL_law_326
                    · refine x_if hf (fun c5 hf => ?_) (fun c5 hf => ?_)
                      · refine x_tabIn (off := 295) (tgt := 327) X dL_law_32 (by rw [c5]; decide) (by rw [c5]; decide) (by rw [c5]; rfl) (by decide) ?_
                        refine x_aload_n X dL_law_327 rfl 1 rfl ?_
                        refine x_aload_n X dL_law_328 rfl 0 rfl ?_
                        refine x_iload_n X dL_law_329 rfl 3 rfl ?_
                        refine x_iconst (v := 1) X dL_law_330 (by decide) ?_
                        refine x_iadd X dL_law_331 ?_
                        refine x_sld X hX hbl hS0 dL_law_332 hf (fun x332 hf => ?_)
                        refine x_callW (rest := []) (w := fun t => (t, s18.2)) X Z hf (fun r t hr => x_cV (ci := 5) X cm_X5_finish lkV_L_37 rfl ⟨Nat.le_of_ble_eq_true rfl, Nat.le_of_ble_eq_true rfl⟩ (yW_oc Y) (yW_lc Y) (m_X5_finish (yW_bc Y s18) (yW_ht Y) (yW_htc Y) (yW_hts Y) (yW_c Y s18) (yW_C Y s18 _) hr) rfl rfl (Nat.le_of_ble_eq_true rfl) (hR _) dL_law_333) (fun r333 s333 hf => ?_)
                        refine x_aload_n X dL_law_336 rfl 2 rfl ?_
                        refine x_aload_n X dL_law_337 rfl 0 rfl ?_
                        refine x_iload_n X dL_law_338 rfl 3 rfl ?_
                        refine x_iconst (v := 1) X dL_law_339 (by decide) ?_
                        refine x_iadd X dL_law_340 ?_
                        refine x_sld X hX hbl hS0 dL_law_341 hf (fun x341 hf => ?_)
                        refine x_callW (rest := [.int r333]) (w := fun t => (s333.1, t)) X Z hf (fun r t hr => x_cV (ci := 6) X cm_X6_finish lkV_L_40 rfl ⟨Nat.le_of_ble_eq_true rfl, Nat.le_of_ble_eq_true rfl⟩ (yW_om Y) (yW_lm Y) (m_X6_finish (yW_bm Y s333) (yW_ht Y) (yW_htz Y) (yW_m Y s333) (yW_M Y s333 _) hr) rfl rfl (Nat.le_of_ble_eq_true rfl) (hR _) dL_law_342) (fun r342 s342 hf => ?_)
                        refine x_icmp_eq (tgt := 720) X dL_law_345 (by decide) hf (fun hf => ?_) (fun hf => ?_)
                        · exact J720 s342 hf
                        · refine x_iconst (v := 0) X dL_law_348 (by decide) ?_
                          exact x_lret X hQ hf dL_law_349
                      · refine x_if hf (fun c6 hf => ?_) (fun c6 hf => ?_)
                        · refine x_tabIn (off := 318) (tgt := 350) X dL_law_32 (by rw [c6]; decide) (by rw [c6]; decide) (by rw [c6]; rfl) (by decide) ?_
                          refine x_aload_n X dL_law_350 rfl 1 rfl ?_
                          refine x_aload_n X dL_law_351 rfl 0 rfl ?_
                          refine x_iload_n X dL_law_352 rfl 3 rfl ?_
                          refine x_iconst (v := 1) X dL_law_353 (by decide) ?_
                          refine x_iadd X dL_law_354 ?_
                          refine x_sld X hX hbl hS0 dL_law_355 hf (fun x355 hf => ?_)
                          refine x_callW (rest := []) (w := fun t => (t, s18.2)) X Z hf (fun r t hr => x_cV (ci := 5) X cm_X5_close lkV_L_41 rfl ⟨Nat.le_of_ble_eq_true rfl, Nat.le_of_ble_eq_true rfl⟩ (yW_oc Y) (yW_lc Y) (m_X5_close (yW_bc Y s18) (yW_ht Y) (yW_htc Y) (yW_hts Y) (yW_c Y s18) (yW_C Y s18 _) hr) rfl rfl (Nat.le_of_ble_eq_true rfl) (hR _) dL_law_356) (fun r356 s356 hf => ?_)
                          refine x_aload_n X dL_law_359 rfl 2 rfl ?_
                          refine x_aload_n X dL_law_360 rfl 0 rfl ?_
                          refine x_iload_n X dL_law_361 rfl 3 rfl ?_
                          refine x_iconst (v := 1) X dL_law_362 (by decide) ?_
                          refine x_iadd X dL_law_363 ?_
                          refine x_sld X hX hbl hS0 dL_law_364 hf (fun x364 hf => ?_)
                          refine x_callW (rest := [.int r356]) (w := fun t => (s356.1, t)) X Z hf (fun r t hr => x_cV (ci := 6) X cm_X6_close lkV_L_44 rfl ⟨Nat.le_of_ble_eq_true rfl, Nat.le_of_ble_eq_true rfl⟩ (yW_om Y) (yW_lm Y) (m_X6_close (yW_bm Y s356) (yW_ht Y) (yW_htz Y) (yW_m Y s356) (yW_M Y s356 _) hr) rfl rfl (Nat.le_of_ble_eq_true rfl) (hR _) dL_law_365) (fun r365 s365 hf => ?_)
                          refine x_icmp_eq (tgt := 720) X dL_law_368 (by decide) hf (fun hf => ?_) (fun hf => ?_)
                          · exact J720 s365 hf
                          · refine x_iconst (v := 0) X dL_law_371 (by decide) ?_
                            exact x_lret X hQ hf dL_law_372
                        · refine x_if hf (fun c7 hf => ?_) (fun c7 hf => ?_)
                          · refine x_tabIn (off := 341) (tgt := 373) X dL_law_32 (by rw [c7]; decide) (by rw [c7]; decide) (by rw [c7]; rfl) (by decide) ?_
                            refine x_aload_n X dL_law_373 rfl 1 rfl ?_
                            refine x_aload_n X dL_law_374 rfl 0 rfl ?_
                            refine x_iload_n X dL_law_375 rfl 3 rfl ?_
                            refine x_iconst (v := 1) X dL_law_376 (by decide) ?_
                            refine x_iadd X dL_law_377 ?_
                            refine x_sld X hX hbl hS0 dL_law_378 hf (fun x378 hf => ?_)
                            refine x_callW (rest := []) (w := fun t => (t, s18.2)) X Z hf (fun r t hr => x_cV (ci := 5) X cm_X5_pass lkV_L_45 rfl ⟨Nat.le_of_ble_eq_true rfl, Nat.le_of_ble_eq_true rfl⟩ (yW_oc Y) (yW_lc Y) (m_X5_pass (yW_bc Y s18) (yW_ht Y) (yW_htc Y) (yW_hts Y) (yW_c Y s18) (yW_C Y s18 _) hr) rfl rfl (Nat.le_of_ble_eq_true rfl) (hR _) dL_law_379) (fun r379 s379 hf => ?_)
                            refine x_aload_n X dL_law_382 rfl 2 rfl ?_
                            refine x_aload_n X dL_law_383 rfl 0 rfl ?_
                            refine x_iload_n X dL_law_384 rfl 3 rfl ?_
                            refine x_iconst (v := 1) X dL_law_385 (by decide) ?_
                            refine x_iadd X dL_law_386 ?_
                            refine x_sld X hX hbl hS0 dL_law_387 hf (fun x387 hf => ?_)
                            refine x_callW (rest := [.int r379]) (w := fun t => (s379.1, t)) X Z hf (fun r t hr => x_cV (ci := 6) X cm_X6_pass lkV_L_48 rfl ⟨Nat.le_of_ble_eq_true rfl, Nat.le_of_ble_eq_true rfl⟩ (yW_om Y) (yW_lm Y) (m_X6_pass (yW_bm Y s379) (yW_ht Y) (yW_htz Y) (yW_m Y s379) (yW_M Y s379 _) hr) rfl rfl (Nat.le_of_ble_eq_true rfl) (hR _) dL_law_388) (fun r388 s388 hf => ?_)
                            refine x_icmp_eq (tgt := 720) X dL_law_391 (by decide) hf (fun hf => ?_) (fun hf => ?_)
                            · exact J720 s388 hf
                            · refine x_iconst (v := 0) X dL_law_394 (by decide) ?_
                              exact x_lret X hQ hf dL_law_395
                          · refine x_if hf (fun c8 hf => ?_) (fun c8 hf => ?_)
                            · refine x_tabIn (off := 364) (tgt := 396) X dL_law_32 (by rw [c8]; decide) (by rw [c8]; decide) (by rw [c8]; rfl) (by decide) ?_
                              refine x_aload_n X dL_law_396 rfl 1 rfl ?_
                              refine x_callW (rest := []) (w := fun t => (t, s18.2)) X Z hf (fun r t hr => x_cV (ci := 5) X cm_X5_follow lkV_L_49 rfl ⟨Nat.le_of_ble_eq_true rfl, Nat.le_of_ble_eq_true rfl⟩ (yW_oc Y) (yW_lc Y) (m_X5_follow (yW_bc Y s18) (yW_ht Y) (yW_htc Y) (yW_hts Y) (yW_c Y s18) (yW_C Y s18 _) hr) rfl rfl (Nat.le_of_ble_eq_true rfl) (hR _) dL_law_397) (fun r397 s397 hf => ?_)
                              refine x_aload_n X dL_law_400 rfl 2 rfl ?_
                              refine x_callW (rest := [.int r397]) (w := fun t => (s397.1, t)) X Z hf (fun r t hr => x_cV (ci := 6) X cm_X6_follow lkV_L_53 rfl ⟨Nat.le_of_ble_eq_true rfl, Nat.le_of_ble_eq_true rfl⟩ (yW_om Y) (yW_lm Y) (m_X6_follow (yW_bm Y s397) (yW_ht Y) (yW_htz Y) (yW_m Y s397) (yW_M Y s397 _) hr) rfl rfl (Nat.le_of_ble_eq_true rfl) (hR _) dL_law_401) (fun r401 s401 hf => ?_)
                              refine x_icmp_eq (tgt := 720) X dL_law_404 (by decide) hf (fun hf => ?_) (fun hf => ?_)
                              · exact J720 s401 hf
                              · refine x_iconst (v := 0) X dL_law_407 (by decide) ?_
                                exact x_lret X hQ hf dL_law_408
                            · refine x_if hf (fun c9 hf => ?_) (fun c9 hf => ?_)
                              · refine x_tabIn (off := 377) (tgt := 409) X dL_law_32 (by rw [c9]; decide) (by rw [c9]; decide) (by rw [c9]; rfl) (by decide) ?_
                                refine x_aload_n X dL_law_409 rfl 1 rfl ?_
                                refine x_aload_n X dL_law_410 rfl 0 rfl ?_
                                refine x_iload_n X dL_law_411 rfl 3 rfl ?_
                                refine x_iconst (v := 1) X dL_law_412 (by decide) ?_
                                refine x_iadd X dL_law_413 ?_
                                refine x_sld X hX hbl hS0 dL_law_414 hf (fun x414 hf => ?_)
                                refine x_i2c X dL_law_415 ?_
                                refine x_callW (rest := []) (w := fun t => (t, s18.2)) X Z hf (fun r t hr => x_cV (ci := 5) X cm_X5_type lkV_L_54 rfl ⟨Nat.le_of_ble_eq_true rfl, Nat.le_of_ble_eq_true rfl⟩ (yW_oc Y) (yW_lc Y) (m_X5_type (yW_bc Y s18) (yW_ht Y) (yW_htc Y) (yW_hts Y) (yW_c Y s18) (yW_C Y s18 _) hr) rfl rfl (Nat.le_of_ble_eq_true rfl) (hR _) dL_law_416) (fun r416 s416 hf => ?_)
                                refine x_aload_n X dL_law_419 rfl 2 rfl ?_
                                refine x_aload_n X dL_law_420 rfl 0 rfl ?_
                                refine x_iload_n X dL_law_421 rfl 3 rfl ?_
                                refine x_iconst (v := 1) X dL_law_422 (by decide) ?_
                                refine x_iadd X dL_law_423 ?_
                                refine x_sld X hX hbl hS0 dL_law_424 hf (fun x424 hf => ?_)
                                refine x_i2c X dL_law_425 ?_
                                refine x_callW (rest := [.int r416]) (w := fun t => (s416.1, t)) X Z hf (fun r t hr => x_cV (ci := 6) X cm_X6_type lkV_L_58 rfl ⟨Nat.le_of_ble_eq_true rfl, Nat.le_of_ble_eq_true rfl⟩ (yW_om Y) (yW_lm Y) (m_X6_type (yW_bm Y s416) (yW_ht Y) (yW_htz Y) (yW_m Y s416) (yW_M Y s416 _) hr) rfl rfl (Nat.le_of_ble_eq_true rfl) (hR _) dL_law_426) (fun r426 s426 hf => ?_)
                                refine x_icmp_eq (tgt := 720) X dL_law_429 (by decide) hf (fun hf => ?_) (fun hf => ?_)
                                · exact J720 s426 hf
                                · refine x_iconst (v := 0) X dL_law_432 (by decide) ?_
                                  exact x_lret X hQ hf dL_law_433
                              · refine x_if hf (fun c10 hf => ?_) (fun c10 hf => ?_)
                                · refine x_tabIn (off := 402) (tgt := 434) X dL_law_32 (by rw [c10]; decide) (by rw [c10]; decide) (by rw [c10]; rfl) (by decide) ?_
                                  refine x_aload_n X dL_law_434 rfl 1 rfl ?_
                                  refine x_callW (rest := []) (w := fun t => (t, s18.2)) X Z hf (fun r t hr => x_cV (ci := 5) X cm_X5_clearText lkV_L_59 rfl ⟨Nat.le_of_ble_eq_true rfl, Nat.le_of_ble_eq_true rfl⟩ (yW_oc Y) (yW_lc Y) (m_X5_clearText (yW_bc Y s18) (yW_ht Y) (yW_htc Y) (yW_hts Y) (yW_c Y s18) (yW_C Y s18 _) hr) rfl rfl (Nat.le_of_ble_eq_true rfl) (hR _) dL_law_435) (fun r435 s435 hf => ?_)
                                  refine x_aload_n X dL_law_438 rfl 2 rfl ?_
                                  refine x_callW (rest := [.int r435]) (w := fun t => (s435.1, t)) X Z hf (fun r t hr => x_cV (ci := 6) X cm_X6_clearText lkV_L_62 rfl ⟨Nat.le_of_ble_eq_true rfl, Nat.le_of_ble_eq_true rfl⟩ (yW_om Y) (yW_lm Y) (m_X6_clearText (yW_bm Y s435) (yW_ht Y) (yW_htz Y) (yW_m Y s435) (yW_M Y s435 _) hr) rfl rfl (Nat.le_of_ble_eq_true rfl) (hR _) dL_law_439) (fun r439 s439 hf => ?_)
                                  refine x_icmp_eq (tgt := 720) X dL_law_442 (by decide) hf (fun hf => ?_) (fun hf => ?_)
                                  · exact J720 s439 hf
                                  · refine x_iconst (v := 0) X dL_law_445 (by decide) ?_
                                    exact x_lret X hQ hf dL_law_446
                                · refine x_if hf (fun c11 hf => ?_) (fun c11 hf => ?_)
                                  · refine x_tabIn (off := 415) (tgt := 447) X dL_law_32 (by rw [c11]; decide) (by rw [c11]; decide) (by rw [c11]; rfl) (by decide) ?_
                                    refine x_aload_n X dL_law_447 rfl 1 rfl ?_
                                    refine x_callW (rest := []) (w := fun t => (t, s18.2)) X Z hf (fun r t hr => x_cV (ci := 5) X cm_X5_undo lkV_L_63 rfl ⟨Nat.le_of_ble_eq_true rfl, Nat.le_of_ble_eq_true rfl⟩ (yW_oc Y) (yW_lc Y) (m_X5_undo (yW_bc Y s18) (yW_ht Y) (yW_htc Y) (yW_hts Y) (yW_c Y s18) (yW_C Y s18 _) hr) rfl rfl (Nat.le_of_ble_eq_true rfl) (hR _) dL_law_448) (fun r448 s448 hf => ?_)
                                    refine x_aload_n X dL_law_451 rfl 2 rfl ?_
                                    refine x_callW (rest := [.int r448]) (w := fun t => (s448.1, t)) X Z hf (fun r t hr => x_cV (ci := 6) X cm_X6_undo lkV_L_66 rfl ⟨Nat.le_of_ble_eq_true rfl, Nat.le_of_ble_eq_true rfl⟩ (yW_om Y) (yW_lm Y) (m_X6_undo (yW_bm Y s448) (yW_ht Y) (yW_htz Y) (yW_m Y s448) (yW_M Y s448 _) hr) rfl rfl (Nat.le_of_ble_eq_true rfl) (hR _) dL_law_452) (fun r452 s452 hf => ?_)
                                    refine x_icmp_eq (tgt := 720) X dL_law_455 (by decide) hf (fun hf => ?_) (fun hf => ?_)
                                    · exact J720 s452 hf
                                    · refine x_iconst (v := 0) X dL_law_458 (by decide) ?_
                                      exact x_lret X hQ hf dL_law_459
                                  · refine x_if hf (fun c12 hf => ?_) (fun c12 hf => ?_)
                                    · refine x_tabIn (off := 428) (tgt := 460) X dL_law_32 (by rw [c12]; decide) (by rw [c12]; decide) (by rw [c12]; rfl) (by decide) ?_
                                      refine x_aload_n X dL_law_460 rfl 1 rfl ?_
                                      refine x_callW (rest := []) (w := fun t => (t, s18.2)) X Z hf (fun r t hr => x_cV (ci := 5) X cm_X5_keep lkV_L_67 rfl ⟨Nat.le_of_ble_eq_true rfl, Nat.le_of_ble_eq_true rfl⟩ (yW_oc Y) (yW_lc Y) (m_X5_keep (yW_bc Y s18) (yW_ht Y) (yW_htc Y) (yW_hts Y) (yW_c Y s18) (yW_C Y s18 _) hr) rfl rfl (Nat.le_of_ble_eq_true rfl) (hR _) dL_law_461) (fun r461 s461 hf => ?_)
                                      refine x_aload_n X dL_law_464 rfl 2 rfl ?_
                                      refine x_callW (rest := [.int r461]) (w := fun t => (s461.1, t)) X Z hf (fun r t hr => x_cV (ci := 6) X cm_X6_keep lkV_L_70 rfl ⟨Nat.le_of_ble_eq_true rfl, Nat.le_of_ble_eq_true rfl⟩ (yW_om Y) (yW_lm Y) (m_X6_keep (yW_bm Y s461) (yW_ht Y) (yW_htz Y) (yW_m Y s461) (yW_M Y s461 _) hr) rfl rfl (Nat.le_of_ble_eq_true rfl) (hR _) dL_law_465) (fun r465 s465 hf => ?_)
                                      refine x_icmp_eq (tgt := 720) X dL_law_468 (by decide) hf (fun hf => ?_) (fun hf => ?_)
                                      · exact J720 s465 hf
                                      · refine x_iconst (v := 0) X dL_law_471 (by decide) ?_
                                        exact x_lret X hQ hf dL_law_472
                                    · refine x_if hf (fun c13 hf => ?_) (fun c13 hf => ?_)
                                      · refine x_tabIn (off := 441) (tgt := 473) X dL_law_32 (by rw [c13]; decide) (by rw [c13]; decide) (by rw [c13]; rfl) (by decide) ?_
                                        refine x_aload_n X dL_law_473 rfl 1 rfl ?_
                                        refine x_callW (rest := []) (w := fun t => (t, s18.2)) X Z hf (fun r t hr => x_cV (ci := 5) X cm_X5_restore lkV_L_71 rfl ⟨Nat.le_of_ble_eq_true rfl, Nat.le_of_ble_eq_true rfl⟩ (yW_oc Y) (yW_lc Y) (m_X5_restore (yW_bc Y s18) (yW_ht Y) (yW_htc Y) (yW_hts Y) (yW_c Y s18) (yW_C Y s18 _) hr) rfl rfl (Nat.le_of_ble_eq_true rfl) (hR _) dL_law_474) (fun r474 s474 hf => ?_)
                                        refine x_aload_n X dL_law_477 rfl 2 rfl ?_
                                        refine x_callW (rest := [.int r474]) (w := fun t => (s474.1, t)) X Z hf (fun r t hr => x_cV (ci := 6) X cm_X6_restore lkV_L_74 rfl ⟨Nat.le_of_ble_eq_true rfl, Nat.le_of_ble_eq_true rfl⟩ (yW_om Y) (yW_lm Y) (m_X6_restore (yW_bm Y s474) (yW_ht Y) (yW_htz Y) (yW_m Y s474) (yW_M Y s474 _) hr) rfl rfl (Nat.le_of_ble_eq_true rfl) (hR _) dL_law_478) (fun r478 s478 hf => ?_)
                                        refine x_icmp_eq (tgt := 720) X dL_law_481 (by decide) hf (fun hf => ?_) (fun hf => ?_)
                                        · exact J720 s478 hf
                                        · refine x_iconst (v := 0) X dL_law_484 (by decide) ?_
                                          exact x_lret X hQ hf dL_law_485
                                      · refine x_if hf (fun c14 hf => ?_) (fun c14 hf => ?_)
                                        · refine x_tabIn (off := 454) (tgt := 486) X dL_law_32 (by rw [c14]; decide) (by rw [c14]; decide) (by rw [c14]; rfl) (by decide) ?_
                                          refine x_aload_n X dL_law_486 rfl 1 rfl ?_
                                          refine x_aload_n X dL_law_487 rfl 0 rfl ?_
                                          refine x_iload_n X dL_law_488 rfl 3 rfl ?_
                                          refine x_iconst (v := 1) X dL_law_489 (by decide) ?_
                                          refine x_iadd X dL_law_490 ?_
                                          refine x_sld X hX hbl hS0 dL_law_491 hf (fun x491 hf => ?_)
                                          refine x_aload_n X dL_law_492 rfl 0 rfl ?_
                                          refine x_iload_n X dL_law_493 rfl 3 rfl ?_
                                          refine x_iconst (v := 2) X dL_law_494 (by decide) ?_
                                          refine x_iadd X dL_law_495 ?_
                                          refine x_sld X hX hbl hS0 dL_law_496 hf (fun x496 hf => ?_)
                                          refine x_callR (rest := []) X hf (fun r hr => x_cV (ci := 5) X cm_X5_read lkV_L_75 rfl ⟨Nat.le_of_ble_eq_true rfl, Nat.le_of_ble_eq_true rfl⟩ (yW_oc Y) (yW_lc Y) (m_X5_read (yW_bc Y s18) (yW_ht Y) (yW_htc Y) (yW_hts Y) (yW_c Y s18) (yW_c Y s18) hr) rfl rfl (Nat.le_of_ble_eq_true rfl) (hR _) dL_law_497) (fun r497 hf => ?_)
                                          refine x_aload_n X dL_law_500 rfl 2 rfl ?_
                                          refine x_aload_n X dL_law_501 rfl 0 rfl ?_
                                          refine x_iload_n X dL_law_502 rfl 3 rfl ?_
                                          refine x_iconst (v := 1) X dL_law_503 (by decide) ?_
                                          refine x_iadd X dL_law_504 ?_
                                          refine x_sld X hX hbl hS0 dL_law_505 hf (fun x505 hf => ?_)
                                          refine x_aload_n X dL_law_506 rfl 0 rfl ?_
                                          refine x_iload_n X dL_law_507 rfl 3 rfl ?_
                                          refine x_iconst (v := 2) X dL_law_508 (by decide) ?_
                                          refine x_iadd X dL_law_509 ?_
                                          refine x_sld X hX hbl hS0 dL_law_510 hf (fun x510 hf => ?_)
                                          refine x_callR (rest := [.int r497]) X hf (fun r hr => x_cV (ci := 6) X cm_X6_read lkV_L_78 rfl ⟨Nat.le_of_ble_eq_true rfl, Nat.le_of_ble_eq_true rfl⟩ (yW_om Y) (yW_lm Y) (m_X6_read (yW_bm Y s18) (yW_ht Y) (yW_htz Y) (yW_m Y s18) (yW_m Y s18) hr) rfl rfl (Nat.le_of_ble_eq_true rfl) (hR _) dL_law_511) (fun r511 hf => ?_)
                                          refine x_icmp_eq (tgt := 720) X dL_law_514 (by decide) hf (fun hf => ?_) (fun hf => ?_)
                                          · exact J720 s18 hf
                                          · refine x_iconst (v := 0) X dL_law_517 (by decide) ?_
                                            exact x_lret X hQ hf dL_law_518
                                        · refine x_if hf (fun c15 hf => ?_) (fun c15 hf => ?_)
                                          · refine x_tabIn (off := 487) (tgt := 519) X dL_law_32 (by rw [c15]; decide) (by rw [c15]; decide) (by rw [c15]; rfl) (by decide) ?_
                                            refine x_aload_n X dL_law_519 rfl 1 rfl ?_
                                            refine x_aload_n X dL_law_520 rfl 0 rfl ?_
                                            refine x_iload_n X dL_law_521 rfl 3 rfl ?_
                                            refine x_iconst (v := 1) X dL_law_522 (by decide) ?_
                                            refine x_iadd X dL_law_523 ?_
                                            refine x_sld X hX hbl hS0 dL_law_524 hf (fun x524 hf => ?_)
                                            refine x_aload_n X dL_law_525 rfl 0 rfl ?_
                                            refine x_iload_n X dL_law_526 rfl 3 rfl ?_
                                            refine x_iconst (v := 2) X dL_law_527 (by decide) ?_
                                            refine x_iadd X dL_law_528 ?_
                                            refine x_sld X hX hbl hS0 dL_law_529 hf (fun x529 hf => ?_)
                                            refine x_callR (rest := []) X hf (fun r hr => x_cV (ci := 5) X cm_X5_zone lkV_L_79 rfl ⟨Nat.le_of_ble_eq_true rfl, Nat.le_of_ble_eq_true rfl⟩ (yW_oc Y) (yW_lc Y) (m_X5_zone (yW_bc Y s18) (yW_ht Y) (yW_htc Y) (yW_hts Y) (yW_c Y s18) (yW_c Y s18) hr) rfl rfl (Nat.le_of_ble_eq_true rfl) (hR _) dL_law_530) (fun r530 hf => ?_)
                                            refine x_aload_n X dL_law_533 rfl 2 rfl ?_
                                            refine x_aload_n X dL_law_534 rfl 0 rfl ?_
                                            refine x_iload_n X dL_law_535 rfl 3 rfl ?_
                                            refine x_iconst (v := 1) X dL_law_536 (by decide) ?_
                                            refine x_iadd X dL_law_537 ?_
                                            refine x_sld X hX hbl hS0 dL_law_538 hf (fun x538 hf => ?_)
                                            refine x_aload_n X dL_law_539 rfl 0 rfl ?_
                                            refine x_iload_n X dL_law_540 rfl 3 rfl ?_
                                            refine x_iconst (v := 2) X dL_law_541 (by decide) ?_
                                            refine x_iadd X dL_law_542 ?_
                                            refine x_sld X hX hbl hS0 dL_law_543 hf (fun x543 hf => ?_)
                                            refine x_callR (rest := [.int r530]) X hf (fun r hr => x_cV (ci := 6) X cm_X6_zone lkV_L_82 rfl ⟨Nat.le_of_ble_eq_true rfl, Nat.le_of_ble_eq_true rfl⟩ (yW_om Y) (yW_lm Y) (m_X6_zone (yW_bm Y s18) (yW_ht Y) (yW_htz Y) (yW_m Y s18) (yW_m Y s18) hr) rfl rfl (Nat.le_of_ble_eq_true rfl) (hR _) dL_law_544) (fun r544 hf => ?_)
                                            refine x_icmp_eq (tgt := 720) X dL_law_547 (by decide) hf (fun hf => ?_) (fun hf => ?_)
                                            · exact J720 s18 hf
                                            · refine x_iconst (v := 0) X dL_law_550 (by decide) ?_
                                              exact x_lret X hQ hf dL_law_551
                                          · refine x_if hf (fun c16 hf => ?_) (fun c16 hf => ?_)
                                            · refine x_tabIn (off := 520) (tgt := 552) X dL_law_32 (by rw [c16]; decide) (by rw [c16]; decide) (by rw [c16]; rfl) (by decide) ?_
                                              refine x_aload_n X dL_law_552 rfl 1 rfl ?_
                                              refine x_aload_n X dL_law_553 rfl 0 rfl ?_
                                              refine x_iload_n X dL_law_554 rfl 3 rfl ?_
                                              refine x_iconst (v := 1) X dL_law_555 (by decide) ?_
                                              refine x_iadd X dL_law_556 ?_
                                              refine x_sld X hX hbl hS0 dL_law_557 hf (fun x557 hf => ?_)
                                              refine x_aload_n X dL_law_558 rfl 0 rfl ?_
                                              refine x_iload_n X dL_law_559 rfl 3 rfl ?_
                                              refine x_iconst (v := 2) X dL_law_560 (by decide) ?_
                                              refine x_iadd X dL_law_561 ?_
                                              refine x_sld X hX hbl hS0 dL_law_562 hf (fun x562 hf => ?_)
                                              refine x_callR (rest := []) X hf (fun r hr => x_cV (ci := 5) X cm_X5_appended lkV_L_83 rfl ⟨Nat.le_of_ble_eq_true rfl, Nat.le_of_ble_eq_true rfl⟩ (yW_oc Y) (yW_lc Y) (m_X5_appended (yW_bc Y s18) (yW_ht Y) (yW_htc Y) (yW_hts Y) (yW_c Y s18) (yW_c Y s18) hr) rfl rfl (Nat.le_of_ble_eq_true rfl) (hR _) dL_law_563) (fun r563 hf => ?_)
                                              refine x_aload_n X dL_law_566 rfl 2 rfl ?_
                                              refine x_aload_n X dL_law_567 rfl 0 rfl ?_
                                              refine x_iload_n X dL_law_568 rfl 3 rfl ?_
                                              refine x_iconst (v := 1) X dL_law_569 (by decide) ?_
                                              refine x_iadd X dL_law_570 ?_
                                              refine x_sld X hX hbl hS0 dL_law_571 hf (fun x571 hf => ?_)
                                              refine x_aload_n X dL_law_572 rfl 0 rfl ?_
                                              refine x_iload_n X dL_law_573 rfl 3 rfl ?_
                                              refine x_iconst (v := 2) X dL_law_574 (by decide) ?_
                                              refine x_iadd X dL_law_575 ?_
                                              refine x_sld X hX hbl hS0 dL_law_576 hf (fun x576 hf => ?_)
                                              refine x_callR (rest := [.int r563]) X hf (fun r hr => x_cV (ci := 6) X cm_X6_appended lkV_L_86 rfl ⟨Nat.le_of_ble_eq_true rfl, Nat.le_of_ble_eq_true rfl⟩ (yW_om Y) (yW_lm Y) (m_X6_appended (yW_bm Y s18) (yW_ht Y) (yW_htz Y) (yW_m Y s18) (yW_m Y s18) hr) rfl rfl (Nat.le_of_ble_eq_true rfl) (hR _) dL_law_577) (fun r577 hf => ?_)
                                              refine x_icmp_eq (tgt := 720) X dL_law_580 (by decide) hf (fun hf => ?_) (fun hf => ?_)
                                              · exact J720 s18 hf
                                              · refine x_iconst (v := 0) X dL_law_583 (by decide) ?_
                                                exact x_lret X hQ hf dL_law_584
                                            · refine x_if hf (fun c17 hf => ?_) (fun c17 hf => ?_)
                                              · refine x_tabIn (off := 553) (tgt := 585) X dL_law_32 (by rw [c17]; decide) (by rw [c17]; decide) (by rw [c17]; rfl) (by decide) ?_
                                                refine x_aload_n X dL_law_585 rfl 1 rfl ?_
                                                refine x_aload_n X dL_law_586 rfl 0 rfl ?_
                                                refine x_iload_n X dL_law_587 rfl 3 rfl ?_
                                                refine x_iconst (v := 1) X dL_law_588 (by decide) ?_
                                                refine x_iadd X dL_law_589 ?_
                                                refine x_sld X hX hbl hS0 dL_law_590 hf (fun x590 hf => ?_)
                                                refine x_aload_n X dL_law_591 rfl 0 rfl ?_
                                                refine x_iload_n X dL_law_592 rfl 3 rfl ?_
                                                refine x_iconst (v := 2) X dL_law_593 (by decide) ?_
                                                refine x_iadd X dL_law_594 ?_
                                                refine x_sld X hX hbl hS0 dL_law_595 hf (fun x595 hf => ?_)
                                                refine x_callR (rest := []) X hf (fun r hr => x_cV (ci := 5) X cm_X5_writer lkV_L_87 rfl ⟨Nat.le_of_ble_eq_true rfl, Nat.le_of_ble_eq_true rfl⟩ (yW_oc Y) (yW_lc Y) (m_X5_writer (yW_bc Y s18) (yW_ht Y) (yW_htc Y) (yW_hts Y) (yW_c Y s18) (yW_c Y s18) hr) rfl rfl (Nat.le_of_ble_eq_true rfl) (hR _) dL_law_596) (fun r596 hf => ?_)
                                                refine x_aload_n X dL_law_599 rfl 2 rfl ?_
                                                refine x_aload_n X dL_law_600 rfl 0 rfl ?_
                                                refine x_iload_n X dL_law_601 rfl 3 rfl ?_
                                                refine x_iconst (v := 1) X dL_law_602 (by decide) ?_
                                                refine x_iadd X dL_law_603 ?_
                                                refine x_sld X hX hbl hS0 dL_law_604 hf (fun x604 hf => ?_)
                                                refine x_aload_n X dL_law_605 rfl 0 rfl ?_
                                                refine x_iload_n X dL_law_606 rfl 3 rfl ?_
                                                refine x_iconst (v := 2) X dL_law_607 (by decide) ?_
                                                refine x_iadd X dL_law_608 ?_
                                                refine x_sld X hX hbl hS0 dL_law_609 hf (fun x609 hf => ?_)
                                                refine x_callR (rest := [.int r596]) X hf (fun r hr => x_cV (ci := 6) X cm_X6_writer lkV_L_90 rfl ⟨Nat.le_of_ble_eq_true rfl, Nat.le_of_ble_eq_true rfl⟩ (yW_om Y) (yW_lm Y) (m_X6_writer (yW_bm Y s18) (yW_ht Y) (yW_htz Y) (yW_m Y s18) (yW_m Y s18) hr) rfl rfl (Nat.le_of_ble_eq_true rfl) (hR _) dL_law_610) (fun r610 hf => ?_)
                                                refine x_icmp_eq (tgt := 720) X dL_law_613 (by decide) hf (fun hf => ?_) (fun hf => ?_)
                                                · exact J720 s18 hf
                                                · refine x_iconst (v := 0) X dL_law_616 (by decide) ?_
                                                  exact x_lret X hQ hf dL_law_617
                                              · refine x_if hf (fun c18 hf => ?_) (fun c18 hf => ?_)
                                                · refine x_tabIn (off := 586) (tgt := 618) X dL_law_32 (by rw [c18]; decide) (by rw [c18]; decide) (by rw [c18]; rfl) (by decide) ?_
                                                  refine x_aload_n X dL_law_618 rfl 1 rfl ?_
                                                  refine x_aload_n X dL_law_619 rfl 0 rfl ?_
                                                  refine x_iload_n X dL_law_620 rfl 3 rfl ?_
                                                  refine x_iconst (v := 1) X dL_law_621 (by decide) ?_
                                                  refine x_iadd X dL_law_622 ?_
                                                  refine x_sld X hX hbl hS0 dL_law_623 hf (fun x623 hf => ?_)
                                                  refine x_callR (rest := []) X hf (fun r hr => x_cV (ci := 5) X cm_X5_told lkV_L_91 rfl ⟨Nat.le_of_ble_eq_true rfl, Nat.le_of_ble_eq_true rfl⟩ (yW_oc Y) (yW_lc Y) (m_X5_told (yW_bc Y s18) (yW_ht Y) (yW_htc Y) (yW_hts Y) (yW_c Y s18) (yW_c Y s18) hr) rfl rfl (Nat.le_of_ble_eq_true rfl) (hR _) dL_law_624) (fun r624 hf => ?_)
                                                  refine x_aload_n X dL_law_627 rfl 2 rfl ?_
                                                  refine x_aload_n X dL_law_628 rfl 0 rfl ?_
                                                  refine x_iload_n X dL_law_629 rfl 3 rfl ?_
                                                  refine x_iconst (v := 1) X dL_law_630 (by decide) ?_
                                                  refine x_iadd X dL_law_631 ?_
                                                  refine x_sld X hX hbl hS0 dL_law_632 hf (fun x632 hf => ?_)
                                                  refine x_callR (rest := [.int r624]) X hf (fun r hr => x_cV (ci := 6) X cm_X6_told lkV_L_94 rfl ⟨Nat.le_of_ble_eq_true rfl, Nat.le_of_ble_eq_true rfl⟩ (yW_om Y) (yW_lm Y) (m_X6_told (yW_bm Y s18) (yW_ht Y) (yW_htz Y) (yW_m Y s18) (yW_m Y s18) hr) rfl rfl (Nat.le_of_ble_eq_true rfl) (hR _) dL_law_633) (fun r633 hf => ?_)
                                                  refine x_icmp_eq (tgt := 720) X dL_law_636 (by decide) hf (fun hf => ?_) (fun hf => ?_)
                                                  · exact J720 s18 hf
                                                  · refine x_iconst (v := 0) X dL_law_639 (by decide) ?_
                                                    exact x_lret X hQ hf dL_law_640
                                                · refine x_if hf (fun c19 hf => ?_) (fun c19 hf => ?_)
                                                  · refine x_tabIn (off := 609) (tgt := 641) X dL_law_32 (by rw [c19]; decide) (by rw [c19]; decide) (by rw [c19]; rfl) (by decide) ?_
                                                    refine x_aload_n X dL_law_641 rfl 1 rfl ?_
                                                    refine x_aload_n X dL_law_642 rfl 0 rfl ?_
                                                    refine x_iload_n X dL_law_643 rfl 3 rfl ?_
                                                    refine x_iconst (v := 1) X dL_law_644 (by decide) ?_
                                                    refine x_iadd X dL_law_645 ?_
                                                    refine x_sld X hX hbl hS0 dL_law_646 hf (fun x646 hf => ?_)
                                                    refine x_callW (rest := []) (w := fun t => (t, s18.2)) X Z hf (fun r t hr => x_cV (ci := 5) X cm_X5_toldIn lkV_L_95 rfl ⟨Nat.le_of_ble_eq_true rfl, Nat.le_of_ble_eq_true rfl⟩ (yW_oc Y) (yW_lc Y) (m_X5_toldIn (yW_bc Y s18) (yW_ht Y) (yW_htc Y) (yW_hts Y) (yW_c Y s18) (yW_C Y s18 _) hr) rfl rfl (Nat.le_of_ble_eq_true rfl) (hR _) dL_law_647) (fun r647 s647 hf => ?_)
                                                    refine x_aload_n X dL_law_650 rfl 2 rfl ?_
                                                    refine x_aload_n X dL_law_651 rfl 0 rfl ?_
                                                    refine x_iload_n X dL_law_652 rfl 3 rfl ?_
                                                    refine x_iconst (v := 1) X dL_law_653 (by decide) ?_
                                                    refine x_iadd X dL_law_654 ?_
                                                    refine x_sld X hX hbl hS0 dL_law_655 hf (fun x655 hf => ?_)
                                                    refine x_callW (rest := [.int r647]) (w := fun t => (s647.1, t)) X Z hf (fun r t hr => x_cV (ci := 6) X cm_X6_toldIn lkV_L_98 rfl ⟨Nat.le_of_ble_eq_true rfl, Nat.le_of_ble_eq_true rfl⟩ (yW_om Y) (yW_lm Y) (m_X6_toldIn (yW_bm Y s647) (yW_ht Y) (yW_htz Y) (yW_m Y s647) (yW_M Y s647 _) hr) rfl rfl (Nat.le_of_ble_eq_true rfl) (hR _) dL_law_656) (fun r656 s656 hf => ?_)
                                                    refine x_icmp_eq (tgt := 720) X dL_law_659 (by decide) hf (fun hf => ?_) (fun hf => ?_)
                                                    · exact J720 s656 hf
                                                    · refine x_iconst (v := 0) X dL_law_662 (by decide) ?_
                                                      exact x_lret X hQ hf dL_law_663
                                                  · refine x_if hf (fun c20 hf => ?_) (fun c20 hf => ?_)
                                                    · refine x_tabIn (off := 632) (tgt := 664) X dL_law_32 (by rw [c20]; decide) (by rw [c20]; decide) (by rw [c20]; rfl) (by decide) ?_
                                                      refine x_aload_n X dL_law_664 rfl 1 rfl ?_
                                                      refine x_aload_n X dL_law_665 rfl 0 rfl ?_
                                                      refine x_iload_n X dL_law_666 rfl 3 rfl ?_
                                                      refine x_iconst (v := 1) X dL_law_667 (by decide) ?_
                                                      refine x_iadd X dL_law_668 ?_
                                                      refine x_sld X hX hbl hS0 dL_law_669 hf (fun x669 hf => ?_)
                                                      refine x_aload_n X dL_law_670 rfl 0 rfl ?_
                                                      refine x_iload_n X dL_law_671 rfl 3 rfl ?_
                                                      refine x_iconst (v := 2) X dL_law_672 (by decide) ?_
                                                      refine x_iadd X dL_law_673 ?_
                                                      refine x_sld X hX hbl hS0 dL_law_674 hf (fun x674 hf => ?_)
                                                      refine x_callW (rest := []) (w := fun t => (t, s18.2)) X Z hf (fun r t hr => x_cV (ci := 5) X cm_X5_would lkV_L_99 rfl ⟨Nat.le_of_ble_eq_true rfl, Nat.le_of_ble_eq_true rfl⟩ (yW_oc Y) (yW_lc Y) (m_X5_would (yW_bc Y s18) (yW_ht Y) (yW_htc Y) (yW_hts Y) (yW_c Y s18) (yW_C Y s18 _) hr) rfl rfl (Nat.le_of_ble_eq_true rfl) (hR _) dL_law_675) (fun r675 s675 hf => ?_)
                                                      refine x_aload_n X dL_law_678 rfl 2 rfl ?_
                                                      refine x_aload_n X dL_law_679 rfl 0 rfl ?_
                                                      refine x_iload_n X dL_law_680 rfl 3 rfl ?_
                                                      refine x_iconst (v := 1) X dL_law_681 (by decide) ?_
                                                      refine x_iadd X dL_law_682 ?_
                                                      refine x_sld X hX hbl hS0 dL_law_683 hf (fun x683 hf => ?_)
                                                      refine x_aload_n X dL_law_684 rfl 0 rfl ?_
                                                      refine x_iload_n X dL_law_685 rfl 3 rfl ?_
                                                      refine x_iconst (v := 2) X dL_law_686 (by decide) ?_
                                                      refine x_iadd X dL_law_687 ?_
                                                      refine x_sld X hX hbl hS0 dL_law_688 hf (fun x688 hf => ?_)
                                                      refine x_callW (rest := [.int r675]) (w := fun t => (s675.1, t)) X Z hf (fun r t hr => x_cV (ci := 6) X cm_X6_would lkV_L_102 rfl ⟨Nat.le_of_ble_eq_true rfl, Nat.le_of_ble_eq_true rfl⟩ (yW_om Y) (yW_lm Y) (m_X6_would (yW_bm Y s675) (yW_ht Y) (yW_htz Y) (yW_m Y s675) (yW_M Y s675 _) hr) rfl rfl (Nat.le_of_ble_eq_true rfl) (hR _) dL_law_689) (fun r689 s689 hf => ?_)
                                                      refine x_icmp_eq (tgt := 720) X dL_law_692 (by decide) hf (fun hf => ?_) (fun hf => ?_)
                                                      · exact J720 s689 hf
                                                      · refine x_iconst (v := 0) X dL_law_695 (by decide) ?_
                                                        exact x_lret X hQ hf dL_law_696
                                                    · refine x_if hf (fun c21 hf => ?_) (fun c21 hf => ?_)
                                                      · refine x_tabIn (off := 665) (tgt := 697) X dL_law_32 (by rw [c21]; decide) (by rw [c21]; decide) (by rw [c21]; rfl) (by decide) ?_
                                                        refine x_aload_n X dL_law_697 rfl 1 rfl ?_
                                                        refine x_aload_n X dL_law_698 rfl 0 rfl ?_
                                                        refine x_iload_n X dL_law_699 rfl 3 rfl ?_
                                                        refine x_iconst (v := 1) X dL_law_700 (by decide) ?_
                                                        refine x_iadd X dL_law_701 ?_
                                                        refine x_sld X hX hbl hS0 dL_law_702 hf (fun x702 hf => ?_)
                                                        refine x_callR (rest := []) X hf (fun r hr => x_cV (ci := 5) X cm_X5_count lkV_L_103 rfl ⟨Nat.le_of_ble_eq_true rfl, Nat.le_of_ble_eq_true rfl⟩ (yW_oc Y) (yW_lc Y) (m_X5_count (yW_bc Y s18) (yW_ht Y) (yW_htc Y) (yW_hts Y) (yW_c Y s18) (yW_c Y s18) hr) rfl rfl (Nat.le_of_ble_eq_true rfl) (hR _) dL_law_703) (fun r703 hf => ?_)
                                                        refine x_aload_n X dL_law_706 rfl 2 rfl ?_
                                                        refine x_aload_n X dL_law_707 rfl 0 rfl ?_
                                                        refine x_iload_n X dL_law_708 rfl 3 rfl ?_
                                                        refine x_iconst (v := 1) X dL_law_709 (by decide) ?_
                                                        refine x_iadd X dL_law_710 ?_
                                                        refine x_sld X hX hbl hS0 dL_law_711 hf (fun x711 hf => ?_)
                                                        refine x_callR (rest := [.int r703]) X hf (fun r hr => x_cV (ci := 6) X cm_X6_count lkV_L_106 rfl ⟨Nat.le_of_ble_eq_true rfl, Nat.le_of_ble_eq_true rfl⟩ (yW_om Y) (yW_lm Y) (m_X6_count (yW_bm Y s18) (yW_ht Y) (yW_htz Y) (yW_m Y s18) (yW_m Y s18) hr) rfl rfl (Nat.le_of_ble_eq_true rfl) (hR _) dL_law_712) (fun r712 hf => ?_)
                                                        refine x_icmp_eq (tgt := 720) X dL_law_715 (by decide) hf (fun hf => ?_) (fun hf => ?_)
                                                        · exact J720 s18 hf
                                                        · refine x_iconst (v := 0) X dL_law_718 (by decide) ?_
                                                          exact x_lret X hQ hf dL_law_719
                                                      · refine x_tabOut (tgt := 720) X dL_law_32 (by have h0 := lv_neT c0 (a := 0) rfl; have h1 := lv_neT c1 (a := 1) rfl; have h2 := lv_neT c2 (a := 2) rfl; have h3 := lv_neT c3 (a := 3) rfl; have h4 := lv_neT c4 (a := 4) rfl; have h5 := lv_neT c5 (a := 5) rfl; have h6 := lv_neT c6 (a := 6) rfl; have h7 := lv_neT c7 (a := 7) rfl; have h8 := lv_neT c8 (a := 8) rfl; have h9 := lv_neT c9 (a := 9) rfl; have h10 := lv_neT c10 (a := 10) rfl; have h11 := lv_neT c11 (a := 11) rfl; have h12 := lv_neT c12 (a := 12) rfl; have h13 := lv_neT c13 (a := 13) rfl; have h14 := lv_neT c14 (a := 14) rfl; have h15 := lv_neT c15 (a := 15) rfl; have h16 := lv_neT c16 (a := 16) rfl; have h17 := lv_neT c17 (a := 17) rfl; have h18 := lv_neT c18 (a := 18) rfl; have h19 := lv_neT c19 (a := 19) rfl; have h20 := lv_neT c20 (a := 20) rfl; have h21 := lv_neT c21 (a := 21) rfl; omega) (by decide) ?_
                                                        exact J720 s18 hf
    refine x_sub [3, 2, 1, 0] rfl ?_
    exact LL FU 0 σ hf
