def f_X0_isNumber (σ : SS) (p1 : Int32) : Option (Int32) :=
  if p1 < 0 then (oB 0) else (if (σ.2 0) ≤ p1 then (oB 0) else (oB 1))
set_option maxRecDepth 100000 in
set_option maxHeartbeats 4000000 in
theorem m_X0_isNumber {l : Launch} {G : va_G} {tys : List (ClassId × FieldType)} {S0 : Nat} {h h1 h2 : Nat → va_E} {b cN' : Nat} {cI : ClassId} {σ : SS} {p1 : Int32} {r : Int32} (hb : b + 22 ≤ cN') (ht : tys[0]? = some (cI, .int)) (e1 : h1 = ov h b (gl S0 cI b σ)) (e2 : h2 = ov h b (gl S0 cI b σ)) (hf : f_X0_isNumber σ p1 = some r) : XMet l G tys S0 cN' yX0_isNumber cX0_isNumber 2 (some .boolean) 0 0 [.ref (S0 + (b + 1)), .int p1] h1 cN' (some (.int r)) h2 0 0 := by
  subst e1; subst e2
  refine XMet.ofE (ST := SS) (HP := fun σ => ov h b (gl S0 cI b σ)) σ σ (by decide) (Nat.le_of_ble_eq_true rfl) ?_
  intro κ g1 g2 g3 g4 g5 g6 E X hQ
  subst g1; subst g2; subst g3; subst g4
  have Y : YS κ h b cI := ⟨fun σ => by rw [g5], fun σ => by rw [g6]; exact hb, ht⟩
  have X : XC κ cX0_isNumber 2 RX0 (some .boolean) 0 0 := X
  show XG κ σ 0 [(0, .ref (κ.S0 + (b + 1))), (1, .int p1)] []
  unfold f_X0_isNumber at hf
  refine x_iload_n X dX0_isNumber_0 rfl 1 rfl ?_
  refine x_if_lt (tgt := 16) X dX0_isNumber_1 (by decide) hf (fun hf => ?_) (fun hf => ?_)
  · refine x_iconst (v := 0) X dX0_isNumber_16 (by decide) ?_
    exact x_zretR (σ0 := σ) X E hQ hf dX0_isNumber_17
  · refine x_iload_n X dX0_isNumber_4 rfl 1 rfl ?_
    refine x_aload_n X dX0_isNumber_5 rfl 0 rfl ?_
    refine x_getf X fl_X0_36 (yS_1 Y) (yS_l Y 1 (by decide)) rfl dX0_isNumber_6 ?_
    refine x_icmp_ge (tgt := 16) X dX0_isNumber_9 (by decide) hf (fun hf => ?_) (fun hf => ?_)
    · refine x_iconst (v := 0) X dX0_isNumber_16 (by decide) ?_
      exact x_zretR (σ0 := σ) X E hQ hf dX0_isNumber_17
    · refine x_iconst (v := 1) X dX0_isNumber_12 (by decide) ?_
      refine x_goto (tgt := 17) X dX0_isNumber_13 (by decide) ?_
      exact x_zretR (σ0 := σ) X E hQ hf dX0_isNumber_17
def f_X0_tellAppend (σ : SS) (p1 : Int32) (p2 : Int32) : Option (Int32) :=
  oR (f_X0_isNumber σ p1) (fun r2 => if r2 = 0 then (some (-1)) else (oA 201 (σ.1 5) p1 (fun x15 => oJ (κ := Int32 → Option (Int32)) (fun t0_25 => if p2 = 0 then (oA 201 (σ.1 2) p1 (fun x77 => some x77)) else (if p2 = 1 then (oA 201 (σ.1 3) p1 (fun x84 => some x84)) else (if p2 = 2 then (oA 201 (σ.1 4) p1 (fun x91 => some x91)) else (if p2 = 3 then (oA 201 (σ.1 5) p1 (fun x98 => some x98)) else (if p2 = 4 then (if t0_25 = 0 then (some (-5)) else (oA 201 (σ.1 6) p1 (fun x109 => some x109))) else (if p2 = 5 then (if t0_25 = 0 then (some (-5)) else (oA 201 (σ.1 7) p1 (fun x125 => some x125))) else (if p2 = 6 then (oA 201 (σ.1 8) p1 (fun x137 => some x137)) else (if p2 = 7 then (if t0_25 = 0 then (some (-5)) else (oA 201 (σ.1 9) p1 (fun x148 => some x148))) else (some (-2)))))))))) (fun k25 => if x15 = 2 then (k25 1) else (k25 0)))))
set_option maxRecDepth 100000 in
set_option maxHeartbeats 4000000 in
theorem m_X0_tellAppend {l : Launch} {G : va_G} {tys : List (ClassId × FieldType)} {S0 : Nat} {h h1 h2 : Nat → va_E} {b cN' : Nat} {cI : ClassId} {σ : SS} {p1 : Int32} {p2 : Int32} {r : Int32} (hb : b + 22 ≤ cN') (ht : tys[0]? = some (cI, .int)) (e1 : h1 = ov h b (gl S0 cI b σ)) (e2 : h2 = ov h b (gl S0 cI b σ)) (hf : f_X0_tellAppend σ p1 p2 = some r) : XMet l G tys S0 cN' yX0_tellAppend cX0_tellAppend 4 (some .int) 1 21 [.ref (S0 + (b + 1)), .int p1, .int p2] h1 cN' (some (.int r)) h2 0 0 := by
  subst e1; subst e2
  refine XMet.ofE (ST := SS) (HP := fun σ => ov h b (gl S0 cI b σ)) σ σ (by decide) (Nat.le_of_ble_eq_true rfl) ?_
  intro κ g1 g2 g3 g4 g5 g6 E X hQ
  subst g1; subst g2; subst g3; subst g4
  have Y : YS κ h b cI := ⟨fun σ => by rw [g5], fun σ => by rw [g6]; exact hb, ht⟩
  have X : XC κ cX0_tellAppend 4 RX0 (some .int) 1 21 := X
  show XG κ σ 0 [(0, .ref (κ.S0 + (b + 1))), (1, .int p1), (2, .int p2)] []
  unfold f_X0_tellAppend at hf
  refine x_aload_n X dX0_tellAppend_0 rfl 0 rfl ?_
  refine x_iload_n X dX0_tellAppend_1 rfl 1 rfl ?_
  refine x_callR (rest := []) X hf (fun r hr => x_cV (ci := 0) X cm_X0_isNumber lkV_X0_67 rfl ⟨Nat.le_of_ble_eq_true rfl, Nat.le_of_ble_eq_true rfl⟩ (yS_1 Y) (yS_l Y 1 (by decide)) (m_X0_isNumber (yS_hb Y σ) (yS_ht Y) (yS_hp Y _) (yS_hp Y _) hr) rfl rfl (Nat.le_of_ble_eq_true rfl) (x_room E _) dX0_tellAppend_2) (fun r2 hf => ?_)
  refine x_if_ne (tgt := 10) X dX0_tellAppend_5 (by decide) hf (fun hf => ?_) (fun hf => ?_)
  · refine x_aload_n X dX0_tellAppend_10 rfl 0 rfl ?_
    refine x_getf X fl_X0_21 (yS_1 Y) (yS_l Y 1 (by decide)) rfl dX0_tellAppend_11 ?_
    refine x_iload_n X dX0_tellAppend_14 rfl 1 rfl ?_
    refine x_iald X 0 (yS_ht Y) (yS_5 Y) (yS_l Y 5 (by decide)) dX0_tellAppend_15 hf (fun x15 hf => ?_)
    refine x_iconst (v := 2) X dX0_tellAppend_16 (by decide) ?_
    refine x_join (fun k25 => ∀ (t0_25 : Int32), k25 t0_25 = some r → XG κ σ 25 [(0, .ref (κ.S0 + (b + 1))), (1, .int p1), (2, .int p2)] [.int t0_25]) hf (fun t0_25 hf => ?_) (fun k25 J25 hf => ?_)
    · refine x_istore_n (lv' := [(3, .int t0_25), (0, .ref (κ.S0 + (b + 1))), (1, .int p1), (2, .int p2)]) X dX0_tellAppend_25 rfl (by decide) rfl ?_
      refine x_iload_n X dX0_tellAppend_26 rfl 3 rfl ?_
      refine x_if hf (fun c0 hf => ?_) (fun c0 hf => ?_)
      · refine x_tabIn (off := 45) (tgt := 72) X dX0_tellAppend_27 (by rw [c0]; decide) (by rw [c0]; decide) (by rw [c0]; rfl) (by decide) ?_
        refine x_aload_n X dX0_tellAppend_72 rfl 1 rfl ?_
        refine x_getf X fl_X0_9 (yS_1 Y) (yS_l Y 1 (by decide)) rfl dX0_tellAppend_73 ?_
        refine x_iload_n X dX0_tellAppend_76 rfl 2 rfl ?_
        refine x_iald X 0 (yS_ht Y) (yS_2 Y) (yS_l Y 2 (by decide)) dX0_tellAppend_77 hf (fun x77 hf => ?_)
        exact x_iretR (σ0 := σ) X E hQ hf dX0_tellAppend_78
      · refine x_if hf (fun c1 hf => ?_) (fun c1 hf => ?_)
        · refine x_tabIn (off := 52) (tgt := 79) X dX0_tellAppend_27 (by rw [c1]; decide) (by rw [c1]; decide) (by rw [c1]; rfl) (by decide) ?_
          refine x_aload_n X dX0_tellAppend_79 rfl 1 rfl ?_
          refine x_getf X fl_X0_15 (yS_1 Y) (yS_l Y 1 (by decide)) rfl dX0_tellAppend_80 ?_
          refine x_iload_n X dX0_tellAppend_83 rfl 2 rfl ?_
          refine x_iald X 0 (yS_ht Y) (yS_3 Y) (yS_l Y 3 (by decide)) dX0_tellAppend_84 hf (fun x84 hf => ?_)
          exact x_iretR (σ0 := σ) X E hQ hf dX0_tellAppend_85
        · refine x_if hf (fun c2 hf => ?_) (fun c2 hf => ?_)
          · refine x_tabIn (off := 59) (tgt := 86) X dX0_tellAppend_27 (by rw [c2]; decide) (by rw [c2]; decide) (by rw [c2]; rfl) (by decide) ?_
            refine x_aload_n X dX0_tellAppend_86 rfl 1 rfl ?_
            refine x_getf X fl_X0_18 (yS_1 Y) (yS_l Y 1 (by decide)) rfl dX0_tellAppend_87 ?_
            refine x_iload_n X dX0_tellAppend_90 rfl 2 rfl ?_
            refine x_iald X 0 (yS_ht Y) (yS_4 Y) (yS_l Y 4 (by decide)) dX0_tellAppend_91 hf (fun x91 hf => ?_)
            exact x_iretR (σ0 := σ) X E hQ hf dX0_tellAppend_92
          · refine x_if hf (fun c3 hf => ?_) (fun c3 hf => ?_)
            · refine x_tabIn (off := 66) (tgt := 93) X dX0_tellAppend_27 (by rw [c3]; decide) (by rw [c3]; decide) (by rw [c3]; rfl) (by decide) ?_
              refine x_aload_n X dX0_tellAppend_93 rfl 1 rfl ?_
              refine x_getf X fl_X0_21 (yS_1 Y) (yS_l Y 1 (by decide)) rfl dX0_tellAppend_94 ?_
              refine x_iload_n X dX0_tellAppend_97 rfl 2 rfl ?_
              refine x_iald X 0 (yS_ht Y) (yS_5 Y) (yS_l Y 5 (by decide)) dX0_tellAppend_98 hf (fun x98 hf => ?_)
              exact x_iretR (σ0 := σ) X E hQ hf dX0_tellAppend_99
            · refine x_if hf (fun c4 hf => ?_) (fun c4 hf => ?_)
              · refine x_tabIn (off := 73) (tgt := 100) X dX0_tellAppend_27 (by rw [c4]; decide) (by rw [c4]; decide) (by rw [c4]; rfl) (by decide) ?_
                refine x_iload_n X dX0_tellAppend_100 rfl 0 rfl ?_
                refine x_if_eq (tgt := 113) X dX0_tellAppend_101 (by decide) hf (fun hf => ?_) (fun hf => ?_)
                · refine x_bipush (v := (-5)) X dX0_tellAppend_113 (by decide) ?_
                  exact x_iretR (σ0 := σ) X E hQ hf dX0_tellAppend_115
                · refine x_aload_n X dX0_tellAppend_104 rfl 1 rfl ?_
                  refine x_getf X fl_X0_24 (yS_1 Y) (yS_l Y 1 (by decide)) rfl dX0_tellAppend_105 ?_
                  refine x_iload_n X dX0_tellAppend_108 rfl 2 rfl ?_
                  refine x_iald X 0 (yS_ht Y) (yS_6 Y) (yS_l Y 6 (by decide)) dX0_tellAppend_109 hf (fun x109 hf => ?_)
                  refine x_goto (tgt := 115) X dX0_tellAppend_110 (by decide) ?_
                  exact x_iretR (σ0 := σ) X E hQ hf dX0_tellAppend_115
              · refine x_if hf (fun c5 hf => ?_) (fun c5 hf => ?_)
                · refine x_tabIn (off := 89) (tgt := 116) X dX0_tellAppend_27 (by rw [c5]; decide) (by rw [c5]; decide) (by rw [c5]; rfl) (by decide) ?_
                  refine x_iload_n X dX0_tellAppend_116 rfl 0 rfl ?_
                  refine x_if_eq (tgt := 129) X dX0_tellAppend_117 (by decide) hf (fun hf => ?_) (fun hf => ?_)
                  · refine x_bipush (v := (-5)) X dX0_tellAppend_129 (by decide) ?_
                    exact x_iretR (σ0 := σ) X E hQ hf dX0_tellAppend_131
                  · refine x_aload_n X dX0_tellAppend_120 rfl 1 rfl ?_
                    refine x_getf X fl_X0_27 (yS_1 Y) (yS_l Y 1 (by decide)) rfl dX0_tellAppend_121 ?_
                    refine x_iload_n X dX0_tellAppend_124 rfl 2 rfl ?_
                    refine x_iald X 0 (yS_ht Y) (yS_7 Y) (yS_l Y 7 (by decide)) dX0_tellAppend_125 hf (fun x125 hf => ?_)
                    refine x_goto (tgt := 131) X dX0_tellAppend_126 (by decide) ?_
                    exact x_iretR (σ0 := σ) X E hQ hf dX0_tellAppend_131
                · refine x_if hf (fun c6 hf => ?_) (fun c6 hf => ?_)
                  · refine x_tabIn (off := 105) (tgt := 132) X dX0_tellAppend_27 (by rw [c6]; decide) (by rw [c6]; decide) (by rw [c6]; rfl) (by decide) ?_
                    refine x_aload_n X dX0_tellAppend_132 rfl 1 rfl ?_
                    refine x_getf X fl_X0_30 (yS_1 Y) (yS_l Y 1 (by decide)) rfl dX0_tellAppend_133 ?_
                    refine x_iload_n X dX0_tellAppend_136 rfl 2 rfl ?_
                    refine x_iald X 0 (yS_ht Y) (yS_8 Y) (yS_l Y 8 (by decide)) dX0_tellAppend_137 hf (fun x137 hf => ?_)
                    exact x_iretR (σ0 := σ) X E hQ hf dX0_tellAppend_138
                  · refine x_if hf (fun c7 hf => ?_) (fun c7 hf => ?_)
                    · refine x_tabIn (off := 112) (tgt := 139) X dX0_tellAppend_27 (by rw [c7]; decide) (by rw [c7]; decide) (by rw [c7]; rfl) (by decide) ?_
                      refine x_iload_n X dX0_tellAppend_139 rfl 0 rfl ?_
                      refine x_if_eq (tgt := 152) X dX0_tellAppend_140 (by decide) hf (fun hf => ?_) (fun hf => ?_)
                      · refine x_bipush (v := (-5)) X dX0_tellAppend_152 (by decide) ?_
                        exact x_iretR (σ0 := σ) X E hQ hf dX0_tellAppend_154
                      · refine x_aload_n X dX0_tellAppend_143 rfl 1 rfl ?_
                        refine x_getf X fl_X0_33 (yS_1 Y) (yS_l Y 1 (by decide)) rfl dX0_tellAppend_144 ?_
                        refine x_iload_n X dX0_tellAppend_147 rfl 2 rfl ?_
                        refine x_iald X 0 (yS_ht Y) (yS_9 Y) (yS_l Y 9 (by decide)) dX0_tellAppend_148 hf (fun x148 hf => ?_)
                        refine x_goto (tgt := 154) X dX0_tellAppend_149 (by decide) ?_
                        exact x_iretR (σ0 := σ) X E hQ hf dX0_tellAppend_154
                    · refine x_tabOut (tgt := 155) X dX0_tellAppend_27 (by have h0 := lv_neT c0 (a := 0) rfl; have h1 := lv_neT c1 (a := 1) rfl; have h2 := lv_neT c2 (a := 2) rfl; have h3 := lv_neT c3 (a := 3) rfl; have h4 := lv_neT c4 (a := 4) rfl; have h5 := lv_neT c5 (a := 5) rfl; have h6 := lv_neT c6 (a := 6) rfl; have h7 := lv_neT c7 (a := 7) rfl; omega) (by decide) ?_
                      refine x_bipush (v := (-2)) X dX0_tellAppend_155 (by decide) ?_
                      exact x_iretR (σ0 := σ) X E hQ hf dX0_tellAppend_157
    · refine x_icmp_ne (tgt := 24) X dX0_tellAppend_17 (by decide) hf (fun hf => ?_) (fun hf => ?_)
      · refine x_iconst (v := 0) X dX0_tellAppend_24 (by decide) ?_
        exact J25 0 hf
      · refine x_iconst (v := 1) X dX0_tellAppend_20 (by decide) ?_
        refine x_goto (tgt := 25) X dX0_tellAppend_21 (by decide) ?_
        exact J25 1 hf
  · refine x_iconst (v := (-1)) X dX0_tellAppend_8 (by decide) ?_
    exact x_iretR (σ0 := σ) X E hQ hf dX0_tellAppend_9
def f_X3_tellWriter (σ : SS) (p1 : Int32) (p2 : Int32) : Option (Int32) :=
  oR (f_X5_isWriter p1) (fun r1 => if r1 = 0 then (some (-1)) else (if p2 = 0 then (oA 4 (σ.1 19) p1 (fun x53 => some x53)) else (if p2 = 1 then (oR (f_X0_ofWriter σ p1 0) (fun r61 => some r61)) else (if p2 = 2 then (oR (f_X0_ofWriter σ p1 1) (fun r71 => some r71)) else (if p2 = 3 then (oR (f_X0_ofWriter σ p1 2) (fun r81 => some r81)) else (if p2 = 4 then (oR (f_X0_ofWriter σ p1 3) (fun r91 => some r91)) else (if p2 = 5 then (oA 4 (σ.1 20) p1 (fun x100 => some x100)) else (some (-2)))))))))
set_option maxRecDepth 100000 in
set_option maxHeartbeats 4000000 in
theorem m_X3_tellWriter {l : Launch} {G : va_G} {tys : List (ClassId × FieldType)} {S0 : Nat} {h h1 h2 : Nat → va_E} {b cN' : Nat} {cI : ClassId} {σ : SS} {p1 : Int32} {p2 : Int32} {r : Int32} (hb : b + 22 ≤ cN') (ht : tys[0]? = some (cI, .int)) (e1 : h1 = ov h b (gl S0 cI b σ)) (e2 : h2 = ov h b (gl S0 cI b σ)) (hf : f_X3_tellWriter σ p1 p2 = some r) : XMet l G tys S0 cN' yX3_tellWriter cX3_tellWriter 3 (some .int) 1 24 [.ref (S0 + (b + 0)), .int p1, .int p2] h1 cN' (some (.int r)) h2 0 0 := by
  subst e1; subst e2
  refine XMet.ofE (ST := SS) (HP := fun σ => ov h b (gl S0 cI b σ)) σ σ (by decide) (Nat.le_of_ble_eq_true rfl) ?_
  intro κ g1 g2 g3 g4 g5 g6 E X hQ
  subst g1; subst g2; subst g3; subst g4
  have Y : YS κ h b cI := ⟨fun σ => by rw [g5], fun σ => by rw [g6]; exact hb, ht⟩
  have X : XC κ cX3_tellWriter 3 RX3 (some .int) 1 24 := X
  show XG κ σ 0 [(0, .ref (κ.S0 + (b + 0))), (1, .int p1), (2, .int p2)] []
  unfold f_X3_tellWriter at hf
  refine x_iload_n X dX3_tellWriter_0 rfl 1 rfl ?_
  refine x_callR (rest := []) X hf (fun r hr => x_cSN X cm_X5_isWriter lkN_X3_99 ⟨Nat.le_of_ble_eq_true rfl, Nat.le_of_ble_eq_true rfl⟩ (m_X5_isWriter hr) rfl rfl (Nat.le_of_ble_eq_true rfl) (x_room E _) dX3_tellWriter_1) (fun r1 hf => ?_)
  refine x_if_ne (tgt := 9) X dX3_tellWriter_4 (by decide) hf (fun hf => ?_) (fun hf => ?_)
  · refine x_iload_n X dX3_tellWriter_9 rfl 2 rfl ?_
    refine x_if hf (fun c0 hf => ?_) (fun c0 hf => ?_)
    · refine x_tabIn (off := 38) (tgt := 48) X dX3_tellWriter_10 (by rw [c0]; decide) (by rw [c0]; decide) (by rw [c0]; rfl) (by decide) ?_
      refine x_aload_n X dX3_tellWriter_48 rfl 0 rfl ?_
      refine x_getf X fl_X3_25 (yS_0 Y) (yS_l Y 0 (by decide)) rfl dX3_tellWriter_49 ?_
      refine x_iload_n X dX3_tellWriter_52 rfl 1 rfl ?_
      refine x_iald X 0 (yS_ht Y) (yS_19 Y) (yS_l Y 19 (by decide)) dX3_tellWriter_53 hf (fun x53 hf => ?_)
      exact x_iretR (σ0 := σ) X E hQ hf dX3_tellWriter_54
    · refine x_if hf (fun c1 hf => ?_) (fun c1 hf => ?_)
      · refine x_tabIn (off := 45) (tgt := 55) X dX3_tellWriter_10 (by rw [c1]; decide) (by rw [c1]; decide) (by rw [c1]; rfl) (by decide) ?_
        refine x_aload_n X dX3_tellWriter_55 rfl 0 rfl ?_
        refine x_getf X fl_X3_12 (yS_0 Y) (yS_l Y 0 (by decide)) rfl dX3_tellWriter_56 ?_
        refine x_iload_n X dX3_tellWriter_59 rfl 1 rfl ?_
        refine x_iconst (v := 0) X dX3_tellWriter_60 (by decide) ?_
        refine x_callR (rest := []) X hf (fun r hr => x_cV (ci := 0) X cm_X0_ofWriter lkV_X3_102 rfl ⟨Nat.le_of_ble_eq_true rfl, Nat.le_of_ble_eq_true rfl⟩ (yS_1 Y) (yS_l Y 1 (by decide)) (m_X0_ofWriter (yS_hb Y σ) (yS_ht Y) (yS_hp Y _) (yS_hp Y _) hr) rfl rfl (Nat.le_of_ble_eq_true rfl) (x_room E _) dX3_tellWriter_61) (fun r61 hf => ?_)
        exact x_iretR (σ0 := σ) X E hQ hf dX3_tellWriter_64
      · refine x_if hf (fun c2 hf => ?_) (fun c2 hf => ?_)
        · refine x_tabIn (off := 55) (tgt := 65) X dX3_tellWriter_10 (by rw [c2]; decide) (by rw [c2]; decide) (by rw [c2]; rfl) (by decide) ?_
          refine x_aload_n X dX3_tellWriter_65 rfl 0 rfl ?_
          refine x_getf X fl_X3_12 (yS_0 Y) (yS_l Y 0 (by decide)) rfl dX3_tellWriter_66 ?_
          refine x_iload_n X dX3_tellWriter_69 rfl 1 rfl ?_
          refine x_iconst (v := 1) X dX3_tellWriter_70 (by decide) ?_
          refine x_callR (rest := []) X hf (fun r hr => x_cV (ci := 0) X cm_X0_ofWriter lkV_X3_102 rfl ⟨Nat.le_of_ble_eq_true rfl, Nat.le_of_ble_eq_true rfl⟩ (yS_1 Y) (yS_l Y 1 (by decide)) (m_X0_ofWriter (yS_hb Y σ) (yS_ht Y) (yS_hp Y _) (yS_hp Y _) hr) rfl rfl (Nat.le_of_ble_eq_true rfl) (x_room E _) dX3_tellWriter_71) (fun r71 hf => ?_)
          exact x_iretR (σ0 := σ) X E hQ hf dX3_tellWriter_74
        · refine x_if hf (fun c3 hf => ?_) (fun c3 hf => ?_)
          · refine x_tabIn (off := 65) (tgt := 75) X dX3_tellWriter_10 (by rw [c3]; decide) (by rw [c3]; decide) (by rw [c3]; rfl) (by decide) ?_
            refine x_aload_n X dX3_tellWriter_75 rfl 0 rfl ?_
            refine x_getf X fl_X3_12 (yS_0 Y) (yS_l Y 0 (by decide)) rfl dX3_tellWriter_76 ?_
            refine x_iload_n X dX3_tellWriter_79 rfl 1 rfl ?_
            refine x_iconst (v := 2) X dX3_tellWriter_80 (by decide) ?_
            refine x_callR (rest := []) X hf (fun r hr => x_cV (ci := 0) X cm_X0_ofWriter lkV_X3_102 rfl ⟨Nat.le_of_ble_eq_true rfl, Nat.le_of_ble_eq_true rfl⟩ (yS_1 Y) (yS_l Y 1 (by decide)) (m_X0_ofWriter (yS_hb Y σ) (yS_ht Y) (yS_hp Y _) (yS_hp Y _) hr) rfl rfl (Nat.le_of_ble_eq_true rfl) (x_room E _) dX3_tellWriter_81) (fun r81 hf => ?_)
            exact x_iretR (σ0 := σ) X E hQ hf dX3_tellWriter_84
          · refine x_if hf (fun c4 hf => ?_) (fun c4 hf => ?_)
            · refine x_tabIn (off := 75) (tgt := 85) X dX3_tellWriter_10 (by rw [c4]; decide) (by rw [c4]; decide) (by rw [c4]; rfl) (by decide) ?_
              refine x_aload_n X dX3_tellWriter_85 rfl 0 rfl ?_
              refine x_getf X fl_X3_12 (yS_0 Y) (yS_l Y 0 (by decide)) rfl dX3_tellWriter_86 ?_
              refine x_iload_n X dX3_tellWriter_89 rfl 1 rfl ?_
              refine x_iconst (v := 3) X dX3_tellWriter_90 (by decide) ?_
              refine x_callR (rest := []) X hf (fun r hr => x_cV (ci := 0) X cm_X0_ofWriter lkV_X3_102 rfl ⟨Nat.le_of_ble_eq_true rfl, Nat.le_of_ble_eq_true rfl⟩ (yS_1 Y) (yS_l Y 1 (by decide)) (m_X0_ofWriter (yS_hb Y σ) (yS_ht Y) (yS_hp Y _) (yS_hp Y _) hr) rfl rfl (Nat.le_of_ble_eq_true rfl) (x_room E _) dX3_tellWriter_91) (fun r91 hf => ?_)
              exact x_iretR (σ0 := σ) X E hQ hf dX3_tellWriter_94
            · refine x_if hf (fun c5 hf => ?_) (fun c5 hf => ?_)
              · refine x_tabIn (off := 85) (tgt := 95) X dX3_tellWriter_10 (by rw [c5]; decide) (by rw [c5]; decide) (by rw [c5]; rfl) (by decide) ?_
                refine x_aload_n X dX3_tellWriter_95 rfl 0 rfl ?_
                refine x_getf X fl_X3_29 (yS_0 Y) (yS_l Y 0 (by decide)) rfl dX3_tellWriter_96 ?_
                refine x_iload_n X dX3_tellWriter_99 rfl 1 rfl ?_
                refine x_iald X 0 (yS_ht Y) (yS_20 Y) (yS_l Y 20 (by decide)) dX3_tellWriter_100 hf (fun x100 hf => ?_)
                exact x_iretR (σ0 := σ) X E hQ hf dX3_tellWriter_101
              · refine x_tabOut (tgt := 102) X dX3_tellWriter_10 (by have h0 := lv_neT c0 (a := 0) rfl; have h1 := lv_neT c1 (a := 1) rfl; have h2 := lv_neT c2 (a := 2) rfl; have h3 := lv_neT c3 (a := 3) rfl; have h4 := lv_neT c4 (a := 4) rfl; have h5 := lv_neT c5 (a := 5) rfl; omega) (by decide) ?_
                refine x_bipush (v := (-2)) X dX3_tellWriter_102 (by decide) ?_
                exact x_iretR (σ0 := σ) X E hQ hf dX3_tellWriter_104
  · refine x_iconst (v := (-1)) X dX3_tellWriter_7 (by decide) ?_
    exact x_iretR (σ0 := σ) X E hQ hf dX3_tellWriter_8
def f_X0_toldAt (σ : SS) (p1 : Int32) : Option (Int32) :=
  if 0 ≤ p1 then (if (σ.2 1) ≤ p1 then (some (-5)) else (oA 201 (σ.1 10) p1 (fun x20 => some x20))) else (some (-2))
set_option maxRecDepth 100000 in
set_option maxHeartbeats 4000000 in
theorem m_X0_toldAt {l : Launch} {G : va_G} {tys : List (ClassId × FieldType)} {S0 : Nat} {h h1 h2 : Nat → va_E} {b cN' : Nat} {cI : ClassId} {σ : SS} {p1 : Int32} {r : Int32} (hb : b + 22 ≤ cN') (ht : tys[0]? = some (cI, .int)) (e1 : h1 = ov h b (gl S0 cI b σ)) (e2 : h2 = ov h b (gl S0 cI b σ)) (hf : f_X0_toldAt σ p1 = some r) : XMet l G tys S0 cN' yX0_toldAt cX0_toldAt 2 (some .int) 0 0 [.ref (S0 + (b + 1)), .int p1] h1 cN' (some (.int r)) h2 0 0 := by
  subst e1; subst e2
  refine XMet.ofE (ST := SS) (HP := fun σ => ov h b (gl S0 cI b σ)) σ σ (by decide) (Nat.le_of_ble_eq_true rfl) ?_
  intro κ g1 g2 g3 g4 g5 g6 E X hQ
  subst g1; subst g2; subst g3; subst g4
  have Y : YS κ h b cI := ⟨fun σ => by rw [g5], fun σ => by rw [g6]; exact hb, ht⟩
  have X : XC κ cX0_toldAt 2 RX0 (some .int) 0 0 := X
  show XG κ σ 0 [(0, .ref (κ.S0 + (b + 1))), (1, .int p1)] []
  unfold f_X0_toldAt at hf
  refine x_iload_n X dX0_toldAt_0 rfl 1 rfl ?_
  refine x_if_ge (tgt := 7) X dX0_toldAt_1 (by decide) hf (fun hf => ?_) (fun hf => ?_)
  · refine x_iload_n X dX0_toldAt_7 rfl 1 rfl ?_
    refine x_aload_n X dX0_toldAt_8 rfl 0 rfl ?_
    refine x_getf X fl_X0_43 (yS_1 Y) (yS_l Y 1 (by decide)) rfl dX0_toldAt_9 ?_
    refine x_icmp_ge (tgt := 24) X dX0_toldAt_12 (by decide) hf (fun hf => ?_) (fun hf => ?_)
    · refine x_bipush (v := (-5)) X dX0_toldAt_24 (by decide) ?_
      exact x_iretR (σ0 := σ) X E hQ hf dX0_toldAt_26
    · refine x_aload_n X dX0_toldAt_15 rfl 0 rfl ?_
      refine x_getf X fl_X0_40 (yS_1 Y) (yS_l Y 1 (by decide)) rfl dX0_toldAt_16 ?_
      refine x_iload_n X dX0_toldAt_19 rfl 1 rfl ?_
      refine x_iald X 0 (yS_ht Y) (yS_10 Y) (yS_l Y 10 (by decide)) dX0_toldAt_20 hf (fun x20 hf => ?_)
      refine x_goto (tgt := 26) X dX0_toldAt_21 (by decide) ?_
      exact x_iretR (σ0 := σ) X E hQ hf dX0_toldAt_26
  · refine x_bipush (v := (-2)) X dX0_toldAt_4 (by decide) ?_
    exact x_iretR (σ0 := σ) X E hQ hf dX0_toldAt_6
def f_X3_ticksUntilTold_L2 (p1 : Int32) (kX2 : SS → Option (Int32 × SS)) : Nat → Int32 → SS → Option (Int32 × SS)
  | 0, _, _ => none
  | n + 1, v2_2, s2 =>
    if 999 < v2_2 then (kX2 s2) else (oV (f_X3_letOnePass s2) (fun t => t) (fun s10 => oA 201 (s10.1 5) p1 (fun x21 => if x21 = 2 then (some (v2_2, s10)) else (oA 201 (s10.1 5) p1 (fun x36 => if x36 = 3 then (some ((-5), s10)) else (oR (f_X0_liveIn s10 1) (fun r46 => if r46 = 0 then (some ((-5), s10)) else (f_X3_ticksUntilTold_L2 p1 kX2 n (v2_2 + 1) s10))))))))
def f_X3_ticksUntilTold (σ : SS) (p1 : Int32) : Option (Int32 × SS) :=
  f_X3_ticksUntilTold_L2 p1 (fun sx61 => some ((-5), sx61)) FU 1 σ
set_option maxRecDepth 100000 in
set_option maxHeartbeats 4000000 in
theorem m_X3_ticksUntilTold {l : Launch} {G : va_G} {tys : List (ClassId × FieldType)} {S0 : Nat} {h h1 h2 : Nat → va_E} {b cN' : Nat} {cI : ClassId} {σ : SS} {τ : SS} {p1 : Int32} {r : Int32} (hb : b + 22 ≤ cN') (ht : tys[0]? = some (cI, .int)) (e1 : h1 = ov h b (gl S0 cI b σ)) (e2 : h2 = ov h b (gl S0 cI b τ)) (hf : f_X3_ticksUntilTold σ p1 = some (r, τ)) : XMet l G tys S0 cN' yX3_ticksUntilTold cX3_ticksUntilTold 3 (some .int) 4 93 [.ref (S0 + (b + 0)), .int p1] h1 cN' (some (.int r)) h2 0 0 := by
  subst e1; subst e2
  refine XMet.ofE (ST := SS) (HP := fun σ => ov h b (gl S0 cI b σ)) σ τ (by decide) (Nat.le_of_ble_eq_true rfl) ?_
  intro κ g1 g2 g3 g4 g5 g6 E X hQ
  subst g1; subst g2; subst g3; subst g4
  have Y : YS κ h b cI := ⟨fun σ => by rw [g5], fun σ => by rw [g6]; exact hb, ht⟩
  have X : XC κ cX3_ticksUntilTold 3 RX3 (some .int) 4 93 := X
  show XG κ σ 0 [(0, .ref (κ.S0 + (b + 0))), (1, .int p1)] []
  unfold f_X3_ticksUntilTold at hf
  refine x_iconst (v := 1) X dX3_ticksUntilTold_0 (by decide) ?_
  refine x_istore_n (lv' := [(2, .int 1), (0, .ref (κ.S0 + (b + 0))), (1, .int p1)]) X dX3_ticksUntilTold_1 rfl (by decide) rfl ?_
  refine x_kont (b := fun kX2 => f_X3_ticksUntilTold_L2 p1 kX2 FU 1 σ) (fun kX2 => ∀  (sx61 : SS), kX2 sx61 = some (r, τ) → XG κ sx61 61 [] []) hf (fun sx61 hf => ?_) (fun kX2 JX2 hf => ?_)
  · refine x_bipush (v := (-5)) X dX3_ticksUntilTold_61 (by decide) ?_
    exact x_iretW (σ0 := σ) X E hQ hf dX3_ticksUntilTold_63
  · have LL : ∀ (n : Nat) (v2_2 : Int32) (s2 : SS), f_X3_ticksUntilTold_L2 p1 kX2 n v2_2 s2 = some (r, τ) → XG κ s2 2 [(0, .ref (κ.S0 + (b + 0))), (1, .int p1), (2, .int v2_2)] [] := by
      intro n
      induction n with
      | zero => intro v2_2 s2 hf; rw [f_X3_ticksUntilTold_L2] at hf; cases hf
      | succ n ih2 =>
        intro v2_2 s2 hf
        rw [f_X3_ticksUntilTold_L2] at hf
        refine x_iload_n X dX3_ticksUntilTold_2 rfl 2 rfl ?_
        refine x_sipush (v := 999) X dX3_ticksUntilTold_3 (by decide) ?_
        refine x_icmp_gt (tgt := 61) X dX3_ticksUntilTold_6 (by decide) hf (fun hf => ?_) (fun hf => ?_)
        · refine x_sub [] rfl ?_
          exact JX2 s2 hf
        · refine x_aload_n X dX3_ticksUntilTold_9 rfl 0 rfl ?_
          refine x_callV (rest := []) (w := fun t => t) X E.1 hf (fun t hr => x_cV (ci := 3) X cm_X3_letOnePass lkV_X3_132 rfl ⟨Nat.le_of_ble_eq_true rfl, Nat.le_of_ble_eq_true rfl⟩ (yS_0 Y) (yS_l Y 0 (by decide)) (m_X3_letOnePass (yS_hb Y s2) (yS_ht Y) (yS_hp Y _) (yS_hp Y _) hr) rfl rfl (Nat.le_of_ble_eq_true rfl) (x_room E _) dX3_ticksUntilTold_10) (fun s10 hf => ?_)
          refine x_aload_n X dX3_ticksUntilTold_13 rfl 0 rfl ?_
          refine x_getf X fl_X3_12 (yS_0 Y) (yS_l Y 0 (by decide)) rfl dX3_ticksUntilTold_14 ?_
          refine x_getf X fl_X3_159 (yS_1 Y) (yS_l Y 1 (by decide)) rfl dX3_ticksUntilTold_17 ?_
          refine x_iload_n X dX3_ticksUntilTold_20 rfl 1 rfl ?_
          refine x_iald X 0 (yS_ht Y) (yS_5 Y) (yS_l Y 5 (by decide)) dX3_ticksUntilTold_21 hf (fun x21 hf => ?_)
          refine x_iconst (v := 2) X dX3_ticksUntilTold_22 (by decide) ?_
          refine x_icmp_ne (tgt := 28) X dX3_ticksUntilTold_23 (by decide) hf (fun hf => ?_) (fun hf => ?_)
          · refine x_aload_n X dX3_ticksUntilTold_28 rfl 0 rfl ?_
            refine x_getf X fl_X3_12 (yS_0 Y) (yS_l Y 0 (by decide)) rfl dX3_ticksUntilTold_29 ?_
            refine x_getf X fl_X3_159 (yS_1 Y) (yS_l Y 1 (by decide)) rfl dX3_ticksUntilTold_32 ?_
            refine x_iload_n X dX3_ticksUntilTold_35 rfl 1 rfl ?_
            refine x_iald X 0 (yS_ht Y) (yS_5 Y) (yS_l Y 5 (by decide)) dX3_ticksUntilTold_36 hf (fun x36 hf => ?_)
            refine x_iconst (v := 3) X dX3_ticksUntilTold_37 (by decide) ?_
            refine x_icmp_eq (tgt := 52) X dX3_ticksUntilTold_38 (by decide) hf (fun hf => ?_) (fun hf => ?_)
            · refine x_bipush (v := (-5)) X dX3_ticksUntilTold_52 (by decide) ?_
              exact x_iretW (σ0 := σ) X E hQ hf dX3_ticksUntilTold_54
            · refine x_aload_n X dX3_ticksUntilTold_41 rfl 0 rfl ?_
              refine x_getf X fl_X3_12 (yS_0 Y) (yS_l Y 0 (by decide)) rfl dX3_ticksUntilTold_42 ?_
              refine x_iconst (v := 1) X dX3_ticksUntilTold_45 (by decide) ?_
              refine x_callR (rest := []) X hf (fun r hr => x_cV (ci := 0) X cm_X0_liveIn lkV_X3_176 rfl ⟨Nat.le_of_ble_eq_true rfl, Nat.le_of_ble_eq_true rfl⟩ (yS_1 Y) (yS_l Y 1 (by decide)) (m_X0_liveIn (yS_hb Y s10) (yS_ht Y) (yS_hp Y _) (yS_hp Y _) hr) rfl rfl (Nat.le_of_ble_eq_true rfl) (x_room E _) dX3_ticksUntilTold_46) (fun r46 hf => ?_)
              refine x_if_ne (tgt := 55) X dX3_ticksUntilTold_49 (by decide) hf (fun hf => ?_) (fun hf => ?_)
              · refine x_iinc (v := v2_2 + 1) (lv' := [(2, .int (v2_2 + 1)), (0, .ref (κ.S0 + (b + 0))), (1, .int p1)]) X dX3_ticksUntilTold_55 2 rfl rfl (by decide) rfl ?_
                refine x_goto (tgt := 2) X dX3_ticksUntilTold_58 (by decide) ?_
                refine x_sub [1, 2, 0] rfl ?_
                exact ih2 (v2_2 + 1) s10 hf
              · refine x_bipush (v := (-5)) X dX3_ticksUntilTold_52 (by decide) ?_
                exact x_iretW (σ0 := σ) X E hQ hf dX3_ticksUntilTold_54
          · refine x_iload_n X dX3_ticksUntilTold_26 rfl 2 rfl ?_
            exact x_iretW (σ0 := σ) X E hQ hf dX3_ticksUntilTold_27
    refine x_sub [1, 2, 0] rfl ?_
    exact LL FU 1 σ hf
def f_X3_tellNumber (σ : SS) (p1 : Int32) : Option (Int32) :=
  if p1 = 0 then (some (σ.2 10)) else (if p1 = 1 then (some (σ.2 4)) else (if p1 = 2 then (some (σ.2 5)) else (if p1 = 3 then (some (σ.2 8)) else (if p1 = 4 then (some (σ.2 9)) else (if p1 = 5 then (oR (f_X4_inPhase σ 1) (fun r108 => some r108)) else (if p1 = 6 then (oR (f_X4_inUse σ) (fun r116 => some r116)) else (if p1 = 7 then (some (σ.2 0)) else (if p1 = 8 then (oR (f_X0_liveIn σ 0) (fun r133 => some r133)) else (if p1 = 9 then (oR (f_X0_liveIn σ 1) (fun r142 => some r142)) else (if p1 = 10 then (some (σ.2 1)) else (if p1 = 11 then (some (((σ.2 0) - (σ.2 1)) - (σ.2 2))) else (if p1 = 12 then (some (σ.2 7)) else (if p1 = 13 then (some (σ.2 6)) else (some (-2)))))))))))))))
set_option maxRecDepth 100000 in
set_option maxHeartbeats 4000000 in
theorem m_X3_tellNumber {l : Launch} {G : va_G} {tys : List (ClassId × FieldType)} {S0 : Nat} {h h1 h2 : Nat → va_E} {b cN' : Nat} {cI : ClassId} {σ : SS} {p1 : Int32} {r : Int32} (hb : b + 22 ≤ cN') (ht : tys[0]? = some (cI, .int)) (e1 : h1 = ov h b (gl S0 cI b σ)) (e2 : h2 = ov h b (gl S0 cI b σ)) (hf : f_X3_tellNumber σ p1 = some r) : XMet l G tys S0 cN' yX3_tellNumber cX3_tellNumber 2 (some .int) 1 23 [.ref (S0 + (b + 0)), .int p1] h1 cN' (some (.int r)) h2 0 0 := by
  subst e1; subst e2
  refine XMet.ofE (ST := SS) (HP := fun σ => ov h b (gl S0 cI b σ)) σ σ (by decide) (Nat.le_of_ble_eq_true rfl) ?_
  intro κ g1 g2 g3 g4 g5 g6 E X hQ
  subst g1; subst g2; subst g3; subst g4
  have Y : YS κ h b cI := ⟨fun σ => by rw [g5], fun σ => by rw [g6]; exact hb, ht⟩
  have X : XC κ cX3_tellNumber 2 RX3 (some .int) 1 23 := X
  show XG κ σ 0 [(0, .ref (κ.S0 + (b + 0))), (1, .int p1)] []
  unfold f_X3_tellNumber at hf
  refine x_iload_n X dX3_tellNumber_0 rfl 1 rfl ?_
  refine x_if hf (fun c0 hf => ?_) (fun c0 hf => ?_)
  · refine x_tabIn (off := 71) (tgt := 72) X dX3_tellNumber_1 (by rw [c0]; decide) (by rw [c0]; decide) (by rw [c0]; rfl) (by decide) ?_
    refine x_aload_n X dX3_tellNumber_72 rfl 0 rfl ?_
    refine x_getf X fl_X3_42 (yS_0 Y) (yS_l Y 0 (by decide)) rfl dX3_tellNumber_73 ?_
    exact x_iretR (σ0 := σ) X E hQ hf dX3_tellNumber_76
  · refine x_if hf (fun c1 hf => ?_) (fun c1 hf => ?_)
    · refine x_tabIn (off := 76) (tgt := 77) X dX3_tellNumber_1 (by rw [c1]; decide) (by rw [c1]; decide) (by rw [c1]; rfl) (by decide) ?_
      refine x_aload_n X dX3_tellNumber_77 rfl 0 rfl ?_
      refine x_getf X fl_X3_21 (yS_0 Y) (yS_l Y 0 (by decide)) rfl dX3_tellNumber_78 ?_
      refine x_getf X fl_X3_69 (yS_12 Y) (yS_l Y 12 (by decide)) rfl dX3_tellNumber_81 ?_
      exact x_iretR (σ0 := σ) X E hQ hf dX3_tellNumber_84
    · refine x_if hf (fun c2 hf => ?_) (fun c2 hf => ?_)
      · refine x_tabIn (off := 84) (tgt := 85) X dX3_tellNumber_1 (by rw [c2]; decide) (by rw [c2]; decide) (by rw [c2]; rfl) (by decide) ?_
        refine x_aload_n X dX3_tellNumber_85 rfl 0 rfl ?_
        refine x_getf X fl_X3_21 (yS_0 Y) (yS_l Y 0 (by decide)) rfl dX3_tellNumber_86 ?_
        refine x_getf X fl_X3_79 (yS_12 Y) (yS_l Y 12 (by decide)) rfl dX3_tellNumber_89 ?_
        exact x_iretR (σ0 := σ) X E hQ hf dX3_tellNumber_92
      · refine x_if hf (fun c3 hf => ?_) (fun c3 hf => ?_)
        · refine x_tabIn (off := 92) (tgt := 93) X dX3_tellNumber_1 (by rw [c3]; decide) (by rw [c3]; decide) (by rw [c3]; rfl) (by decide) ?_
          refine x_aload_n X dX3_tellNumber_93 rfl 0 rfl ?_
          refine x_getf X fl_X3_35 (yS_0 Y) (yS_l Y 0 (by decide)) rfl dX3_tellNumber_94 ?_
          exact x_iretR (σ0 := σ) X E hQ hf dX3_tellNumber_97
        · refine x_if hf (fun c4 hf => ?_) (fun c4 hf => ?_)
          · refine x_tabIn (off := 97) (tgt := 98) X dX3_tellNumber_1 (by rw [c4]; decide) (by rw [c4]; decide) (by rw [c4]; rfl) (by decide) ?_
            refine x_aload_n X dX3_tellNumber_98 rfl 0 rfl ?_
            refine x_getf X fl_X3_39 (yS_0 Y) (yS_l Y 0 (by decide)) rfl dX3_tellNumber_99 ?_
            exact x_iretR (σ0 := σ) X E hQ hf dX3_tellNumber_102
          · refine x_if hf (fun c5 hf => ?_) (fun c5 hf => ?_)
            · refine x_tabIn (off := 102) (tgt := 103) X dX3_tellNumber_1 (by rw [c5]; decide) (by rw [c5]; decide) (by rw [c5]; rfl) (by decide) ?_
              refine x_aload_n X dX3_tellNumber_103 rfl 0 rfl ?_
              refine x_getf X fl_X3_21 (yS_0 Y) (yS_l Y 0 (by decide)) rfl dX3_tellNumber_104 ?_
              refine x_iconst (v := 1) X dX3_tellNumber_107 (by decide) ?_
              refine x_callR (rest := []) X hf (fun r hr => x_cV (ci := 4) X cm_X4_inPhase lkV_X3_76 rfl ⟨Nat.le_of_ble_eq_true rfl, Nat.le_of_ble_eq_true rfl⟩ (yS_12 Y) (yS_l Y 12 (by decide)) (m_X4_inPhase (yS_hb Y σ) (yS_ht Y) (yS_hp Y _) (yS_hp Y _) hr) rfl rfl (Nat.le_of_ble_eq_true rfl) (x_room E _) dX3_tellNumber_108) (fun r108 hf => ?_)
              exact x_iretR (σ0 := σ) X E hQ hf dX3_tellNumber_111
            · refine x_if hf (fun c6 hf => ?_) (fun c6 hf => ?_)
              · refine x_tabIn (off := 111) (tgt := 112) X dX3_tellNumber_1 (by rw [c6]; decide) (by rw [c6]; decide) (by rw [c6]; rfl) (by decide) ?_
                refine x_aload_n X dX3_tellNumber_112 rfl 0 rfl ?_
                refine x_getf X fl_X3_21 (yS_0 Y) (yS_l Y 0 (by decide)) rfl dX3_tellNumber_113 ?_
                refine x_callR (rest := []) X hf (fun r hr => x_cV (ci := 4) X cm_X4_inUse lkV_X3_82 rfl ⟨Nat.le_of_ble_eq_true rfl, Nat.le_of_ble_eq_true rfl⟩ (yS_12 Y) (yS_l Y 12 (by decide)) (m_X4_inUse (yS_hb Y σ) (yS_ht Y) (yS_hp Y _) (yS_hp Y _) hr) rfl rfl (Nat.le_of_ble_eq_true rfl) (x_room E _) dX3_tellNumber_116) (fun r116 hf => ?_)
                exact x_iretR (σ0 := σ) X E hQ hf dX3_tellNumber_119
              · refine x_if hf (fun c7 hf => ?_) (fun c7 hf => ?_)
                · refine x_tabIn (off := 119) (tgt := 120) X dX3_tellNumber_1 (by rw [c7]; decide) (by rw [c7]; decide) (by rw [c7]; rfl) (by decide) ?_
                  refine x_aload_n X dX3_tellNumber_120 rfl 0 rfl ?_
                  refine x_getf X fl_X3_12 (yS_0 Y) (yS_l Y 0 (by decide)) rfl dX3_tellNumber_121 ?_
                  refine x_getf X fl_X3_106 (yS_1 Y) (yS_l Y 1 (by decide)) rfl dX3_tellNumber_124 ?_
                  exact x_iretR (σ0 := σ) X E hQ hf dX3_tellNumber_127
                · refine x_if hf (fun c8 hf => ?_) (fun c8 hf => ?_)
                  · refine x_tabIn (off := 127) (tgt := 128) X dX3_tellNumber_1 (by rw [c8]; decide) (by rw [c8]; decide) (by rw [c8]; rfl) (by decide) ?_
                    refine x_aload_n X dX3_tellNumber_128 rfl 0 rfl ?_
                    refine x_getf X fl_X3_12 (yS_0 Y) (yS_l Y 0 (by decide)) rfl dX3_tellNumber_129 ?_
                    refine x_iconst (v := 0) X dX3_tellNumber_132 (by decide) ?_
                    refine x_callR (rest := []) X hf (fun r hr => x_cV (ci := 0) X cm_X0_liveIn lkV_X3_176 rfl ⟨Nat.le_of_ble_eq_true rfl, Nat.le_of_ble_eq_true rfl⟩ (yS_1 Y) (yS_l Y 1 (by decide)) (m_X0_liveIn (yS_hb Y σ) (yS_ht Y) (yS_hp Y _) (yS_hp Y _) hr) rfl rfl (Nat.le_of_ble_eq_true rfl) (x_room E _) dX3_tellNumber_133) (fun r133 hf => ?_)
                    exact x_iretR (σ0 := σ) X E hQ hf dX3_tellNumber_136
                  · refine x_if hf (fun c9 hf => ?_) (fun c9 hf => ?_)
                    · refine x_tabIn (off := 136) (tgt := 137) X dX3_tellNumber_1 (by rw [c9]; decide) (by rw [c9]; decide) (by rw [c9]; rfl) (by decide) ?_
                      refine x_aload_n X dX3_tellNumber_137 rfl 0 rfl ?_
                      refine x_getf X fl_X3_12 (yS_0 Y) (yS_l Y 0 (by decide)) rfl dX3_tellNumber_138 ?_
                      refine x_iconst (v := 1) X dX3_tellNumber_141 (by decide) ?_
                      refine x_callR (rest := []) X hf (fun r hr => x_cV (ci := 0) X cm_X0_liveIn lkV_X3_176 rfl ⟨Nat.le_of_ble_eq_true rfl, Nat.le_of_ble_eq_true rfl⟩ (yS_1 Y) (yS_l Y 1 (by decide)) (m_X0_liveIn (yS_hb Y σ) (yS_ht Y) (yS_hp Y _) (yS_hp Y _) hr) rfl rfl (Nat.le_of_ble_eq_true rfl) (x_room E _) dX3_tellNumber_142) (fun r142 hf => ?_)
                      exact x_iretR (σ0 := σ) X E hQ hf dX3_tellNumber_145
                    · refine x_if hf (fun c10 hf => ?_) (fun c10 hf => ?_)
                      · refine x_tabIn (off := 145) (tgt := 146) X dX3_tellNumber_1 (by rw [c10]; decide) (by rw [c10]; decide) (by rw [c10]; rfl) (by decide) ?_
                        refine x_aload_n X dX3_tellNumber_146 rfl 0 rfl ?_
                        refine x_getf X fl_X3_12 (yS_0 Y) (yS_l Y 0 (by decide)) rfl dX3_tellNumber_147 ?_
                        refine x_getf X fl_X3_129 (yS_1 Y) (yS_l Y 1 (by decide)) rfl dX3_tellNumber_150 ?_
                        exact x_iretR (σ0 := σ) X E hQ hf dX3_tellNumber_153
                      · refine x_if hf (fun c11 hf => ?_) (fun c11 hf => ?_)
                        · refine x_tabIn (off := 153) (tgt := 154) X dX3_tellNumber_1 (by rw [c11]; decide) (by rw [c11]; decide) (by rw [c11]; rfl) (by decide) ?_
                          refine x_aload_n X dX3_tellNumber_154 rfl 0 rfl ?_
                          refine x_getf X fl_X3_12 (yS_0 Y) (yS_l Y 0 (by decide)) rfl dX3_tellNumber_155 ?_
                          refine x_getf X fl_X3_106 (yS_1 Y) (yS_l Y 1 (by decide)) rfl dX3_tellNumber_158 ?_
                          refine x_aload_n X dX3_tellNumber_161 rfl 0 rfl ?_
                          refine x_getf X fl_X3_12 (yS_0 Y) (yS_l Y 0 (by decide)) rfl dX3_tellNumber_162 ?_
                          refine x_getf X fl_X3_129 (yS_1 Y) (yS_l Y 1 (by decide)) rfl dX3_tellNumber_165 ?_
                          refine x_isub X dX3_tellNumber_168 ?_
                          refine x_aload_n X dX3_tellNumber_169 rfl 0 rfl ?_
                          refine x_getf X fl_X3_12 (yS_0 Y) (yS_l Y 0 (by decide)) rfl dX3_tellNumber_170 ?_
                          refine x_getf X fl_X3_153 (yS_1 Y) (yS_l Y 1 (by decide)) rfl dX3_tellNumber_173 ?_
                          refine x_isub X dX3_tellNumber_176 ?_
                          exact x_iretR (σ0 := σ) X E hQ hf dX3_tellNumber_177
                        · refine x_if hf (fun c12 hf => ?_) (fun c12 hf => ?_)
                          · refine x_tabIn (off := 177) (tgt := 178) X dX3_tellNumber_1 (by rw [c12]; decide) (by rw [c12]; decide) (by rw [c12]; rfl) (by decide) ?_
                            refine x_aload_n X dX3_tellNumber_178 rfl 0 rfl ?_
                            refine x_getf X fl_X3_21 (yS_0 Y) (yS_l Y 0 (by decide)) rfl dX3_tellNumber_179 ?_
                            refine x_getf X fl_X3_192 (yS_12 Y) (yS_l Y 12 (by decide)) rfl dX3_tellNumber_182 ?_
                            exact x_iretR (σ0 := σ) X E hQ hf dX3_tellNumber_185
                          · refine x_if hf (fun c13 hf => ?_) (fun c13 hf => ?_)
                            · refine x_tabIn (off := 185) (tgt := 186) X dX3_tellNumber_1 (by rw [c13]; decide) (by rw [c13]; decide) (by rw [c13]; rfl) (by decide) ?_
                              refine x_aload_n X dX3_tellNumber_186 rfl 0 rfl ?_
                              refine x_getf X fl_X3_21 (yS_0 Y) (yS_l Y 0 (by decide)) rfl dX3_tellNumber_187 ?_
                              refine x_getf X fl_X3_147 (yS_12 Y) (yS_l Y 12 (by decide)) rfl dX3_tellNumber_190 ?_
                              exact x_iretR (σ0 := σ) X E hQ hf dX3_tellNumber_193
                            · refine x_tabOut (tgt := 194) X dX3_tellNumber_1 (by have h0 := lv_neT c0 (a := 0) rfl; have h1 := lv_neT c1 (a := 1) rfl; have h2 := lv_neT c2 (a := 2) rfl; have h3 := lv_neT c3 (a := 3) rfl; have h4 := lv_neT c4 (a := 4) rfl; have h5 := lv_neT c5 (a := 5) rfl; have h6 := lv_neT c6 (a := 6) rfl; have h7 := lv_neT c7 (a := 7) rfl; have h8 := lv_neT c8 (a := 8) rfl; have h9 := lv_neT c9 (a := 9) rfl; have h10 := lv_neT c10 (a := 10) rfl; have h11 := lv_neT c11 (a := 11) rfl; have h12 := lv_neT c12 (a := 12) rfl; have h13 := lv_neT c13 (a := 13) rfl; omega) (by decide) ?_
                              refine x_bipush (v := (-2)) X dX3_tellNumber_194 (by decide) ?_
                              exact x_iretR (σ0 := σ) X E hQ hf dX3_tellNumber_196
