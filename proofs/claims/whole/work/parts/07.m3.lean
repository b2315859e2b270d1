def f_X6_appends_L5 (σ : MS) (p1 : Int32) (p2 : Int32) (kX5 : Int32 → Option (Int32)) : Nat → Int32 → Int32 → Option (Int32)
  | 0, _, _ => none
  | n + 1, v3_5, v4_5 =>
    oA 2204 (σ.1 1) 5 (fun x12 => if x12 ≤ v4_5 then (kX5 v3_5) else (oR (f_X6_ofAppend v4_5 3) (fun r24 => oA 2204 (σ.1 1) r24 (fun x27 => oJ (κ := Int32 → Option (Int32)) (fun t0_56 => f_X6_appends_L5 σ p1 p2 kX5 n (v3_5 + t0_56) (v4_5 + 1)) (fun k56 => oJ (κ := Option (Int32)) (k56 0) (fun k55 => if x27 = p1 then (oJ (κ := Option (Int32)) (k56 1) (fun k51 => if p2 < 0 then k51 else (oR (f_X6_ofAppend v4_5 1) (fun r43 => oA 2204 (σ.1 1) r43 (fun x46 => if x46 = p2 then k51 else k55))))) else k55))))))
def f_X6_appends (σ : MS) (p1 : Int32) (p2 : Int32) : Option (Int32) :=
  f_X6_appends_L5 σ p1 p2 (fun w3_64 => some w3_64) FU 0 0
set_option maxRecDepth 100000 in
set_option maxHeartbeats 4000000 in
theorem m_X6_appends {l : Launch} {G : va_G} {tys : List (ClassId × FieldType)} {S0 : Nat} {h h1 h2 : Nat → va_E} {b cN' : Nat} {cI cZ : ClassId} {σ : MS} {p1 : Int32} {p2 : Int32} {r : Int32} (hb : b + 8 ≤ cN') (ht : tys[0]? = some (cI, .int)) (htz : tys[2]? = some (cZ, .boolean)) (e1 : h1 = ov h b (ml S0 cI cZ b σ)) (e2 : h2 = ov h b (ml S0 cI cZ b σ)) (hf : f_X6_appends σ p1 p2 = some r) : XMet l G tys S0 cN' yX6_appends cX6_appends 5 (some .int) 1 21 [.ref (S0 + (b + 0)), .int p1, .int p2] h1 cN' (some (.int r)) h2 0 0 := by
  subst e1; subst e2
  refine XMet.ofE (ST := MS) (HP := fun σ => ov h b (ml S0 cI cZ b σ)) σ σ (by decide) (Nat.le_of_ble_eq_true rfl) ?_
  intro κ g1 g2 g3 g4 g5 g6 E X hQ
  subst g1; subst g2; subst g3; subst g4
  have Y : YM κ h b cI cZ := ⟨fun σ => by rw [g5], fun σ => by rw [g6]; exact hb, ht, htz⟩
  have X : XC κ cX6_appends 5 RX6 (some .int) 1 21 := X
  show XG κ σ 0 [(0, .ref (κ.S0 + (b + 0))), (1, .int p1), (2, .int p2)] []
  unfold f_X6_appends at hf
  refine x_iconst (v := 0) X dX6_appends_0 (by decide) ?_
  refine x_istore_n (lv' := [(3, .int 0), (0, .ref (κ.S0 + (b + 0))), (1, .int p1), (2, .int p2)]) X dX6_appends_1 rfl (by decide) rfl ?_
  refine x_iconst (v := 0) X dX6_appends_2 (by decide) ?_
  refine x_istore (lv' := [(4, .int 0), (3, .int 0), (0, .ref (κ.S0 + (b + 0))), (1, .int p1), (2, .int p2)]) X dX6_appends_3 (by decide) rfl ?_
  refine x_kont (b := fun kX5 => f_X6_appends_L5 σ p1 p2 kX5 FU 0 0) (fun kX5 => ∀ (w3_64 : Int32), kX5 w3_64 = some r → XG κ σ 64 [(3, .int w3_64)] []) hf (fun w3_64 hf => ?_) (fun kX5 JX5 hf => ?_)
  · refine x_iload_n X dX6_appends_64 rfl 0 rfl ?_
    exact x_iretR (σ0 := σ) X E hQ hf dX6_appends_65
  · have LL : ∀ (n : Nat) (v3_5 : Int32) (v4_5 : Int32), f_X6_appends_L5 σ p1 p2 kX5 n v3_5 v4_5 = some r → XG κ σ 5 [(0, .ref (κ.S0 + (b + 0))), (1, .int p1), (2, .int p2), (3, .int v3_5), (4, .int v4_5)] [] := by
      intro n
      induction n with
      | zero => intro v3_5 v4_5 hf; rw [f_X6_appends_L5] at hf; cases hf
      | succ n ih5 =>
        intro v3_5 v4_5 hf
        rw [f_X6_appends_L5] at hf
        refine x_iload X dX6_appends_5 4 rfl ?_
        refine x_aload_n X dX6_appends_7 rfl 0 rfl ?_
        refine x_getf X fl_X6_7 (yM_0 Y) (yM_l Y 0 (by decide)) rfl dX6_appends_8 ?_
        refine x_iconst (v := 5) X dX6_appends_11 (by decide) ?_
        refine x_iald X 0 (yM_ht Y) (yM_1 Y) (yM_l Y 1 (by decide)) dX6_appends_12 hf (fun x12 hf => ?_)
        refine x_icmp_ge (tgt := 64) X dX6_appends_13 (by decide) hf (fun hf => ?_) (fun hf => ?_)
        · refine x_sub [3] rfl ?_
          exact JX5 v3_5 hf
        · refine x_iload_n X dX6_appends_16 rfl 3 rfl ?_
          refine x_aload_n X dX6_appends_17 rfl 0 rfl ?_
          refine x_getf X fl_X6_7 (yM_0 Y) (yM_l Y 0 (by decide)) rfl dX6_appends_18 ?_
          refine x_iload X dX6_appends_21 4 rfl ?_
          refine x_iconst (v := 3) X dX6_appends_23 (by decide) ?_
          refine x_callR (rest := [.ref (κ.S0 + (b + 1)), .int v3_5]) X hf (fun r hr => x_cS X cm_X6_ofAppend lkS_X6_54 ⟨Nat.le_of_ble_eq_true rfl, Nat.le_of_ble_eq_true rfl⟩ (m_X6_ofAppend hr) rfl rfl (Nat.le_of_ble_eq_true rfl) (x_room E _) dX6_appends_24) (fun r24 hf => ?_)
          refine x_iald X 0 (yM_ht Y) (yM_1 Y) (yM_l Y 1 (by decide)) dX6_appends_27 hf (fun x27 hf => ?_)
          refine x_iload_n X dX6_appends_28 rfl 1 rfl ?_
          refine x_join (fun k56 => ∀ (t0_56 : Int32), k56 t0_56 = some r → XG κ σ 56 [(0, .ref (κ.S0 + (b + 0))), (1, .int p1), (2, .int p2), (4, .int v4_5)] [.int t0_56, .int v3_5]) hf (fun t0_56 hf => ?_) (fun k56 J56 hf => ?_)
          · refine x_iadd X dX6_appends_56 ?_
            refine x_istore_n (lv' := [(3, .int (v3_5 + t0_56)), (0, .ref (κ.S0 + (b + 0))), (1, .int p1), (2, .int p2), (4, .int v4_5)]) X dX6_appends_57 rfl (by decide) rfl ?_
            refine x_iinc (v := v4_5 + 1) (lv' := [(4, .int (v4_5 + 1)), (3, .int (v3_5 + t0_56)), (0, .ref (κ.S0 + (b + 0))), (1, .int p1), (2, .int p2)]) X dX6_appends_58 4 rfl rfl (by decide) rfl ?_
            refine x_goto (tgt := 5) X dX6_appends_61 (by decide) ?_
            refine x_sub [2, 3, 4, 1, 0] rfl ?_
            exact ih5 (v3_5 + t0_56) (v4_5 + 1) hf
          · refine x_join (fun k55 => k55 = some r → XG κ σ 55 [(0, .ref (κ.S0 + (b + 0))), (1, .int p1), (2, .int p2), (4, .int v4_5)] [.int v3_5]) hf (fun hf => ?_) (fun k55 J55 hf => ?_)
            · refine x_iconst (v := 0) X dX6_appends_55 (by decide) ?_
              exact J56 0 hf
            · refine x_icmp_ne (tgt := 55) X dX6_appends_29 (by decide) hf (fun hf => ?_) (fun hf => ?_)
              · refine x_sub [0, 1, 2, 4] rfl ?_
                exact J55 hf
              · refine x_iload_n X dX6_appends_32 rfl 2 rfl ?_
                refine x_join (fun k51 => k51 = some r → XG κ σ 51 [(0, .ref (κ.S0 + (b + 0))), (1, .int p1), (2, .int p2), (4, .int v4_5)] [.int v3_5]) hf (fun hf => ?_) (fun k51 J51 hf => ?_)
                · refine x_iconst (v := 1) X dX6_appends_51 (by decide) ?_
                  refine x_goto (tgt := 56) X dX6_appends_52 (by decide) ?_
                  exact J56 1 hf
                · refine x_if_lt (tgt := 51) X dX6_appends_33 (by decide) hf (fun hf => ?_) (fun hf => ?_)
                  · refine x_sub [0, 1, 2, 4] rfl ?_
                    exact J51 hf
                  · refine x_aload_n X dX6_appends_36 rfl 0 rfl ?_
                    refine x_getf X fl_X6_7 (yM_0 Y) (yM_l Y 0 (by decide)) rfl dX6_appends_37 ?_
                    refine x_iload X dX6_appends_40 4 rfl ?_
                    refine x_iconst (v := 1) X dX6_appends_42 (by decide) ?_
                    refine x_callR (rest := [.ref (κ.S0 + (b + 1)), .int v3_5]) X hf (fun r hr => x_cS X cm_X6_ofAppend lkS_X6_54 ⟨Nat.le_of_ble_eq_true rfl, Nat.le_of_ble_eq_true rfl⟩ (m_X6_ofAppend hr) rfl rfl (Nat.le_of_ble_eq_true rfl) (x_room E _) dX6_appends_43) (fun r43 hf => ?_)
                    refine x_iald X 0 (yM_ht Y) (yM_1 Y) (yM_l Y 1 (by decide)) dX6_appends_46 hf (fun x46 hf => ?_)
                    refine x_iload_n X dX6_appends_47 rfl 2 rfl ?_
                    refine x_icmp_ne (tgt := 55) X dX6_appends_48 (by decide) hf (fun hf => ?_) (fun hf => ?_)
                    · refine x_sub [0, 1, 2, 4] rfl ?_
                      exact J55 hf
                    · refine x_sub [0, 1, 2, 4] rfl ?_
                      exact J51 hf
    refine x_sub [2, 3, 4, 1, 0] rfl ?_
    exact LL FU 0 0 hf
def f_X6_appendsOf_L5 (σ : MS) (p1 : Int32) (p2 : Int32) (kX5 : Int32 → Option (Int32)) : Nat → Int32 → Int32 → Option (Int32)
  | 0, _, _ => none
  | n + 1, v3_5, v4_5 =>
    oA 2204 (σ.1 1) 5 (fun x12 => if x12 ≤ v4_5 then (kX5 v3_5) else (oR (f_X6_ofAppend v4_5 3) (fun r24 => oA 2204 (σ.1 1) r24 (fun x27 => oJ (κ := Int32 → Option (Int32)) (fun t0_52 => f_X6_appendsOf_L5 σ p1 p2 kX5 n (v3_5 + t0_52) (v4_5 + 1)) (fun k52 => oJ (κ := Option (Int32)) (k52 0) (fun k51 => if x27 = p1 then (oR (f_X6_ofAppend v4_5 0) (fun r39 => oA 2204 (σ.1 1) r39 (fun x42 => if x42 = p2 then (k52 1) else k51))) else k51))))))
def f_X6_appendsOf (σ : MS) (p1 : Int32) (p2 : Int32) : Option (Int32) :=
  f_X6_appendsOf_L5 σ p1 p2 (fun w3_60 => some w3_60) FU 0 0
set_option maxRecDepth 100000 in
set_option maxHeartbeats 4000000 in
theorem m_X6_appendsOf {l : Launch} {G : va_G} {tys : List (ClassId × FieldType)} {S0 : Nat} {h h1 h2 : Nat → va_E} {b cN' : Nat} {cI cZ : ClassId} {σ : MS} {p1 : Int32} {p2 : Int32} {r : Int32} (hb : b + 8 ≤ cN') (ht : tys[0]? = some (cI, .int)) (htz : tys[2]? = some (cZ, .boolean)) (e1 : h1 = ov h b (ml S0 cI cZ b σ)) (e2 : h2 = ov h b (ml S0 cI cZ b σ)) (hf : f_X6_appendsOf σ p1 p2 = some r) : XMet l G tys S0 cN' yX6_appendsOf cX6_appendsOf 5 (some .int) 1 21 [.ref (S0 + (b + 0)), .int p1, .int p2] h1 cN' (some (.int r)) h2 0 0 := by
  subst e1; subst e2
  refine XMet.ofE (ST := MS) (HP := fun σ => ov h b (ml S0 cI cZ b σ)) σ σ (by decide) (Nat.le_of_ble_eq_true rfl) ?_
  intro κ g1 g2 g3 g4 g5 g6 E X hQ
  subst g1; subst g2; subst g3; subst g4
  have Y : YM κ h b cI cZ := ⟨fun σ => by rw [g5], fun σ => by rw [g6]; exact hb, ht, htz⟩
  have X : XC κ cX6_appendsOf 5 RX6 (some .int) 1 21 := X
  show XG κ σ 0 [(0, .ref (κ.S0 + (b + 0))), (1, .int p1), (2, .int p2)] []
  unfold f_X6_appendsOf at hf
  refine x_iconst (v := 0) X dX6_appendsOf_0 (by decide) ?_
  refine x_istore_n (lv' := [(3, .int 0), (0, .ref (κ.S0 + (b + 0))), (1, .int p1), (2, .int p2)]) X dX6_appendsOf_1 rfl (by decide) rfl ?_
  refine x_iconst (v := 0) X dX6_appendsOf_2 (by decide) ?_
  refine x_istore (lv' := [(4, .int 0), (3, .int 0), (0, .ref (κ.S0 + (b + 0))), (1, .int p1), (2, .int p2)]) X dX6_appendsOf_3 (by decide) rfl ?_
  refine x_kont (b := fun kX5 => f_X6_appendsOf_L5 σ p1 p2 kX5 FU 0 0) (fun kX5 => ∀ (w3_60 : Int32), kX5 w3_60 = some r → XG κ σ 60 [(3, .int w3_60)] []) hf (fun w3_60 hf => ?_) (fun kX5 JX5 hf => ?_)
  · refine x_iload_n X dX6_appendsOf_60 rfl 0 rfl ?_
    exact x_iretR (σ0 := σ) X E hQ hf dX6_appendsOf_61
  · have LL : ∀ (n : Nat) (v3_5 : Int32) (v4_5 : Int32), f_X6_appendsOf_L5 σ p1 p2 kX5 n v3_5 v4_5 = some r → XG κ σ 5 [(0, .ref (κ.S0 + (b + 0))), (1, .int p1), (2, .int p2), (3, .int v3_5), (4, .int v4_5)] [] := by
      intro n
      induction n with
      | zero => intro v3_5 v4_5 hf; rw [f_X6_appendsOf_L5] at hf; cases hf
      | succ n ih5 =>
        intro v3_5 v4_5 hf
        rw [f_X6_appendsOf_L5] at hf
        refine x_iload X dX6_appendsOf_5 4 rfl ?_
        refine x_aload_n X dX6_appendsOf_7 rfl 0 rfl ?_
        refine x_getf X fl_X6_7 (yM_0 Y) (yM_l Y 0 (by decide)) rfl dX6_appendsOf_8 ?_
        refine x_iconst (v := 5) X dX6_appendsOf_11 (by decide) ?_
        refine x_iald X 0 (yM_ht Y) (yM_1 Y) (yM_l Y 1 (by decide)) dX6_appendsOf_12 hf (fun x12 hf => ?_)
        refine x_icmp_ge (tgt := 60) X dX6_appendsOf_13 (by decide) hf (fun hf => ?_) (fun hf => ?_)
        · refine x_sub [3] rfl ?_
          exact JX5 v3_5 hf
        · refine x_iload_n X dX6_appendsOf_16 rfl 3 rfl ?_
          refine x_aload_n X dX6_appendsOf_17 rfl 0 rfl ?_
          refine x_getf X fl_X6_7 (yM_0 Y) (yM_l Y 0 (by decide)) rfl dX6_appendsOf_18 ?_
          refine x_iload X dX6_appendsOf_21 4 rfl ?_
          refine x_iconst (v := 3) X dX6_appendsOf_23 (by decide) ?_
          refine x_callR (rest := [.ref (κ.S0 + (b + 1)), .int v3_5]) X hf (fun r hr => x_cS X cm_X6_ofAppend lkS_X6_54 ⟨Nat.le_of_ble_eq_true rfl, Nat.le_of_ble_eq_true rfl⟩ (m_X6_ofAppend hr) rfl rfl (Nat.le_of_ble_eq_true rfl) (x_room E _) dX6_appendsOf_24) (fun r24 hf => ?_)
          refine x_iald X 0 (yM_ht Y) (yM_1 Y) (yM_l Y 1 (by decide)) dX6_appendsOf_27 hf (fun x27 hf => ?_)
          refine x_iload_n X dX6_appendsOf_28 rfl 1 rfl ?_
          refine x_join (fun k52 => ∀ (t0_52 : Int32), k52 t0_52 = some r → XG κ σ 52 [(0, .ref (κ.S0 + (b + 0))), (1, .int p1), (2, .int p2), (4, .int v4_5)] [.int t0_52, .int v3_5]) hf (fun t0_52 hf => ?_) (fun k52 J52 hf => ?_)
          · refine x_iadd X dX6_appendsOf_52 ?_
            refine x_istore_n (lv' := [(3, .int (v3_5 + t0_52)), (0, .ref (κ.S0 + (b + 0))), (1, .int p1), (2, .int p2), (4, .int v4_5)]) X dX6_appendsOf_53 rfl (by decide) rfl ?_
            refine x_iinc (v := v4_5 + 1) (lv' := [(4, .int (v4_5 + 1)), (3, .int (v3_5 + t0_52)), (0, .ref (κ.S0 + (b + 0))), (1, .int p1), (2, .int p2)]) X dX6_appendsOf_54 4 rfl rfl (by decide) rfl ?_
            refine x_goto (tgt := 5) X dX6_appendsOf_57 (by decide) ?_
            refine x_sub [2, 3, 4, 1, 0] rfl ?_
            exact ih5 (v3_5 + t0_52) (v4_5 + 1) hf
          · refine x_join (fun k51 => k51 = some r → XG κ σ 51 [(0, .ref (κ.S0 + (b + 0))), (1, .int p1), (2, .int p2), (4, .int v4_5)] [.int v3_5]) hf (fun hf => ?_) (fun k51 J51 hf => ?_)
            · refine x_iconst (v := 0) X dX6_appendsOf_51 (by decide) ?_
              exact J52 0 hf
            · refine x_icmp_ne (tgt := 51) X dX6_appendsOf_29 (by decide) hf (fun hf => ?_) (fun hf => ?_)
              · refine x_sub [0, 1, 2, 4] rfl ?_
                exact J51 hf
              · refine x_aload_n X dX6_appendsOf_32 rfl 0 rfl ?_
                refine x_getf X fl_X6_7 (yM_0 Y) (yM_l Y 0 (by decide)) rfl dX6_appendsOf_33 ?_
                refine x_iload X dX6_appendsOf_36 4 rfl ?_
                refine x_iconst (v := 0) X dX6_appendsOf_38 (by decide) ?_
                refine x_callR (rest := [.ref (κ.S0 + (b + 1)), .int v3_5]) X hf (fun r hr => x_cS X cm_X6_ofAppend lkS_X6_54 ⟨Nat.le_of_ble_eq_true rfl, Nat.le_of_ble_eq_true rfl⟩ (m_X6_ofAppend hr) rfl rfl (Nat.le_of_ble_eq_true rfl) (x_room E _) dX6_appendsOf_39) (fun r39 hf => ?_)
                refine x_iald X 0 (yM_ht Y) (yM_1 Y) (yM_l Y 1 (by decide)) dX6_appendsOf_42 hf (fun x42 hf => ?_)
                refine x_iload_n X dX6_appendsOf_43 rfl 2 rfl ?_
                refine x_icmp_ne (tgt := 51) X dX6_appendsOf_44 (by decide) hf (fun hf => ?_) (fun hf => ?_)
                · refine x_sub [0, 1, 2, 4] rfl ?_
                  exact J51 hf
                · refine x_iconst (v := 1) X dX6_appendsOf_47 (by decide) ?_
                  refine x_goto (tgt := 52) X dX6_appendsOf_48 (by decide) ?_
                  refine x_sub [0, 1, 2, 4] rfl ?_
                  exact J52 1 hf
    refine x_sub [2, 3, 4, 1, 0] rfl ?_
    exact LL FU 0 0 hf
def f_X6_set (σ : MS) (p1 : Int32) (p2 : Int32) : Option (Int32 × MS) :=
  oR (f_X6_in p1 0 3) (fun r3 => if r3 = 0 then (some ((-2), σ)) else (oJ (κ := Int32 → Option (Int32 × MS)) (fun t0_20 => oJ (κ := Int32 → Option (Int32 × MS)) (fun t0_40 => oR (f_X6_in p2 t0_20 t0_40) (fun r40 => if r40 = 0 then (some ((-2), σ)) else (oJ (κ := Option (Int32 × MS)) (oW (f_X6_change σ (1 + p1) p2) (fun t => t) (fun r80 s80 => some (r80, s80))) (fun k75 => if 2 ≤ p1 then k75 else (oJ (κ := Int32 → Option (Int32 × MS)) (fun t0_65 => oR (f_X6_zones σ t0_65) (fun r65 => if r65 ≤ p2 then k75 else (some ((-4), σ)))) (fun k65 => if p1 = 1 then (k65 1) else (k65 0))))))) (fun k40 => if 2 ≤ p1 then (if p1 = 2 then (k40 4) else (k40 1)) else (k40 8))) (fun k20 => if p1 = 3 then (k20 0) else (k20 1))))
set_option maxRecDepth 100000 in
set_option maxHeartbeats 4000000 in
theorem m_X6_set {l : Launch} {G : va_G} {tys : List (ClassId × FieldType)} {S0 : Nat} {h h1 h2 : Nat → va_E} {b cN' : Nat} {cI cZ : ClassId} {σ : MS} {τ : MS} {p1 : Int32} {p2 : Int32} {r : Int32} (hb : b + 8 ≤ cN') (ht : tys[0]? = some (cI, .int)) (htz : tys[2]? = some (cZ, .boolean)) (e1 : h1 = ov h b (ml S0 cI cZ b σ)) (e2 : h2 = ov h b (ml S0 cI cZ b τ)) (hf : f_X6_set σ p1 p2 = some (r, τ)) : XMet l G tys S0 cN' yX6_set cX6_set 3 (some .int) 2 44 [.ref (S0 + (b + 0)), .int p1, .int p2] h1 cN' (some (.int r)) h2 0 0 := by
  subst e1; subst e2
  refine XMet.ofE (ST := MS) (HP := fun σ => ov h b (ml S0 cI cZ b σ)) σ τ (by decide) (Nat.le_of_ble_eq_true rfl) ?_
  intro κ g1 g2 g3 g4 g5 g6 E X hQ
  subst g1; subst g2; subst g3; subst g4
  have Y : YM κ h b cI cZ := ⟨fun σ => by rw [g5], fun σ => by rw [g6]; exact hb, ht, htz⟩
  have X : XC κ cX6_set 3 RX6 (some .int) 2 44 := X
  show XG κ σ 0 [(0, .ref (κ.S0 + (b + 0))), (1, .int p1), (2, .int p2)] []
  unfold f_X6_set at hf
  refine x_iload_n X dX6_set_0 rfl 1 rfl ?_
  refine x_iconst (v := 0) X dX6_set_1 (by decide) ?_
  refine x_iconst (v := 3) X dX6_set_2 (by decide) ?_
  refine x_callR (rest := []) X hf (fun r hr => x_cS X cm_X6_in lkS_X6_43 ⟨Nat.le_of_ble_eq_true rfl, Nat.le_of_ble_eq_true rfl⟩ (m_X6_in hr) rfl rfl (Nat.le_of_ble_eq_true rfl) (x_room E _) dX6_set_3) (fun r3 hf => ?_)
  refine x_if_eq (tgt := 46) X dX6_set_6 (by decide) hf (fun hf => ?_) (fun hf => ?_)
  · refine x_bipush (v := (-2)) X dX6_set_46 (by decide) ?_
    exact x_iretW (σ0 := σ) X E hQ hf dX6_set_48
  · refine x_iload_n X dX6_set_9 rfl 2 rfl ?_
    refine x_iload_n X dX6_set_10 rfl 1 rfl ?_
    refine x_iconst (v := 3) X dX6_set_11 (by decide) ?_
    refine x_join (fun k20 => ∀ (t0_20 : Int32), k20 t0_20 = some (r, τ) → XG κ σ 20 [(0, .ref (κ.S0 + (b + 0))), (1, .int p1), (2, .int p2)] [.int t0_20, .int p2]) hf (fun t0_20 hf => ?_) (fun k20 J20 hf => ?_)
    · refine x_iload_n X dX6_set_20 rfl 1 rfl ?_
      refine x_iconst (v := 2) X dX6_set_21 (by decide) ?_
      refine x_join (fun k40 => ∀ (t0_40 : Int32), k40 t0_40 = some (r, τ) → XG κ σ 40 [(0, .ref (κ.S0 + (b + 0))), (1, .int p1), (2, .int p2)] [.int t0_40, .int t0_20, .int p2]) hf (fun t0_40 hf => ?_) (fun k40 J40 hf => ?_)
      · refine x_callR (rest := []) X hf (fun r hr => x_cS X cm_X6_in lkS_X6_43 ⟨Nat.le_of_ble_eq_true rfl, Nat.le_of_ble_eq_true rfl⟩ (m_X6_in hr) rfl rfl (Nat.le_of_ble_eq_true rfl) (x_room E _) dX6_set_40) (fun r40 hf => ?_)
        refine x_if_ne (tgt := 49) X dX6_set_43 (by decide) hf (fun hf => ?_) (fun hf => ?_)
        · refine x_iload_n X dX6_set_49 rfl 1 rfl ?_
          refine x_iconst (v := 2) X dX6_set_50 (by decide) ?_
          refine x_join (fun k75 => k75 = some (r, τ) → XG κ σ 75 [(0, .ref (κ.S0 + (b + 0))), (1, .int p1), (2, .int p2)] []) hf (fun hf => ?_) (fun k75 J75 hf => ?_)
          · refine x_aload_n X dX6_set_75 rfl 0 rfl ?_
            refine x_iconst (v := 1) X dX6_set_76 (by decide) ?_
            refine x_iload_n X dX6_set_77 rfl 1 rfl ?_
            refine x_iadd X dX6_set_78 ?_
            refine x_iload_n X dX6_set_79 rfl 2 rfl ?_
            refine x_callW (rest := []) (w := fun t => t) X E.1 hf (fun r t hr => x_cV (ci := 6) X cm_X6_change lkV_X6_61 rfl ⟨Nat.le_of_ble_eq_true rfl, Nat.le_of_ble_eq_true rfl⟩ (yM_0 Y) (yM_l Y 0 (by decide)) (m_X6_change (yM_hb Y σ) (yM_ht Y) (yM_htz Y) (yM_hp Y _) (yM_hp Y _) hr) rfl rfl (Nat.le_of_ble_eq_true rfl) (x_room E _) dX6_set_80) (fun r80 s80 hf => ?_)
            exact x_iretW (σ0 := σ) X E hQ hf dX6_set_83
          · refine x_icmp_ge (tgt := 75) X dX6_set_51 (by decide) hf (fun hf => ?_) (fun hf => ?_)
            · exact J75 hf
            · refine x_aload_n X dX6_set_54 rfl 0 rfl ?_
              refine x_iload_n X dX6_set_55 rfl 1 rfl ?_
              refine x_iconst (v := 1) X dX6_set_56 (by decide) ?_
              refine x_join (fun k65 => ∀ (t0_65 : Int32), k65 t0_65 = some (r, τ) → XG κ σ 65 [(0, .ref (κ.S0 + (b + 0))), (1, .int p1), (2, .int p2)] [.int t0_65, .ref (κ.S0 + (b + 0))]) hf (fun t0_65 hf => ?_) (fun k65 J65 hf => ?_)
              · refine x_callR (rest := []) X hf (fun r hr => x_cV (ci := 6) X cm_X6_zones lkV_X6_57 rfl ⟨Nat.le_of_ble_eq_true rfl, Nat.le_of_ble_eq_true rfl⟩ (yM_0 Y) (yM_l Y 0 (by decide)) (m_X6_zones (yM_hb Y σ) (yM_ht Y) (yM_htz Y) (yM_hp Y _) (yM_hp Y _) hr) rfl rfl (Nat.le_of_ble_eq_true rfl) (x_room E _) dX6_set_65) (fun r65 hf => ?_)
                refine x_iload_n X dX6_set_68 rfl 2 rfl ?_
                refine x_icmp_le (tgt := 75) X dX6_set_69 (by decide) hf (fun hf => ?_) (fun hf => ?_)
                · exact J75 hf
                · refine x_bipush (v := (-4)) X dX6_set_72 (by decide) ?_
                  exact x_iretW (σ0 := σ) X E hQ hf dX6_set_74
              · refine x_icmp_ne (tgt := 64) X dX6_set_57 (by decide) hf (fun hf => ?_) (fun hf => ?_)
                · refine x_iconst (v := 0) X dX6_set_64 (by decide) ?_
                  exact J65 0 hf
                · refine x_iconst (v := 1) X dX6_set_60 (by decide) ?_
                  refine x_goto (tgt := 65) X dX6_set_61 (by decide) ?_
                  exact J65 1 hf
        · refine x_bipush (v := (-2)) X dX6_set_46 (by decide) ?_
          exact x_iretW (σ0 := σ) X E hQ hf dX6_set_48
      · refine x_icmp_ge (tgt := 30) X dX6_set_22 (by decide) hf (fun hf => ?_) (fun hf => ?_)
        · refine x_iload_n X dX6_set_30 rfl 1 rfl ?_
          refine x_iconst (v := 2) X dX6_set_31 (by decide) ?_
          refine x_icmp_ne (tgt := 39) X dX6_set_32 (by decide) hf (fun hf => ?_) (fun hf => ?_)
          · refine x_iconst (v := 1) X dX6_set_39 (by decide) ?_
            exact J40 1 hf
          · refine x_iconst (v := 4) X dX6_set_35 (by decide) ?_
            refine x_goto (tgt := 40) X dX6_set_36 (by decide) ?_
            exact J40 4 hf
        · refine x_bipush (v := 8) X dX6_set_25 (by decide) ?_
          refine x_goto (tgt := 40) X dX6_set_27 (by decide) ?_
          exact J40 8 hf
    · refine x_icmp_ne (tgt := 19) X dX6_set_12 (by decide) hf (fun hf => ?_) (fun hf => ?_)
      · refine x_iconst (v := 1) X dX6_set_19 (by decide) ?_
        exact J20 1 hf
      · refine x_iconst (v := 0) X dX6_set_15 (by decide) ?_
        refine x_goto (tgt := 20) X dX6_set_16 (by decide) ?_
        exact J20 0 hf
def f_X6_setZone (σ : MS) (p1 : Int32) (p2 : Int32) (p3 : Int32) : Option (Int32 × MS) :=
  oR (f_X6_isZone p1) (fun r1 => if r1 = 0 then (some ((-1), σ)) else (oJ (κ := Int32 → Option (Int32 × MS)) (fun t0_22 => oR (f_X6_in p3 1 t0_22) (fun r22 => if r22 = 0 then (some ((-2), σ)) else (oJ (κ := Option (Int32 × MS)) (oJ (κ := Int32 → Option (Int32 × MS)) (fun t0_62 => oR (f_X6_of p1 t0_62) (fun r62 => oW (f_X6_change σ r62 p3) (fun t => t) (fun r66 s66 => some (r66, s66)))) (fun k62 => if p2 = 0 then (k62 1) else (k62 2))) (fun k51 => if p2 = 0 then (oR (f_X6_of p1 0) (fun r41 => oA 2204 (σ.1 1) r41 (fun x44 => if x44 = 0 then k51 else (some ((-4), σ))))) else k51)))) (fun k22 => if p2 = 0 then (k22 16) else (k22 9))))
set_option maxRecDepth 100000 in
set_option maxHeartbeats 4000000 in
theorem m_X6_setZone {l : Launch} {G : va_G} {tys : List (ClassId × FieldType)} {S0 : Nat} {h h1 h2 : Nat → va_E} {b cN' : Nat} {cI cZ : ClassId} {σ : MS} {τ : MS} {p1 : Int32} {p2 : Int32} {p3 : Int32} {r : Int32} (hb : b + 8 ≤ cN') (ht : tys[0]? = some (cI, .int)) (htz : tys[2]? = some (cZ, .boolean)) (e1 : h1 = ov h b (ml S0 cI cZ b σ)) (e2 : h2 = ov h b (ml S0 cI cZ b τ)) (hf : f_X6_setZone σ p1 p2 p3 = some (r, τ)) : XMet l G tys S0 cN' yX6_setZone cX6_setZone 4 (some .int) 2 44 [.ref (S0 + (b + 0)), .int p1, .int p2, .int p3] h1 cN' (some (.int r)) h2 0 0 := by
  subst e1; subst e2
  refine XMet.ofE (ST := MS) (HP := fun σ => ov h b (ml S0 cI cZ b σ)) σ τ (by decide) (Nat.le_of_ble_eq_true rfl) ?_
  intro κ g1 g2 g3 g4 g5 g6 E X hQ
  subst g1; subst g2; subst g3; subst g4
  have Y : YM κ h b cI cZ := ⟨fun σ => by rw [g5], fun σ => by rw [g6]; exact hb, ht, htz⟩
  have X : XC κ cX6_setZone 4 RX6 (some .int) 2 44 := X
  show XG κ σ 0 [(0, .ref (κ.S0 + (b + 0))), (1, .int p1), (2, .int p2), (3, .int p3)] []
  unfold f_X6_setZone at hf
  refine x_iload_n X dX6_setZone_0 rfl 1 rfl ?_
  refine x_callR (rest := []) X hf (fun r hr => x_cS X cm_X6_isZone lkS_X6_64 ⟨Nat.le_of_ble_eq_true rfl, Nat.le_of_ble_eq_true rfl⟩ (m_X6_isZone hr) rfl rfl (Nat.le_of_ble_eq_true rfl) (x_room E _) dX6_setZone_1) (fun r1 hf => ?_)
  refine x_if_ne (tgt := 9) X dX6_setZone_4 (by decide) hf (fun hf => ?_) (fun hf => ?_)
  · refine x_iload_n X dX6_setZone_9 rfl 3 rfl ?_
    refine x_iconst (v := 1) X dX6_setZone_10 (by decide) ?_
    refine x_iload_n X dX6_setZone_11 rfl 2 rfl ?_
    refine x_join (fun k22 => ∀ (t0_22 : Int32), k22 t0_22 = some (r, τ) → XG κ σ 22 [(0, .ref (κ.S0 + (b + 0))), (1, .int p1), (2, .int p2), (3, .int p3)] [.int t0_22, .int 1, .int p3]) hf (fun t0_22 hf => ?_) (fun k22 J22 hf => ?_)
    · refine x_callR (rest := []) X hf (fun r hr => x_cS X cm_X6_in lkS_X6_43 ⟨Nat.le_of_ble_eq_true rfl, Nat.le_of_ble_eq_true rfl⟩ (m_X6_in hr) rfl rfl (Nat.le_of_ble_eq_true rfl) (x_room E _) dX6_setZone_22) (fun r22 hf => ?_)
      refine x_if_ne (tgt := 31) X dX6_setZone_25 (by decide) hf (fun hf => ?_) (fun hf => ?_)
      · refine x_iload_n X dX6_setZone_31 rfl 2 rfl ?_
        refine x_join (fun k51 => k51 = some (r, τ) → XG κ σ 51 [(0, .ref (κ.S0 + (b + 0))), (1, .int p1), (2, .int p2), (3, .int p3)] []) hf (fun hf => ?_) (fun k51 J51 hf => ?_)
        · refine x_aload_n X dX6_setZone_51 rfl 0 rfl ?_
          refine x_iload_n X dX6_setZone_52 rfl 1 rfl ?_
          refine x_iload_n X dX6_setZone_53 rfl 2 rfl ?_
          refine x_join (fun k62 => ∀ (t0_62 : Int32), k62 t0_62 = some (r, τ) → XG κ σ 62 [(3, .int p3)] [.int t0_62, .int p1, .ref (κ.S0 + (b + 0))]) hf (fun t0_62 hf => ?_) (fun k62 J62 hf => ?_)
          · refine x_callR (rest := [.ref (κ.S0 + (b + 0))]) X hf (fun r hr => x_cS X cm_X6_of lkS_X6_32 ⟨Nat.le_of_ble_eq_true rfl, Nat.le_of_ble_eq_true rfl⟩ (m_X6_of hr) rfl rfl (Nat.le_of_ble_eq_true rfl) (x_room E _) dX6_setZone_62) (fun r62 hf => ?_)
            refine x_iload_n X dX6_setZone_65 rfl 0 rfl ?_
            refine x_callW (rest := []) (w := fun t => t) X E.1 hf (fun r t hr => x_cV (ci := 6) X cm_X6_change lkV_X6_61 rfl ⟨Nat.le_of_ble_eq_true rfl, Nat.le_of_ble_eq_true rfl⟩ (yM_0 Y) (yM_l Y 0 (by decide)) (m_X6_change (yM_hb Y σ) (yM_ht Y) (yM_htz Y) (yM_hp Y _) (yM_hp Y _) hr) rfl rfl (Nat.le_of_ble_eq_true rfl) (x_room E _) dX6_setZone_66) (fun r66 s66 hf => ?_)
            exact x_iretW (σ0 := σ) X E hQ hf dX6_setZone_69
          · refine x_if_eq (tgt := 61) X dX6_setZone_54 (by decide) hf (fun hf => ?_) (fun hf => ?_)
            · refine x_iconst (v := 1) X dX6_setZone_61 (by decide) ?_
              refine x_sub [3] rfl ?_
              exact J62 1 hf
            · refine x_iconst (v := 2) X dX6_setZone_57 (by decide) ?_
              refine x_goto (tgt := 62) X dX6_setZone_58 (by decide) ?_
              refine x_sub [3] rfl ?_
              exact J62 2 hf
        · refine x_if_ne (tgt := 51) X dX6_setZone_32 (by decide) hf (fun hf => ?_) (fun hf => ?_)
          · exact J51 hf
          · refine x_aload_n X dX6_setZone_35 rfl 0 rfl ?_
            refine x_getf X fl_X6_7 (yM_0 Y) (yM_l Y 0 (by decide)) rfl dX6_setZone_36 ?_
            refine x_iload_n X dX6_setZone_39 rfl 1 rfl ?_
            refine x_iconst (v := 0) X dX6_setZone_40 (by decide) ?_
            refine x_callR (rest := [.ref (κ.S0 + (b + 1))]) X hf (fun r hr => x_cS X cm_X6_of lkS_X6_32 ⟨Nat.le_of_ble_eq_true rfl, Nat.le_of_ble_eq_true rfl⟩ (m_X6_of hr) rfl rfl (Nat.le_of_ble_eq_true rfl) (x_room E _) dX6_setZone_41) (fun r41 hf => ?_)
            refine x_iald X 0 (yM_ht Y) (yM_1 Y) (yM_l Y 1 (by decide)) dX6_setZone_44 hf (fun x44 hf => ?_)
            refine x_if_eq (tgt := 51) X dX6_setZone_45 (by decide) hf (fun hf => ?_) (fun hf => ?_)
            · exact J51 hf
            · refine x_bipush (v := (-4)) X dX6_setZone_48 (by decide) ?_
              exact x_iretW (σ0 := σ) X E hQ hf dX6_setZone_50
      · refine x_bipush (v := (-2)) X dX6_setZone_28 (by decide) ?_
        exact x_iretW (σ0 := σ) X E hQ hf dX6_setZone_30
    · refine x_if_eq (tgt := 20) X dX6_setZone_12 (by decide) hf (fun hf => ?_) (fun hf => ?_)
      · refine x_bipush (v := 16) X dX6_setZone_20 (by decide) ?_
        exact J22 16 hf
      · refine x_bipush (v := 9) X dX6_setZone_15 (by decide) ?_
        refine x_goto (tgt := 22) X dX6_setZone_17 (by decide) ?_
        exact J22 9 hf
  · refine x_iconst (v := (-1)) X dX6_setZone_7 (by decide) ?_
    exact x_iretW (σ0 := σ) X E hQ hf dX6_setZone_8
def f_X6_setWindow (σ : MS) (p1 : Int32) (p2 : Int32) : Option (Int32 × MS) :=
  oR (f_X6_isWriter p1) (fun r1 => if r1 = 0 then (some ((-1), σ)) else (oR (f_X6_in p2 1 8) (fun r13 => if r13 = 0 then (some ((-2), σ)) else (oR (f_X6_ofWriter p1 0) (fun r22 => oW (f_X6_change σ r22 p2) (fun t => t) (fun r26 s26 => some (r26, s26)))))))
set_option maxRecDepth 100000 in
set_option maxHeartbeats 4000000 in
theorem m_X6_setWindow {l : Launch} {G : va_G} {tys : List (ClassId × FieldType)} {S0 : Nat} {h h1 h2 : Nat → va_E} {b cN' : Nat} {cI cZ : ClassId} {σ : MS} {τ : MS} {p1 : Int32} {p2 : Int32} {r : Int32} (hb : b + 8 ≤ cN') (ht : tys[0]? = some (cI, .int)) (htz : tys[2]? = some (cZ, .boolean)) (e1 : h1 = ov h b (ml S0 cI cZ b σ)) (e2 : h2 = ov h b (ml S0 cI cZ b τ)) (hf : f_X6_setWindow σ p1 p2 = some (r, τ)) : XMet l G tys S0 cN' yX6_setWindow cX6_setWindow 3 (some .int) 2 44 [.ref (S0 + (b + 0)), .int p1, .int p2] h1 cN' (some (.int r)) h2 0 0 := by
  subst e1; subst e2
  refine XMet.ofE (ST := MS) (HP := fun σ => ov h b (ml S0 cI cZ b σ)) σ τ (by decide) (Nat.le_of_ble_eq_true rfl) ?_
  intro κ g1 g2 g3 g4 g5 g6 E X hQ
  subst g1; subst g2; subst g3; subst g4
  have Y : YM κ h b cI cZ := ⟨fun σ => by rw [g5], fun σ => by rw [g6]; exact hb, ht, htz⟩
  have X : XC κ cX6_setWindow 3 RX6 (some .int) 2 44 := X
  show XG κ σ 0 [(0, .ref (κ.S0 + (b + 0))), (1, .int p1), (2, .int p2)] []
  unfold f_X6_setWindow at hf
  refine x_iload_n X dX6_setWindow_0 rfl 1 rfl ?_
  refine x_callR (rest := []) X hf (fun r hr => x_cS X cm_X6_isWriter lkS_X6_68 ⟨Nat.le_of_ble_eq_true rfl, Nat.le_of_ble_eq_true rfl⟩ (m_X6_isWriter hr) rfl rfl (Nat.le_of_ble_eq_true rfl) (x_room E _) dX6_setWindow_1) (fun r1 hf => ?_)
  refine x_if_ne (tgt := 9) X dX6_setWindow_4 (by decide) hf (fun hf => ?_) (fun hf => ?_)
  · refine x_iload_n X dX6_setWindow_9 rfl 2 rfl ?_
    refine x_iconst (v := 1) X dX6_setWindow_10 (by decide) ?_
    refine x_bipush (v := 8) X dX6_setWindow_11 (by decide) ?_
    refine x_callR (rest := []) X hf (fun r hr => x_cS X cm_X6_in lkS_X6_43 ⟨Nat.le_of_ble_eq_true rfl, Nat.le_of_ble_eq_true rfl⟩ (m_X6_in hr) rfl rfl (Nat.le_of_ble_eq_true rfl) (x_room E _) dX6_setWindow_13) (fun r13 hf => ?_)
    refine x_if_eq (tgt := 32) X dX6_setWindow_16 (by decide) hf (fun hf => ?_) (fun hf => ?_)
    · refine x_bipush (v := (-2)) X dX6_setWindow_32 (by decide) ?_
      exact x_iretW (σ0 := σ) X E hQ hf dX6_setWindow_34
    · refine x_aload_n X dX6_setWindow_19 rfl 0 rfl ?_
      refine x_iload_n X dX6_setWindow_20 rfl 1 rfl ?_
      refine x_iconst (v := 0) X dX6_setWindow_21 (by decide) ?_
      refine x_callR (rest := [.ref (κ.S0 + (b + 0))]) X hf (fun r hr => x_cS X cm_X6_ofWriter lkS_X6_40 ⟨Nat.le_of_ble_eq_true rfl, Nat.le_of_ble_eq_true rfl⟩ (m_X6_ofWriter hr) rfl rfl (Nat.le_of_ble_eq_true rfl) (x_room E _) dX6_setWindow_22) (fun r22 hf => ?_)
      refine x_iload_n X dX6_setWindow_25 rfl 2 rfl ?_
      refine x_callW (rest := []) (w := fun t => t) X E.1 hf (fun r t hr => x_cV (ci := 6) X cm_X6_change lkV_X6_61 rfl ⟨Nat.le_of_ble_eq_true rfl, Nat.le_of_ble_eq_true rfl⟩ (yM_0 Y) (yM_l Y 0 (by decide)) (m_X6_change (yM_hb Y σ) (yM_ht Y) (yM_htz Y) (yM_hp Y _) (yM_hp Y _) hr) rfl rfl (Nat.le_of_ble_eq_true rfl) (x_room E _) dX6_setWindow_26) (fun r26 s26 hf => ?_)
      refine x_goto (tgt := 34) X dX6_setWindow_29 (by decide) ?_
      exact x_iretW (σ0 := σ) X E hQ hf dX6_setWindow_34
  · refine x_iconst (v := (-1)) X dX6_setWindow_7 (by decide) ?_
    exact x_iretW (σ0 := σ) X E hQ hf dX6_setWindow_8
def f_X6_send (σ : MS) (p1 : Int32) (p2 : Int32) (p3 : Int32) : Option (Int32 × MS) :=
  oA 2204 (σ.1 1) 5 (fun x5 => oR (f_X6_ofAppend x5 0) (fun r15 => oS 2204 (σ.1 1) r15 p1 (sA σ 1) (fun s19 => oR (f_X6_ofAppend x5 1) (fun r27 => oS 2204 (s19.1 1) r27 p2 (sA s19 1) (fun s31 => oR (f_X6_ofAppend x5 2) (fun r39 => oS 2204 (s31.1 1) r39 p3 (sA s31 1) (fun s43 => oR (f_X6_ofAppend x5 3) (fun r51 => oS 2204 (s43.1 1) r51 0 (sA s43 1) (fun s55 => oR (f_X6_ofAppend x5 4) (fun r63 => oS 2204 (s55.1 1) r63 (-5) (sA s55 1) (fun s68 => oR (f_X6_ofAppend x5 5) (fun r76 => oS 2204 (s68.1 1) r76 (-5) (sA s68 1) (fun s81 => oR (f_X6_ofAppend x5 6) (fun r90 => oS 2204 (s81.1 1) r90 (-5) (sA s81 1) (fun s95 => oR (f_X6_ofAppend x5 7) (fun r104 => oS 2204 (s95.1 1) r104 (-5) (sA s95 1) (fun s109 => oR (f_X6_ofAppend x5 8) (fun r118 => oS 2204 (s109.1 1) r118 0 (sA s109 1) (fun s122 => oA 2204 (s122.1 1) 5 (fun x129 => oS 2204 (s122.1 1) 5 (x129 + 1) (sA s122 1) (fun s132 => some (x5, s132))))))))))))))))))))))
set_option maxRecDepth 100000 in
set_option maxHeartbeats 4000000 in
theorem m_X6_send {l : Launch} {G : va_G} {tys : List (ClassId × FieldType)} {S0 : Nat} {h h1 h2 : Nat → va_E} {b cN' : Nat} {cI cZ : ClassId} {σ : MS} {τ : MS} {p1 : Int32} {p2 : Int32} {p3 : Int32} {r : Int32} (hb : b + 8 ≤ cN') (ht : tys[0]? = some (cI, .int)) (htz : tys[2]? = some (cZ, .boolean)) (e1 : h1 = ov h b (ml S0 cI cZ b σ)) (e2 : h2 = ov h b (ml S0 cI cZ b τ)) (hf : f_X6_send σ p1 p2 p3 = some (r, τ)) : XMet l G tys S0 cN' yX6_send cX6_send 5 (some .int) 1 21 [.ref (S0 + (b + 0)), .int p1, .int p2, .int p3] h1 cN' (some (.int r)) h2 0 0 := by
  subst e1; subst e2
  refine XMet.ofE (ST := MS) (HP := fun σ => ov h b (ml S0 cI cZ b σ)) σ τ (by decide) (Nat.le_of_ble_eq_true rfl) ?_
  intro κ g1 g2 g3 g4 g5 g6 E X hQ
  subst g1; subst g2; subst g3; subst g4
  have Y : YM κ h b cI cZ := ⟨fun σ => by rw [g5], fun σ => by rw [g6]; exact hb, ht, htz⟩
  have X : XC κ cX6_send 5 RX6 (some .int) 1 21 := X
  show XG κ σ 0 [(0, .ref (κ.S0 + (b + 0))), (1, .int p1), (2, .int p2), (3, .int p3)] []
  unfold f_X6_send at hf
  refine x_aload_n X dX6_send_0 rfl 0 rfl ?_
  refine x_getf X fl_X6_7 (yM_0 Y) (yM_l Y 0 (by decide)) rfl dX6_send_1 ?_
  refine x_iconst (v := 5) X dX6_send_4 (by decide) ?_
  refine x_iald X 0 (yM_ht Y) (yM_1 Y) (yM_l Y 1 (by decide)) dX6_send_5 hf (fun x5 hf => ?_)
  refine x_istore (lv' := [(4, .int x5), (0, .ref (κ.S0 + (b + 0))), (1, .int p1), (2, .int p2), (3, .int p3)]) X dX6_send_6 (by decide) rfl ?_
  refine x_aload_n X dX6_send_8 rfl 1 rfl ?_
  refine x_getf X fl_X6_7 (yM_0 Y) (yM_l Y 0 (by decide)) rfl dX6_send_9 ?_
  refine x_iload X dX6_send_12 0 rfl ?_
  refine x_iconst (v := 0) X dX6_send_14 (by decide) ?_
  refine x_callR (rest := [.ref (κ.S0 + (b + 1))]) X hf (fun r hr => x_cS X cm_X6_ofAppend lkS_X6_54 ⟨Nat.le_of_ble_eq_true rfl, Nat.le_of_ble_eq_true rfl⟩ (m_X6_ofAppend hr) rfl rfl (Nat.le_of_ble_eq_true rfl) (x_room E _) dX6_send_15) (fun r15 hf => ?_)
  refine x_iload_n X dX6_send_18 rfl 2 rfl ?_
  refine x_iast (w := sA σ 1) X E.1 0 (yM_ht Y) (yM_1 Y) (yM_l Y 1 (by decide)) (yM_s1 Y) dX6_send_19 hf (fun s19 hf => ?_)
  refine x_aload_n X dX6_send_20 rfl 1 rfl ?_
  refine x_getf X fl_X6_7 (yM_0 Y) (yM_l Y 0 (by decide)) rfl dX6_send_21 ?_
  refine x_iload X dX6_send_24 0 rfl ?_
  refine x_iconst (v := 1) X dX6_send_26 (by decide) ?_
  refine x_callR (rest := [.ref (κ.S0 + (b + 1))]) X hf (fun r hr => x_cS X cm_X6_ofAppend lkS_X6_54 ⟨Nat.le_of_ble_eq_true rfl, Nat.le_of_ble_eq_true rfl⟩ (m_X6_ofAppend hr) rfl rfl (Nat.le_of_ble_eq_true rfl) (x_room E _) dX6_send_27) (fun r27 hf => ?_)
  refine x_iload_n X dX6_send_30 rfl 3 rfl ?_
  refine x_iast (w := sA s19 1) X E.1 0 (yM_ht Y) (yM_1 Y) (yM_l Y 1 (by decide)) (yM_s1 Y) dX6_send_31 hf (fun s31 hf => ?_)
  refine x_aload_n X dX6_send_32 rfl 1 rfl ?_
  refine x_getf X fl_X6_7 (yM_0 Y) (yM_l Y 0 (by decide)) rfl dX6_send_33 ?_
  refine x_iload X dX6_send_36 0 rfl ?_
  refine x_iconst (v := 2) X dX6_send_38 (by decide) ?_
  refine x_callR (rest := [.ref (κ.S0 + (b + 1))]) X hf (fun r hr => x_cS X cm_X6_ofAppend lkS_X6_54 ⟨Nat.le_of_ble_eq_true rfl, Nat.le_of_ble_eq_true rfl⟩ (m_X6_ofAppend hr) rfl rfl (Nat.le_of_ble_eq_true rfl) (x_room E _) dX6_send_39) (fun r39 hf => ?_)
  refine x_iload_n X dX6_send_42 rfl 4 rfl ?_
  refine x_iast (w := sA s31 1) X E.1 0 (yM_ht Y) (yM_1 Y) (yM_l Y 1 (by decide)) (yM_s1 Y) dX6_send_43 hf (fun s43 hf => ?_)
  refine x_aload_n X dX6_send_44 rfl 1 rfl ?_
  refine x_getf X fl_X6_7 (yM_0 Y) (yM_l Y 0 (by decide)) rfl dX6_send_45 ?_
  refine x_iload X dX6_send_48 0 rfl ?_
  refine x_iconst (v := 3) X dX6_send_50 (by decide) ?_
  refine x_callR (rest := [.ref (κ.S0 + (b + 1))]) X hf (fun r hr => x_cS X cm_X6_ofAppend lkS_X6_54 ⟨Nat.le_of_ble_eq_true rfl, Nat.le_of_ble_eq_true rfl⟩ (m_X6_ofAppend hr) rfl rfl (Nat.le_of_ble_eq_true rfl) (x_room E _) dX6_send_51) (fun r51 hf => ?_)
  refine x_iconst (v := 0) X dX6_send_54 (by decide) ?_
  refine x_iast (w := sA s43 1) X E.1 0 (yM_ht Y) (yM_1 Y) (yM_l Y 1 (by decide)) (yM_s1 Y) dX6_send_55 hf (fun s55 hf => ?_)
  refine x_aload_n X dX6_send_56 rfl 1 rfl ?_
  refine x_getf X fl_X6_7 (yM_0 Y) (yM_l Y 0 (by decide)) rfl dX6_send_57 ?_
  refine x_iload X dX6_send_60 0 rfl ?_
  refine x_iconst (v := 4) X dX6_send_62 (by decide) ?_
  refine x_callR (rest := [.ref (κ.S0 + (b + 1))]) X hf (fun r hr => x_cS X cm_X6_ofAppend lkS_X6_54 ⟨Nat.le_of_ble_eq_true rfl, Nat.le_of_ble_eq_true rfl⟩ (m_X6_ofAppend hr) rfl rfl (Nat.le_of_ble_eq_true rfl) (x_room E _) dX6_send_63) (fun r63 hf => ?_)
  refine x_bipush (v := (-5)) X dX6_send_66 (by decide) ?_
  refine x_iast (w := sA s55 1) X E.1 0 (yM_ht Y) (yM_1 Y) (yM_l Y 1 (by decide)) (yM_s1 Y) dX6_send_68 hf (fun s68 hf => ?_)
  refine x_aload_n X dX6_send_69 rfl 1 rfl ?_
  refine x_getf X fl_X6_7 (yM_0 Y) (yM_l Y 0 (by decide)) rfl dX6_send_70 ?_
  refine x_iload X dX6_send_73 0 rfl ?_
  refine x_iconst (v := 5) X dX6_send_75 (by decide) ?_
  refine x_callR (rest := [.ref (κ.S0 + (b + 1))]) X hf (fun r hr => x_cS X cm_X6_ofAppend lkS_X6_54 ⟨Nat.le_of_ble_eq_true rfl, Nat.le_of_ble_eq_true rfl⟩ (m_X6_ofAppend hr) rfl rfl (Nat.le_of_ble_eq_true rfl) (x_room E _) dX6_send_76) (fun r76 hf => ?_)
  refine x_bipush (v := (-5)) X dX6_send_79 (by decide) ?_
  refine x_iast (w := sA s68 1) X E.1 0 (yM_ht Y) (yM_1 Y) (yM_l Y 1 (by decide)) (yM_s1 Y) dX6_send_81 hf (fun s81 hf => ?_)
  refine x_aload_n X dX6_send_82 rfl 1 rfl ?_
  refine x_getf X fl_X6_7 (yM_0 Y) (yM_l Y 0 (by decide)) rfl dX6_send_83 ?_
  refine x_iload X dX6_send_86 0 rfl ?_
  refine x_bipush (v := 6) X dX6_send_88 (by decide) ?_
  refine x_callR (rest := [.ref (κ.S0 + (b + 1))]) X hf (fun r hr => x_cS X cm_X6_ofAppend lkS_X6_54 ⟨Nat.le_of_ble_eq_true rfl, Nat.le_of_ble_eq_true rfl⟩ (m_X6_ofAppend hr) rfl rfl (Nat.le_of_ble_eq_true rfl) (x_room E _) dX6_send_90) (fun r90 hf => ?_)
  refine x_bipush (v := (-5)) X dX6_send_93 (by decide) ?_
  refine x_iast (w := sA s81 1) X E.1 0 (yM_ht Y) (yM_1 Y) (yM_l Y 1 (by decide)) (yM_s1 Y) dX6_send_95 hf (fun s95 hf => ?_)
  refine x_aload_n X dX6_send_96 rfl 1 rfl ?_
  refine x_getf X fl_X6_7 (yM_0 Y) (yM_l Y 0 (by decide)) rfl dX6_send_97 ?_
  refine x_iload X dX6_send_100 0 rfl ?_
  refine x_bipush (v := 7) X dX6_send_102 (by decide) ?_
  refine x_callR (rest := [.ref (κ.S0 + (b + 1))]) X hf (fun r hr => x_cS X cm_X6_ofAppend lkS_X6_54 ⟨Nat.le_of_ble_eq_true rfl, Nat.le_of_ble_eq_true rfl⟩ (m_X6_ofAppend hr) rfl rfl (Nat.le_of_ble_eq_true rfl) (x_room E _) dX6_send_104) (fun r104 hf => ?_)
  refine x_bipush (v := (-5)) X dX6_send_107 (by decide) ?_
  refine x_iast (w := sA s95 1) X E.1 0 (yM_ht Y) (yM_1 Y) (yM_l Y 1 (by decide)) (yM_s1 Y) dX6_send_109 hf (fun s109 hf => ?_)
  refine x_aload_n X dX6_send_110 rfl 1 rfl ?_
  refine x_getf X fl_X6_7 (yM_0 Y) (yM_l Y 0 (by decide)) rfl dX6_send_111 ?_
  refine x_iload X dX6_send_114 0 rfl ?_
  refine x_bipush (v := 8) X dX6_send_116 (by decide) ?_
  refine x_callR (rest := [.ref (κ.S0 + (b + 1))]) X hf (fun r hr => x_cS X cm_X6_ofAppend lkS_X6_54 ⟨Nat.le_of_ble_eq_true rfl, Nat.le_of_ble_eq_true rfl⟩ (m_X6_ofAppend hr) rfl rfl (Nat.le_of_ble_eq_true rfl) (x_room E _) dX6_send_118) (fun r118 hf => ?_)
  refine x_iconst (v := 0) X dX6_send_121 (by decide) ?_
  refine x_iast (w := sA s109 1) X E.1 0 (yM_ht Y) (yM_1 Y) (yM_l Y 1 (by decide)) (yM_s1 Y) dX6_send_122 hf (fun s122 hf => ?_)
  refine x_aload_n X dX6_send_123 rfl 1 rfl ?_
  refine x_getf X fl_X6_7 (yM_0 Y) (yM_l Y 0 (by decide)) rfl dX6_send_124 ?_
  refine x_iconst (v := 5) X dX6_send_127 (by decide) ?_
  refine x_dup2 X dX6_send_128 rfl rfl ?_
  refine x_iald X 0 (yM_ht Y) (yM_1 Y) (yM_l Y 1 (by decide)) dX6_send_129 hf (fun x129 hf => ?_)
  refine x_iconst (v := 1) X dX6_send_130 (by decide) ?_
  refine x_iadd X dX6_send_131 ?_
  refine x_iast (w := sA s122 1) X E.1 0 (yM_ht Y) (yM_1 Y) (yM_l Y 1 (by decide)) (yM_s1 Y) dX6_send_132 hf (fun s132 hf => ?_)
  refine x_iload X dX6_send_133 0 rfl ?_
  exact x_iretW (σ0 := σ) X E hQ hf dX6_send_135
def f_X6_isRoom (σ : MS) (p1 : Int32) : Option (Int32) :=
  oA 2204 (σ.1 1) 5 (fun x5 => if 200 ≤ x5 then (oB 0) else (oR (f_X6_appendsOf σ 0 p1) (fun r15 => oR (f_X6_appendsOf σ 1 p1) (fun r21 => oR (f_X6_ofWriter p1 0) (fun r31 => oA 2204 (σ.1 1) r31 (fun x34 => if x34 ≤ (r15 + r21) then (oB 0) else (oB 1)))))))
set_option maxRecDepth 100000 in
set_option maxHeartbeats 4000000 in
theorem m_X6_isRoom {l : Launch} {G : va_G} {tys : List (ClassId × FieldType)} {S0 : Nat} {h h1 h2 : Nat → va_E} {b cN' : Nat} {cI cZ : ClassId} {σ : MS} {p1 : Int32} {r : Int32} (hb : b + 8 ≤ cN') (ht : tys[0]? = some (cI, .int)) (htz : tys[2]? = some (cZ, .boolean)) (e1 : h1 = ov h b (ml S0 cI cZ b σ)) (e2 : h2 = ov h b (ml S0 cI cZ b σ)) (hf : f_X6_isRoom σ p1 = some r) : XMet l G tys S0 cN' yX6_isRoom cX6_isRoom 2 (some .boolean) 2 45 [.ref (S0 + (b + 0)), .int p1] h1 cN' (some (.int r)) h2 0 0 := by
  subst e1; subst e2
  refine XMet.ofE (ST := MS) (HP := fun σ => ov h b (ml S0 cI cZ b σ)) σ σ (by decide) (Nat.le_of_ble_eq_true rfl) ?_
  intro κ g1 g2 g3 g4 g5 g6 E X hQ
  subst g1; subst g2; subst g3; subst g4
  have Y : YM κ h b cI cZ := ⟨fun σ => by rw [g5], fun σ => by rw [g6]; exact hb, ht, htz⟩
  have X : XC κ cX6_isRoom 2 RX6 (some .boolean) 2 45 := X
  show XG κ σ 0 [(0, .ref (κ.S0 + (b + 0))), (1, .int p1)] []
  unfold f_X6_isRoom at hf
  refine x_aload_n X dX6_isRoom_0 rfl 0 rfl ?_
  refine x_getf X fl_X6_7 (yM_0 Y) (yM_l Y 0 (by decide)) rfl dX6_isRoom_1 ?_
  refine x_iconst (v := 5) X dX6_isRoom_4 (by decide) ?_
  refine x_iald X 0 (yM_ht Y) (yM_1 Y) (yM_l Y 1 (by decide)) dX6_isRoom_5 hf (fun x5 hf => ?_)
  refine x_sipush (v := 200) X dX6_isRoom_6 (by decide) ?_
  refine x_icmp_ge (tgt := 42) X dX6_isRoom_9 (by decide) hf (fun hf => ?_) (fun hf => ?_)
  · refine x_iconst (v := 0) X dX6_isRoom_42 (by decide) ?_
    exact x_zretR (σ0 := σ) X E hQ hf dX6_isRoom_43
  · refine x_aload_n X dX6_isRoom_12 rfl 0 rfl ?_
    refine x_iconst (v := 0) X dX6_isRoom_13 (by decide) ?_
    refine x_iload_n X dX6_isRoom_14 rfl 1 rfl ?_
    refine x_callR (rest := []) X hf (fun r hr => x_cV (ci := 6) X cm_X6_appendsOf lkV_X6_71 rfl ⟨Nat.le_of_ble_eq_true rfl, Nat.le_of_ble_eq_true rfl⟩ (yM_0 Y) (yM_l Y 0 (by decide)) (m_X6_appendsOf (yM_hb Y σ) (yM_ht Y) (yM_htz Y) (yM_hp Y _) (yM_hp Y _) hr) rfl rfl (Nat.le_of_ble_eq_true rfl) (x_room E _) dX6_isRoom_15) (fun r15 hf => ?_)
    refine x_aload_n X dX6_isRoom_18 rfl 0 rfl ?_
    refine x_iconst (v := 1) X dX6_isRoom_19 (by decide) ?_
    refine x_iload_n X dX6_isRoom_20 rfl 1 rfl ?_
    refine x_callR (rest := [.int r15]) X hf (fun r hr => x_cV (ci := 6) X cm_X6_appendsOf lkV_X6_71 rfl ⟨Nat.le_of_ble_eq_true rfl, Nat.le_of_ble_eq_true rfl⟩ (yM_0 Y) (yM_l Y 0 (by decide)) (m_X6_appendsOf (yM_hb Y σ) (yM_ht Y) (yM_htz Y) (yM_hp Y _) (yM_hp Y _) hr) rfl rfl (Nat.le_of_ble_eq_true rfl) (x_room E _) dX6_isRoom_21) (fun r21 hf => ?_)
    refine x_iadd X dX6_isRoom_24 ?_
    refine x_aload_n X dX6_isRoom_25 rfl 0 rfl ?_
    refine x_getf X fl_X6_7 (yM_0 Y) (yM_l Y 0 (by decide)) rfl dX6_isRoom_26 ?_
    refine x_iload_n X dX6_isRoom_29 rfl 1 rfl ?_
    refine x_iconst (v := 0) X dX6_isRoom_30 (by decide) ?_
    refine x_callR (rest := [.ref (κ.S0 + (b + 1)), .int (r15 + r21)]) X hf (fun r hr => x_cS X cm_X6_ofWriter lkS_X6_40 ⟨Nat.le_of_ble_eq_true rfl, Nat.le_of_ble_eq_true rfl⟩ (m_X6_ofWriter hr) rfl rfl (Nat.le_of_ble_eq_true rfl) (x_room E _) dX6_isRoom_31) (fun r31 hf => ?_)
    refine x_iald X 0 (yM_ht Y) (yM_1 Y) (yM_l Y 1 (by decide)) dX6_isRoom_34 hf (fun x34 hf => ?_)
    refine x_icmp_ge (tgt := 42) X dX6_isRoom_35 (by decide) hf (fun hf => ?_) (fun hf => ?_)
    · refine x_iconst (v := 0) X dX6_isRoom_42 (by decide) ?_
      exact x_zretR (σ0 := σ) X E hQ hf dX6_isRoom_43
    · refine x_iconst (v := 1) X dX6_isRoom_38 (by decide) ?_
      refine x_goto (tgt := 43) X dX6_isRoom_39 (by decide) ?_
      exact x_zretR (σ0 := σ) X E hQ hf dX6_isRoom_43
def f_X6_append (σ : MS) (p1 : Int32) (p2 : Int32) (p3 : Int32) : Option (Int32 × MS) :=
  oR (f_X6_isWriter p1) (fun r1 => if r1 = 0 then (some ((-1), σ)) else (oR (f_X6_isZone p2) (fun r8 => if r8 = 0 then (some ((-1), σ)) else (oR (f_X6_in p3 0 99) (fun r20 => if r20 = 0 then (some ((-2), σ)) else (oR (f_X6_isRoom σ p1) (fun r31 => if r31 = 0 then (some ((-3), σ)) else (oV (f_X6_know σ) (fun t => t) (fun s41 => oW (f_X6_send s41 p1 p2 p3) (fun t => t) (fun r48 s48 => some (r48, s48)))))))))))
set_option maxRecDepth 100000 in
set_option maxHeartbeats 4000000 in
theorem m_X6_append {l : Launch} {G : va_G} {tys : List (ClassId × FieldType)} {S0 : Nat} {h h1 h2 : Nat → va_E} {b cN' : Nat} {cI cZ : ClassId} {σ : MS} {τ : MS} {p1 : Int32} {p2 : Int32} {p3 : Int32} {r : Int32} (hb : b + 8 ≤ cN') (ht : tys[0]? = some (cI, .int)) (htz : tys[2]? = some (cZ, .boolean)) (e1 : h1 = ov h b (ml S0 cI cZ b σ)) (e2 : h2 = ov h b (ml S0 cI cZ b τ)) (hf : f_X6_append σ p1 p2 p3 = some (r, τ)) : XMet l G tys S0 cN' yX6_append cX6_append 4 (some .int) 3 66 [.ref (S0 + (b + 0)), .int p1, .int p2, .int p3] h1 cN' (some (.int r)) h2 0 0 := by
  subst e1; subst e2
  refine XMet.ofE (ST := MS) (HP := fun σ => ov h b (ml S0 cI cZ b σ)) σ τ (by decide) (Nat.le_of_ble_eq_true rfl) ?_
  intro κ g1 g2 g3 g4 g5 g6 E X hQ
  subst g1; subst g2; subst g3; subst g4
  have Y : YM κ h b cI cZ := ⟨fun σ => by rw [g5], fun σ => by rw [g6]; exact hb, ht, htz⟩
  have X : XC κ cX6_append 4 RX6 (some .int) 3 66 := X
  show XG κ σ 0 [(0, .ref (κ.S0 + (b + 0))), (1, .int p1), (2, .int p2), (3, .int p3)] []
  unfold f_X6_append at hf
  refine x_iload_n X dX6_append_0 rfl 1 rfl ?_
  refine x_callR (rest := []) X hf (fun r hr => x_cS X cm_X6_isWriter lkS_X6_68 ⟨Nat.le_of_ble_eq_true rfl, Nat.le_of_ble_eq_true rfl⟩ (m_X6_isWriter hr) rfl rfl (Nat.le_of_ble_eq_true rfl) (x_room E _) dX6_append_1) (fun r1 hf => ?_)
  refine x_if_eq (tgt := 14) X dX6_append_4 (by decide) hf (fun hf => ?_) (fun hf => ?_)
  · refine x_iconst (v := (-1)) X dX6_append_14 (by decide) ?_
    exact x_iretW (σ0 := σ) X E hQ hf dX6_append_15
  · refine x_iload_n X dX6_append_7 rfl 2 rfl ?_
    refine x_callR (rest := []) X hf (fun r hr => x_cS X cm_X6_isZone lkS_X6_64 ⟨Nat.le_of_ble_eq_true rfl, Nat.le_of_ble_eq_true rfl⟩ (m_X6_isZone hr) rfl rfl (Nat.le_of_ble_eq_true rfl) (x_room E _) dX6_append_8) (fun r8 hf => ?_)
    refine x_if_ne (tgt := 16) X dX6_append_11 (by decide) hf (fun hf => ?_) (fun hf => ?_)
    · refine x_iload_n X dX6_append_16 rfl 3 rfl ?_
      refine x_iconst (v := 0) X dX6_append_17 (by decide) ?_
      refine x_bipush (v := 99) X dX6_append_18 (by decide) ?_
      refine x_callR (rest := []) X hf (fun r hr => x_cS X cm_X6_in lkS_X6_43 ⟨Nat.le_of_ble_eq_true rfl, Nat.le_of_ble_eq_true rfl⟩ (m_X6_in hr) rfl rfl (Nat.le_of_ble_eq_true rfl) (x_room E _) dX6_append_20) (fun r20 hf => ?_)
      refine x_if_ne (tgt := 29) X dX6_append_23 (by decide) hf (fun hf => ?_) (fun hf => ?_)
      · refine x_aload_n X dX6_append_29 rfl 0 rfl ?_
        refine x_iload_n X dX6_append_30 rfl 1 rfl ?_
        refine x_callR (rest := []) X hf (fun r hr => x_cV (ci := 6) X cm_X6_isRoom lkV_X6_74 rfl ⟨Nat.le_of_ble_eq_true rfl, Nat.le_of_ble_eq_true rfl⟩ (yM_0 Y) (yM_l Y 0 (by decide)) (m_X6_isRoom (yM_hb Y σ) (yM_ht Y) (yM_htz Y) (yM_hp Y _) (yM_hp Y _) hr) rfl rfl (Nat.le_of_ble_eq_true rfl) (x_room E _) dX6_append_31) (fun r31 hf => ?_)
        refine x_if_ne (tgt := 40) X dX6_append_34 (by decide) hf (fun hf => ?_) (fun hf => ?_)
        · refine x_aload_n X dX6_append_40 rfl 0 rfl ?_
          refine x_callV (rest := []) (w := fun t => t) X E.1 hf (fun t hr => x_cV (ci := 6) X cm_X6_know lkV_X6_51 rfl ⟨Nat.le_of_ble_eq_true rfl, Nat.le_of_ble_eq_true rfl⟩ (yM_0 Y) (yM_l Y 0 (by decide)) (m_X6_know (yM_hb Y σ) (yM_ht Y) (yM_htz Y) (yM_hp Y _) (yM_hp Y _) hr) rfl rfl (Nat.le_of_ble_eq_true rfl) (x_room E _) dX6_append_41) (fun s41 hf => ?_)
          refine x_aload_n X dX6_append_44 rfl 0 rfl ?_
          refine x_iload_n X dX6_append_45 rfl 1 rfl ?_
          refine x_iload_n X dX6_append_46 rfl 2 rfl ?_
          refine x_iload_n X dX6_append_47 rfl 3 rfl ?_
          refine x_callW (rest := []) (w := fun t => t) X E.1 hf (fun r t hr => x_cV (ci := 6) X cm_X6_send lkV_X6_77 rfl ⟨Nat.le_of_ble_eq_true rfl, Nat.le_of_ble_eq_true rfl⟩ (yM_0 Y) (yM_l Y 0 (by decide)) (m_X6_send (yM_hb Y s41) (yM_ht Y) (yM_htz Y) (yM_hp Y _) (yM_hp Y _) hr) rfl rfl (Nat.le_of_ble_eq_true rfl) (x_room E _) dX6_append_48) (fun r48 s48 hf => ?_)
          exact x_iretW (σ0 := σ) X E hQ hf dX6_append_51
        · refine x_bipush (v := (-3)) X dX6_append_37 (by decide) ?_
          exact x_iretW (σ0 := σ) X E hQ hf dX6_append_39
      · refine x_bipush (v := (-2)) X dX6_append_26 (by decide) ?_
        exact x_iretW (σ0 := σ) X E hQ hf dX6_append_28
    · refine x_iconst (v := (-1)) X dX6_append_14 (by decide) ?_
      exact x_iretW (σ0 := σ) X E hQ hf dX6_append_15
def f_X6_fail (σ : MS) (p1 : Int32) (p2 : Int32) : Option (MS) :=
  oR (f_X6_ofAppend p1 3) (fun r6 => oS 2204 (σ.1 1) r6 3 (sA σ 1) (fun s10 => oR (f_X6_ofAppend p1 6) (fun r18 => oS 2204 (s10.1 1) r18 p2 (sA s10 1) (fun s22 => oR (f_X6_ofAppend p1 4) (fun r29 => oS 2204 (s22.1 1) r29 (-5) (sA s22 1) (fun s34 => some s34))))))
set_option maxRecDepth 100000 in
set_option maxHeartbeats 4000000 in
theorem m_X6_fail {l : Launch} {G : va_G} {tys : List (ClassId × FieldType)} {S0 : Nat} {h h1 h2 : Nat → va_E} {b cN' : Nat} {cI cZ : ClassId} {σ : MS} {τ : MS} {p1 : Int32} {p2 : Int32} (hb : b + 8 ≤ cN') (ht : tys[0]? = some (cI, .int)) (htz : tys[2]? = some (cZ, .boolean)) (e1 : h1 = ov h b (ml S0 cI cZ b σ)) (e2 : h2 = ov h b (ml S0 cI cZ b τ)) (hf : f_X6_fail σ p1 p2 = some τ) : XMet l G tys S0 cN' yX6_fail cX6_fail 3 none 1 21 [.ref (S0 + (b + 0)), .int p1, .int p2] h1 cN' none h2 0 0 := by
  subst e1; subst e2
  refine XMet.ofE (ST := MS) (HP := fun σ => ov h b (ml S0 cI cZ b σ)) σ τ (by decide) (Nat.le_of_ble_eq_true rfl) ?_
  intro κ g1 g2 g3 g4 g5 g6 E X hQ
  subst g1; subst g2; subst g3; subst g4
  have Y : YM κ h b cI cZ := ⟨fun σ => by rw [g5], fun σ => by rw [g6]; exact hb, ht, htz⟩
  have X : XC κ cX6_fail 3 RX6 none 1 21 := X
  show XG κ σ 0 [(0, .ref (κ.S0 + (b + 0))), (1, .int p1), (2, .int p2)] []
  unfold f_X6_fail at hf
  refine x_aload_n X dX6_fail_0 rfl 0 rfl ?_
  refine x_getf X fl_X6_7 (yM_0 Y) (yM_l Y 0 (by decide)) rfl dX6_fail_1 ?_
  refine x_iload_n X dX6_fail_4 rfl 1 rfl ?_
  refine x_iconst (v := 3) X dX6_fail_5 (by decide) ?_
  refine x_callR (rest := [.ref (κ.S0 + (b + 1))]) X hf (fun r hr => x_cS X cm_X6_ofAppend lkS_X6_54 ⟨Nat.le_of_ble_eq_true rfl, Nat.le_of_ble_eq_true rfl⟩ (m_X6_ofAppend hr) rfl rfl (Nat.le_of_ble_eq_true rfl) (x_room E _) dX6_fail_6) (fun r6 hf => ?_)
  refine x_iconst (v := 3) X dX6_fail_9 (by decide) ?_
  refine x_iast (w := sA σ 1) X E.1 0 (yM_ht Y) (yM_1 Y) (yM_l Y 1 (by decide)) (yM_s1 Y) dX6_fail_10 hf (fun s10 hf => ?_)
  refine x_aload_n X dX6_fail_11 rfl 0 rfl ?_
  refine x_getf X fl_X6_7 (yM_0 Y) (yM_l Y 0 (by decide)) rfl dX6_fail_12 ?_
  refine x_iload_n X dX6_fail_15 rfl 1 rfl ?_
  refine x_bipush (v := 6) X dX6_fail_16 (by decide) ?_
  refine x_callR (rest := [.ref (κ.S0 + (b + 1))]) X hf (fun r hr => x_cS X cm_X6_ofAppend lkS_X6_54 ⟨Nat.le_of_ble_eq_true rfl, Nat.le_of_ble_eq_true rfl⟩ (m_X6_ofAppend hr) rfl rfl (Nat.le_of_ble_eq_true rfl) (x_room E _) dX6_fail_18) (fun r18 hf => ?_)
  refine x_iload_n X dX6_fail_21 rfl 2 rfl ?_
  refine x_iast (w := sA s10 1) X E.1 0 (yM_ht Y) (yM_1 Y) (yM_l Y 1 (by decide)) (yM_s1 Y) dX6_fail_22 hf (fun s22 hf => ?_)
  refine x_aload_n X dX6_fail_23 rfl 0 rfl ?_
  refine x_getf X fl_X6_7 (yM_0 Y) (yM_l Y 0 (by decide)) rfl dX6_fail_24 ?_
  refine x_iload_n X dX6_fail_27 rfl 1 rfl ?_
  refine x_iconst (v := 4) X dX6_fail_28 (by decide) ?_
  refine x_callR (rest := [.ref (κ.S0 + (b + 1))]) X hf (fun r hr => x_cS X cm_X6_ofAppend lkS_X6_54 ⟨Nat.le_of_ble_eq_true rfl, Nat.le_of_ble_eq_true rfl⟩ (m_X6_ofAppend hr) rfl rfl (Nat.le_of_ble_eq_true rfl) (x_room E _) dX6_fail_29) (fun r29 hf => ?_)
  refine x_bipush (v := (-5)) X dX6_fail_32 (by decide) ?_
  refine x_iast (w := sA s22 1) X E.1 0 (yM_ht Y) (yM_1 Y) (yM_l Y 1 (by decide)) (yM_s1 Y) dX6_fail_34 hf (fun s34 hf => ?_)
  exact x_vretV (σ0 := σ) X E hQ hf dX6_fail_35
def f_X6_failAll_L6 (p1 : Int32) (p2 : Int32) (p3 : Int32) (kX6 : Int32 → MS → Option (Int32 × MS)) : Nat → Int32 → Int32 → MS → Option (Int32 × MS)
  | 0, _, _, _ => none
  | n + 1, v4_6, v5_6, s6 =>
    oA 2204 (s6.1 1) 5 (fun x13 => if x13 ≤ v5_6 then (kX6 v4_6 s6) else (oR (f_X6_ofAppend v5_6 1) (fun r24 => oA 2204 (s6.1 1) r24 (fun x27 => oJ (κ := Int32 → MS → Option (Int32 × MS)) (fun u4_57 s_57 => f_X6_failAll_L6 p1 p2 p3 kX6 n u4_57 (v5_6 + 1) s_57) (fun k57 => if x27 = p1 then (oR (f_X6_ofAppend v5_6 3) (fun r39 => oA 2204 (s6.1 1) r39 (fun x42 => if x42 = p2 then (oV (f_X6_fail s6 v5_6 p3) (fun t => t) (fun s51 => k57 (v4_6 + 1) s51)) else (k57 v4_6 s6)))) else (k57 v4_6 s6))))))
def f_X6_failAll (σ : MS) (p1 : Int32) (p2 : Int32) (p3 : Int32) : Option (Int32 × MS) :=
  f_X6_failAll_L6 p1 p2 p3 (fun w4_63 sx63 => some (w4_63, sx63)) FU 0 0 σ
set_option maxRecDepth 100000 in
set_option maxHeartbeats 4000000 in
theorem m_X6_failAll {l : Launch} {G : va_G} {tys : List (ClassId × FieldType)} {S0 : Nat} {h h1 h2 : Nat → va_E} {b cN' : Nat} {cI cZ : ClassId} {σ : MS} {τ : MS} {p1 : Int32} {p2 : Int32} {p3 : Int32} {r : Int32} (hb : b + 8 ≤ cN') (ht : tys[0]? = some (cI, .int)) (htz : tys[2]? = some (cZ, .boolean)) (e1 : h1 = ov h b (ml S0 cI cZ b σ)) (e2 : h2 = ov h b (ml S0 cI cZ b τ)) (hf : f_X6_failAll σ p1 p2 p3 = some (r, τ)) : XMet l G tys S0 cN' yX6_failAll cX6_failAll 6 (some .int) 2 43 [.ref (S0 + (b + 0)), .int p1, .int p2, .int p3] h1 cN' (some (.int r)) h2 0 0 := by
  subst e1; subst e2
  refine XMet.ofE (ST := MS) (HP := fun σ => ov h b (ml S0 cI cZ b σ)) σ τ (by decide) (Nat.le_of_ble_eq_true rfl) ?_
  intro κ g1 g2 g3 g4 g5 g6 E X hQ
  subst g1; subst g2; subst g3; subst g4
  have Y : YM κ h b cI cZ := ⟨fun σ => by rw [g5], fun σ => by rw [g6]; exact hb, ht, htz⟩
  have X : XC κ cX6_failAll 6 RX6 (some .int) 2 43 := X
  show XG κ σ 0 [(0, .ref (κ.S0 + (b + 0))), (1, .int p1), (2, .int p2), (3, .int p3)] []
  unfold f_X6_failAll at hf
  refine x_iconst (v := 0) X dX6_failAll_0 (by decide) ?_
  refine x_istore (lv' := [(4, .int 0), (0, .ref (κ.S0 + (b + 0))), (1, .int p1), (2, .int p2), (3, .int p3)]) X dX6_failAll_1 (by decide) rfl ?_
  refine x_iconst (v := 0) X dX6_failAll_3 (by decide) ?_
  refine x_istore (lv' := [(5, .int 0), (4, .int 0), (0, .ref (κ.S0 + (b + 0))), (1, .int p1), (2, .int p2), (3, .int p3)]) X dX6_failAll_4 (by decide) rfl ?_
  refine x_kont (b := fun kX6 => f_X6_failAll_L6 p1 p2 p3 kX6 FU 0 0 σ) (fun kX6 => ∀ (w4_63 : Int32) (sx63 : MS), kX6 w4_63 sx63 = some (r, τ) → XG κ sx63 63 [(4, .int w4_63)] []) hf (fun w4_63 sx63 hf => ?_) (fun kX6 JX6 hf => ?_)
  · refine x_iload X dX6_failAll_63 0 rfl ?_
    exact x_iretW (σ0 := σ) X E hQ hf dX6_failAll_65
  · have LL : ∀ (n : Nat) (v4_6 : Int32) (v5_6 : Int32) (s6 : MS), f_X6_failAll_L6 p1 p2 p3 kX6 n v4_6 v5_6 s6 = some (r, τ) → XG κ s6 6 [(0, .ref (κ.S0 + (b + 0))), (1, .int p1), (2, .int p2), (3, .int p3), (4, .int v4_6), (5, .int v5_6)] [] := by
      intro n
      induction n with
      | zero => intro v4_6 v5_6 s6 hf; rw [f_X6_failAll_L6] at hf; cases hf
      | succ n ih6 =>
        intro v4_6 v5_6 s6 hf
        rw [f_X6_failAll_L6] at hf
        refine x_iload X dX6_failAll_6 5 rfl ?_
        refine x_aload_n X dX6_failAll_8 rfl 0 rfl ?_
        refine x_getf X fl_X6_7 (yM_0 Y) (yM_l Y 0 (by decide)) rfl dX6_failAll_9 ?_
        refine x_iconst (v := 5) X dX6_failAll_12 (by decide) ?_
        refine x_iald X 0 (yM_ht Y) (yM_1 Y) (yM_l Y 1 (by decide)) dX6_failAll_13 hf (fun x13 hf => ?_)
        refine x_icmp_ge (tgt := 63) X dX6_failAll_14 (by decide) hf (fun hf => ?_) (fun hf => ?_)
        · refine x_sub [4] rfl ?_
          exact JX6 v4_6 s6 hf
        · refine x_aload_n X dX6_failAll_17 rfl 0 rfl ?_
          refine x_getf X fl_X6_7 (yM_0 Y) (yM_l Y 0 (by decide)) rfl dX6_failAll_18 ?_
          refine x_iload X dX6_failAll_21 5 rfl ?_
          refine x_iconst (v := 1) X dX6_failAll_23 (by decide) ?_
          refine x_callR (rest := [.ref (κ.S0 + (b + 1))]) X hf (fun r hr => x_cS X cm_X6_ofAppend lkS_X6_54 ⟨Nat.le_of_ble_eq_true rfl, Nat.le_of_ble_eq_true rfl⟩ (m_X6_ofAppend hr) rfl rfl (Nat.le_of_ble_eq_true rfl) (x_room E _) dX6_failAll_24) (fun r24 hf => ?_)
          refine x_iald X 0 (yM_ht Y) (yM_1 Y) (yM_l Y 1 (by decide)) dX6_failAll_27 hf (fun x27 hf => ?_)
          refine x_iload_n X dX6_failAll_28 rfl 1 rfl ?_
          refine x_join (fun k57 => ∀ (u4_57 : Int32) (s_57 : MS), k57 u4_57 s_57 = some (r, τ) → XG κ s_57 57 [(0, .ref (κ.S0 + (b + 0))), (1, .int p1), (2, .int p2), (3, .int p3), (4, .int u4_57), (5, .int v5_6)] []) hf (fun u4_57 s_57 hf => ?_) (fun k57 J57 hf => ?_)
          · refine x_iinc (v := v5_6 + 1) (lv' := [(5, .int (v5_6 + 1)), (0, .ref (κ.S0 + (b + 0))), (1, .int p1), (2, .int p2), (3, .int p3), (4, .int u4_57)]) X dX6_failAll_57 5 rfl rfl (by decide) rfl ?_
            refine x_goto (tgt := 6) X dX6_failAll_60 (by decide) ?_
            refine x_sub [1, 2, 3, 4, 5, 0] rfl ?_
            exact ih6 u4_57 (v5_6 + 1) s_57 hf
          · refine x_icmp_ne (tgt := 57) X dX6_failAll_29 (by decide) hf (fun hf => ?_) (fun hf => ?_)
            · exact J57 v4_6 s6 hf
            · refine x_aload_n X dX6_failAll_32 rfl 0 rfl ?_
              refine x_getf X fl_X6_7 (yM_0 Y) (yM_l Y 0 (by decide)) rfl dX6_failAll_33 ?_
              refine x_iload X dX6_failAll_36 5 rfl ?_
              refine x_iconst (v := 3) X dX6_failAll_38 (by decide) ?_
              refine x_callR (rest := [.ref (κ.S0 + (b + 1))]) X hf (fun r hr => x_cS X cm_X6_ofAppend lkS_X6_54 ⟨Nat.le_of_ble_eq_true rfl, Nat.le_of_ble_eq_true rfl⟩ (m_X6_ofAppend hr) rfl rfl (Nat.le_of_ble_eq_true rfl) (x_room E _) dX6_failAll_39) (fun r39 hf => ?_)
              refine x_iald X 0 (yM_ht Y) (yM_1 Y) (yM_l Y 1 (by decide)) dX6_failAll_42 hf (fun x42 hf => ?_)
              refine x_iload_n X dX6_failAll_43 rfl 2 rfl ?_
              refine x_icmp_ne (tgt := 57) X dX6_failAll_44 (by decide) hf (fun hf => ?_) (fun hf => ?_)
              · exact J57 v4_6 s6 hf
              · refine x_aload_n X dX6_failAll_47 rfl 0 rfl ?_
                refine x_iload X dX6_failAll_48 5 rfl ?_
                refine x_iload_n X dX6_failAll_50 rfl 3 rfl ?_
                refine x_callV (rest := []) (w := fun t => t) X E.1 hf (fun t hr => x_cV (ci := 6) X cm_X6_fail lkV_X6_81 rfl ⟨Nat.le_of_ble_eq_true rfl, Nat.le_of_ble_eq_true rfl⟩ (yM_0 Y) (yM_l Y 0 (by decide)) (m_X6_fail (yM_hb Y s6) (yM_ht Y) (yM_htz Y) (yM_hp Y _) (yM_hp Y _) hr) rfl rfl (Nat.le_of_ble_eq_true rfl) (x_room E _) dX6_failAll_51) (fun s51 hf => ?_)
                refine x_iinc (v := v4_6 + 1) (lv' := [(4, .int (v4_6 + 1)), (0, .ref (κ.S0 + (b + 0))), (1, .int p1), (2, .int p2), (3, .int p3), (5, .int v5_6)]) X dX6_failAll_54 4 rfl rfl (by decide) rfl ?_
                refine x_sub [1, 2, 3, 4, 0, 5] rfl ?_
                exact J57 (v4_6 + 1) s51 hf
    refine x_sub [2, 3, 4, 5, 1, 0] rfl ?_
    exact LL FU 0 0 σ hf
def f_X6_readable_L4 (σ : MS) (p1 : Int32) (kX4 : Int32 → Option (Int32)) : Nat → Int32 → Int32 → Option (Int32)
  | 0, _, _ => none
  | n + 1, v2_4, v3_4 =>
    if 16 ≤ v3_4 then (kX4 v2_4) else (oR (f_X6_of p1 (6 + v3_4)) (fun r20 => oA 2204 (σ.1 1) r20 (fun x23 => oJ (κ := Int32 → Option (Int32)) (fun t0_34 => f_X6_readable_L4 σ p1 kX4 n (v2_4 + t0_34) (v3_4 + 1)) (fun k34 => if x23 = (-5) then (k34 0) else (k34 1)))))
def f_X6_readable (σ : MS) (p1 : Int32) : Option (Int32) :=
  f_X6_readable_L4 σ p1 (fun w2_42 => some w2_42) FU 0 0
set_option maxRecDepth 100000 in
set_option maxHeartbeats 4000000 in
theorem m_X6_readable {l : Launch} {G : va_G} {tys : List (ClassId × FieldType)} {S0 : Nat} {h h1 h2 : Nat → va_E} {b cN' : Nat} {cI cZ : ClassId} {σ : MS} {p1 : Int32} {r : Int32} (hb : b + 8 ≤ cN') (ht : tys[0]? = some (cI, .int)) (htz : tys[2]? = some (cZ, .boolean)) (e1 : h1 = ov h b (ml S0 cI cZ b σ)) (e2 : h2 = ov h b (ml S0 cI cZ b σ)) (hf : f_X6_readable σ p1 = some r) : XMet l G tys S0 cN' yX6_readable cX6_readable 4 (some .int) 1 21 [.ref (S0 + (b + 0)), .int p1] h1 cN' (some (.int r)) h2 0 0 := by
  subst e1; subst e2
  refine XMet.ofE (ST := MS) (HP := fun σ => ov h b (ml S0 cI cZ b σ)) σ σ (by decide) (Nat.le_of_ble_eq_true rfl) ?_
  intro κ g1 g2 g3 g4 g5 g6 E X hQ
  subst g1; subst g2; subst g3; subst g4
  have Y : YM κ h b cI cZ := ⟨fun σ => by rw [g5], fun σ => by rw [g6]; exact hb, ht, htz⟩
  have X : XC κ cX6_readable 4 RX6 (some .int) 1 21 := X
  show XG κ σ 0 [(0, .ref (κ.S0 + (b + 0))), (1, .int p1)] []
  unfold f_X6_readable at hf
  refine x_iconst (v := 0) X dX6_readable_0 (by decide) ?_
  refine x_istore_n (lv' := [(2, .int 0), (0, .ref (κ.S0 + (b + 0))), (1, .int p1)]) X dX6_readable_1 rfl (by decide) rfl ?_
  refine x_iconst (v := 0) X dX6_readable_2 (by decide) ?_
  refine x_istore_n (lv' := [(3, .int 0), (2, .int 0), (0, .ref (κ.S0 + (b + 0))), (1, .int p1)]) X dX6_readable_3 rfl (by decide) rfl ?_
  refine x_kont (b := fun kX4 => f_X6_readable_L4 σ p1 kX4 FU 0 0) (fun kX4 => ∀ (w2_42 : Int32), kX4 w2_42 = some r → XG κ σ 42 [(2, .int w2_42)] []) hf (fun w2_42 hf => ?_) (fun kX4 JX4 hf => ?_)
  · refine x_iload_n X dX6_readable_42 rfl 0 rfl ?_
    exact x_iretR (σ0 := σ) X E hQ hf dX6_readable_43
  · have LL : ∀ (n : Nat) (v2_4 : Int32) (v3_4 : Int32), f_X6_readable_L4 σ p1 kX4 n v2_4 v3_4 = some r → XG κ σ 4 [(0, .ref (κ.S0 + (b + 0))), (1, .int p1), (2, .int v2_4), (3, .int v3_4)] [] := by
      intro n
      induction n with
      | zero => intro v2_4 v3_4 hf; rw [f_X6_readable_L4] at hf; cases hf
      | succ n ih4 =>
        intro v2_4 v3_4 hf
        rw [f_X6_readable_L4] at hf
        refine x_iload_n X dX6_readable_4 rfl 3 rfl ?_
        refine x_bipush (v := 16) X dX6_readable_5 (by decide) ?_
        refine x_icmp_ge (tgt := 42) X dX6_readable_7 (by decide) hf (fun hf => ?_) (fun hf => ?_)
        · refine x_sub [2] rfl ?_
          exact JX4 v2_4 hf
        · refine x_iload_n X dX6_readable_10 rfl 2 rfl ?_
          refine x_aload_n X dX6_readable_11 rfl 0 rfl ?_
          refine x_getf X fl_X6_7 (yM_0 Y) (yM_l Y 0 (by decide)) rfl dX6_readable_12 ?_
          refine x_iload_n X dX6_readable_15 rfl 1 rfl ?_
          refine x_bipush (v := 6) X dX6_readable_16 (by decide) ?_
          refine x_iload_n X dX6_readable_18 rfl 3 rfl ?_
          refine x_iadd X dX6_readable_19 ?_
          refine x_callR (rest := [.ref (κ.S0 + (b + 1)), .int v2_4]) X hf (fun r hr => x_cS X cm_X6_of lkS_X6_32 ⟨Nat.le_of_ble_eq_true rfl, Nat.le_of_ble_eq_true rfl⟩ (m_X6_of hr) rfl rfl (Nat.le_of_ble_eq_true rfl) (x_room E _) dX6_readable_20) (fun r20 hf => ?_)
          refine x_iald X 0 (yM_ht Y) (yM_1 Y) (yM_l Y 1 (by decide)) dX6_readable_23 hf (fun x23 hf => ?_)
          refine x_bipush (v := (-5)) X dX6_readable_24 (by decide) ?_
          refine x_join (fun k34 => ∀ (t0_34 : Int32), k34 t0_34 = some r → XG κ σ 34 [(0, .ref (κ.S0 + (b + 0))), (1, .int p1), (3, .int v3_4)] [.int t0_34, .int v2_4]) hf (fun t0_34 hf => ?_) (fun k34 J34 hf => ?_)
          · refine x_iadd X dX6_readable_34 ?_
            refine x_istore_n (lv' := [(2, .int (v2_4 + t0_34)), (0, .ref (κ.S0 + (b + 0))), (1, .int p1), (3, .int v3_4)]) X dX6_readable_35 rfl (by decide) rfl ?_
            refine x_iinc (v := v3_4 + 1) (lv' := [(3, .int (v3_4 + 1)), (2, .int (v2_4 + t0_34)), (0, .ref (κ.S0 + (b + 0))), (1, .int p1)]) X dX6_readable_36 3 rfl rfl (by decide) rfl ?_
            refine x_goto (tgt := 4) X dX6_readable_39 (by decide) ?_
            refine x_sub [2, 3, 1, 0] rfl ?_
            exact ih4 (v2_4 + t0_34) (v3_4 + 1) hf
          · refine x_icmp_ne (tgt := 33) X dX6_readable_26 (by decide) hf (fun hf => ?_) (fun hf => ?_)
            · refine x_iconst (v := 1) X dX6_readable_33 (by decide) ?_
              refine x_sub [0, 1, 3] rfl ?_
              exact J34 1 hf
            · refine x_iconst (v := 0) X dX6_readable_29 (by decide) ?_
              refine x_goto (tgt := 34) X dX6_readable_30 (by decide) ?_
              refine x_sub [0, 1, 3] rfl ?_
              exact J34 0 hf
    refine x_sub [2, 3, 1, 0] rfl ?_
    exact LL FU 0 0 hf
def f_X6_resets (σ : MS) (p1 : Int32) : Option (Int32 × MS) :=
  oR (f_X6_readable σ p1) (fun r2 => oW (f_X6_failAll σ p1 1 2) (fun t => t) (fun r10 s10 => oV (f_X6_sweep s10 p1) (fun t => t) (fun s16 => oR (f_X6_of p1 0) (fun r25 => oS 2204 (s16.1 1) r25 0 (sA s16 1) (fun s29 => oR (f_X6_of p1 3) (fun r36 => oS 2204 (s29.1 1) r36 0 (sA s29 1) (fun s40 => oR (f_X6_of p1 4) (fun r47 => oA 2204 (s40.1 1) r47 (fun x51 => oS 2204 (s40.1 1) r47 (x51 + 1) (sA s40 1) (fun s54 => some (r2, s54)))))))))))
set_option maxRecDepth 100000 in
set_option maxHeartbeats 4000000 in
theorem m_X6_resets {l : Launch} {G : va_G} {tys : List (ClassId × FieldType)} {S0 : Nat} {h h1 h2 : Nat → va_E} {b cN' : Nat} {cI cZ : ClassId} {σ : MS} {τ : MS} {p1 : Int32} {r : Int32} (hb : b + 8 ≤ cN') (ht : tys[0]? = some (cI, .int)) (htz : tys[2]? = some (cZ, .boolean)) (e1 : h1 = ov h b (ml S0 cI cZ b σ)) (e2 : h2 = ov h b (ml S0 cI cZ b τ)) (hf : f_X6_resets σ p1 = some (r, τ)) : XMet l G tys S0 cN' yX6_resets cX6_resets 4 (some .int) 3 68 [.ref (S0 + (b + 0)), .int p1] h1 cN' (some (.int r)) h2 0 0 := by
  subst e1; subst e2
  refine XMet.ofE (ST := MS) (HP := fun σ => ov h b (ml S0 cI cZ b σ)) σ τ (by decide) (Nat.le_of_ble_eq_true rfl) ?_
  intro κ g1 g2 g3 g4 g5 g6 E X hQ
  subst g1; subst g2; subst g3; subst g4
  have Y : YM κ h b cI cZ := ⟨fun σ => by rw [g5], fun σ => by rw [g6]; exact hb, ht, htz⟩
  have X : XC κ cX6_resets 4 RX6 (some .int) 3 68 := X
  show XG κ σ 0 [(0, .ref (κ.S0 + (b + 0))), (1, .int p1)] []
  unfold f_X6_resets at hf
  refine x_aload_n X dX6_resets_0 rfl 0 rfl ?_
  refine x_iload_n X dX6_resets_1 rfl 1 rfl ?_
  refine x_callR (rest := []) X hf (fun r hr => x_cV (ci := 6) X cm_X6_readable lkV_X6_85 rfl ⟨Nat.le_of_ble_eq_true rfl, Nat.le_of_ble_eq_true rfl⟩ (yM_0 Y) (yM_l Y 0 (by decide)) (m_X6_readable (yM_hb Y σ) (yM_ht Y) (yM_htz Y) (yM_hp Y _) (yM_hp Y _) hr) rfl rfl (Nat.le_of_ble_eq_true rfl) (x_room E _) dX6_resets_2) (fun r2 hf => ?_)
  refine x_istore_n (lv' := [(2, .int r2), (0, .ref (κ.S0 + (b + 0))), (1, .int p1)]) X dX6_resets_5 rfl (by decide) rfl ?_
  refine x_aload_n X dX6_resets_6 rfl 1 rfl ?_
  refine x_iload_n X dX6_resets_7 rfl 2 rfl ?_
  refine x_iconst (v := 1) X dX6_resets_8 (by decide) ?_
  refine x_iconst (v := 2) X dX6_resets_9 (by decide) ?_
  refine x_callW (rest := []) (w := fun t => t) X E.1 hf (fun r t hr => x_cV (ci := 6) X cm_X6_failAll lkV_X6_89 rfl ⟨Nat.le_of_ble_eq_true rfl, Nat.le_of_ble_eq_true rfl⟩ (yM_0 Y) (yM_l Y 0 (by decide)) (m_X6_failAll (yM_hb Y σ) (yM_ht Y) (yM_htz Y) (yM_hp Y _) (yM_hp Y _) hr) rfl rfl (Nat.le_of_ble_eq_true rfl) (x_room E _) dX6_resets_10) (fun r10 s10 hf => ?_)
  refine x_istore_n (lv' := [(3, .int r10), (2, .int r2), (0, .ref (κ.S0 + (b + 0))), (1, .int p1)]) X dX6_resets_13 rfl (by decide) rfl ?_
  refine x_aload_n X dX6_resets_14 rfl 2 rfl ?_
  refine x_iload_n X dX6_resets_15 rfl 3 rfl ?_
  refine x_callV (rest := []) (w := fun t => t) X E.1 hf (fun t hr => x_cV (ci := 6) X cm_X6_sweep lkV_X6_36 rfl ⟨Nat.le_of_ble_eq_true rfl, Nat.le_of_ble_eq_true rfl⟩ (yM_0 Y) (yM_l Y 0 (by decide)) (m_X6_sweep (yM_hb Y s10) (yM_ht Y) (yM_htz Y) (yM_hp Y _) (yM_hp Y _) hr) rfl rfl (Nat.le_of_ble_eq_true rfl) (x_room E _) dX6_resets_16) (fun s16 hf => ?_)
  refine x_aload_n X dX6_resets_19 rfl 2 rfl ?_
  refine x_getf X fl_X6_7 (yM_0 Y) (yM_l Y 0 (by decide)) rfl dX6_resets_20 ?_
  refine x_iload_n X dX6_resets_23 rfl 3 rfl ?_
  refine x_iconst (v := 0) X dX6_resets_24 (by decide) ?_
  refine x_callR (rest := [.ref (κ.S0 + (b + 1))]) X hf (fun r hr => x_cS X cm_X6_of lkS_X6_32 ⟨Nat.le_of_ble_eq_true rfl, Nat.le_of_ble_eq_true rfl⟩ (m_X6_of hr) rfl rfl (Nat.le_of_ble_eq_true rfl) (x_room E _) dX6_resets_25) (fun r25 hf => ?_)
  refine x_iconst (v := 0) X dX6_resets_28 (by decide) ?_
  refine x_iast (w := sA s16 1) X E.1 0 (yM_ht Y) (yM_1 Y) (yM_l Y 1 (by decide)) (yM_s1 Y) dX6_resets_29 hf (fun s29 hf => ?_)
  refine x_aload_n X dX6_resets_30 rfl 2 rfl ?_
  refine x_getf X fl_X6_7 (yM_0 Y) (yM_l Y 0 (by decide)) rfl dX6_resets_31 ?_
  refine x_iload_n X dX6_resets_34 rfl 3 rfl ?_
  refine x_iconst (v := 3) X dX6_resets_35 (by decide) ?_
  refine x_callR (rest := [.ref (κ.S0 + (b + 1))]) X hf (fun r hr => x_cS X cm_X6_of lkS_X6_32 ⟨Nat.le_of_ble_eq_true rfl, Nat.le_of_ble_eq_true rfl⟩ (m_X6_of hr) rfl rfl (Nat.le_of_ble_eq_true rfl) (x_room E _) dX6_resets_36) (fun r36 hf => ?_)
  refine x_iconst (v := 0) X dX6_resets_39 (by decide) ?_
  refine x_iast (w := sA s29 1) X E.1 0 (yM_ht Y) (yM_1 Y) (yM_l Y 1 (by decide)) (yM_s1 Y) dX6_resets_40 hf (fun s40 hf => ?_)
  refine x_aload_n X dX6_resets_41 rfl 2 rfl ?_
  refine x_getf X fl_X6_7 (yM_0 Y) (yM_l Y 0 (by decide)) rfl dX6_resets_42 ?_
  refine x_iload_n X dX6_resets_45 rfl 3 rfl ?_
  refine x_iconst (v := 4) X dX6_resets_46 (by decide) ?_
  refine x_callR (rest := [.ref (κ.S0 + (b + 1))]) X hf (fun r hr => x_cS X cm_X6_of lkS_X6_32 ⟨Nat.le_of_ble_eq_true rfl, Nat.le_of_ble_eq_true rfl⟩ (m_X6_of hr) rfl rfl (Nat.le_of_ble_eq_true rfl) (x_room E _) dX6_resets_47) (fun r47 hf => ?_)
  refine x_dup2 X dX6_resets_50 rfl rfl ?_
  refine x_iald X 0 (yM_ht Y) (yM_1 Y) (yM_l Y 1 (by decide)) dX6_resets_51 hf (fun x51 hf => ?_)
  refine x_iconst (v := 1) X dX6_resets_52 (by decide) ?_
  refine x_iadd X dX6_resets_53 ?_
  refine x_iast (w := sA s40 1) X E.1 0 (yM_ht Y) (yM_1 Y) (yM_l Y 1 (by decide)) (yM_s1 Y) dX6_resets_54 hf (fun s54 hf => ?_)
  refine x_iload_n X dX6_resets_55 rfl 1 rfl ?_
  exact x_iretW (σ0 := σ) X E hQ hf dX6_resets_56
def f_X6_reset (σ : MS) (p1 : Int32) : Option (Int32 × MS) :=
  oR (f_X6_isZone p1) (fun r1 => if r1 = 0 then (some ((-1), σ)) else (oR (f_X6_of p1 0) (fun r15 => oA 2204 (σ.1 1) r15 (fun x18 => if x18 = 0 then (some ((-5), σ)) else (oV (f_X6_know σ) (fun t => t) (fun s26 => oW (f_X6_resets s26 p1) (fun t => t) (fun r31 s31 => some (r31, s31))))))))
set_option maxRecDepth 100000 in
set_option maxHeartbeats 4000000 in
theorem m_X6_reset {l : Launch} {G : va_G} {tys : List (ClassId × FieldType)} {S0 : Nat} {h h1 h2 : Nat → va_E} {b cN' : Nat} {cI cZ : ClassId} {σ : MS} {τ : MS} {p1 : Int32} {r : Int32} (hb : b + 8 ≤ cN') (ht : tys[0]? = some (cI, .int)) (htz : tys[2]? = some (cZ, .boolean)) (e1 : h1 = ov h b (ml S0 cI cZ b σ)) (e2 : h2 = ov h b (ml S0 cI cZ b τ)) (hf : f_X6_reset σ p1 = some (r, τ)) : XMet l G tys S0 cN' yX6_reset cX6_reset 2 (some .int) 4 91 [.ref (S0 + (b + 0)), .int p1] h1 cN' (some (.int r)) h2 0 0 := by
  subst e1; subst e2
  refine XMet.ofE (ST := MS) (HP := fun σ => ov h b (ml S0 cI cZ b σ)) σ τ (by decide) (Nat.le_of_ble_eq_true rfl) ?_
  intro κ g1 g2 g3 g4 g5 g6 E X hQ
  subst g1; subst g2; subst g3; subst g4
  have Y : YM κ h b cI cZ := ⟨fun σ => by rw [g5], fun σ => by rw [g6]; exact hb, ht, htz⟩
  have X : XC κ cX6_reset 2 RX6 (some .int) 4 91 := X
  show XG κ σ 0 [(0, .ref (κ.S0 + (b + 0))), (1, .int p1)] []
  unfold f_X6_reset at hf
  refine x_iload_n X dX6_reset_0 rfl 1 rfl ?_
  refine x_callR (rest := []) X hf (fun r hr => x_cS X cm_X6_isZone lkS_X6_64 ⟨Nat.le_of_ble_eq_true rfl, Nat.le_of_ble_eq_true rfl⟩ (m_X6_isZone hr) rfl rfl (Nat.le_of_ble_eq_true rfl) (x_room E _) dX6_reset_1) (fun r1 hf => ?_)
  refine x_if_ne (tgt := 9) X dX6_reset_4 (by decide) hf (fun hf => ?_) (fun hf => ?_)
  · refine x_aload_n X dX6_reset_9 rfl 0 rfl ?_
    refine x_getf X fl_X6_7 (yM_0 Y) (yM_l Y 0 (by decide)) rfl dX6_reset_10 ?_
    refine x_iload_n X dX6_reset_13 rfl 1 rfl ?_
    refine x_iconst (v := 0) X dX6_reset_14 (by decide) ?_
    refine x_callR (rest := [.ref (κ.S0 + (b + 1))]) X hf (fun r hr => x_cS X cm_X6_of lkS_X6_32 ⟨Nat.le_of_ble_eq_true rfl, Nat.le_of_ble_eq_true rfl⟩ (m_X6_of hr) rfl rfl (Nat.le_of_ble_eq_true rfl) (x_room E _) dX6_reset_15) (fun r15 hf => ?_)
    refine x_iald X 0 (yM_ht Y) (yM_1 Y) (yM_l Y 1 (by decide)) dX6_reset_18 hf (fun x18 hf => ?_)
    refine x_if_ne (tgt := 25) X dX6_reset_19 (by decide) hf (fun hf => ?_) (fun hf => ?_)
    · refine x_aload_n X dX6_reset_25 rfl 0 rfl ?_
      refine x_callV (rest := []) (w := fun t => t) X E.1 hf (fun t hr => x_cV (ci := 6) X cm_X6_know lkV_X6_51 rfl ⟨Nat.le_of_ble_eq_true rfl, Nat.le_of_ble_eq_true rfl⟩ (yM_0 Y) (yM_l Y 0 (by decide)) (m_X6_know (yM_hb Y σ) (yM_ht Y) (yM_htz Y) (yM_hp Y _) (yM_hp Y _) hr) rfl rfl (Nat.le_of_ble_eq_true rfl) (x_room E _) dX6_reset_26) (fun s26 hf => ?_)
      refine x_aload_n X dX6_reset_29 rfl 0 rfl ?_
      refine x_iload_n X dX6_reset_30 rfl 1 rfl ?_
      refine x_callW (rest := []) (w := fun t => t) X E.1 hf (fun r t hr => x_cV (ci := 6) X cm_X6_resets lkV_X6_92 rfl ⟨Nat.le_of_ble_eq_true rfl, Nat.le_of_ble_eq_true rfl⟩ (yM_0 Y) (yM_l Y 0 (by decide)) (m_X6_resets (yM_hb Y s26) (yM_ht Y) (yM_htz Y) (yM_hp Y _) (yM_hp Y _) hr) rfl rfl (Nat.le_of_ble_eq_true rfl) (x_room E _) dX6_reset_31) (fun r31 s31 hf => ?_)
      exact x_iretW (σ0 := σ) X E hQ hf dX6_reset_34
    · refine x_bipush (v := (-5)) X dX6_reset_22 (by decide) ?_
      exact x_iretW (σ0 := σ) X E hQ hf dX6_reset_24
  · refine x_iconst (v := (-1)) X dX6_reset_7 (by decide) ?_
    exact x_iretW (σ0 := σ) X E hQ hf dX6_reset_8
def f_X6_finishes (σ : MS) (p1 : Int32) : Option (Int32 × MS) :=
  oR (f_X6_of p1 0) (fun r6 => oS 2204 (σ.1 1) r6 3 (sA σ 1) (fun s10 => oW (f_X6_failAll s10 p1 0 3) (fun t => t) (fun r15 s15 => some (r15, s15))))
set_option maxRecDepth 100000 in
set_option maxHeartbeats 4000000 in
theorem m_X6_finishes {l : Launch} {G : va_G} {tys : List (ClassId × FieldType)} {S0 : Nat} {h h1 h2 : Nat → va_E} {b cN' : Nat} {cI cZ : ClassId} {σ : MS} {τ : MS} {p1 : Int32} {r : Int32} (hb : b + 8 ≤ cN') (ht : tys[0]? = some (cI, .int)) (htz : tys[2]? = some (cZ, .boolean)) (e1 : h1 = ov h b (ml S0 cI cZ b σ)) (e2 : h2 = ov h b (ml S0 cI cZ b τ)) (hf : f_X6_finishes σ p1 = some (r, τ)) : XMet l G tys S0 cN' yX6_finishes cX6_finishes 2 (some .int) 3 68 [.ref (S0 + (b + 0)), .int p1] h1 cN' (some (.int r)) h2 0 0 := by
  subst e1; subst e2
  refine XMet.ofE (ST := MS) (HP := fun σ => ov h b (ml S0 cI cZ b σ)) σ τ (by decide) (Nat.le_of_ble_eq_true rfl) ?_
  intro κ g1 g2 g3 g4 g5 g6 E X hQ
  subst g1; subst g2; subst g3; subst g4
  have Y : YM κ h b cI cZ := ⟨fun σ => by rw [g5], fun σ => by rw [g6]; exact hb, ht, htz⟩
  have X : XC κ cX6_finishes 2 RX6 (some .int) 3 68 := X
  show XG κ σ 0 [(0, .ref (κ.S0 + (b + 0))), (1, .int p1)] []
  unfold f_X6_finishes at hf
  refine x_aload_n X dX6_finishes_0 rfl 0 rfl ?_
  refine x_getf X fl_X6_7 (yM_0 Y) (yM_l Y 0 (by decide)) rfl dX6_finishes_1 ?_
  refine x_iload_n X dX6_finishes_4 rfl 1 rfl ?_
  refine x_iconst (v := 0) X dX6_finishes_5 (by decide) ?_
  refine x_callR (rest := [.ref (κ.S0 + (b + 1))]) X hf (fun r hr => x_cS X cm_X6_of lkS_X6_32 ⟨Nat.le_of_ble_eq_true rfl, Nat.le_of_ble_eq_true rfl⟩ (m_X6_of hr) rfl rfl (Nat.le_of_ble_eq_true rfl) (x_room E _) dX6_finishes_6) (fun r6 hf => ?_)
  refine x_iconst (v := 3) X dX6_finishes_9 (by decide) ?_
  refine x_iast (w := sA σ 1) X E.1 0 (yM_ht Y) (yM_1 Y) (yM_l Y 1 (by decide)) (yM_s1 Y) dX6_finishes_10 hf (fun s10 hf => ?_)
  refine x_aload_n X dX6_finishes_11 rfl 0 rfl ?_
  refine x_iload_n X dX6_finishes_12 rfl 1 rfl ?_
  refine x_iconst (v := 0) X dX6_finishes_13 (by decide) ?_
  refine x_iconst (v := 3) X dX6_finishes_14 (by decide) ?_
  refine x_callW (rest := []) (w := fun t => t) X E.1 hf (fun r t hr => x_cV (ci := 6) X cm_X6_failAll lkV_X6_89 rfl ⟨Nat.le_of_ble_eq_true rfl, Nat.le_of_ble_eq_true rfl⟩ (yM_0 Y) (yM_l Y 0 (by decide)) (m_X6_failAll (yM_hb Y s10) (yM_ht Y) (yM_htz Y) (yM_hp Y _) (yM_hp Y _) hr) rfl rfl (Nat.le_of_ble_eq_true rfl) (x_room E _) dX6_finishes_15) (fun r15 s15 hf => ?_)
  exact x_iretW (σ0 := σ) X E hQ hf dX6_finishes_18
def f_X6_finishFault (σ : MS) (p1 : Int32) : Option (Int32) :=
  oR (f_X6_of p1 0) (fun r6 => oA 2204 (σ.1 1) r6 (fun x9 => if x9 = 0 then (some (-4)) else (oR (f_X6_of p1 0) (fun r24 => oA 2204 (σ.1 1) r24 (fun x27 => if x27 = 3 then (some (-5)) else (some 0))))))
set_option maxRecDepth 100000 in
set_option maxHeartbeats 4000000 in
theorem m_X6_finishFault {l : Launch} {G : va_G} {tys : List (ClassId × FieldType)} {S0 : Nat} {h h1 h2 : Nat → va_E} {b cN' : Nat} {cI cZ : ClassId} {σ : MS} {p1 : Int32} {r : Int32} (hb : b + 8 ≤ cN') (ht : tys[0]? = some (cI, .int)) (htz : tys[2]? = some (cZ, .boolean)) (e1 : h1 = ov h b (ml S0 cI cZ b σ)) (e2 : h2 = ov h b (ml S0 cI cZ b σ)) (hf : f_X6_finishFault σ p1 = some r) : XMet l G tys S0 cN' yX6_finishFault cX6_finishFault 2 (some .int) 1 21 [.ref (S0 + (b + 0)), .int p1] h1 cN' (some (.int r)) h2 0 0 := by
  subst e1; subst e2
  refine XMet.ofE (ST := MS) (HP := fun σ => ov h b (ml S0 cI cZ b σ)) σ σ (by decide) (Nat.le_of_ble_eq_true rfl) ?_
  intro κ g1 g2 g3 g4 g5 g6 E X hQ
  subst g1; subst g2; subst g3; subst g4
  have Y : YM κ h b cI cZ := ⟨fun σ => by rw [g5], fun σ => by rw [g6]; exact hb, ht, htz⟩
  have X : XC κ cX6_finishFault 2 RX6 (some .int) 1 21 := X
  show XG κ σ 0 [(0, .ref (κ.S0 + (b + 0))), (1, .int p1)] []
  unfold f_X6_finishFault at hf
  refine x_aload_n X dX6_finishFault_0 rfl 0 rfl ?_
  refine x_getf X fl_X6_7 (yM_0 Y) (yM_l Y 0 (by decide)) rfl dX6_finishFault_1 ?_
  refine x_iload_n X dX6_finishFault_4 rfl 1 rfl ?_
  refine x_iconst (v := 0) X dX6_finishFault_5 (by decide) ?_
  refine x_callR (rest := [.ref (κ.S0 + (b + 1))]) X hf (fun r hr => x_cS X cm_X6_of lkS_X6_32 ⟨Nat.le_of_ble_eq_true rfl, Nat.le_of_ble_eq_true rfl⟩ (m_X6_of hr) rfl rfl (Nat.le_of_ble_eq_true rfl) (x_room E _) dX6_finishFault_6) (fun r6 hf => ?_)
  refine x_iald X 0 (yM_ht Y) (yM_1 Y) (yM_l Y 1 (by decide)) dX6_finishFault_9 hf (fun x9 hf => ?_)
  refine x_if_ne (tgt := 18) X dX6_finishFault_10 (by decide) hf (fun hf => ?_) (fun hf => ?_)
  · refine x_aload_n X dX6_finishFault_18 rfl 0 rfl ?_
    refine x_getf X fl_X6_7 (yM_0 Y) (yM_l Y 0 (by decide)) rfl dX6_finishFault_19 ?_
    refine x_iload_n X dX6_finishFault_22 rfl 1 rfl ?_
    refine x_iconst (v := 0) X dX6_finishFault_23 (by decide) ?_
    refine x_callR (rest := [.ref (κ.S0 + (b + 1))]) X hf (fun r hr => x_cS X cm_X6_of lkS_X6_32 ⟨Nat.le_of_ble_eq_true rfl, Nat.le_of_ble_eq_true rfl⟩ (m_X6_of hr) rfl rfl (Nat.le_of_ble_eq_true rfl) (x_room E _) dX6_finishFault_24) (fun r24 hf => ?_)
    refine x_iald X 0 (yM_ht Y) (yM_1 Y) (yM_l Y 1 (by decide)) dX6_finishFault_27 hf (fun x27 hf => ?_)
    refine x_iconst (v := 3) X dX6_finishFault_28 (by decide) ?_
    refine x_icmp_ne (tgt := 37) X dX6_finishFault_29 (by decide) hf (fun hf => ?_) (fun hf => ?_)
    · refine x_iconst (v := 0) X dX6_finishFault_37 (by decide) ?_
      exact x_iretR (σ0 := σ) X E hQ hf dX6_finishFault_38
    · refine x_bipush (v := (-5)) X dX6_finishFault_32 (by decide) ?_
      refine x_goto (tgt := 38) X dX6_finishFault_34 (by decide) ?_
      exact x_iretR (σ0 := σ) X E hQ hf dX6_finishFault_38
  · refine x_bipush (v := (-4)) X dX6_finishFault_13 (by decide) ?_
    refine x_goto (tgt := 38) X dX6_finishFault_15 (by decide) ?_
    exact x_iretR (σ0 := σ) X E hQ hf dX6_finishFault_38
def f_X6_finish (σ : MS) (p1 : Int32) : Option (Int32 × MS) :=
  oR (f_X6_isZone p1) (fun r1 => if r1 = 0 then (some ((-1), σ)) else (oR (f_X6_finishFault σ p1) (fun r11 => if 0 ≤ r11 then (oV (f_X6_know σ) (fun t => t) (fun s22 => oW (f_X6_finishes s22 p1) (fun t => t) (fun r27 s27 => some (r27, s27)))) else (some (r11, σ)))))
set_option maxRecDepth 100000 in
set_option maxHeartbeats 4000000 in
theorem m_X6_finish {l : Launch} {G : va_G} {tys : List (ClassId × FieldType)} {S0 : Nat} {h h1 h2 : Nat → va_E} {b cN' : Nat} {cI cZ : ClassId} {σ : MS} {τ : MS} {p1 : Int32} {r : Int32} (hb : b + 8 ≤ cN') (ht : tys[0]? = some (cI, .int)) (htz : tys[2]? = some (cZ, .boolean)) (e1 : h1 = ov h b (ml S0 cI cZ b σ)) (e2 : h2 = ov h b (ml S0 cI cZ b τ)) (hf : f_X6_finish σ p1 = some (r, τ)) : XMet l G tys S0 cN' yX6_finish cX6_finish 3 (some .int) 4 89 [.ref (S0 + (b + 0)), .int p1] h1 cN' (some (.int r)) h2 0 0 := by
  subst e1; subst e2
  refine XMet.ofE (ST := MS) (HP := fun σ => ov h b (ml S0 cI cZ b σ)) σ τ (by decide) (Nat.le_of_ble_eq_true rfl) ?_
  intro κ g1 g2 g3 g4 g5 g6 E X hQ
  subst g1; subst g2; subst g3; subst g4
  have Y : YM κ h b cI cZ := ⟨fun σ => by rw [g5], fun σ => by rw [g6]; exact hb, ht, htz⟩
  have X : XC κ cX6_finish 3 RX6 (some .int) 4 89 := X
  show XG κ σ 0 [(0, .ref (κ.S0 + (b + 0))), (1, .int p1)] []
  unfold f_X6_finish at hf
  refine x_iload_n X dX6_finish_0 rfl 1 rfl ?_
  refine x_callR (rest := []) X hf (fun r hr => x_cS X cm_X6_isZone lkS_X6_64 ⟨Nat.le_of_ble_eq_true rfl, Nat.le_of_ble_eq_true rfl⟩ (m_X6_isZone hr) rfl rfl (Nat.le_of_ble_eq_true rfl) (x_room E _) dX6_finish_1) (fun r1 hf => ?_)
  refine x_if_ne (tgt := 9) X dX6_finish_4 (by decide) hf (fun hf => ?_) (fun hf => ?_)
  · refine x_aload_n X dX6_finish_9 rfl 0 rfl ?_
    refine x_iload_n X dX6_finish_10 rfl 1 rfl ?_
    refine x_callR (rest := []) X hf (fun r hr => x_cV (ci := 6) X cm_X6_finishFault lkV_X6_95 rfl ⟨Nat.le_of_ble_eq_true rfl, Nat.le_of_ble_eq_true rfl⟩ (yM_0 Y) (yM_l Y 0 (by decide)) (m_X6_finishFault (yM_hb Y σ) (yM_ht Y) (yM_htz Y) (yM_hp Y _) (yM_hp Y _) hr) rfl rfl (Nat.le_of_ble_eq_true rfl) (x_room E _) dX6_finish_11) (fun r11 hf => ?_)
    refine x_istore_n (lv' := [(2, .int r11), (0, .ref (κ.S0 + (b + 0))), (1, .int p1)]) X dX6_finish_14 rfl (by decide) rfl ?_
    refine x_iload_n X dX6_finish_15 rfl 0 rfl ?_
    refine x_if_ge (tgt := 21) X dX6_finish_16 (by decide) hf (fun hf => ?_) (fun hf => ?_)
    · refine x_aload_n X dX6_finish_21 rfl 1 rfl ?_
      refine x_callV (rest := []) (w := fun t => t) X E.1 hf (fun t hr => x_cV (ci := 6) X cm_X6_know lkV_X6_51 rfl ⟨Nat.le_of_ble_eq_true rfl, Nat.le_of_ble_eq_true rfl⟩ (yM_0 Y) (yM_l Y 0 (by decide)) (m_X6_know (yM_hb Y σ) (yM_ht Y) (yM_htz Y) (yM_hp Y _) (yM_hp Y _) hr) rfl rfl (Nat.le_of_ble_eq_true rfl) (x_room E _) dX6_finish_22) (fun s22 hf => ?_)
      refine x_aload_n X dX6_finish_25 rfl 1 rfl ?_
      refine x_iload_n X dX6_finish_26 rfl 2 rfl ?_
      refine x_callW (rest := []) (w := fun t => t) X E.1 hf (fun r t hr => x_cV (ci := 6) X cm_X6_finishes lkV_X6_98 rfl ⟨Nat.le_of_ble_eq_true rfl, Nat.le_of_ble_eq_true rfl⟩ (yM_0 Y) (yM_l Y 0 (by decide)) (m_X6_finishes (yM_hb Y s22) (yM_ht Y) (yM_htz Y) (yM_hp Y _) (yM_hp Y _) hr) rfl rfl (Nat.le_of_ble_eq_true rfl) (x_room E _) dX6_finish_27) (fun r27 s27 hf => ?_)
      exact x_iretW (σ0 := σ) X E hQ hf dX6_finish_30
    · refine x_iload_n X dX6_finish_19 rfl 0 rfl ?_
      exact x_iretW (σ0 := σ) X E hQ hf dX6_finish_20
  · refine x_iconst (v := (-1)) X dX6_finish_7 (by decide) ?_
    exact x_iretW (σ0 := σ) X E hQ hf dX6_finish_8
def f_X6_close (σ : MS) (p1 : Int32) : Option (Int32 × MS) :=
  oR (f_X6_isZone p1) (fun r1 => if r1 = 0 then (some ((-1), σ)) else (oR (f_X6_of p1 0) (fun r15 => oA 2204 (σ.1 1) r15 (fun x18 => if x18 = 1 then (oR (f_X6_appends σ 1 p1) (fun r26 => if r26 ≤ 0 then (oV (f_X6_know σ) (fun t => t) (fun s36 => oR (f_X6_of p1 0) (fun r45 => oS 2204 (s36.1 1) r45 2 (sA s36 1) (fun s49 => oR (f_X6_zones s49 0) (fun r52 => some (r52, s49)))))) else (some ((-4), σ)))) else (some ((-4), σ))))))
set_option maxRecDepth 100000 in
set_option maxHeartbeats 4000000 in
theorem m_X6_close {l : Launch} {G : va_G} {tys : List (ClassId × FieldType)} {S0 : Nat} {h h1 h2 : Nat → va_E} {b cN' : Nat} {cI cZ : ClassId} {σ : MS} {τ : MS} {p1 : Int32} {r : Int32} (hb : b + 8 ≤ cN') (ht : tys[0]? = some (cI, .int)) (htz : tys[2]? = some (cZ, .boolean)) (e1 : h1 = ov h b (ml S0 cI cZ b σ)) (e2 : h2 = ov h b (ml S0 cI cZ b τ)) (hf : f_X6_close σ p1 = some (r, τ)) : XMet l G tys S0 cN' yX6_close cX6_close 2 (some .int) 2 45 [.ref (S0 + (b + 0)), .int p1] h1 cN' (some (.int r)) h2 0 0 := by
  subst e1; subst e2
  refine XMet.ofE (ST := MS) (HP := fun σ => ov h b (ml S0 cI cZ b σ)) σ τ (by decide) (Nat.le_of_ble_eq_true rfl) ?_
  intro κ g1 g2 g3 g4 g5 g6 E X hQ
  subst g1; subst g2; subst g3; subst g4
  have Y : YM κ h b cI cZ := ⟨fun σ => by rw [g5], fun σ => by rw [g6]; exact hb, ht, htz⟩
  have X : XC κ cX6_close 2 RX6 (some .int) 2 45 := X
  show XG κ σ 0 [(0, .ref (κ.S0 + (b + 0))), (1, .int p1)] []
  unfold f_X6_close at hf
  refine x_iload_n X dX6_close_0 rfl 1 rfl ?_
  refine x_callR (rest := []) X hf (fun r hr => x_cS X cm_X6_isZone lkS_X6_64 ⟨Nat.le_of_ble_eq_true rfl, Nat.le_of_ble_eq_true rfl⟩ (m_X6_isZone hr) rfl rfl (Nat.le_of_ble_eq_true rfl) (x_room E _) dX6_close_1) (fun r1 hf => ?_)
  refine x_if_ne (tgt := 9) X dX6_close_4 (by decide) hf (fun hf => ?_) (fun hf => ?_)
  · refine x_aload_n X dX6_close_9 rfl 0 rfl ?_
    refine x_getf X fl_X6_7 (yM_0 Y) (yM_l Y 0 (by decide)) rfl dX6_close_10 ?_
    refine x_iload_n X dX6_close_13 rfl 1 rfl ?_
    refine x_iconst (v := 0) X dX6_close_14 (by decide) ?_
    refine x_callR (rest := [.ref (κ.S0 + (b + 1))]) X hf (fun r hr => x_cS X cm_X6_of lkS_X6_32 ⟨Nat.le_of_ble_eq_true rfl, Nat.le_of_ble_eq_true rfl⟩ (m_X6_of hr) rfl rfl (Nat.le_of_ble_eq_true rfl) (x_room E _) dX6_close_15) (fun r15 hf => ?_)
    refine x_iald X 0 (yM_ht Y) (yM_1 Y) (yM_l Y 1 (by decide)) dX6_close_18 hf (fun x18 hf => ?_)
    refine x_iconst (v := 1) X dX6_close_19 (by decide) ?_
    refine x_icmp_ne (tgt := 32) X dX6_close_20 (by decide) hf (fun hf => ?_) (fun hf => ?_)
    · refine x_bipush (v := (-4)) X dX6_close_32 (by decide) ?_
      exact x_iretW (σ0 := σ) X E hQ hf dX6_close_34
    · refine x_aload_n X dX6_close_23 rfl 0 rfl ?_
      refine x_iconst (v := 1) X dX6_close_24 (by decide) ?_
      refine x_iload_n X dX6_close_25 rfl 1 rfl ?_
      refine x_callR (rest := []) X hf (fun r hr => x_cV (ci := 6) X cm_X6_appends lkV_X6_101 rfl ⟨Nat.le_of_ble_eq_true rfl, Nat.le_of_ble_eq_true rfl⟩ (yM_0 Y) (yM_l Y 0 (by decide)) (m_X6_appends (yM_hb Y σ) (yM_ht Y) (yM_htz Y) (yM_hp Y _) (yM_hp Y _) hr) rfl rfl (Nat.le_of_ble_eq_true rfl) (x_room E _) dX6_close_26) (fun r26 hf => ?_)
      refine x_if_le (tgt := 35) X dX6_close_29 (by decide) hf (fun hf => ?_) (fun hf => ?_)
      · refine x_aload_n X dX6_close_35 rfl 0 rfl ?_
        refine x_callV (rest := []) (w := fun t => t) X E.1 hf (fun t hr => x_cV (ci := 6) X cm_X6_know lkV_X6_51 rfl ⟨Nat.le_of_ble_eq_true rfl, Nat.le_of_ble_eq_true rfl⟩ (yM_0 Y) (yM_l Y 0 (by decide)) (m_X6_know (yM_hb Y σ) (yM_ht Y) (yM_htz Y) (yM_hp Y _) (yM_hp Y _) hr) rfl rfl (Nat.le_of_ble_eq_true rfl) (x_room E _) dX6_close_36) (fun s36 hf => ?_)
        refine x_aload_n X dX6_close_39 rfl 0 rfl ?_
        refine x_getf X fl_X6_7 (yM_0 Y) (yM_l Y 0 (by decide)) rfl dX6_close_40 ?_
        refine x_iload_n X dX6_close_43 rfl 1 rfl ?_
        refine x_iconst (v := 0) X dX6_close_44 (by decide) ?_
        refine x_callR (rest := [.ref (κ.S0 + (b + 1))]) X hf (fun r hr => x_cS X cm_X6_of lkS_X6_32 ⟨Nat.le_of_ble_eq_true rfl, Nat.le_of_ble_eq_true rfl⟩ (m_X6_of hr) rfl rfl (Nat.le_of_ble_eq_true rfl) (x_room E _) dX6_close_45) (fun r45 hf => ?_)
        refine x_iconst (v := 2) X dX6_close_48 (by decide) ?_
        refine x_iast (w := sA s36 1) X E.1 0 (yM_ht Y) (yM_1 Y) (yM_l Y 1 (by decide)) (yM_s1 Y) dX6_close_49 hf (fun s49 hf => ?_)
        refine x_aload_n X dX6_close_50 rfl 0 rfl ?_
        refine x_iconst (v := 0) X dX6_close_51 (by decide) ?_
        refine x_callR (rest := []) X hf (fun r hr => x_cV (ci := 6) X cm_X6_zones lkV_X6_57 rfl ⟨Nat.le_of_ble_eq_true rfl, Nat.le_of_ble_eq_true rfl⟩ (yM_0 Y) (yM_l Y 0 (by decide)) (m_X6_zones (yM_hb Y s49) (yM_ht Y) (yM_htz Y) (yM_hp Y _) (yM_hp Y _) hr) rfl rfl (Nat.le_of_ble_eq_true rfl) (x_room E _) dX6_close_52) (fun r52 hf => ?_)
        exact x_iretW (σ0 := σ) X E hQ hf dX6_close_55
      · refine x_bipush (v := (-4)) X dX6_close_32 (by decide) ?_
        exact x_iretW (σ0 := σ) X E hQ hf dX6_close_34
  · refine x_iconst (v := (-1)) X dX6_close_7 (by decide) ?_
    exact x_iretW (σ0 := σ) X E hQ hf dX6_close_8
def f_X6_tell_L28 (σ : MS) (p1 : Int32) (x20 : Int32) (kX28 : Int32 → Option (MS)) : Nat → Int32 → Int32 → Option (MS)
  | 0, _, _ => none
  | n + 1, v4_28, v5_28 =>
    if p1 ≤ v5_28 then (kX28 v4_28) else (oJ (κ := Int32 → Option (MS)) (fun t0_74 => f_X6_tell_L28 σ p1 x20 kX28 n t0_74 (v5_28 + 1)) (fun k74 => oJ (κ := Option (MS)) (k74 1) (fun k69 => if v4_28 = 0 then (oR (f_X6_ofAppend v5_28 0) (fun r46 => oA 2204 (σ.1 1) r46 (fun x49 => oJ (κ := Option (MS)) (k74 0) (fun k73 => if x49 = x20 then (oR (f_X6_ofAppend v5_28 3) (fun r61 => oA 2204 (σ.1 1) r61 (fun x64 => if 2 ≤ x64 then k73 else k69))) else k73)))) else k69)))
def f_X6_tell (σ : MS) (p1 : Int32) : Option (MS) :=
  oR (f_X6_ofAppend p1 1) (fun r6 => oA 2204 (σ.1 1) r6 (fun x9 => oR (f_X6_ofAppend p1 0) (fun r17 => oA 2204 (σ.1 1) r17 (fun x20 => f_X6_tell_L28 σ p1 x20 (fun w4_82 => oR (f_X6_ofWriter x20 1) (fun r88 => oA 2204 (σ.1 1) r88 (fun x92 => oJ (κ := Int32 → Option (MS)) (fun t0_103 => oS 2204 (σ.1 1) r88 (x92 + t0_103) (sA σ 1) (fun s104 => oR (f_X6_ofAppend p1 3) (fun r111 => oS 2204 (s104.1 1) r111 2 (sA s104 1) (fun s115 => oR (f_X6_ofAppend p1 5) (fun r122 => oA 2204 (s115.1 1) 0 (fun x130 => oS 2204 (s115.1 1) r122 x130 (sA s115 1) (fun s131 => oR (f_X6_ofAppend p1 7) (fun r139 => oR (f_X6_of x9 4) (fun r148 => oA 2204 (s131.1 1) r148 (fun x151 => oS 2204 (s131.1 1) r139 x151 (sA s131 1) (fun s152 => oR (f_X6_ofAppend p1 4) (fun r166 => oA 2204 (s152.1 1) r166 (fun x169 => oR (f_X6_of x9 (6 + x169)) (fun r171 => oS 2204 (s152.1 1) r171 p1 (sA s152 1) (fun s175 => oA 2204 (s175.1 1) 9 (fun x189 => oS 2204 (s175.1 1) (2003 + x189) p1 (sA s175 1) (fun s192 => oA 2204 (s192.1 1) 9 (fun x200 => oS 2204 (s192.1 1) 9 (x200 + 1) (sA s192 1) (fun s203 => some s203))))))))))))))))))) (fun k103 => if w4_82 = 0 then (k103 0) else (k103 1))))) FU 0 0))))
set_option maxRecDepth 100000 in
set_option maxHeartbeats 4000000 in
theorem m_X6_tell {l : Launch} {G : va_G} {tys : List (ClassId × FieldType)} {S0 : Nat} {h h1 h2 : Nat → va_E} {b cN' : Nat} {cI cZ : ClassId} {σ : MS} {τ : MS} {p1 : Int32} (hb : b + 8 ≤ cN') (ht : tys[0]? = some (cI, .int)) (htz : tys[2]? = some (cZ, .boolean)) (e1 : h1 = ov h b (ml S0 cI cZ b σ)) (e2 : h2 = ov h b (ml S0 cI cZ b τ)) (hf : f_X6_tell σ p1 = some τ) : XMet l G tys S0 cN' yX6_tell cX6_tell 6 none 1 21 [.ref (S0 + (b + 0)), .int p1] h1 cN' none h2 0 0 := by
  subst e1; subst e2
  refine XMet.ofE (ST := MS) (HP := fun σ => ov h b (ml S0 cI cZ b σ)) σ τ (by decide) (Nat.le_of_ble_eq_true rfl) ?_
  intro κ g1 g2 g3 g4 g5 g6 E X hQ
  subst g1; subst g2; subst g3; subst g4
  have Y : YM κ h b cI cZ := ⟨fun σ => by rw [g5], fun σ => by rw [g6]; exact hb, ht, htz⟩
  have X : XC κ cX6_tell 6 RX6 none 1 21 := X
  show XG κ σ 0 [(0, .ref (κ.S0 + (b + 0))), (1, .int p1)] []
  unfold f_X6_tell at hf
  refine x_aload_n X dX6_tell_0 rfl 0 rfl ?_
  refine x_getf X fl_X6_7 (yM_0 Y) (yM_l Y 0 (by decide)) rfl dX6_tell_1 ?_
  refine x_iload_n X dX6_tell_4 rfl 1 rfl ?_
  refine x_iconst (v := 1) X dX6_tell_5 (by decide) ?_
  refine x_callR (rest := [.ref (κ.S0 + (b + 1))]) X hf (fun r hr => x_cS X cm_X6_ofAppend lkS_X6_54 ⟨Nat.le_of_ble_eq_true rfl, Nat.le_of_ble_eq_true rfl⟩ (m_X6_ofAppend hr) rfl rfl (Nat.le_of_ble_eq_true rfl) (x_room E _) dX6_tell_6) (fun r6 hf => ?_)
  refine x_iald X 0 (yM_ht Y) (yM_1 Y) (yM_l Y 1 (by decide)) dX6_tell_9 hf (fun x9 hf => ?_)
  refine x_istore_n (lv' := [(2, .int x9), (0, .ref (κ.S0 + (b + 0))), (1, .int p1)]) X dX6_tell_10 rfl (by decide) rfl ?_
  refine x_aload_n X dX6_tell_11 rfl 1 rfl ?_
  refine x_getf X fl_X6_7 (yM_0 Y) (yM_l Y 0 (by decide)) rfl dX6_tell_12 ?_
  refine x_iload_n X dX6_tell_15 rfl 2 rfl ?_
  refine x_iconst (v := 0) X dX6_tell_16 (by decide) ?_
  refine x_callR (rest := [.ref (κ.S0 + (b + 1))]) X hf (fun r hr => x_cS X cm_X6_ofAppend lkS_X6_54 ⟨Nat.le_of_ble_eq_true rfl, Nat.le_of_ble_eq_true rfl⟩ (m_X6_ofAppend hr) rfl rfl (Nat.le_of_ble_eq_true rfl) (x_room E _) dX6_tell_17) (fun r17 hf => ?_)
  refine x_iald X 0 (yM_ht Y) (yM_1 Y) (yM_l Y 1 (by decide)) dX6_tell_20 hf (fun x20 hf => ?_)
  refine x_istore_n (lv' := [(3, .int x20), (2, .int x9), (0, .ref (κ.S0 + (b + 0))), (1, .int p1)]) X dX6_tell_21 rfl (by decide) rfl ?_
  refine x_iconst (v := 0) X dX6_tell_22 (by decide) ?_
  refine x_istore (lv' := [(4, .int 0), (3, .int x20), (2, .int x9), (0, .ref (κ.S0 + (b + 0))), (1, .int p1)]) X dX6_tell_23 (by decide) rfl ?_
  refine x_iconst (v := 0) X dX6_tell_25 (by decide) ?_
  refine x_istore (lv' := [(5, .int 0), (4, .int 0), (3, .int x20), (2, .int x9), (0, .ref (κ.S0 + (b + 0))), (1, .int p1)]) X dX6_tell_26 (by decide) rfl ?_
  refine x_kont (b := fun kX28 => f_X6_tell_L28 σ p1 x20 kX28 FU 0 0) (fun kX28 => ∀ (w4_82 : Int32), kX28 w4_82 = some τ → XG κ σ 82 [(0, .ref (κ.S0 + (b + 0))), (1, .int p1), (2, .int x9), (3, .int x20), (4, .int w4_82)] []) hf (fun w4_82 hf => ?_) (fun kX28 JX28 hf => ?_)
  · refine x_aload_n X dX6_tell_82 rfl 0 rfl ?_
    refine x_getf X fl_X6_7 (yM_0 Y) (yM_l Y 0 (by decide)) rfl dX6_tell_83 ?_
    refine x_iload_n X dX6_tell_86 rfl 3 rfl ?_
    refine x_iconst (v := 1) X dX6_tell_87 (by decide) ?_
    refine x_callR (rest := [.ref (κ.S0 + (b + 1))]) X hf (fun r hr => x_cS X cm_X6_ofWriter lkS_X6_40 ⟨Nat.le_of_ble_eq_true rfl, Nat.le_of_ble_eq_true rfl⟩ (m_X6_ofWriter hr) rfl rfl (Nat.le_of_ble_eq_true rfl) (x_room E _) dX6_tell_88) (fun r88 hf => ?_)
    refine x_dup2 X dX6_tell_91 rfl rfl ?_
    refine x_iald X 0 (yM_ht Y) (yM_1 Y) (yM_l Y 1 (by decide)) dX6_tell_92 hf (fun x92 hf => ?_)
    refine x_iload X dX6_tell_93 4 rfl ?_
    refine x_join (fun k103 => ∀ (t0_103 : Int32), k103 t0_103 = some τ → XG κ σ 103 [(0, .ref (κ.S0 + (b + 0))), (1, .int p1), (2, .int x9)] [.int t0_103, .int x92, .int r88, .ref (κ.S0 + (b + 1))]) hf (fun t0_103 hf => ?_) (fun k103 J103 hf => ?_)
    · refine x_iadd X dX6_tell_103 ?_
      refine x_iast (w := sA σ 1) X E.1 0 (yM_ht Y) (yM_1 Y) (yM_l Y 1 (by decide)) (yM_s1 Y) dX6_tell_104 hf (fun s104 hf => ?_)
      refine x_aload_n X dX6_tell_105 rfl 0 rfl ?_
      refine x_getf X fl_X6_7 (yM_0 Y) (yM_l Y 0 (by decide)) rfl dX6_tell_106 ?_
      refine x_iload_n X dX6_tell_109 rfl 1 rfl ?_
      refine x_iconst (v := 3) X dX6_tell_110 (by decide) ?_
      refine x_callR (rest := [.ref (κ.S0 + (b + 1))]) X hf (fun r hr => x_cS X cm_X6_ofAppend lkS_X6_54 ⟨Nat.le_of_ble_eq_true rfl, Nat.le_of_ble_eq_true rfl⟩ (m_X6_ofAppend hr) rfl rfl (Nat.le_of_ble_eq_true rfl) (x_room E _) dX6_tell_111) (fun r111 hf => ?_)
      refine x_iconst (v := 2) X dX6_tell_114 (by decide) ?_
      refine x_iast (w := sA s104 1) X E.1 0 (yM_ht Y) (yM_1 Y) (yM_l Y 1 (by decide)) (yM_s1 Y) dX6_tell_115 hf (fun s115 hf => ?_)
      refine x_aload_n X dX6_tell_116 rfl 0 rfl ?_
      refine x_getf X fl_X6_7 (yM_0 Y) (yM_l Y 0 (by decide)) rfl dX6_tell_117 ?_
      refine x_iload_n X dX6_tell_120 rfl 1 rfl ?_
      refine x_iconst (v := 5) X dX6_tell_121 (by decide) ?_
      refine x_callR (rest := [.ref (κ.S0 + (b + 1))]) X hf (fun r hr => x_cS X cm_X6_ofAppend lkS_X6_54 ⟨Nat.le_of_ble_eq_true rfl, Nat.le_of_ble_eq_true rfl⟩ (m_X6_ofAppend hr) rfl rfl (Nat.le_of_ble_eq_true rfl) (x_room E _) dX6_tell_122) (fun r122 hf => ?_)
      refine x_aload_n X dX6_tell_125 rfl 0 rfl ?_
      refine x_getf X fl_X6_7 (yM_0 Y) (yM_l Y 0 (by decide)) rfl dX6_tell_126 ?_
      refine x_iconst (v := 0) X dX6_tell_129 (by decide) ?_
      refine x_iald X 0 (yM_ht Y) (yM_1 Y) (yM_l Y 1 (by decide)) dX6_tell_130 hf (fun x130 hf => ?_)
      refine x_iast (w := sA s115 1) X E.1 0 (yM_ht Y) (yM_1 Y) (yM_l Y 1 (by decide)) (yM_s1 Y) dX6_tell_131 hf (fun s131 hf => ?_)
      refine x_aload_n X dX6_tell_132 rfl 0 rfl ?_
      refine x_getf X fl_X6_7 (yM_0 Y) (yM_l Y 0 (by decide)) rfl dX6_tell_133 ?_
      refine x_iload_n X dX6_tell_136 rfl 1 rfl ?_
      refine x_bipush (v := 7) X dX6_tell_137 (by decide) ?_
      refine x_callR (rest := [.ref (κ.S0 + (b + 1))]) X hf (fun r hr => x_cS X cm_X6_ofAppend lkS_X6_54 ⟨Nat.le_of_ble_eq_true rfl, Nat.le_of_ble_eq_true rfl⟩ (m_X6_ofAppend hr) rfl rfl (Nat.le_of_ble_eq_true rfl) (x_room E _) dX6_tell_139) (fun r139 hf => ?_)
      refine x_aload_n X dX6_tell_142 rfl 0 rfl ?_
      refine x_getf X fl_X6_7 (yM_0 Y) (yM_l Y 0 (by decide)) rfl dX6_tell_143 ?_
      refine x_iload_n X dX6_tell_146 rfl 2 rfl ?_
      refine x_iconst (v := 4) X dX6_tell_147 (by decide) ?_
      refine x_callR (rest := [.ref (κ.S0 + (b + 1)), .int r139, .ref (κ.S0 + (b + 1))]) X hf (fun r hr => x_cS X cm_X6_of lkS_X6_32 ⟨Nat.le_of_ble_eq_true rfl, Nat.le_of_ble_eq_true rfl⟩ (m_X6_of hr) rfl rfl (Nat.le_of_ble_eq_true rfl) (x_room E _) dX6_tell_148) (fun r148 hf => ?_)
      refine x_iald X 0 (yM_ht Y) (yM_1 Y) (yM_l Y 1 (by decide)) dX6_tell_151 hf (fun x151 hf => ?_)
      refine x_iast (w := sA s131 1) X E.1 0 (yM_ht Y) (yM_1 Y) (yM_l Y 1 (by decide)) (yM_s1 Y) dX6_tell_152 hf (fun s152 hf => ?_)
      refine x_aload_n X dX6_tell_153 rfl 0 rfl ?_
      refine x_getf X fl_X6_7 (yM_0 Y) (yM_l Y 0 (by decide)) rfl dX6_tell_154 ?_
      refine x_iload_n X dX6_tell_157 rfl 2 rfl ?_
      refine x_bipush (v := 6) X dX6_tell_158 (by decide) ?_
      refine x_aload_n X dX6_tell_160 rfl 0 rfl ?_
      refine x_getf X fl_X6_7 (yM_0 Y) (yM_l Y 0 (by decide)) rfl dX6_tell_161 ?_
      refine x_iload_n X dX6_tell_164 rfl 1 rfl ?_
      refine x_iconst (v := 4) X dX6_tell_165 (by decide) ?_
      refine x_callR (rest := [.ref (κ.S0 + (b + 1)), .int 6, .int x9, .ref (κ.S0 + (b + 1))]) X hf (fun r hr => x_cS X cm_X6_ofAppend lkS_X6_54 ⟨Nat.le_of_ble_eq_true rfl, Nat.le_of_ble_eq_true rfl⟩ (m_X6_ofAppend hr) rfl rfl (Nat.le_of_ble_eq_true rfl) (x_room E _) dX6_tell_166) (fun r166 hf => ?_)
      refine x_iald X 0 (yM_ht Y) (yM_1 Y) (yM_l Y 1 (by decide)) dX6_tell_169 hf (fun x169 hf => ?_)
      refine x_iadd X dX6_tell_170 ?_
      refine x_callR (rest := [.ref (κ.S0 + (b + 1))]) X hf (fun r hr => x_cS X cm_X6_of lkS_X6_32 ⟨Nat.le_of_ble_eq_true rfl, Nat.le_of_ble_eq_true rfl⟩ (m_X6_of hr) rfl rfl (Nat.le_of_ble_eq_true rfl) (x_room E _) dX6_tell_171) (fun r171 hf => ?_)
      refine x_iload_n X dX6_tell_174 rfl 1 rfl ?_
      refine x_iast (w := sA s152 1) X E.1 0 (yM_ht Y) (yM_1 Y) (yM_l Y 1 (by decide)) (yM_s1 Y) dX6_tell_175 hf (fun s175 hf => ?_)
      refine x_aload_n X dX6_tell_176 rfl 0 rfl ?_
      refine x_getf X fl_X6_7 (yM_0 Y) (yM_l Y 0 (by decide)) rfl dX6_tell_177 ?_
      refine x_sipush (v := 2003) X dX6_tell_180 (by decide) ?_
      refine x_aload_n X dX6_tell_183 rfl 0 rfl ?_
      refine x_getf X fl_X6_7 (yM_0 Y) (yM_l Y 0 (by decide)) rfl dX6_tell_184 ?_
      refine x_bipush (v := 9) X dX6_tell_187 (by decide) ?_
      refine x_iald X 0 (yM_ht Y) (yM_1 Y) (yM_l Y 1 (by decide)) dX6_tell_189 hf (fun x189 hf => ?_)
      refine x_iadd X dX6_tell_190 ?_
      refine x_iload_n X dX6_tell_191 rfl 1 rfl ?_
      refine x_iast (w := sA s175 1) X E.1 0 (yM_ht Y) (yM_1 Y) (yM_l Y 1 (by decide)) (yM_s1 Y) dX6_tell_192 hf (fun s192 hf => ?_)
      refine x_aload_n X dX6_tell_193 rfl 0 rfl ?_
      refine x_getf X fl_X6_7 (yM_0 Y) (yM_l Y 0 (by decide)) rfl dX6_tell_194 ?_
      refine x_bipush (v := 9) X dX6_tell_197 (by decide) ?_
      refine x_dup2 X dX6_tell_199 rfl rfl ?_
      refine x_iald X 0 (yM_ht Y) (yM_1 Y) (yM_l Y 1 (by decide)) dX6_tell_200 hf (fun x200 hf => ?_)
      refine x_iconst (v := 1) X dX6_tell_201 (by decide) ?_
      refine x_iadd X dX6_tell_202 ?_
      refine x_iast (w := sA s192 1) X E.1 0 (yM_ht Y) (yM_1 Y) (yM_l Y 1 (by decide)) (yM_s1 Y) dX6_tell_203 hf (fun s203 hf => ?_)
      exact x_vretV (σ0 := σ) X E hQ hf dX6_tell_204
    · refine x_if_eq (tgt := 102) X dX6_tell_95 (by decide) hf (fun hf => ?_) (fun hf => ?_)
      · refine x_iconst (v := 0) X dX6_tell_102 (by decide) ?_
        refine x_sub [0, 1, 2] rfl ?_
        exact J103 0 hf
      · refine x_iconst (v := 1) X dX6_tell_98 (by decide) ?_
        refine x_goto (tgt := 103) X dX6_tell_99 (by decide) ?_
        refine x_sub [0, 1, 2] rfl ?_
        exact J103 1 hf
  · have LL : ∀ (n : Nat) (v4_28 : Int32) (v5_28 : Int32), f_X6_tell_L28 σ p1 x20 kX28 n v4_28 v5_28 = some τ → XG κ σ 28 [(0, .ref (κ.S0 + (b + 0))), (1, .int p1), (2, .int x9), (3, .int x20), (4, .int v4_28), (5, .int v5_28)] [] := by
      intro n
      induction n with
      | zero => intro v4_28 v5_28 hf; rw [f_X6_tell_L28] at hf; cases hf
      | succ n ih28 =>
        intro v4_28 v5_28 hf
        rw [f_X6_tell_L28] at hf
        refine x_iload X dX6_tell_28 5 rfl ?_
        refine x_iload_n X dX6_tell_30 rfl 1 rfl ?_
        refine x_icmp_ge (tgt := 82) X dX6_tell_31 (by decide) hf (fun hf => ?_) (fun hf => ?_)
        · refine x_sub [0, 1, 2, 3, 4] rfl ?_
          exact JX28 v4_28 hf
        · refine x_iload X dX6_tell_34 4 rfl ?_
          refine x_join (fun k74 => ∀ (t0_74 : Int32), k74 t0_74 = some τ → XG κ σ 74 [(0, .ref (κ.S0 + (b + 0))), (1, .int p1), (2, .int x9), (3, .int x20), (5, .int v5_28)] [.int t0_74]) hf (fun t0_74 hf => ?_) (fun k74 J74 hf => ?_)
          · refine x_istore (lv' := [(4, .int t0_74), (0, .ref (κ.S0 + (b + 0))), (1, .int p1), (2, .int x9), (3, .int x20), (5, .int v5_28)]) X dX6_tell_74 (by decide) rfl ?_
            refine x_iinc (v := v5_28 + 1) (lv' := [(5, .int (v5_28 + 1)), (4, .int t0_74), (0, .ref (κ.S0 + (b + 0))), (1, .int p1), (2, .int x9), (3, .int x20)]) X dX6_tell_76 5 rfl rfl (by decide) rfl ?_
            refine x_goto (tgt := 28) X dX6_tell_79 (by decide) ?_
            refine x_sub [2, 3, 4, 5, 1, 0] rfl ?_
            exact ih28 t0_74 (v5_28 + 1) hf
          · refine x_join (fun k69 => k69 = some τ → XG κ σ 69 [(0, .ref (κ.S0 + (b + 0))), (1, .int p1), (2, .int x9), (3, .int x20), (5, .int v5_28)] []) hf (fun hf => ?_) (fun k69 J69 hf => ?_)
            · refine x_iconst (v := 1) X dX6_tell_69 (by decide) ?_
              refine x_goto (tgt := 74) X dX6_tell_70 (by decide) ?_
              exact J74 1 hf
            · refine x_if_ne (tgt := 69) X dX6_tell_36 (by decide) hf (fun hf => ?_) (fun hf => ?_)
              · refine x_sub [0, 1, 2, 3, 5] rfl ?_
                exact J69 hf
              · refine x_aload_n X dX6_tell_39 rfl 0 rfl ?_
                refine x_getf X fl_X6_7 (yM_0 Y) (yM_l Y 0 (by decide)) rfl dX6_tell_40 ?_
                refine x_iload X dX6_tell_43 5 rfl ?_
                refine x_iconst (v := 0) X dX6_tell_45 (by decide) ?_
                refine x_callR (rest := [.ref (κ.S0 + (b + 1))]) X hf (fun r hr => x_cS X cm_X6_ofAppend lkS_X6_54 ⟨Nat.le_of_ble_eq_true rfl, Nat.le_of_ble_eq_true rfl⟩ (m_X6_ofAppend hr) rfl rfl (Nat.le_of_ble_eq_true rfl) (x_room E _) dX6_tell_46) (fun r46 hf => ?_)
                refine x_iald X 0 (yM_ht Y) (yM_1 Y) (yM_l Y 1 (by decide)) dX6_tell_49 hf (fun x49 hf => ?_)
                refine x_iload_n X dX6_tell_50 rfl 3 rfl ?_
                refine x_join (fun k73 => k73 = some τ → XG κ σ 73 [(0, .ref (κ.S0 + (b + 0))), (1, .int p1), (2, .int x9), (3, .int x20), (5, .int v5_28)] []) hf (fun hf => ?_) (fun k73 J73 hf => ?_)
                · refine x_iconst (v := 0) X dX6_tell_73 (by decide) ?_
                  exact J74 0 hf
                · refine x_icmp_ne (tgt := 73) X dX6_tell_51 (by decide) hf (fun hf => ?_) (fun hf => ?_)
                  · refine x_sub [0, 1, 2, 3, 5] rfl ?_
                    exact J73 hf
                  · refine x_aload_n X dX6_tell_54 rfl 0 rfl ?_
                    refine x_getf X fl_X6_7 (yM_0 Y) (yM_l Y 0 (by decide)) rfl dX6_tell_55 ?_
                    refine x_iload X dX6_tell_58 5 rfl ?_
                    refine x_iconst (v := 3) X dX6_tell_60 (by decide) ?_
                    refine x_callR (rest := [.ref (κ.S0 + (b + 1))]) X hf (fun r hr => x_cS X cm_X6_ofAppend lkS_X6_54 ⟨Nat.le_of_ble_eq_true rfl, Nat.le_of_ble_eq_true rfl⟩ (m_X6_ofAppend hr) rfl rfl (Nat.le_of_ble_eq_true rfl) (x_room E _) dX6_tell_61) (fun r61 hf => ?_)
                    refine x_iald X 0 (yM_ht Y) (yM_1 Y) (yM_l Y 1 (by decide)) dX6_tell_64 hf (fun x64 hf => ?_)
                    refine x_iconst (v := 2) X dX6_tell_65 (by decide) ?_
                    refine x_icmp_ge (tgt := 73) X dX6_tell_66 (by decide) hf (fun hf => ?_) (fun hf => ?_)
                    · refine x_sub [0, 1, 2, 3, 5] rfl ?_
                      exact J73 hf
                    · refine x_sub [0, 1, 2, 3, 5] rfl ?_
                      exact J69 hf
    refine x_sub [4, 5, 3, 2, 1, 0] rfl ?_
    exact LL FU 0 0 hf
def f_X6_idlest_L5 (σ : MS) (kX5 : Int32 → Option (Int32)) : Nat → Int32 → Int32 → Option (Int32)
  | 0, _, _ => none
  | n + 1, v1_5, v2_5 =>
    if 8 ≤ v2_5 then (kX5 v1_5) else (oR (f_X6_of v2_5 0) (fun r17 => oA 2204 (σ.1 1) r17 (fun x20 => oJ (κ := Int32 → Option (Int32)) (fun t0_39 => oJ (κ := Int32 → Option (Int32)) (fun t0_78 => f_X6_idlest_L5 σ kX5 n t0_78 (v2_5 + 1)) (fun k78 => oJ (κ := Option (Int32)) (k78 v1_5) (fun k77 => if t0_39 = 0 then k77 else (oJ (κ := Option (Int32)) (k78 v2_5) (fun k73 => if v1_5 = (-5) then k73 else (oR (f_X6_of v2_5 5) (fun r56 => oA 2204 (σ.1 1) r56 (fun x59 => oR (f_X6_of v1_5 5) (fun r66 => oA 2204 (σ.1 1) r66 (fun x69 => if x69 ≤ x59 then k77 else k73)))))))))) (fun k39 => oJ (κ := Option (Int32)) (k39 0) (fun k38 => if x20 = 1 then (oR (f_X6_appends σ 1 v2_5) (fun r28 => if r28 = 0 then (k39 1) else k38)) else k38)))))
def f_X6_idlest (σ : MS)  : Option (Int32) :=
  f_X6_idlest_L5 σ (fun w1_85 => some w1_85) FU (-5) 0
set_option maxRecDepth 100000 in
set_option maxHeartbeats 4000000 in
theorem m_X6_idlest {l : Launch} {G : va_G} {tys : List (ClassId × FieldType)} {S0 : Nat} {h h1 h2 : Nat → va_E} {b cN' : Nat} {cI cZ : ClassId} {σ : MS}  {r : Int32} (hb : b + 8 ≤ cN') (ht : tys[0]? = some (cI, .int)) (htz : tys[2]? = some (cZ, .boolean)) (e1 : h1 = ov h b (ml S0 cI cZ b σ)) (e2 : h2 = ov h b (ml S0 cI cZ b σ)) (hf : f_X6_idlest σ = some r) : XMet l G tys S0 cN' yX6_idlest cX6_idlest 4 (some .int) 2 45 [.ref (S0 + (b + 0))] h1 cN' (some (.int r)) h2 0 0 := by
  subst e1; subst e2
  refine XMet.ofE (ST := MS) (HP := fun σ => ov h b (ml S0 cI cZ b σ)) σ σ (by decide) (Nat.le_of_ble_eq_true rfl) ?_
  intro κ g1 g2 g3 g4 g5 g6 E X hQ
  subst g1; subst g2; subst g3; subst g4
  have Y : YM κ h b cI cZ := ⟨fun σ => by rw [g5], fun σ => by rw [g6]; exact hb, ht, htz⟩
  have X : XC κ cX6_idlest 4 RX6 (some .int) 2 45 := X
  show XG κ σ 0 [(0, .ref (κ.S0 + (b + 0)))] []
  unfold f_X6_idlest at hf
  refine x_bipush (v := (-5)) X dX6_idlest_0 (by decide) ?_
  refine x_istore_n (lv' := [(1, .int (-5)), (0, .ref (κ.S0 + (b + 0)))]) X dX6_idlest_2 rfl (by decide) rfl ?_
  refine x_iconst (v := 0) X dX6_idlest_3 (by decide) ?_
  refine x_istore_n (lv' := [(2, .int 0), (1, .int (-5)), (0, .ref (κ.S0 + (b + 0)))]) X dX6_idlest_4 rfl (by decide) rfl ?_
  refine x_kont (b := fun kX5 => f_X6_idlest_L5 σ kX5 FU (-5) 0) (fun kX5 => ∀ (w1_85 : Int32), kX5 w1_85 = some r → XG κ σ 85 [(1, .int w1_85)] []) hf (fun w1_85 hf => ?_) (fun kX5 JX5 hf => ?_)
  · refine x_iload_n X dX6_idlest_85 rfl 0 rfl ?_
    exact x_iretR (σ0 := σ) X E hQ hf dX6_idlest_86
  · have LL : ∀ (n : Nat) (v1_5 : Int32) (v2_5 : Int32), f_X6_idlest_L5 σ kX5 n v1_5 v2_5 = some r → XG κ σ 5 [(0, .ref (κ.S0 + (b + 0))), (1, .int v1_5), (2, .int v2_5)] [] := by
      intro n
      induction n with
      | zero => intro v1_5 v2_5 hf; rw [f_X6_idlest_L5] at hf; cases hf
      | succ n ih5 =>
        intro v1_5 v2_5 hf
        rw [f_X6_idlest_L5] at hf
        refine x_iload_n X dX6_idlest_5 rfl 2 rfl ?_
        refine x_bipush (v := 8) X dX6_idlest_6 (by decide) ?_
        refine x_icmp_ge (tgt := 85) X dX6_idlest_8 (by decide) hf (fun hf => ?_) (fun hf => ?_)
        · refine x_sub [1] rfl ?_
          exact JX5 v1_5 hf
        · refine x_aload_n X dX6_idlest_11 rfl 0 rfl ?_
          refine x_getf X fl_X6_7 (yM_0 Y) (yM_l Y 0 (by decide)) rfl dX6_idlest_12 ?_
          refine x_iload_n X dX6_idlest_15 rfl 2 rfl ?_
          refine x_iconst (v := 0) X dX6_idlest_16 (by decide) ?_
          refine x_callR (rest := [.ref (κ.S0 + (b + 1))]) X hf (fun r hr => x_cS X cm_X6_of lkS_X6_32 ⟨Nat.le_of_ble_eq_true rfl, Nat.le_of_ble_eq_true rfl⟩ (m_X6_of hr) rfl rfl (Nat.le_of_ble_eq_true rfl) (x_room E _) dX6_idlest_17) (fun r17 hf => ?_)
          refine x_iald X 0 (yM_ht Y) (yM_1 Y) (yM_l Y 1 (by decide)) dX6_idlest_20 hf (fun x20 hf => ?_)
          refine x_iconst (v := 1) X dX6_idlest_21 (by decide) ?_
          refine x_join (fun k39 => ∀ (t0_39 : Int32), k39 t0_39 = some r → XG κ σ 39 [(0, .ref (κ.S0 + (b + 0))), (1, .int v1_5), (2, .int v2_5)] [.int t0_39]) hf (fun t0_39 hf => ?_) (fun k39 J39 hf => ?_)
          · refine x_istore_n (lv' := [(3, .int t0_39), (0, .ref (κ.S0 + (b + 0))), (1, .int v1_5), (2, .int v2_5)]) X dX6_idlest_39 rfl (by decide) rfl ?_
            refine x_iload_n X dX6_idlest_40 rfl 0 rfl ?_
            refine x_join (fun k78 => ∀ (t0_78 : Int32), k78 t0_78 = some r → XG κ σ 78 [(0, .ref (κ.S0 + (b + 0))), (2, .int v2_5)] [.int t0_78]) hf (fun t0_78 hf => ?_) (fun k78 J78 hf => ?_)
            · refine x_istore_n (lv' := [(1, .int t0_78), (0, .ref (κ.S0 + (b + 0))), (2, .int v2_5)]) X dX6_idlest_78 rfl (by decide) rfl ?_
              refine x_iinc (v := v2_5 + 1) (lv' := [(2, .int (v2_5 + 1)), (1, .int t0_78), (0, .ref (κ.S0 + (b + 0)))]) X dX6_idlest_79 2 rfl rfl (by decide) rfl ?_
              refine x_goto (tgt := 5) X dX6_idlest_82 (by decide) ?_
              refine x_sub [2, 1, 0] rfl ?_
              exact ih5 t0_78 (v2_5 + 1) hf
            · refine x_join (fun k77 => k77 = some r → XG κ σ 77 [(0, .ref (κ.S0 + (b + 0))), (1, .int v1_5), (2, .int v2_5)] []) hf (fun hf => ?_) (fun k77 J77 hf => ?_)
              · refine x_iload_n X dX6_idlest_77 rfl 1 rfl ?_
                refine x_sub [0, 2] rfl ?_
                exact J78 v1_5 hf
              · refine x_if_eq (tgt := 77) X dX6_idlest_41 (by decide) hf (fun hf => ?_) (fun hf => ?_)
                · refine x_sub [1, 2, 3] rfl ?_
                  exact J77 hf
                · refine x_iload_n X dX6_idlest_44 rfl 2 rfl ?_
                  refine x_bipush (v := (-5)) X dX6_idlest_45 (by decide) ?_
                  refine x_join (fun k73 => k73 = some r → XG κ σ 73 [(0, .ref (κ.S0 + (b + 0))), (2, .int v2_5)] []) hf (fun hf => ?_) (fun k73 J73 hf => ?_)
                  · refine x_iload_n X dX6_idlest_73 rfl 1 rfl ?_
                    refine x_goto (tgt := 78) X dX6_idlest_74 (by decide) ?_
                    exact J78 v2_5 hf
                  · refine x_icmp_eq (tgt := 73) X dX6_idlest_47 (by decide) hf (fun hf => ?_) (fun hf => ?_)
                    · refine x_sub [1, 3] rfl ?_
                      exact J73 hf
                    · refine x_aload_n X dX6_idlest_50 rfl 1 rfl ?_
                      refine x_getf X fl_X6_7 (yM_0 Y) (yM_l Y 0 (by decide)) rfl dX6_idlest_51 ?_
                      refine x_iload_n X dX6_idlest_54 rfl 3 rfl ?_
                      refine x_iconst (v := 5) X dX6_idlest_55 (by decide) ?_
                      refine x_callR (rest := [.ref (κ.S0 + (b + 1))]) X hf (fun r hr => x_cS X cm_X6_of lkS_X6_32 ⟨Nat.le_of_ble_eq_true rfl, Nat.le_of_ble_eq_true rfl⟩ (m_X6_of hr) rfl rfl (Nat.le_of_ble_eq_true rfl) (x_room E _) dX6_idlest_56) (fun r56 hf => ?_)
                      refine x_iald X 0 (yM_ht Y) (yM_1 Y) (yM_l Y 1 (by decide)) dX6_idlest_59 hf (fun x59 hf => ?_)
                      refine x_aload_n X dX6_idlest_60 rfl 1 rfl ?_
                      refine x_getf X fl_X6_7 (yM_0 Y) (yM_l Y 0 (by decide)) rfl dX6_idlest_61 ?_
                      refine x_iload_n X dX6_idlest_64 rfl 2 rfl ?_
                      refine x_iconst (v := 5) X dX6_idlest_65 (by decide) ?_
                      refine x_callR (rest := [.ref (κ.S0 + (b + 1)), .int x59]) X hf (fun r hr => x_cS X cm_X6_of lkS_X6_32 ⟨Nat.le_of_ble_eq_true rfl, Nat.le_of_ble_eq_true rfl⟩ (m_X6_of hr) rfl rfl (Nat.le_of_ble_eq_true rfl) (x_room E _) dX6_idlest_66) (fun r66 hf => ?_)
                      refine x_iald X 0 (yM_ht Y) (yM_1 Y) (yM_l Y 1 (by decide)) dX6_idlest_69 hf (fun x69 hf => ?_)
                      refine x_icmp_ge (tgt := 77) X dX6_idlest_70 (by decide) hf (fun hf => ?_) (fun hf => ?_)
                      · refine x_sub [1, 2, 3] rfl ?_
                        exact J77 hf
                      · refine x_sub [1, 3] rfl ?_
                        exact J73 hf
          · refine x_join (fun k38 => k38 = some r → XG κ σ 38 [(0, .ref (κ.S0 + (b + 0))), (1, .int v1_5), (2, .int v2_5)] []) hf (fun hf => ?_) (fun k38 J38 hf => ?_)
            · refine x_iconst (v := 0) X dX6_idlest_38 (by decide) ?_
              exact J39 0 hf
            · refine x_icmp_ne (tgt := 38) X dX6_idlest_22 (by decide) hf (fun hf => ?_) (fun hf => ?_)
              · exact J38 hf
              · refine x_aload_n X dX6_idlest_25 rfl 0 rfl ?_
                refine x_iconst (v := 1) X dX6_idlest_26 (by decide) ?_
                refine x_iload_n X dX6_idlest_27 rfl 2 rfl ?_
                refine x_callR (rest := []) X hf (fun r hr => x_cV (ci := 6) X cm_X6_appends lkV_X6_101 rfl ⟨Nat.le_of_ble_eq_true rfl, Nat.le_of_ble_eq_true rfl⟩ (yM_0 Y) (yM_l Y 0 (by decide)) (m_X6_appends (yM_hb Y σ) (yM_ht Y) (yM_htz Y) (yM_hp Y _) (yM_hp Y _) hr) rfl rfl (Nat.le_of_ble_eq_true rfl) (x_room E _) dX6_idlest_28) (fun r28 hf => ?_)
                refine x_if_ne (tgt := 38) X dX6_idlest_31 (by decide) hf (fun hf => ?_) (fun hf => ?_)
                · exact J38 hf
                · refine x_iconst (v := 1) X dX6_idlest_34 (by decide) ?_
                  refine x_goto (tgt := 39) X dX6_idlest_35 (by decide) ?_
                  exact J39 1 hf
    refine x_sub [2, 1, 0] rfl ?_
    exact LL FU (-5) 0 hf
