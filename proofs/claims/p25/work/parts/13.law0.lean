/-! The law's own rows, and its world: the class's cells and the reference's -/
section YW
variable {κ : XCtx (CS × MS)} {h0 : Nat → va_E} {cI cC cZ cS' : ClassId}
def YW (κ : XCtx (CS × MS)) (h0 : Nat → va_E) (cI cC cZ cS' : ClassId) : Prop := (∀ σ, κ.HP σ = ov h0 0 (cl κ.S0 cI cC cS' 0 σ.1 ++ ml κ.S0 cI cZ 159 σ.2)) ∧ (∀ σ, κ.HC σ = 167) ∧ κ.tys[0]? = some (cI, .int) ∧ κ.tys[1]? = some (cC, .char) ∧ κ.tys[2]? = some (cZ, .boolean) ∧ κ.tys[3]? = some (cS', .object "AppendZones$State")
theorem yW_ht (Y : YW κ h0 cI cC cZ cS') : κ.tys[0]? = some (cI, .int) := Y.2.2.1
theorem yW_htc (Y : YW κ h0 cI cC cZ cS') : κ.tys[1]? = some (cC, .char) := Y.2.2.2.1
theorem yW_htz (Y : YW κ h0 cI cC cZ cS') : κ.tys[2]? = some (cZ, .boolean) := Y.2.2.2.2.1
theorem yW_hts (Y : YW κ h0 cI cC cZ cS') : κ.tys[3]? = some (cS', .object "AppendZones$State") := Y.2.2.2.2.2
theorem yW_bc (Y : YW κ h0 cI cC cZ cS') (σ : CS × MS) : 0 + 159 ≤ κ.HC σ := by rw [Y.2.1]; decide
theorem yW_bm (Y : YW κ h0 cI cC cZ cS') (σ : CS × MS) : 159 + 8 ≤ κ.HC σ := by rw [Y.2.1]; decide
theorem yW_lc (Y : YW κ h0 cI cC cZ cS') {σ : CS × MS} : 0 + 0 < κ.HC σ := by rw [Y.2.1]; decide
theorem yW_lm (Y : YW κ h0 cI cC cZ cS') {σ : CS × MS} : 159 + 0 < κ.HC σ := by rw [Y.2.1]; decide
theorem yW_c (Y : YW κ h0 cI cC cZ cS') (σ : CS × MS) : κ.HP σ = ov (κ.HP σ) 0 (cl κ.S0 cI cC cS' 0 σ.1) := by
  rw [Y.1 σ]
  exact ov_self (h := h0) (b := 0) [] (cl κ.S0 cI cC cS' 0 σ.1) (ml κ.S0 cI cZ 159 σ.2)
theorem yW_C (Y : YW κ h0 cI cC cZ cS') (σ : CS × MS) (t : CS) : κ.HP (t, σ.2) = ov (κ.HP σ) 0 (cl κ.S0 cI cC cS' 0 t) := by
  rw [Y.1 σ, Y.1 (t, σ.2)]
  exact (ov_part (h := h0) (b := 0) [] (cl κ.S0 cI cC cS' 0 σ.1) (ml κ.S0 cI cZ 159 σ.2) (cl κ.S0 cI cC cS' 0 t) (by rw [cl_len, cl_len])).symm
theorem yW_m (Y : YW κ h0 cI cC cZ cS') (σ : CS × MS) : κ.HP σ = ov (κ.HP σ) 159 (ml κ.S0 cI cZ 159 σ.2) := by
  rw [Y.1 σ]
  have e := ov_self (h := h0) (b := 0) (cl κ.S0 cI cC cS' 0 σ.1) (ml κ.S0 cI cZ 159 σ.2) []
  rw [cl_len, List.append_nil] at e
  exact e
theorem yW_M (Y : YW κ h0 cI cC cZ cS') (σ : CS × MS) (t : MS) : κ.HP (σ.1, t) = ov (κ.HP σ) 159 (ml κ.S0 cI cZ 159 t) := by
  rw [Y.1 σ, Y.1 (σ.1, t)]
  have e := ov_part (h := h0) (b := 0) (cl κ.S0 cI cC cS' 0 σ.1) (ml κ.S0 cI cZ 159 σ.2) [] (ml κ.S0 cI cZ 159 t) rfl
  rw [cl_len, List.append_nil, List.append_nil] at e
  exact e.symm
theorem yW_oc (Y : YW κ h0 cI cC cZ cS') {σ : CS × MS} : κ.HP σ (0 + 0) = .inr (5, [.ref (κ.S0 + (0 + 1)), .ref (κ.S0 + (0 + 23)), .int (σ.1.2.2 0), .ref (κ.S0 + (0 + 45)), .ref (κ.S0 + (0 + 157))]) := (congrFun (yW_c Y σ) (0 + 0)).trans (ov_at 0 rfl)
theorem yW_om (Y : YW κ h0 cI cC cZ cS') {σ : CS × MS} : κ.HP σ (159 + 0) = .inr (6, [.ref (κ.S0 + (159 + 1)), .ref (κ.S0 + (159 + 2)), .ref (κ.S0 + (159 + 3)), .int (σ.2.2 0), .ref (κ.S0 + (159 + 4)), .int (σ.2.2 1), .ref (κ.S0 + (159 + 5)), .int (σ.2.2 2), .ref (κ.S0 + (159 + 6)), .int (σ.2.2 3), .int (σ.2.2 4), .int (σ.2.2 5), .int (σ.2.2 6), .ref (κ.S0 + (159 + 7)), .int (σ.2.2 7)]) := (congrFun (yW_m Y σ) (159 + 0)).trans (ov_at 0 rfl)
end YW
section LR
variable {ST α : Type} {κ : XCtx ST} {cc : ByteArray} {nL : Nat} {own : String} {ret' : Option FieldType} {F L pc : Nat} {σ : ST} {lv : List (Nat × Value)} {st : List Value} {res : α} {bs Ls : Nat} {xs : Nat → Int32}
theorem x_sld (X : XC κ cc nL own ret' F L) (hX : va_X bs Ls xs κ.s κ.s.heap) (hbl : bs < κ.s.heap.size) (hS0 : κ.S0 = κ.s.heap.size) {j : Int32} {k : Int32 → Option α} (hd : decode cc pc = .ok (.iaload, 1)) (hf : oA Ls xs j k = some res) (kk : ∀ x, k x = some res → XG κ σ (pc + 1) lv (.int x :: st)) : XG κ σ pc lv (.int j :: .ref bs :: st) :=
  fun H locs ls hW hS hl => va_sld X.1 X.2.1 hX hbl (by show ¬ κ.S0 ≤ bs; rw [hS0]; exact Nat.not_le.mpr hbl) hS (oA_some hf).1 hd (kk _ (oA_some hf).2 H locs ls hW hS hl)
theorem x_slen (X : XC κ cc nL own ret' F L) (hX : va_X bs Ls xs κ.s κ.s.heap) (hbl : bs < κ.s.heap.size) (hS0 : κ.S0 = κ.s.heap.size) (hd : decode cc pc = .ok (.arraylength, 1)) (kk : XG κ σ (pc + 1) lv (.int (Int32.ofNat Ls) :: st)) : XG κ σ pc lv (.ref bs :: st) :=
  fun H locs ls hW hS hl => va_slen X.1 X.2.1 hX hbl (by show ¬ κ.S0 ≤ bs; rw [hS0]; exact Nat.not_le.mpr hbl) hS hd (kk H locs ls hW hS hl)
/-- the law's end: true is what its goal takes -/
def XLQ (κ : XCtx ST) : Prop := ∀ (σ : ST) (pc : Nat) (lv : List (Nat × Value)), decode code pc = .ok (.ireturn, 1) → XG κ σ pc lv [.int 1]
theorem x_lret (X : XC κ code nL own ret' F L) (hQ : XLQ κ) {v : Int32} (hf : some v = some (1 : Int32)) (hd : decode code pc = .ok (.ireturn, 1)) : XG κ σ pc lv [.int v] := by
  cases hf
  exact hQ σ pc lv hd
end LR
