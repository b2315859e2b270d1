/-! PURE: the law's loop -/
theorem law_loop {L : Nat} {xs : Nat → Int32} (hL : L ≤ 2048) : ∀ m v (c : CS) (s : MS), TopE c s → v ≤ L + 4 → L + 4 < v + 4 * m → f_law_L18 L xs (fun sx726 => some 1) m (nI v) (c, s) = some 1 := by
  intro n
  induction n with
  | zero =>
    intro v c m _ h1 h2
    omega
  | succ n ih =>
    intro v c m hs h1 h2
    have e4 : (Int32.ofNat L - 4).toInt = (L : Int) - 4 := pk_sub_toInt (a := L) (b := 4) (by omega) (by decide)
    have ev : (nI v).toInt = (v : Int) := nI_toInt (by omega)
    rw [f_law_L18]
    by_cases hend : L < v + 4
    · rw [if_pos (by rw [Int32.lt_iff_toInt_lt, e4, ev]; omega)]
    rw [if_neg (by rw [Int32.lt_iff_toInt_lt, e4, ev]; omega), oA_at (show v < L by omega) (by omega)]
    have o1 : ∀ K : Int32 → Option Int32, oA L xs (nI v + 1) K = K (xs (v + 1)) := fun K => by rw [nI_1]; exact oA_at (by omega) (by omega)
    have o2 : ∀ K : Int32 → Option Int32, oA L xs (nI v + 2) K = K (xs (v + 2)) := fun K => by rw [show nI v + 2 = nI (v + 2) from nI_add v 2]; exact oA_at (by omega) (by omega)
    have o3 : ∀ K : Int32 → Option Int32, oA L xs (nI v + 3) K = K (xs (v + 3)) := fun K => by rw [show nI v + 3 = nI (v + 3) from nI_add v 3]; exact oA_at (by omega) (by omega)
    have o4 : nI v + 4 = nI (v + 4) := nI_add v 4
    have go : ∀ c' m', TopE c' m' → f_law_L18 L xs (fun sx726 => some 1) n (nI (v + 4)) (c', m') = some 1 := fun c' m' h => ih (v + 4) c' m' h (by omega) (by omega)
    simp only [o1, o2, o3, o4, oJ_to]
    by_cases h0 : (xs v &&& 31) = 0
    · skip
      obtain ⟨r, c', m', e1, e2, e3⟩ := call_set hs (xs (v + 1)) (xs (v + 2))
      rw [if_pos h0, e1, oW_some]
      dsimp only
      rw [e2, oW_some, if_pos rfl]
      exact go c' m' e3
    rw [if_neg h0]
    by_cases h1 : (xs v &&& 31) = 1
    · skip
      rw [if_pos h1]
      by_cases z : xs (v + 2) = 0
      · obtain ⟨r, c', m', e1, e2, e3⟩ := call_setZone hs (xs (v + 1)) 0 (xs (v + 3))
        rw [if_pos z, e1, oW_some]
        dsimp only
        rw [if_pos z, e2, oW_some, if_pos rfl]
        exact go c' m' e3
      · obtain ⟨r, c', m', e1, e2, e3⟩ := call_setZone hs (xs (v + 1)) 1 (xs (v + 3))
        rw [if_neg z, e1, oW_some]
        dsimp only
        rw [if_neg z, e2, oW_some, if_pos rfl]
        exact go c' m' e3
    rw [if_neg h1]
    by_cases h2 : (xs v &&& 31) = 2
    · skip
      obtain ⟨r, c', m', e1, e2, e3⟩ := call_setWindow hs (xs (v + 1)) (xs (v + 2))
      rw [if_pos h2, e1, oW_some]
      dsimp only
      rw [e2, oW_some, if_pos rfl]
      exact go c' m' e3
    rw [if_neg h2]
    by_cases h3 : (xs v &&& 31) = 3
    · skip
      obtain ⟨r, c', m', e1, e2, e3⟩ := call_append hs (xs (v + 1)) (xs (v + 2)) (xs (v + 3))
      rw [if_pos h3, e1, oW_some]
      dsimp only
      rw [e2, oW_some, if_pos rfl]
      exact go c' m' e3
    rw [if_neg h3]
    by_cases h4 : (xs v &&& 31) = 4
    · skip
      obtain ⟨r, c', m', e1, e2, e3⟩ := call_reset hs (xs (v + 1))
      rw [if_pos h4, e1, oW_some]
      dsimp only
      rw [e2, oW_some, if_pos rfl]
      exact go c' m' e3
    rw [if_neg h4]
    by_cases h5 : (xs v &&& 31) = 5
    · skip
      obtain ⟨r, c', m', e1, e2, e3⟩ := call_finish hs (xs (v + 1))
      rw [if_pos h5, e1, oW_some]
      dsimp only
      rw [e2, oW_some, if_pos rfl]
      exact go c' m' e3
    rw [if_neg h5]
    by_cases h6 : (xs v &&& 31) = 6
    · skip
      obtain ⟨r, c', m', e1, e2, e3⟩ := call_close hs (xs (v + 1))
      rw [if_pos h6, e1, oW_some]
      dsimp only
      rw [e2, oW_some, if_pos rfl]
      exact go c' m' e3
    rw [if_neg h6]
    by_cases h7 : (xs v &&& 31) = 7
    · skip
      obtain ⟨r, c', m', e1, e2, e3⟩ := call_pass hs (xs (v + 1))
      rw [if_pos h7, e1, oW_some]
      dsimp only
      rw [e2, oW_some, if_pos rfl]
      exact go c' m' e3
    rw [if_neg h7]
    by_cases h8 : (xs v &&& 31) = 8
    · skip
      obtain ⟨r, c', m', e1, e2, e3⟩ := call_follow hs 
      rw [if_pos h8, e1, oW_some]
      dsimp only
      rw [e2, oW_some, if_pos rfl]
      exact go c' m' e3
    rw [if_neg h8]
    by_cases h9 : (xs v &&& 31) = 9
    · skip
      obtain ⟨r, c', m', e1, e2, e3⟩ := call_type hs (q := (xs (v + 1)).toBitVec.toNat % 65536) (Nat.mod_lt _ (by decide))
      rw [if_pos h9, pk_char, e1, oW_some]
      dsimp only
      rw [e2, oW_some, if_pos rfl]
      exact go c' m' e3
    rw [if_neg h9]
    by_cases h10 : (xs v &&& 31) = 10
    · skip
      obtain ⟨r, c', m', e1, e2, e3⟩ := call_clearText hs 
      rw [if_pos h10, e1, oW_some]
      dsimp only
      rw [e2, oW_some, if_pos rfl]
      exact go c' m' e3
    rw [if_neg h10]
    by_cases h11 : (xs v &&& 31) = 11
    · skip
      obtain ⟨r, c', m', e1, e2, e3⟩ := call_undo hs 
      rw [if_pos h11, e1, oW_some]
      dsimp only
      rw [e2, oW_some, if_pos rfl]
      exact go c' m' e3
    rw [if_neg h11]
    by_cases h12 : (xs v &&& 31) = 12
    · skip
      obtain ⟨r, c', m', e1, e2, e3⟩ := call_keep hs 
      rw [if_pos h12, e1, oW_some]
      dsimp only
      rw [e2, oW_some, if_pos rfl]
      exact go c' m' e3
    rw [if_neg h12]
    by_cases h13 : (xs v &&& 31) = 13
    · skip
      obtain ⟨r, c', m', e1, e2, e3⟩ := call_restore hs 
      rw [if_pos h13, e1, oW_some]
      dsimp only
      rw [e2, oW_some, if_pos rfl]
      exact go c' m' e3
    rw [if_neg h13]
    by_cases h14 : (xs v &&& 31) = 14
    · skip
      obtain ⟨r, e1, e2⟩ := call_read hs (xs (v + 1)) (xs (v + 2))
      rw [if_pos h14, e1, oR_some, e2, oR_some, if_pos rfl]
      exact go c m hs
    rw [if_neg h14]
    by_cases h15 : (xs v &&& 31) = 15
    · skip
      obtain ⟨r, e1, e2⟩ := call_zone hs (xs (v + 1)) (xs (v + 2))
      rw [if_pos h15, e1, oR_some, e2, oR_some, if_pos rfl]
      exact go c m hs
    rw [if_neg h15]
    by_cases h16 : (xs v &&& 31) = 16
    · skip
      obtain ⟨r, e1, e2⟩ := call_appended hs (xs (v + 1)) (xs (v + 2))
      rw [if_pos h16, e1, oR_some, e2, oR_some, if_pos rfl]
      exact go c m hs
    rw [if_neg h16]
    by_cases h17 : (xs v &&& 31) = 17
    · skip
      obtain ⟨r, e1, e2⟩ := call_writer hs (xs (v + 1)) (xs (v + 2))
      rw [if_pos h17, e1, oR_some, e2, oR_some, if_pos rfl]
      exact go c m hs
    rw [if_neg h17]
    by_cases h18 : (xs v &&& 31) = 18
    · skip
      obtain ⟨r, e1, e2⟩ := call_told hs (xs (v + 1))
      rw [if_pos h18, e1, oR_some, e2, oR_some, if_pos rfl]
      exact go c m hs
    rw [if_neg h18]
    by_cases h19 : (xs v &&& 31) = 19
    · skip
      obtain ⟨r, c', m', e1, e2, e3⟩ := call_toldIn hs (xs (v + 1))
      rw [if_pos h19, e1, oW_some]
      dsimp only
      rw [e2, oW_some, if_pos rfl]
      exact go c' m' e3
    rw [if_neg h19]
    by_cases h20 : (xs v &&& 31) = 20
    · skip
      obtain ⟨r, c', m', e1, e2, e3⟩ := call_would hs (xs (v + 1)) (xs (v + 2))
      rw [if_pos h20, e1, oW_some]
      dsimp only
      rw [e2, oW_some, if_pos rfl]
      exact go c' m' e3
    rw [if_neg h20]
    by_cases h21 : (xs v &&& 31) = 21
    · skip
      obtain ⟨r, e1, e2⟩ := call_count hs (xs (v + 1))
      rw [if_pos h21, e1, oR_some, e2, oR_some, if_pos rfl]
      exact go c m hs
    rw [if_neg h21]
    exact go c m hs
