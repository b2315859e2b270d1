/-! Rows of the few that remain: array copies, arrays of references; the copies of a State; the history's slots -/
section SP
variable {ST : Type} {κ : XCtx ST} {cc : ByteArray} {nL : Nat} {own : String} {ret : Option FieldType} {F L pc : Nat} {σ : ST} {lv : List (Nat × Value)} {st : List Value}
theorem x_alen (X : XC κ cc nL own ret F L) {i : Nat} {cA : ClassId} {n : Nat} {f : Nat → Int32} (t0 : Nat) (ht : κ.tys[t0]? = some (cA, .int)) (he : κ.HP σ i = .inl (cA, n, .inl f)) (hi : i < κ.HC σ) {v : Int32} (hv : Int32.ofNat n = v) (hd : decode cc pc = .ok (.arraylength, 1)) (kk : XG κ σ (pc + 1) lv (.int v :: st)) : XG κ σ pc lv (.ref (κ.S0 + i) :: st) := by
  intro H locs ls hW hS hl
  obtain ⟨hx, hb, -, -, hown, hts, ⟨hK, -⟩, -⟩ := X
  exact va_alen hx hb hK hW.2 i t0 ((xw_get hi).trans (by rw [he])) ht hv hd (kk H locs ls hW hS hl)
theorem x_copyi (X : XC κ cc nL own ret F L) {index : Nat} (hlk : Cond.methodLink own index arraycopyName ∈ goodTbl ∧ Cond.native arraycopyName ∈ goodTbl ∧ Cond.static arraycopyName ∈ goodTbl ∧ Cond.initialized "java/lang/System" ∈ goodTbl) {i j : Nat} {cA : ClassId} {n0 n1 : Nat} {f g : Nat → Int32} (t0 : Nat) (ht : κ.tys[t0]? = some (cA, .int)) (he0 : κ.HP σ i = .inl (cA, n0, .inl f)) (hi : i < κ.HC σ) (he1 : κ.HP σ j = .inl (cA, n1, .inl g)) (hj : j < κ.HC σ) {sp dp n : Int32} (h1 : ¬ sp < 0) (h2 : ¬ dp < 0) (h3 : ¬ n < 0) (h4 : sp.toNatClampNeg + n.toNatClampNeg ≤ n0) (h5 : dp.toNatClampNeg + n.toNatClampNeg ≤ n1) (hF : 1 ≤ F) (hL : (st.map fun v => v.category).sum + (nativeFrameWords "java/lang/System" "arraycopy" 5 + 11) ≤ L) (hd : decode cc pc = .ok (.invokestatic index, 3)) {σ1 : ST} (e1 : hset (κ.HP σ) j (.inl (cA, n1, .inl (va_cpy f g sp.toNatClampNeg dp.toNatClampNeg n.toNatClampNeg))) = κ.HP σ1) (e2 : κ.HC σ1 = κ.HC σ) (e3 : κ.K σ1 = κ.K σ) (e4 : κ.N σ1 = κ.N σ) (kk : XG κ σ1 (pc + 3) lv st) : XG κ σ pc lv (.int n :: .int dp :: .ref (κ.S0 + j) :: .int sp :: .ref (κ.S0 + i) :: st) := by
  intro H locs ls hW hS hl
  obtain ⟨hx, hb, hml, hnl, hown, hts, ⟨hK, -⟩, -, -, -, hRF, hRL⟩ := X
  have nn : ∀ z : Int32, ¬ z < 0 → z.toInt = (z.toNatClampNeg : Int) := by
    intro z hz
    have hz0 : (0 : Int) ≤ z.toInt := by
      have := Int32.not_lt.mp hz
      simpa using Int32.le_iff_toInt_le.mp this
    show z.toInt = ((z.toInt.toNat : Nat) : Int)
    omega
  have hat0 := hW.2 i _ (xw_get hi)
  rw [he0] at hat0
  have hat1 := hW.2 j _ (xw_get hj)
  rw [he1] at hat1
  have hc0 : H[κ.S0 + i]? = some (vp_cell cA (n0, .inl f)) := hat0
  have hc1 : H[κ.S0 + j]? = some (vp_cell cA (n1, .inl g)) := hat1
  intro T hT XT
  obtain ⟨-, k0, hk0, cm0, hkk0⟩ := (hK.2 t0 _ ht).1 n0 (fun q => .int (f q))
  obtain ⟨-, k1, hk1, cm1, hkk1⟩ := (hK.2 t0 _ ht).1 n1 (fun q => .int (g q))
  obtain ⟨vm', X', step⟩ := XT.arraycopy hx hown (hts _ hlk.1) (hts _ hlk.2.1) (hts _ hlk.2.2.1) (hts _ hlk.2.2.2) (src := κ.S0 + i) (dst := κ.S0 + j) (cs := vp_cell cA (n0, .inl f)) (cd := vp_cell cA (n1, .inl g)) (srcPos := sp) (destPos := dp) (n := n) (by rw [hT]; exact hc0) (by rw [hT]; exact hc1)
    (fun _ h => by cases h) (fun _ h => by cases h) (fun h => by cases h) (fun h => by cases h) hk0 hk1 hkk0 hkk1 (by simp [refKind]) h1 h2 h3
    (by rw [nn sp h1, nn n h3]; show ¬ _ > ((arrV cA n0 (fun q => .int (f q))).slots.size : Int); rw [arrV_size]; omega)
    (by rw [nn dp h2, nn n h3]; show ¬ _ > ((arrV cA n1 (fun q => .int (g q))).slots.size : Int); rw [arrV_size]; omega)
    (fun vm₁ _ q hq => by
      have e : (vp_cell cA (n0, .inl f)).slots.getD (sp.toNatClampNeg + q) .null = .int (f (sp.toNatClampNeg + q)) := by
        show (arrV cA n0 (fun q => .int (f q))).slots.getD _ _ = _
        rw [Array.getD_eq_getD_getElem?, arrV_read _ _ (by omega)]
        rfl
      refine ⟨?_, ?_⟩
      · rw [e]
        rfl
      · rw [e]
        exact trivial)
    (g := F0 κ.m pc ls (.int n :: .int dp :: .ref (κ.S0 + j) :: .int sp :: .ref (κ.S0 + i) :: st)) rfl (by rw [hml]; exact (hl.1.trans hnl)) (rest := st) rfl (by rw [hb]; exact hd) (Nat.le_trans hF hRF) (by show 2 * 0 + _ + _ ≤ _; omega)
  have ec : copied (vp_cell cA (n0, .inl f)) (vp_cell cA (n1, .inl g)) sp dp n = vp_cell cA (n1, .inl (va_cpy f g sp.toNatClampNeg dp.toNatClampNeg n.toNatClampNeg)) := va_copied (fun z => .int z) cA cA f g h4
  rw [ec] at X' step
  have hlt : κ.S0 + j < H.size := (Array.getElem?_eq_some_iff.mp hc1).1
  have hheap : ((T.setVm vm').setCell (κ.S0 + j) (vp_cell cA (n1, .inl (va_cpy f g sp.toNatClampNeg dp.toNatClampNeg n.toNatClampNeg)))).heap = H.setIfInBounds (κ.S0 + j) (vp_cell cA (n1, .inl (va_cpy f g sp.toNatClampNeg dp.toNatClampNeg n.toNatClampNeg))) := by rw [← hT]; rfl
  have oq : ∀ q : Nat, q ≠ κ.S0 + j → (H.setIfInBounds (κ.S0 + j) (vp_cell cA (n1, .inl (va_cpy f g sp.toNatClampNeg dp.toNatClampNeg n.toNatClampNeg))))[q]? = H[q]? := fun q hq => by simp [Array.getElem?_setIfInBounds, Ne.symm hq]
  have hW1 : XW κ.G κ.S0 (κ.HC σ) (hset (κ.HP σ) j (.inl (cA, n1, .inl (va_cpy f g sp.toNatClampNeg dp.toNatClampNeg n.toNatClampNeg)))) (H.setIfInBounds (κ.S0 + j) (vp_cell cA (n1, .inl (va_cpy f g sp.toNatClampNeg dp.toNatClampNeg n.toNatClampNeg)))) :=
    hW.put hj (show (H.setIfInBounds (κ.S0 + j) _)[κ.S0 + j]? = some _ by simp [Array.getElem?_setIfInBounds, hlt]) (by simp) oq
  rw [e1, ← e2] at hW1
  rw [← e3, ← e4] at X'
  obtain ⟨t, a1, b1⟩ := kk (H.setIfInBounds (κ.S0 + j) (vp_cell cA (n1, .inl (va_cpy f g sp.toNatClampNeg dp.toNatClampNeg n.toNatClampNeg)))) _ ls hW1 ⟨by simp; exact hS.1, fun q g1 g2 => by
      rw [oq q (fun e => g2 (by rw [e]; exact Nat.le_add_right _ _))]
      exact hS.2.1 q g1 g2, fun q hq => by
      rcases List.mem_append.mp hq with h | h
      · exact hS.2.2 q h
      · obtain ⟨z, -, hz⟩ := List.mem_map.mp h
        rw [← hz]
        exact Nat.le_add_right κ.S0 j⟩ hl _ hheap X'
  exact ⟨t, step t a1, b1⟩
theorem x_aald (X : XC κ cc nL own ret F L) {i : Nat} {cA : ClassId} {C : String} {n : Nat} {f : Nat → Option Nat} (t0 : Nat) (ht : κ.tys[t0]? = some (cA, .object C)) (he : κ.HP σ i = .inl (cA, n, .inr (.inr (.inr (.inr f))))) (hi : i < κ.HC σ) {j : Int32} (hin : ¬ (j < 0 ∨ n ≤ j.toNatClampNeg)) {a : Nat} (ha : f j.toNatClampNeg = some a) (hd : decode cc pc = .ok (.aaload, 1)) (kk : XG κ σ (pc + 1) lv (.ref a :: st)) : XG κ σ pc lv (.int j :: .ref (κ.S0 + i) :: st) := by
  intro H locs ls hW hS hl
  obtain ⟨hx, hb, -, -, hown, hts, ⟨hK, -⟩, -⟩ := X
  refine va_aldq hx hb hK hW.2 i t0 ((xw_get hi).trans (by rw [he])) ht hin hd ?_
  rw [ha]
  exact kk H locs ls hW hS hl
theorem x_aret0 {c2 mc ms : Nat} {h2 : Nat → va_E} {a : Nat} {n : String} (X : XC κ cc nL own (some (.object n)) F L) (hQ : XR κ c2 (some (.ref a)) h2 mc ms) (e1 : κ.HP σ = h2) (e2 : κ.HC σ = c2) (hk : κ.K σ ≤ mc ∧ κ.N σ ≤ ms) (hd : decode cc pc = .ok (.areturn, 1)) : XG κ σ pc lv [.ref a] := by
  intro H locs ls hW hS hl
  rw [show κ.Q = _ from hQ]
  rw [e1, e2] at hW
  exact W.widen hk.1 hk.2 (W.aret X.1 X.2.1 X.2.2.2.2.2.2.2.2.2.1 (Or.inl ⟨n, rfl⟩) (Or.inr ⟨a, rfl⟩) (x_qf X hW hS) (fun q hq => hS.2.2 q hq) hd X.2.2.2.2.2.2.2.2.1)
end SP
theorem lk_copy : Cond.methodLink RX5 165 arraycopyName ∈ goodTbl ∧ Cond.native arraycopyName ∈ goodTbl ∧ Cond.static arraycopyName ∈ goodTbl ∧ Cond.initialized "java/lang/System" ∈ goodTbl := ⟨mem_good 258 (by decide +kernel) (by decide +kernel), mem_good 260 (by decide +kernel) (by decide +kernel), mem_good 259 (by decide +kernel) (by decide +kernel), mem_good 19 (by decide +kernel) (by decide +kernel)⟩
/-- what copy(from, to, length) makes of the second row -/
def cpy (n0 n1 : Nat) (len : Int32) (f g : Nat → Int32) : Nat → Int32 := if len < 0 then g else if Int32.ofNat n0 < len then g else if Int32.ofNat n1 < len then g else va_cpy f g 0 0 len.toNatClampNeg
theorem cpy_le {n : Nat} {len : Int32} (hn : n < 2 ^ 31) (h0 : ¬ len < 0) (h1 : ¬ Int32.ofNat n < len) : len.toNatClampNeg ≤ n := by
  have a : len.toInt ≤ (Int32.ofNat n).toInt := Int32.le_iff_toInt_le.mp (Int32.not_lt.mp h1)
  have b : (Int32.ofNat n).toInt = n := nI_toInt hn
  have c : len.toNatClampNeg = len.toInt.toNat := rfl
  omega
set_option maxRecDepth 100000 in
set_option maxHeartbeats 4000000 in
theorem m_X5_copy {l : Launch} {G : va_G} {tys : List (ClassId × FieldType)} {S0 cN' i j n0 n1 : Nat} {cA : ClassId} {h1 h2 : Nat → va_E} {f g : Nat → Int32} {p2 : Int32} (ht : tys[0]? = some (cA, .int)) (hi : i < cN') (hj : j < cN') (hn : n0 < 2 ^ 31 ∧ n1 < 2 ^ 31) (e0 : h1 i = .inl (cA, n0, .inl f)) (e1 : h1 j = .inl (cA, n1, .inl g)) (e2 : hset h1 j (.inl (cA, n1, .inl (cpy n0 n1 p2 f g))) = h2) : XMet l G tys S0 cN' yX5_copy cX5_copy 3 none 1 40 [.ref (S0 + i), .ref (S0 + j), .int p2] h1 cN' none h2 0 0 := by
  have e3 : hset h1 j (.inl (cA, n1, .inl g)) = h1 := by
    funext q
    unfold hset
    by_cases hq : q = j
    · subst hq; rw [if_pos rfl, e1]
    · rw [if_neg hq]
  refine XMet.ofE (ST := Bool) (HP := fun t => if t = true then h2 else h1) false true (by decide) (Nat.le_of_ble_eq_true rfl) ?_
  intro κ g1 g2 g3 g4 g5 g6 E X hQ
  subst g1; subst g2; subst g3; subst g4
  have X : XC κ cX5_copy 3 RX5 none 1 40 := X
  have a0 : κ.HP false = h1 := by rw [g5]; rfl
  have a1 : κ.HP true = h2 := by rw [g5]; rfl
  have c0 : i < κ.HC false := by rw [g6]; exact hi
  have c1 : j < κ.HC false := by rw [g6]; exact hj
  have b0 : κ.HP false i = .inl (cA, n0, .inl f) := by rw [a0]; exact e0
  have b1 : κ.HP false j = .inl (cA, n1, .inl g) := by rw [a0]; exact e1
  show XG κ false 0 [(0, .ref (κ.S0 + i)), (1, .ref (κ.S0 + j)), (2, .int p2)] []
  have stop : cpy n0 n1 p2 f g = g → XG κ false 24 [(0, .ref (κ.S0 + i)), (1, .ref (κ.S0 + j)), (2, .int p2)] [] := by
    intro hg
    refine x_vret0 X hQ ?_ (E.1.1 _ _) ⟨Nat.le_of_eq (E.2 _).1, Nat.le_of_eq (E.2 _).2⟩ dX5_copy_24
    rw [a0, a1, ← e2, hg, e3]
  have go : ∀ {P : Prop} [Decidable P], (if P then (some true : Option Bool) else some false) = some (decide P) := fun {P} _ => by by_cases h : P <;> simp [h]
  refine x_iload_n X dX5_copy_0 rfl 2 rfl ?_
  refine x_if_lt (tgt := 24) X dX5_copy_1 (by decide) (go (P := p2 < 0)) (fun hf => ?_) (fun hf => ?_)
  · have h : p2 < 0 := by simpa using hf
    exact stop (by unfold cpy; rw [if_pos h])
  · have h : ¬ p2 < 0 := by simpa using hf
    refine x_iload_n X dX5_copy_4 rfl 2 rfl ?_
    refine x_aload_n X dX5_copy_5 rfl 0 rfl ?_
    refine x_alen X 0 ht b0 c0 rfl dX5_copy_6 ?_
    refine x_icmp_gt (tgt := 24) X dX5_copy_7 (by decide) (go (P := Int32.ofNat n0 < p2)) (fun hf => ?_) (fun hf => ?_)
    · have h' : Int32.ofNat n0 < p2 := by simpa using hf
      exact stop (by unfold cpy; rw [if_neg h, if_pos h'])
    · have h' : ¬ Int32.ofNat n0 < p2 := by simpa using hf
      refine x_iload_n X dX5_copy_10 rfl 2 rfl ?_
      refine x_aload_n X dX5_copy_11 rfl 1 rfl ?_
      refine x_alen X 0 ht b1 c1 rfl dX5_copy_12 ?_
      refine x_icmp_gt (tgt := 24) X dX5_copy_13 (by decide) (go (P := Int32.ofNat n1 < p2)) (fun hf => ?_) (fun hf => ?_)
      · have h'' : Int32.ofNat n1 < p2 := by simpa using hf
        exact stop (by unfold cpy; rw [if_neg h, if_neg h', if_pos h''])
      · have h'' : ¬ Int32.ofNat n1 < p2 := by simpa using hf
        refine x_aload_n X dX5_copy_16 rfl 0 rfl ?_
        refine x_iconst (v := 0) X dX5_copy_17 (by decide) ?_
        refine x_aload_n X dX5_copy_18 rfl 1 rfl ?_
        refine x_iconst (v := 0) X dX5_copy_19 (by decide) ?_
        refine x_iload_n X dX5_copy_20 rfl 2 rfl ?_
        have z : (0 : Int32).toNatClampNeg = 0 := rfl
        refine x_copyi (σ1 := true) X lk_copy 0 ht b0 c0 b1 c1 (by decide) (by decide) h (by rw [z]; have := cpy_le hn.1 h h'; omega) (by rw [z]; have := cpy_le hn.2 h h''; omega) (by decide) (by decide) dX5_copy_21 ?_ (E.1.1 _ _) (E.1.2.1 _ _) (E.1.2.2 _ _) ?_
        · rw [a0, a1, ← e2]
          unfold cpy
          rw [if_neg h, if_neg h', if_neg h'']
          rfl
        · exact x_vret0 X hQ rfl (E.1.1 _ _) ⟨Nat.le_of_eq (E.2 _).1, Nat.le_of_eq (E.2 _).2⟩ dX5_copy_24
