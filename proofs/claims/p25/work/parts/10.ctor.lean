/-! The constructors: rows that make cells -/
section CT
variable {ST : Type} {κ : XCtx ST} {cc : ByteArray} {nL : Nat} {own : String} {ret : Option FieldType} {F L pc : Nat} {σ : ST} {lv : List (Nat × Value)} {st : List Value}
theorem XW.push {G : va_G} {S0 c : Nat} {h : Nat → va_E} {v : va_E} {H H1 : Heap} (hW : XW G S0 c h H) (he : va_at G vwCl (S0 + c, v) H1) (hz : H1.size = H.size + 1) (hq : ∀ q, q < H.size → H1[q]? = H[q]?) : XW G S0 (c + 1) (hset h c v) H1 := by
  refine ⟨by rw [hz, hW.1]; omega, ?_⟩
  rw [← xw_push]
  refine va_P.app (hW.2.kept (fun k x hx => ?_)) (fun k x hx => ?_)
  · obtain ⟨hk, rfl⟩ := xw_lt hx
    exact hq _ (by rw [hW.1]; exact Nat.add_lt_add_left hk _)
  · have hz : k < 1 := (List.getElem?_eq_some_iff.mp hx).1
    rw [show k = 0 by omega] at hx
    cases hx
    exact he
theorem va_S.pushA {S0 : Nat} {H0 H H1 : Heap} {locs : List Loc} (h : va_S (XA S0) H0 H locs) (hz : H1.size = H.size + 1) (hq : ∀ q, q < H.size → H1[q]? = H[q]?) : va_S (XA S0) H0 H1 locs :=
  ⟨by rw [hz]; exact Nat.le_succ_of_le h.1, fun q h1 h2 => (hq q (Nat.lt_of_lt_of_le h1 h.1)).trans (h.2.1 q h1 h2), h.2.2⟩
def FN (own : String) (index ci N : Nat) (fs : List Value) : Prop := ∃ (C : String) (T : u_T) (ty : Nat → FieldType), vwCl[ci]? = some (C, T, N) ∧ (∀ w ∈ u_ws C T N, w ∈ goodTbl) ∧ (∀ k, k < N → parseFieldDescriptor (T k).2.2.1 = some (ty k)) ∧ Cond.classLink own index C ∈ goodTbl ∧ Cond.instantiable C N ∈ goodTbl ∧ Cond.initialized C ∈ goodTbl ∧ ∀ j, j < N → defaultValue (ty j) = vp_V fs j
theorem x_new0 (X : XC κ cc nL own ret F L) {index ci N : Nat} {fs : List Value} (hF : FN own index ci N fs) (hr : κ.K σ + 1 ≤ κ.R.cells ∧ κ.N σ + N ≤ κ.R.slots) (hd : decode cc pc = .ok (.new index, 3)) {σ1 : ST} (e1 : hset (κ.HP σ) (κ.HC σ) (.inr (ci, fs)) = κ.HP σ1) (e2 : κ.HC σ1 = κ.HC σ + 1) (e3 : κ.K σ1 = κ.K σ + 1) (e4 : κ.N σ1 = κ.N σ + N) (kk : XG κ σ1 (pc + 3) lv (.ref (κ.S0 + κ.HC σ) :: st)) : XG κ σ pc lv st := by
  intro H locs ls hW hS hl
  obtain ⟨hx, hb, -, -, hown, hts, ⟨hK, -⟩, -⟩ := X
  obtain ⟨C, T, ty, hc, hin, hty, hcl, hinst, hini, hfs⟩ := hF
  have hKn := hK.1 ci _ hc
  refine W.newcK hx hb hown (hts _ hcl) (hts _ hinst) (hts _ hini) rfl hd hr.1 hr.2 hKn.2.1 hW.1 fun H1 kC hkC g1 z1 o1 => ?_
  have hz : H1.size = H.size + 1 := by rw [z1, hW.1]
  have hq : ∀ q, q < H.size → H1[q]? = H[q]? := fun q h => o1 q (by rw [← hW.1]; exact h)
  have hW1 : XW κ.G κ.S0 (κ.HC σ + 1) (hset (κ.HP σ) (κ.HC σ) (.inr (ci, fs))) H1 := hW.push ⟨_, hc, (u_born ty hts hin hKn hkC g1 hty).to hfs⟩ hz hq
  rw [e1, ← e2] at hW1
  have hg := kk H1 _ ls hW1 (hS.pushA hz hq) hl
  rw [e3, e4] at hg
  exact hg
theorem x_newa0 (X : XC κ cc nL own ret F L) {atype : ArrayType} {ty : FieldType} (hty : newarray.typeOf atype = ty) (harr : Cond.arrayClass (newarray.typeOf atype) ∈ goodTbl) {cA : ClassId} (t0 : Nat) (ht : κ.tys[t0]? = some (cA, ty)) (hra : ∀ U : State, va_RA U cA ty → U.vm.findClass ("[" ++ (newarray.typeOf atype).toString) = some cA) {n : Int32} {N : Nat} {a0 : vp_A} (ha : ∀ c : ClassId, vp_cell c a0 = arrV c N (fun _ => defaultValue ty)) (hn : ¬ n < 0) (hN : n.toNatClampNeg = N) (hbytes : N * componentBytes ty ≤ 536870912) (hr : κ.K σ + 1 ≤ κ.R.cells ∧ κ.N σ + N ≤ κ.R.slots) (hd : decode cc pc = .ok (.newarray atype, 2)) {σ1 : ST} (e1 : hset (κ.HP σ) (κ.HC σ) (.inl (cA, a0)) = κ.HP σ1) (e2 : κ.HC σ1 = κ.HC σ + 1) (e3 : κ.K σ1 = κ.K σ + 1) (e4 : κ.N σ1 = κ.N σ + N) (kk : XG κ σ1 (pc + 2) lv (.ref (κ.S0 + κ.HC σ) :: st)) : XG κ σ pc lv (.int n :: st) := by
  subst hty
  intro H locs ls hW hS hl
  obtain ⟨hx, hb, -, -, hown, hts, ⟨hK, -⟩, -⟩ := X
  refine va_newaK hx hb (hts _ harr) rfl hd rfl hn hN hbytes hr.1 hr.2 hW.1 fun H1 cB g1 z1 o1 _ hNm => ?_
  have hcb : cB = cA := Option.some.inj (hNm.symm.trans (hra κ.s (hK.2 t0 _ ht).2))
  subst hcb
  have hz : H1.size = H.size + 1 := by rw [z1, hW.1]
  have hq : ∀ q, q < H.size → H1[q]? = H[q]? := fun q h => o1 q (by rw [← hW.1]; exact h)
  have hW1 : XW κ.G κ.S0 (κ.HC σ + 1) (hset (κ.HP σ) (κ.HC σ) (.inl (cB, a0))) H1 := hW.push (by show H1[κ.S0 + κ.HC σ]? = some (vp_cell cB a0); rw [ha]; exact g1) hz hq
  rw [e1, ← e2] at hW1
  have hg := kk H1 _ ls hW1 (hS.pushA hz hq) hl
  rw [e3, e4] at hg
  exact hg
theorem x_newq0 (X : XC κ cc nL own ret F L) {index : Nat} (hcl : Cond.classLink own index "AppendZones$State" ∈ goodTbl) {cA : ClassId} (t0 : Nat) (ht : κ.tys[t0]? = some (cA, .object "AppendZones$State")) {n : Int32} {N : Nat} (hn : ¬ n < 0) (hN : n.toNatClampNeg = N) (hbytes : N * 4 ≤ 536870912) (hr : κ.K σ + 1 ≤ κ.R.cells ∧ κ.N σ + N ≤ κ.R.slots) (hd : decode cc pc = .ok (.anewarray index, 3)) {σ1 : ST} (e1 : hset (κ.HP σ) (κ.HC σ) (.inl (cA, N, .inr (.inr (.inr (.inr (fun _ => none)))))) = κ.HP σ1) (e2 : κ.HC σ1 = κ.HC σ + 1) (e3 : κ.K σ1 = κ.K σ + 1) (e4 : κ.N σ1 = κ.N σ + N) (kk : XG κ σ1 (pc + 3) lv (.ref (κ.S0 + κ.HC σ) :: st)) : XG κ σ pc lv (.int n :: st) := by
  subst hN
  intro H locs ls hW hS hl
  obtain ⟨hx, hb, -, -, hown, hts, ⟨hK, -, hAO⟩, -⟩ := X
  refine W.anew hx hb hown (hts _ hcl) (va_AO.use hAO) rfl hd rfl hn hbytes hr.1 hr.2 fun cB kA comp f1 f2 f3 f4 => ?_
  obtain ⟨kA', comp', -, -, -, f5⟩ := (hK.2 t0 _ ht).2
  have hcb : cB = cA := Option.some.inj (f1.symm.trans f5)
  subst hcb
  generalize hH1 : H.push ({ cls := cB, slots := Array.replicate n.toNatClampNeg .null, vm := .none } : Cell) = H1
  have z1 : H1.size = H.size + 1 := by rw [← hH1, Array.size_push]
  have g1 : H1[H.size]? = some (arrV cB n.toNatClampNeg (fun _ => .null)) := by rw [← hH1, Array.getElem?_push_size, ← arrV_new]
  have o1 : ∀ q : Nat, q < H.size → H1[q]? = H[q]? := fun q hq => by rw [← hH1, Array.getElem?_push, if_neg (Nat.ne_of_lt hq)]
  have hW1 : XW κ.G κ.S0 (κ.HC σ + 1) (hset (κ.HP σ) (κ.HC σ) (.inl (cB, n.toNatClampNeg, .inr (.inr (.inr (.inr (fun _ => none))))))) H1 := hW.push (by show H1[κ.S0 + κ.HC σ]? = some (vp_cell _ _); rw [vp_cell_q, ← hW.1]; exact g1) z1 o1
  rw [e1, ← e2] at hW1
  have hg := kk H1 _ ls hW1 (hS.pushA z1 o1) hl
  rw [e3, e4] at hg
  rw [hW.1]
  exact hg
theorem x_aast0 (X : XC κ cc nL own ret F L) {i j ci : Nat} {cA : ClassId} {T : u_T} {M n : Nat} {vs : List Value} {f : Nat → Option Nat} (t0 : Nat) (ht : κ.tys[t0]? = some (cA, .object "AppendZones$State")) (he : κ.HP σ i = .inl (cA, n, .inr (.inr (.inr (.inr f))))) (hi : i < κ.HC σ) (hv : κ.HP σ j = .inr (ci, vs)) (hj : j < κ.HC σ) (hc : vwCl[ci]? = some ("AppendZones$State", T, M)) {k : Int32} (hin : ¬ (k < 0 ∨ n ≤ k.toNatClampNeg)) (hd : decode cc pc = .ok (.aastore, 1)) {σ1 : ST} (e1 : hset (κ.HP σ) i (.inl (cA, n, .inr (.inr (.inr (.inr (va_up f k.toNatClampNeg (some (κ.S0 + j)))))))) = κ.HP σ1) (e2 : κ.HC σ1 = κ.HC σ) (e3 : κ.K σ1 = κ.K σ) (e4 : κ.N σ1 = κ.N σ) (kk : XG κ σ1 (pc + 1) lv st) : XG κ σ pc lv (.ref (κ.S0 + j) :: .int k :: .ref (κ.S0 + i) :: st) := by
  intro H locs ls hW hS hl
  obtain ⟨hx, hb, -, -, hown, hts, ⟨hK, -⟩, -⟩ := X
  have hat := hW.2 i _ (xw_get hi)
  rw [he] at hat
  have hlt : k.toNatClampNeg < n := Nat.not_le.mp fun q => hin (Or.inr q)
  have h0 : ¬ k < 0 := fun q => hin (Or.inl q)
  have hav := hW.2 j _ (xw_get hj)
  rw [hv] at hav
  obtain ⟨r', hr', cellV, g1, g2, g3, -⟩ := hav
  have hcls := (hK.1 ci _ hc).2
  obtain ⟨kA, comp, k1, k2, k3, -⟩ := (hK.2 t0 _ ht).2
  have hcomp : comp = κ.G.1 ci := Option.some.inj (k3.symm.trans hcls.1)
  subst hcomp
  obtain ⟨kC, hkC, -⟩ := hcls.2
  refine W.aast hx hb hat (fun q h => by cases h) (fun h => by cases h) k1 k2 rfl hkC ⟨h0, by show _ < (arrV _ _ _).slots.size; rw [arrV_size]; exact hlt⟩ g1 (fun q h => by rw [g3] at h; cases h) (by rw [g2]; exact hkC) (by rw [g2]; exact va_assign hcls) rfl rfl hd fun H1 ge z oq => ?_
  have hW1 : XW κ.G κ.S0 (κ.HC σ) (hset (κ.HP σ) i (.inl (cA, n, .inr (.inr (.inr (.inr (va_up f k.toNatClampNeg (some (κ.S0 + j))))))))) H1 := by
    refine hW.put hi ?_ z oq
    show H1[κ.S0 + i]? = some (vp_cell _ _)
    rw [ge]
    rw [vp_cell_q, vp_cell_q, arrV_store]
    congr 2
    funext q
    by_cases hq : q = k.toNatClampNeg
    · subst hq
      simp [updV, va_up, va_rf]
    · simp [updV, va_up, hq]
  have hS1 := hS.putA (k := k.toNatClampNeg) z oq
  rw [e1, ← e2] at hW1
  have hg := kk H1 _ ls hW1 hS1 hl
  rw [e3, e4] at hg
  exact hg
theorem x_objInit (X : XC κ cc nL own ret F L) {idx : Nat} (hlk : Cond.methodLink own idx objectInit ∈ goodTbl ∧ Cond.instanceMethod objectInit ∈ goodTbl ∧ Cond.code objectInit ⟨#[0xb1]⟩ 1 none ∈ goodTbl) {a : Nat} (hF : 1 ≤ F) (hL : (st.map fun v => v.category).sum + 12 ≤ L) (hd : decode cc pc = .ok (.invokespecial idx, 3)) (kk : XG κ σ (pc + 3) lv st) : XG κ σ pc lv (.ref a :: st) := by
  intro H locs ls hW hS hl
  obtain ⟨hx, hb, hml, hnl, hown, hts, -, -, -, -, hRF, hRL⟩ := X
  exact W.objInit hx hb hown (hts _ hlk.1) (hts _ hlk.2.1) (hts _ hlk.2.2) rfl (by rw [hml]; exact hl.1.trans hnl) rfl hd (Nat.le_trans hF hRF) (by show 2 * 0 + _ + _ ≤ _; omega) (kk H locs ls hW hS hl)
end CT
-- worlds that grow
theorem ov_push {h : Nat → va_E} {b : Nat} {L : List va_E} {v : va_E} : hset (ov h b L) (b + L.length) v = ov h b (L ++ [v]) := by
  funext i
  unfold hset ov
  rw [List.length_append, List.length_singleton]
  by_cases hi : i = b + L.length
  · subst hi
    rw [if_pos rfl, if_pos (by omega), Nat.add_sub_cancel_left, List.getD_eq_getElem?_getD, List.getElem?_append_right (Nat.le_refl _), Nat.sub_self]
    rfl
  · rw [if_neg hi]
    by_cases hc : b ≤ i ∧ i < b + L.length
    · have h2 : b ≤ i ∧ i < b + (L.length + 1) := by omega
      rw [if_pos hc, if_pos h2, List.getD_eq_getElem?_getD, List.getD_eq_getElem?_getD, List.getElem?_append_left (by omega)]
    · have h2 : ¬ (b ≤ i ∧ i < b + (L.length + 1)) := by omega
      rw [if_neg hc, if_neg h2]
theorem ov_grow {h : Nat → va_E} {b : Nat} (A : List va_E) (o : va_E) (M : List va_E) (hM : 1 ≤ M.length) : ov (ov h b (A ++ [o])) (b + A.length) M = ov h b (A ++ M) := by
  funext i
  unfold ov
  rw [List.length_append, List.length_append, List.length_singleton]
  by_cases h1 : b + A.length ≤ i ∧ i < b + A.length + M.length
  · have h2 : b ≤ i ∧ i < b + (A.length + M.length) := by omega
    have h4 : i - (b + A.length) < M.length := by omega
    have h3 : (A ++ M)[i - b]? = some M[i - (b + A.length)] := by
      rw [List.getElem?_append_right (by omega), show i - b - A.length = i - (b + A.length) by omega, List.getElem?_eq_getElem h4]
    rw [if_pos h1, if_pos h2, List.getD_eq_getElem?_getD (l := M), List.getD_eq_getElem?_getD (l := A ++ M), h3, List.getElem?_eq_getElem h4]
    rfl
  · rw [if_neg h1]
    by_cases h3 : b ≤ i ∧ i < b + (A.length + 1)
    · have h2 : b ≤ i ∧ i < b + (A.length + M.length) := by omega
      rw [if_pos h3, if_pos h2, List.getD_eq_getElem?_getD, List.getD_eq_getElem?_getD, List.getElem?_append_left (by omega), List.getElem?_append_left (by omega)]
    · have h2 : ¬ (b ≤ i ∧ i < b + (A.length + M.length)) := by omega
      rw [if_neg h3, if_neg h2]
theorem ov_last {h : Nat → va_E} {b : Nat} (A : List va_E) (o : va_E) : ov h b (A ++ [o]) = ov (ov h b (A ++ [o])) (b + A.length) [o] := (ov_grow A o [o] (Nat.le_refl 1)).symm
/-- a constructor's world: the object at b, and what it has made behind it; how many cells and slots that is -/
abbrev LW : Type := List va_E × Nat × Nat
def YL (κ : XCtx LW) (h : Nat → va_E) (b : Nat) : Prop := (∀ M, κ.HP M = ov h b M.1) ∧ (∀ M, κ.HC M = b + M.1.length) ∧ (∀ M, κ.K M = M.2.1) ∧ ∀ M, κ.N M = M.2.2
section YLs
variable {κ : XCtx LW} {h : Nat → va_E} {b : Nat}
theorem yL_at (Y : YL κ h b) {M : LW} (m : Nat) {e : va_E} (hm : M.1[m]? = some e) : κ.HP M (b + m) = e := by rw [Y.1 M]; exact ov_at m hm
theorem yL_l (Y : YL κ h b) {M : LW} (m : Nat) (hm : m < M.1.length) : b + m < κ.HC M := by rw [Y.2.1 M]; exact Nat.add_lt_add_left hm b
theorem yL_set (Y : YL κ h b) {M : LW} (m : Nat) (v : va_E) {M' : LW} (hm : m < M.1.length) (e : M.1.set m v = M'.1) : hset (κ.HP M) (b + m) v = κ.HP M' := by
  rw [Y.1 M, Y.1 M']
  exact ov_eqset m v hm e
theorem yL_push (Y : YL κ h b) {M : LW} (v : va_E) {M' : LW} (e : M.1 ++ [v] = M'.1) : hset (κ.HP M) (κ.HC M) v = κ.HP M' := by
  rw [Y.1 M, Y.1 M', Y.2.1 M, ← e]
  exact ov_push
theorem yL_hc (Y : YL κ h b) {M : LW} {n : Nat} (e : M.1.length = n) : κ.HC M = b + n := by rw [Y.2.1 M, e]
end YLs
section XL
variable {κ : XCtx LW} {h : Nat → va_E} {b mc ms : Nat} {cc : ByteArray} {nL : Nat} {own : String} {ret : Option FieldType} {F L pc : Nat} {M M' : LW} {Z Z' : List va_E} {q1 q2 q1' q2' : Nat} {lv : List (Nat × Value)} {st : List Value}
theorem yL_room (Y : YL κ h b) (hrc : κ.R.cells = mc) (hrs : κ.R.slots = ms) {k n : Nat} (e1 : M.2.1 + k ≤ mc) (e2 : M.2.2 + n ≤ ms) : κ.K M + k ≤ κ.R.cells ∧ κ.N M + n ≤ κ.R.slots := by
  rw [hrc, hrs, Y.2.2.1, Y.2.2.2]
  exact ⟨e1, e2⟩
theorem yL_roomL (Y : YL κ h b) (hrc : κ.R.cells = mc) (hrs : κ.R.slots = ms) {k n : Nat} (e1 : q1 + k ≤ mc) (e2 : q2 + n ≤ ms) : κ.K (Z, q1, q2) + k ≤ κ.R.cells ∧ κ.N (Z, q1, q2) + n ≤ κ.R.slots := yL_room Y (M := (Z, q1, q2)) hrc hrs e1 e2
theorem yL_e2 (Y : YL κ h b) {n : Nat} (e : M'.1.length = M.1.length + n) : κ.HC M' = κ.HC M + n := by rw [Y.2.1, Y.2.1, e, Nat.add_assoc]
theorem yL_e3 (Y : YL κ h b) {n : Nat} (e : M'.2.1 = M.2.1 + n) : κ.K M' = κ.K M + n := by rw [Y.2.2.1, Y.2.2.1, e]
theorem yL_e4 (Y : YL κ h b) {n : Nat} (e : M'.2.2 = M.2.2 + n) : κ.N M' = κ.N M + n := by rw [Y.2.2.2, Y.2.2.2, e]
theorem x_newL (X : XC κ cc nL own ret F L) (Y : YL κ h b) (hrc : κ.R.cells = mc) (hrs : κ.R.slots = ms) {index ci N : Nat} {fs : List Value} (hF : FN own index ci N fs) (q : Nat) (hq : Z.length = q) (eL : Z ++ [.inr (ci, fs)] = Z') (h1 : q1 + 1 ≤ mc) (h2 : q2 + N ≤ ms) (h3 : Z'.length = Z.length + 1) (h4 : q1' = q1 + 1) (h5 : q2' = q2 + N) (hd : decode cc pc = .ok (.new index, 3)) (kk : XG κ (Z', q1', q2') (pc + 3) lv (.ref (κ.S0 + (b + q)) :: st)) : XG κ (Z, q1, q2) pc lv st := by
  refine x_new0 X hF (yL_room Y (M := (Z, q1, q2)) hrc hrs h1 h2) hd (yL_push Y (M' := (Z', q1', q2')) _ eL) (yL_e2 Y (M := (Z, q1, q2)) (M' := (Z', q1', q2')) h3) (yL_e3 Y (M := (Z, q1, q2)) (M' := (Z', q1', q2')) h4) (yL_e4 Y (M := (Z, q1, q2)) (M' := (Z', q1', q2')) h5) ?_
  rw [yL_hc Y (M := (Z, q1, q2)) hq]
  exact kk
theorem x_newaL (X : XC κ cc nL own ret F L) (Y : YL κ h b) (hrc : κ.R.cells = mc) (hrs : κ.R.slots = ms) {atype : ArrayType} {ty : FieldType} (hty : newarray.typeOf atype = ty) (harr : Cond.arrayClass (newarray.typeOf atype) ∈ goodTbl) {cA : ClassId} (t0 : Nat) (ht : κ.tys[t0]? = some (cA, ty)) (hra : ∀ U : State, va_RA U cA ty → U.vm.findClass ("[" ++ (newarray.typeOf atype).toString) = some cA) {n : Int32} {N : Nat} {a0 : vp_A} (ha : ∀ c : ClassId, vp_cell c a0 = arrV c N (fun _ => defaultValue ty)) (hn : ¬ n < 0) (hN : n.toNatClampNeg = N) (hbytes : N * componentBytes ty ≤ 536870912) (q : Nat) (hq : Z.length = q) (eL : Z ++ [.inl (cA, a0)] = Z') (h1 : q1 + 1 ≤ mc) (h2 : q2 + N ≤ ms) (h3 : Z'.length = Z.length + 1) (h4 : q1' = q1 + 1) (h5 : q2' = q2 + N) (hd : decode cc pc = .ok (.newarray atype, 2)) (kk : XG κ (Z', q1', q2') (pc + 2) lv (.ref (κ.S0 + (b + q)) :: st)) : XG κ (Z, q1, q2) pc lv (.int n :: st) := by
  refine x_newa0 X hty harr t0 ht hra ha hn hN hbytes (yL_room Y (M := (Z, q1, q2)) hrc hrs h1 h2) hd (yL_push Y (M' := (Z', q1', q2')) _ eL) (yL_e2 Y (M := (Z, q1, q2)) (M' := (Z', q1', q2')) h3) (yL_e3 Y (M := (Z, q1, q2)) (M' := (Z', q1', q2')) h4) (yL_e4 Y (M := (Z, q1, q2)) (M' := (Z', q1', q2')) h5) ?_
  rw [yL_hc Y (M := (Z, q1, q2)) hq]
  exact kk
theorem x_newqL (X : XC κ cc nL own ret F L) (Y : YL κ h b) (hrc : κ.R.cells = mc) (hrs : κ.R.slots = ms) {index : Nat} (hcl : Cond.classLink own index "AppendZones$State" ∈ goodTbl) {cA : ClassId} (t0 : Nat) (ht : κ.tys[t0]? = some (cA, .object "AppendZones$State")) {n : Int32} {N : Nat} (hn : ¬ n < 0) (hN : n.toNatClampNeg = N) (hbytes : N * 4 ≤ 536870912) (q : Nat) (hq : Z.length = q) (eL : Z ++ [.inl (cA, N, .inr (.inr (.inr (.inr (fun _ => none)))))] = Z') (h1 : q1 + 1 ≤ mc) (h2 : q2 + N ≤ ms) (h3 : Z'.length = Z.length + 1) (h4 : q1' = q1 + 1) (h5 : q2' = q2 + N) (hd : decode cc pc = .ok (.anewarray index, 3)) (kk : XG κ (Z', q1', q2') (pc + 3) lv (.ref (κ.S0 + (b + q)) :: st)) : XG κ (Z, q1, q2) pc lv (.int n :: st) := by
  refine x_newq0 X hcl t0 ht hn hN hbytes (yL_room Y (M := (Z, q1, q2)) hrc hrs h1 h2) hd (yL_push Y (M' := (Z', q1', q2')) _ eL) (yL_e2 Y (M := (Z, q1, q2)) (M' := (Z', q1', q2')) h3) (yL_e3 Y (M := (Z, q1, q2)) (M' := (Z', q1', q2')) h4) (yL_e4 Y (M := (Z, q1, q2)) (M' := (Z', q1', q2')) h5) ?_
  rw [yL_hc Y (M := (Z, q1, q2)) hq]
  exact kk
theorem x_putL (X : XC κ cc nL own ret F L) (Y : YL κ h b) {index ci k : Nat} {ty : FieldType} (hF : FP own index ci k ty false) {fs : List Value} {v : Value} (he : Z[0]? = some (.inr (ci, fs))) (hl0 : k < fs.length) (hn : narrow ty v = v) (hfit : fits ty v = true) (eL : Z.set 0 (.inr (ci, fs.set k v)) = Z') (h1 : 0 < Z.length) (h3 : Z'.length = Z.length + 0) (h4 : q1' = q1 + 0) (h5 : q2' = q2 + 0) (hd : decode cc pc = .ok (.putfield index, 3)) (kk : XG κ (Z', q1', q2') (pc + 3) lv st) : XG κ (Z, q1, q2) pc lv (v :: .ref (κ.S0 + (b + 0)) :: st) :=
  x_put0 X hF (yL_at Y (M := (Z, q1, q2)) 0 he) (yL_l Y (M := (Z, q1, q2)) 0 h1) hl0 hn hfit hd (yL_set Y (M := (Z, q1, q2)) (M' := (Z', q1', q2')) 0 _ h1 eL) (yL_e2 Y (M := (Z, q1, q2)) (M' := (Z', q1', q2')) h3) (yL_e3 Y (M := (Z, q1, q2)) (M' := (Z', q1', q2')) h4) (yL_e4 Y (M := (Z, q1, q2)) (M' := (Z', q1', q2')) h5) kk
theorem x_putFL (X : XC κ cc nL own ret F L) (Y : YL κ h b) {index ci k : Nat} {ty : FieldType} (hF : FP own index ci k ty true) (hin : κ.meth.name = "<init>") (hownC : ∀ C T N, vwCl[ci]? = some (C, T, N) → C = own) {fs : List Value} {v : Value} (he : Z[0]? = some (.inr (ci, fs))) (hl0 : k < fs.length) (hn : narrow ty v = v) (hfit : fits ty v = true) (eL : Z.set 0 (.inr (ci, fs.set k v)) = Z') (h1 : 0 < Z.length) (h3 : Z'.length = Z.length + 0) (h4 : q1' = q1 + 0) (h5 : q2' = q2 + 0) (hd : decode cc pc = .ok (.putfield index, 3)) (kk : XG κ (Z', q1', q2') (pc + 3) lv st) : XG κ (Z, q1, q2) pc lv (v :: .ref (κ.S0 + (b + 0)) :: st) :=
  x_putF0 X hF hin hownC (yL_at Y (M := (Z, q1, q2)) 0 he) (yL_l Y (M := (Z, q1, q2)) 0 h1) hl0 hn hfit hd (yL_set Y (M := (Z, q1, q2)) (M' := (Z', q1', q2')) 0 _ h1 eL) (yL_e2 Y (M := (Z, q1, q2)) (M' := (Z', q1', q2')) h3) (yL_e3 Y (M := (Z, q1, q2)) (M' := (Z', q1', q2')) h4) (yL_e4 Y (M := (Z, q1, q2)) (M' := (Z', q1', q2')) h5) kk
theorem x_aastL (X : XC κ cc nL own ret F L) (Y : YL κ h b) {ci : Nat} {cA : ClassId} {T : u_T} {W n : Nat} {vs : List Value} {f : Nat → Option Nat} (t0 : Nat) (ht : κ.tys[t0]? = some (cA, .object "AppendZones$State")) (i j : Nat) (he : Z[i]? = some (.inl (cA, n, .inr (.inr (.inr (.inr f)))))) (hi : i < Z.length) (hv : Z[j]? = some (.inr (ci, vs))) (hj : j < Z.length) (hc : vwCl[ci]? = some ("AppendZones$State", T, W)) {k : Int32} (hin : ¬ (k < 0 ∨ n ≤ k.toNatClampNeg)) (eL : Z.set i (.inl (cA, n, .inr (.inr (.inr (.inr (va_up f k.toNatClampNeg (some (κ.S0 + (b + j))))))))) = Z') (h3 : Z'.length = Z.length + 0) (h4 : q1' = q1 + 0) (h5 : q2' = q2 + 0) (hd : decode cc pc = .ok (.aastore, 1)) (kk : XG κ (Z', q1', q2') (pc + 1) lv st) : XG κ (Z, q1, q2) pc lv (.ref (κ.S0 + (b + j)) :: .int k :: .ref (κ.S0 + (b + i)) :: st) :=
  x_aast0 X t0 ht (yL_at Y (M := (Z, q1, q2)) i he) (yL_l Y (M := (Z, q1, q2)) i hi) (yL_at Y (M := (Z, q1, q2)) j hv) (yL_l Y (M := (Z, q1, q2)) j hj) hc hin hd (yL_set Y (M := (Z, q1, q2)) (M' := (Z', q1', q2')) i _ hi eL) (yL_e2 Y (M := (Z, q1, q2)) (M' := (Z', q1', q2')) h3) (yL_e3 Y (M := (Z, q1, q2)) (M' := (Z', q1', q2')) h4) (yL_e4 Y (M := (Z, q1, q2)) (M' := (Z', q1', q2')) h5) kk
/-- a constructor that is called: its cells come behind the caller's -/
theorem x_ctorL (X : XC κ cc nL own ret F L) (Y : YL κ h b) {A B : List va_E} {o : va_E} {q n m1 m2 : Nat} {G : va_G} {av : Array Value} {stk rest : List Value} {h2 : Nat → va_E} {c2 : Nat} (hc : XCall κ (Z, q1, q2) pc stk rest (XQ κ.G κ.S0 c2 none h2 av) m1 m2) (eM : A ++ [o] = Z) (eq : A.length = q) (e2 : h2 = ov (ov h b Z) (b + q) B) (hB : 1 ≤ B.length) (ec : c2 = b + q + n) (eM' : A ++ B = Z') (h3 : Z'.length = q + n) (h4 : q1' = q1 + m1) (h5 : q2' = q2 + m2) (hle : Z.length ≤ Z'.length) (kk : XG κ (Z', q1', q2') (pc + 3) lv rest) : XG κ (Z, q1, q2) pc lv stk := by
  refine x_callk (G := κ.G) hc X (σ1 := (Z', q1', q2')) ?_ ?_ ?_ (yL_e3 Y (M := (Z, q1, q2)) (M' := (Z', q1', q2')) h4).symm (yL_e4 Y (M := (Z, q1, q2)) (M' := (Z', q1', q2')) h5).symm kk
  · rw [e2, Y.1 (Z', q1', q2'), ← eM, ← eM', ← eq]
    exact ov_grow A o B hB
  · rw [ec, Y.2.1 (Z', q1', q2'), h3, Nat.add_assoc]
  · rw [Y.2.1, Y.2.1]
    exact Nat.add_le_add_left hle b
theorem x_icmp_ge_t {ST : Type} {κ : XCtx ST} {σ : ST} (X : XC κ cc nL own ret F L) {x y : Int32} {off : Int} {tgt : Nat} (hd : decode cc pc = .ok (.if_icmp .ge off, 3)) (ht : (pc : Int) + off = (tgt : Int)) (hc : y ≤ x) (kk : XG κ σ tgt lv st) : XG κ σ pc lv (.int y :: .int x :: st) :=
  fun H locs ls hW hS hl => lv_icmp_ge X.1 X.2.1 hd ht (fun _ => kk H locs ls hW hS hl) (fun h => absurd hc h)
theorem x_icmp_ge_f {ST : Type} {κ : XCtx ST} {σ : ST} (X : XC κ cc nL own ret F L) {x y : Int32} {off : Int} {tgt : Nat} (hd : decode cc pc = .ok (.if_icmp .ge off, 3)) (ht : (pc : Int) + off = (tgt : Int)) (hc : ¬ y ≤ x) (kk : XG κ σ (pc + 3) lv st) : XG κ σ pc lv (.int y :: .int x :: st) :=
  fun H locs ls hW hS hl => lv_icmp_ge X.1 X.2.1 hd ht (fun h => absurd h hc) (fun _ => kk H locs ls hW hS hl)
end XL
section XL2
variable {h : Nat → va_E} {b mc ms : Nat} {cc : ByteArray} {nL : Nat} {own : String} {ret : Option FieldType} {F L pc : Nat} {Z Z' : List va_E} {q1 q2 : Nat} {lv : List (Nat × Value)} {st : List Value}
theorem x_top {ST : Type} {κ : XCtx ST} {σ : ST} {x y : Int32} (e : x = y) (kk : XG κ σ pc lv (.int y :: st)) : XG κ σ pc lv (.int x :: st) := by rw [e]; exact kk
theorem x_iastL {κ : XCtx LW} (X : XC κ cc nL own ret F L) (Y : YL κ h b) {cA : ClassId} {n : Nat} {f : Nat → Int32} (ht : κ.tys[0]? = some (cA, .int)) (i : Nat) (he : Z[i]? = some (.inl (cA, n, .inl f))) (hi : i < Z.length) {j x : Int32} (hin : ¬ (j < 0 ∨ n ≤ j.toNatClampNeg)) (eL : Z.set i (.inl (cA, n, .inl (upd f j.toNatClampNeg x))) = Z') (h3 : Z'.length = Z.length + 0) (hd : decode cc pc = .ok (.iastore, 1)) (kk : XG κ (Z', q1, q2) (pc + 1) lv st) : XG κ (Z, q1, q2) pc lv (.int x :: .int j :: .ref (κ.S0 + (b + i)) :: st) :=
  x_iast0 X 0 ht (yL_at Y (M := (Z, q1, q2)) i he) (yL_l Y (M := (Z, q1, q2)) i hi) hin hd (yL_set Y (M := (Z, q1, q2)) (M' := (Z', q1, q2)) i _ hi eL) (yL_e2 Y (M := (Z, q1, q2)) (M' := (Z', q1, q2)) h3) (yL_e3 Y (M := (Z, q1, q2)) (M' := (Z', q1, q2)) (n := 0) rfl) (yL_e4 Y (M := (Z, q1, q2)) (M' := (Z', q1, q2)) (n := 0) rfl) kk
/-- the same body over a state of another type -/
def XCtx.to {ST ST2 : Type} (κ : XCtx ST) (HC : ST2 → Nat) (HP : ST2 → Nat → va_E) (K N : ST2 → Nat) : XCtx ST2 := (κ.p, κ.l, κ.e, κ.R, κ.s, κ.m, κ.args, κ.below, κ.meth, κ.c, κ.nL, κ.G, κ.tys, κ.S0, HC, HP, K, N, κ.Q)
theorem x_swap {ST ST2 : Type} {κ : XCtx ST} {σ : ST} (HC : ST2 → Nat) (HP : ST2 → Nat → va_E) (K N : ST2 → Nat) (σ2 : ST2) (e1 : HP σ2 = κ.HP σ) (e2 : HC σ2 = κ.HC σ) (e3 : K σ2 = κ.K σ) (e4 : N σ2 = κ.N σ) (kk : XG (κ.to HC HP K N) σ2 pc lv st) : XG κ σ pc lv st := by
  intro H locs ls hW hS hl
  rw [← e1, ← e2] at hW
  have hg := kk H locs ls hW hS hl
  rw [← e3, ← e4]
  exact hg
theorem x_vretP {ST : Type} {κ : XCtx ST} {σ σ0 σ1 : ST} (X : XC κ cc nL own none F L) (Z : XZ κ) (hQ : XR κ (κ.HC σ0) none (κ.HP σ1) mc ms) (hK : ∀ σ, κ.K σ ≤ mc ∧ κ.N σ ≤ ms) (hf : some σ = some σ1) (hd : decode cc pc = .ok (.return_, 1)) : XG κ σ pc lv [] := by
  cases hf
  exact x_vret0 X hQ rfl (Z.1 _ _) (hK _) hd
end XL2
