def R_law : String := "AppendZonesLaw"
def lw_P (b : Addr) (xs : List Int32) (args : Array Value) (s : State) : Prop := args = #[.ref b] ∧ s.IntsAt b xs ∧ xs.length ≤ 260 ∧ (Jvm.Cond.and given_1 narrow_1).before args s = true
def lw_Q (_ : Array Value) (s : State) (o : Outcome) (t : State) : Prop := o = .returned (some (.int 1)) ∧ Framed s o t [] 600000 7302250
def lw_Z (below : List Frame) (a : Array Value) (s : State) : State → Prop := fun t => ∃ o, t.status = .running ∧ Ended t below o ∧ lw_Q a s o t
/-- the law's own end, with 1 on the stack, nothing written that was there before, its room as the claim has it -/
theorem lw_ret {p : Program} {l : Launch} {e : Env} {s : State} {m : MethodId} {below : List Frame} {meth : Method} {c : Code} {b : Nat} (hx : p.tables.exec = Jvm.exec) (hb : c.code = code) (hr : meth.sig.returnType = ret) (hlocks : meth.locks = false) {pc : Nat} {H : Heap} {ls : Array Slot} (hdg : decode code pc = .ok (.ireturn, 1)) : W p l e room_1 s m #[Value.ref b] below meth c H [] 600000 7302250 (lw_Z below #[Value.ref b] s) (F0 m pc ls [.int 1]) := by
  intro T hT X
  obtain ⟨fs, hret, hrun, hended, hW, hframe⟩ := X.leave (v := some (.int 1)) (hlocks := hlocks) (fun h => by rw [hr] at h; cases h)
  have hmeth' : T.vm.method? m = some meth := X.method'
  refine ⟨T.setFrames fs, ?_, .returned (some (.int 1)), hrun, hended, rfl, ⟨_, rfl⟩, hW, hframe⟩
  jvm_step X.here [X.here.top, hx, hb, hdg, hmeth', hr, ret, narrow_b1]
  (try refine ⟨rfl, ?_⟩); (try refine ⟨rfl, ?_⟩)
  first | (intro acts; rw [hret _ acts rfl rfl rfl]) | rw [hret _ _ rfl rfl rfl]
  exact Steps.refl _
/-- what holds at the law's entry: the machine, the code, the tables' words (any of lw_tbl by 'hts w (by decide +kernel)'), the script of L ints xs at the cell b, what the Statement gives of the start (any of its parts by flat_of_before) -/
def lw_At (p : Program) (s : State) (m : MethodId) (meth : Method) (c : Code) (b L : Nat) (xs : Nat → Int32) : Prop :=
  p.tables.exec = Jvm.exec ∧ c.code = code ∧ meth.sig.returnType = ret ∧ c.maxLocals = 8 ∧ s.vm.findClass R_law = some m.cls ∧ (∀ w ∈ lw_tbl, w.before #[Value.ref b] s = true) ∧ va_X b L xs s s.heap ∧ b < s.heap.size ∧ meth.locks = false ∧ (Jvm.Cond.and given_1 narrow_1).before #[Value.ref b] s = true
set_option maxRecDepth 100000 in
set_option maxHeartbeats 4000000 in
/-- the law from its entry, out of what its word says -/
theorem law_start {p : Program} {e : Env} {s : State} {m : MethodId} {below : List Frame} {meth : Method} {c : Code} (l : Launch) {b L : Nat} {xs : Nat → Int32} (C0 : lw_At p s m meth c b L xs) (hf : f_L_law L xs cs0 = some 1) : W p l e room_1 s m #[Value.ref b] below meth c s.heap [] 0 0 (lw_Z below #[Value.ref b] s) (entryFrame m ([Value.ref b] : List Value).toArray 8) := by
  obtain ⟨hx, hb, hr, hml, hown, hts, hX, hbl, hlocks, hgv⟩ := id C0
  have hg : ∀ w ∈ goodTbl, w.before #[Value.ref b] s = true := fun w h => hts w (List.mem_filter.mp h).1
  obtain ⟨c0, iS0, hKn0⟩ := u_known (C := RX0) (T := TX0) (N := 13) (n := 13) hg gi_X0 (hg _ (mem_good 35 (by decide +kernel) (by decide +kernel)))
  obtain ⟨c1, iS1, hKn1⟩ := u_known (C := RX1) (T := TX1) (N := 3) (n := 3) hg gi_X1 (hg _ (mem_good 168 (by decide +kernel) (by decide +kernel)))
  obtain ⟨c2, iS2, hKn2⟩ := u_known (C := RX2) (T := TX2) (N := 2) (n := 2) hg gi_X2 (hg _ (mem_good 188 (by decide +kernel) (by decide +kernel)))
  obtain ⟨c3, iS3, hKn3⟩ := u_known (C := RX3) (T := TX3) (N := 8) (n := 8) hg gi_X3 (hg _ (mem_good 29 (by decide +kernel) (by decide +kernel)))
  obtain ⟨c4, iS4, hKn4⟩ := u_known (C := RX4) (T := TX4) (N := 11) (n := 11) hg gi_X4 (hg _ (mem_good 92 (by decide +kernel) (by decide +kernel)))
  obtain ⟨c5, iS5, hKn5⟩ := u_known (C := RX5) (T := TX5) (N := 5) (n := 5) hg gi_X5 (hg _ (mem_good 21 (by decide +kernel) (by decide +kernel)))
  obtain ⟨dC, dI, hKc⟩ : ∃ (dC : Nat → ClassId) (dI : Nat → Nat → Nat), ∀ (k : Nat) (q : vw_C), vwCl[k]? = some q → u_Kn s q.1 q.2.1 q.2.2 (dC k) (dI k) := by
    refine ⟨fun k => if k = 0 then c0 else if k = 1 then c1 else if k = 2 then c2 else if k = 3 then c3 else if k = 4 then c4 else c5, fun k => if k = 0 then iS0 else if k = 1 then iS1 else if k = 2 then iS2 else if k = 3 then iS3 else if k = 4 then iS4 else iS5, ?_⟩
    intro k q hq
    match k, hq with
    | 0, hq => cases hq; exact hKn0
    | 1, hq => cases hq; exact hKn1
    | 2, hq => cases hq; exact hKn2
    | 3, hq => cases hq; exact hKn3
    | 4, hq => cases hq; exact hKn4
    | 5, hq => cases hq; exact hKn5
    | k + 6, hq => simp [vwCl] at hq
  obtain ⟨cI, kI, compI, i1, i2, i3⟩ := Cond.arrayClass_spec (hg _ aw_int)
  obtain ⟨cC, kC, compC, j1, j2, j3⟩ := Cond.arrayClass_spec (hg _ aw_char)
  have hAO : va_AO "AppendZones$State" s := va_AO.of (hts (.arrayOver (.object "AppendZones$State")) (List.mem_of_getElem? (i := 174) (by decide +kernel)))
  obtain ⟨compS, cS', kS, s1, s2, s3, s4, s5⟩ := Cond.arrayOver_spec (va_AO.use (A := #[Value.ref b]) hAO)
  have hK : va_K (dC, dI) vwCl [(cI, .int), (cC, .char), (cI, .int), (cS', .object "AppendZones$State")] s := by
    refine ⟨hKc, fun k q h => ?_⟩
    match k, h with
    | 0, h => cases h; exact ⟨fun n z => ⟨fun k h => (by cases h), kI, i2, compI, i3⟩, i1⟩
    | 1, h => cases h; exact ⟨fun n z => ⟨fun k h => (by cases h), kC, j2, compC, j3⟩, j1⟩
    | 2, h => cases h; exact ⟨fun n z => ⟨fun k h => (by cases h), kI, i2, compI, i3⟩, i1⟩
    | 3, h => cases h; exact ⟨fun n z => ⟨fun k h => (by cases h), kS, s3, compS, s4⟩, kS, compS, s3, s4, s1, s5⟩
    | k + 4, h => simp at h
  have hN : ∀ q ∈ nestL, va_Nw (.methodLinkNest q.1 q.2.1 q.2.2 "AppendZones") s := by
    intro q hq
    simp only [nestL, List.mem_cons, List.not_mem_nil, or_false] at hq
    rcases hq with rfl | rfl | rfl | rfl | rfl | rfl | rfl | rfl
    · exact va_Nw.of rfl (hts _ (List.mem_of_getElem? (i := 255) (by decide +kernel)))
    · exact va_Nw.of rfl (hts _ (List.mem_of_getElem? (i := 36) (by decide +kernel)))
    · exact va_Nw.of rfl (hts _ (List.mem_of_getElem? (i := 266) (by decide +kernel)))
    · exact va_Nw.of rfl (hts _ (List.mem_of_getElem? (i := 364) (by decide +kernel)))
    · exact va_Nw.of rfl (hts _ (List.mem_of_getElem? (i := 361) (by decide +kernel)))
    · exact va_Nw.of rfl (hts _ (List.mem_of_getElem? (i := 358) (by decide +kernel)))
    · exact va_Nw.of rfl (hts _ (List.mem_of_getElem? (i := 265) (by decide +kernel)))
    · exact va_Nw.of rfl (hts _ (List.mem_of_getElem? (i := 189) (by decide +kernel)))
  have hl := lv_entry ([.ref b]) (n := 8) (Nat.le_of_ble_eq_true rfl)
  rw [lg_entry_eq]
  generalize (lg_sl ([.ref b]) ++ List.replicate (8 - (lg_sl ([.ref b])).length) Slot.unset).toArray = ls at hl ⊢
  have hl : lv_has ls 8 [(0, .ref b)] := hl
  obtain ⟨κ, hκ⟩ : ∃ κ : XCtx LW, κ = (p, l, e, room_1, s, m, #[Value.ref b], below, meth, c, 8, (dC, dI), [(cI, .int), (cC, .char), (cI, .int), (cS', .object "AppendZones$State")], s.heap.size, fun M => 0 + M.1.length, fun M => ov (fun _ => .inr (0, [])) 0 M.1, fun M => M.2.1, fun M => M.2.2, lw_Z below #[Value.ref b] s) := ⟨_, rfl⟩
  have X : XC κ code 8 RL (some .boolean) 7 177 := by
    rw [hκ]
    exact ⟨hx, hb, hml, rfl, hown, hg, ⟨hK, hN, hAO⟩, Nat.le_refl _, hlocks, hr, Nat.le_of_ble_eq_true rfl, Nat.le_of_ble_eq_true rfl⟩
  have Y : YL κ (fun _ => .inr (0, [])) 0 := by rw [hκ]; exact ⟨fun _ => rfl, fun _ => rfl, fun _ => rfl, fun _ => rfl⟩
  have key : XG κ ([], 0, 0) 0 [(0, .ref b)] [] := by
    refine p1_law (cI := cI) (cC := cC) (cS' := cS') X Y (by rw [hκ]; rfl) (by rw [hκ]; rfl) (by rw [hκ]; rfl) (by rw [hκ]; rfl) (by rw [hκ]; rfl) ?_
    refine x_swap (fun _ => 159) (fun σ => ov (fun _ => .inr (0, [])) 0 (cl κ.S0 cI cC cS' 0 σ)) (fun _ => 159) (fun _ => 13816) (cs0 : CS) (by rw [Y.1]) (by rw [Y.2.1, cl_len]) (by rw [Y.2.2.1]) (by rw [Y.2.2.2]) ?_
    refine p2_law (κ := κ.to (fun _ => 159) (fun σ => ov (fun _ => .inr (0, [])) 0 (cl κ.S0 cI cC cS' 0 σ)) (fun _ => 159) (fun _ => 13816)) (h := fun _ => .inr (0, [])) (b := 0) (cI := cI) (cC := cC) (cS' := cS') (bs := b) (Ls := L) (xs := xs) (σ := cs0) X ⟨fun _ => rfl, fun _ => Nat.le_refl _, ?_, ?_, ?_⟩ ⟨fun _ _ => rfl, fun _ _ => rfl, fun _ _ => rfl⟩ ?_ ?_ ?_ ?_ ?_ hf
    · rw [hκ]; rfl
    · rw [hκ]; rfl
    · rw [hκ]; rfl
    · intro σ; rw [hκ]; exact ⟨Nat.le_of_ble_eq_true rfl, Nat.le_of_ble_eq_true rfl⟩
    · rw [hκ]; exact hX
    · rw [hκ]; exact hbl
    · rw [hκ]; exact hbl
    · intro σ pc lv hd H locs ls hW hS hl
      rw [hκ] at hS ⊢
      refine va_forget (fun q hq => hS.2.2 q hq) ?_
      refine W.widen (k := 600000) (n := 7302250) (Nat.le_of_ble_eq_true rfl) (Nat.le_of_ble_eq_true rfl) ?_
      exact lw_ret hx hb hr hlocks hd
  have hW : XW κ.G κ.S0 (κ.HC ([], 0, 0)) (κ.HP ([], 0, 0)) s.heap := by
    rw [hκ]
    exact ⟨rfl, fun k q hq => by cases hq⟩
  have hS : va_S (XA κ.S0) κ.s.heap s.heap [] := by rw [hκ]; exact va_S.rf
  have hl2 : lv_has ls κ.nL [(0, .ref b)] := by rw [hκ]; exact hl
  have fin := key s.heap [] ls hW hS hl2
  rw [hκ] at fin
  exact fin
