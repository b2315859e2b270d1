/-! Rows of this law's own: constants of its pool, remainders by a number that is no constant, a method that reads the script -/
def oD {α : Type} (y : Int32) (k : Option α) : Option α := if y = 0 then none else k
section LR2
variable {ST α : Type} {κ : XCtx ST} {cc : ByteArray} {nL : Nat} {own : String} {ret' : Option FieldType} {F L pc : Nat} {σ : ST} {lv : List (Nat × Value)} {st : List Value} {res : α} {bs Ls : Nat} {xs : Nat → Int32}
theorem x_ldc (X : XC κ cc nL own ret' F L) {index : Nat} {v : Int32} (hc : Cond.constant own index v ∈ goodTbl) (hd : decode cc pc = .ok (.ldc index, 2)) (kk : XG κ σ (pc + 2) lv (.int v :: st)) : XG κ σ pc lv st :=
  fun H locs ls hW hS hl => lv_ldc X.1 X.2.1 X.2.2.2.2.1 (X.2.2.2.2.2.1 _ hc) hd (kk H locs ls hW hS hl)
theorem x_iremG (X : XC κ cc nL own ret' F L) {x y : Int32} {k : Option α} (hd : decode cc pc = .ok (.irem, 1)) (hf : oD y k = some res) (kk : k = some res → XG κ σ (pc + 1) lv (.int (x - x / y * y) :: st)) : XG κ σ pc lv (.int y :: .int x :: st) := by
  unfold oD at hf
  split at hf
  next => cases hf
  next h => exact x_irem X hd h (kk hf)
theorem x_sld2 (X : XC κ cc nL own ret' F L) (hX : va_X bs Ls xs κ.s κ.s.heap) (hbl : bs < κ.s.heap.size) (hS0 : bs < κ.S0) {j : Int32} {k : Int32 → Option α} (hd : decode cc pc = .ok (.iaload, 1)) (hf : oA Ls xs j k = some res) (kk : ∀ x, k x = some res → XG κ σ (pc + 1) lv (.int x :: st)) : XG κ σ pc lv (.int j :: .ref bs :: st) :=
  fun H locs ls hW hS hl => va_sld X.1 X.2.1 hX hbl (by show ¬ κ.S0 ≤ bs; exact Nat.not_le.mpr hS0) hS (oA_some hf).1 hd (kk _ (oA_some hf).2 H locs ls hW hS hl)
theorem x_slen2 (X : XC κ cc nL own ret' F L) (hX : va_X bs Ls xs κ.s κ.s.heap) (hbl : bs < κ.s.heap.size) (hS0 : bs < κ.S0) (hd : decode cc pc = .ok (.arraylength, 1)) (kk : XG κ σ (pc + 1) lv (.int (Int32.ofNat Ls) :: st)) : XG κ σ pc lv (.ref bs :: st) :=
  fun H locs ls hW hS hl => va_slen X.1 X.2.1 hX hbl (by show ¬ κ.S0 ≤ bs; exact Nat.not_le.mpr hS0) hS hd (kk H locs ls hW hS hl)
end LR2
/-- the contract of a method that may read the script besides -/
def XPX (G : va_G) (tys : List (ClassId × FieldType)) (S0 c : Nat) (h1 : Nat → va_E) (bs Ls : Nat) (xs : Nat → Int32) (av : List Value) : Array Value → State → Prop := va_Pc av (fun U => XW G S0 c h1 U.heap ∧ XK G tys U ∧ va_X bs Ls xs U U.heap ∧ bs < S0)
theorem x_blindX {G : va_G} {tys : List (ClassId × FieldType)} {S0 c : Nat} {h1 : Nat → va_E} {bs Ls : Nat} {xs : Nat → Int32} {av : List Value} : FrameBlind (XPX G tys S0 c h1 bs Ls xs av) := fun _ U g mk q => ⟨q.1, q.2.1, XK.calling q.2.2.1, va_X.moved (u := U) (U := U.calling g mk _) (Vm.Alike.refl U.vm) q.2.2.2.1, q.2.2.2.2⟩
theorem XMetX.of {l : Launch} {G : va_G} {tys : List (ClassId × FieldType)} {S0 c nL F L : Nat} {y : MethodName} {bytes : ByteArray} {rt : Option FieldType} {av : List Value} {rv : Option Value} {h1 : Nat → va_E} {bs Ls : Nat} {xs : Nat → Int32} (hy : plainName y.cls = true) (hlen : (lg_sl av).length ≤ nL)
    (body : ∀ κ : XCtx Unit, κ.S0 = S0 → va_X bs Ls xs κ.s κ.s.heap → bs < κ.s.heap.size → bs < κ.S0 → XE κ → XC κ bytes nL y.cls rt F L → XR κ (κ.HC ()) rv (κ.HP ()) 0 0 → XG κ () 0 (lv_args 0 av) []) :
    Met l y (.code y bytes nL rt :: goodTbl) { frames := F, cells := 0, slots := 0, locals := L } (XPX G tys S0 c h1 bs Ls xs av) (XQ G S0 c rv h1) 0 0 (XA S0) := by
  refine Met.ofW (cc := bytes) (maxL := nL) (ret := rt) hy rfl ?_
  intro p e s m args below meth c' s₁ B hml hv
  obtain ⟨rfl, hW, hK, hX, hbs⟩ := hv
  have hts := atoms_spec (ws := .code y bytes nL rt :: goodTbl) B.pre
  have hs0 : S0 ≤ s.heap.size := by rw [hW.1]; exact Nat.le_add_right _ _
  have hl := lv_entry av (n := nL) hlen
  rw [lg_entry_eq]
  have key := body (p, l, e, (headSpec (.code y bytes nL rt :: goodTbl) { frames := F, cells := 0, slots := 0, locals := L }).room, s, m, av.toArray, below, meth, c', nL, G, tys, S0, fun _ => c, fun _ => h1, fun _ => 0, fun _ => 0, MQ below (XQ G S0 c rv h1) av.toArray s 0 0 (XA S0)) rfl hX (Nat.lt_of_lt_of_le hbs hs0) hbs ⟨⟨fun _ _ => rfl, fun _ _ => rfl, fun _ _ => rfl⟩, fun _ => ⟨rfl, rfl⟩⟩
    ⟨B.exec, B.bytes, hml, rfl, findClass_of_methodNamed B.named, fun w hw => hts w (List.mem_cons_of_mem _ hw), hK, hs0, B.notSynchronized, B.returns, Nat.le_refl _, Nat.le_refl _⟩ rfl s.heap [] _ hW va_S.rf hl
  exact key
section LR3
variable {ST α : Type} {κ : XCtx ST} {cc : ByteArray} {nL : Nat} {own : String} {ret : Option FieldType} {F L pc : Nat} {σ : ST} {lv : List (Nat × Value)} {st : List Value} {res : α} {bs Ls : Nat} {xs : Nat → Int32}
/-- a call of such a method, whose answer is a number -/
theorem x_callX (X : XC κ cc nL own ret F L) (hX : va_X bs Ls xs κ.s κ.s.heap) (hbl : bs < κ.s.heap.size) (hS0 : bs < κ.S0) {x : Option Int32} {k : Int32 → Option α} {index n maxL F' L' : Nat} {y : MethodName} {bytes : ByteArray} {rt : Option FieldType} {As stk rest : List Value} (hf : oR x k = some res)
    (hm : CM y n bytes maxL rt) (hlk : Cond.methodLink own index y ∈ goodTbl ∧ Cond.static y ∈ goodTbl) (hR : F' + 1 ≤ F ∧ 8 + (maxL + 11) + L' ≤ L)
    (hM : ∀ r, x = some r → Met κ.l y (.code y bytes maxL rt :: goodTbl) { frames := F', cells := 0, slots := 0, locals := L' } (XPX κ.G κ.tys κ.S0 (κ.HC σ) (κ.HP σ) bs Ls xs As) (XQ κ.G κ.S0 (κ.HC σ) (some (.int r)) (κ.HP σ)) 0 0 (XA κ.S0)) (hn : As.length = n) (hst : stk = As.reverse ++ rest) (hcat : (rest.map fun v => v.category).sum ≤ 8) (hfr : κ.K σ + 0 ≤ κ.R.cells ∧ κ.N σ + 0 ≤ κ.R.slots) (hd : decode cc pc = .ok (.invokestatic index, 3))
    (kk : ∀ r, k r = some res → XG κ σ (pc + 3) lv (.int r :: rest)) : XG κ σ pc lv stk := by
  cases x with
  | none => cases hf
  | some r =>
    have hcb := x_cb (mc := 0) (ms := 0) X hm hlk.1 hR
    intro H locs ls hW hS hl T hT XT
    have hXH : va_X bs Ls xs κ.s H := hX.kept (hS.2.1 bs hbl (by show ¬ κ.S0 ≤ bs; exact Nat.not_le.mpr hS0))
    have hc : va_Run κ.p κ.l κ.e κ.R κ.s κ.m κ.args κ.below κ.meth κ.c H locs (κ.K σ) (κ.N σ) 0 0 (F0 κ.m pc ls stk) rest (XQ κ.G κ.S0 (κ.HC σ) (some (.int r)) (κ.HP σ) As.toArray) (XA κ.S0) := by
      obtain ⟨hx, hb, hml, hnl, hown, hts, hK, -⟩ := id X
      exact va_runS ⟨hx, hb, hml, hown, hts⟩ (hM r rfl) ⟨hcb, hts _ hlk.2⟩ ⟨x_blindX, fun U hU hWm => ⟨rfl, by rw [hU]; exact hW, hK.moved hWm, by rw [hU]; exact va_X.moved hWm.alike hXH, hS0⟩⟩ rfl hn (hl.1.trans hnl) hst (lv_room hcat) hd hfr
    obtain ⟨v, st₀, t, T', L', h0, X', hL, g1, g2, ⟨hv, hW1, hk⟩, stp⟩ := hc T hT XT
    cases hv
    rw [h0] at hk
    have hS00 : κ.S0 ≤ κ.s.heap.size := X.2.2.2.2.2.2.2.1
    have hS1 : va_S (XA κ.S0) κ.s.heap T'.heap (locs ++ L') := by
      refine ⟨?_, fun q h1 h2 => ?_, fun q hq => ?_⟩
      · rw [g1, hW1.1]
        have := hS.1
        rw [hW.1] at this
        omega
      · rw [g1, hk q (Nat.lt_of_not_le h2)]
        exact hS.2.1 q h1 h2
      · rcases List.mem_append.mp hq with h | h
        · exact hS.2.2 q h
        · exact hL q h
    rw [← g1] at hW1
    obtain ⟨t2, a1, b1⟩ := kk r hf T'.heap _ ls hW1 hS1 hl T' rfl X'
    exact ⟨t2, stp t2 a1, b1⟩
end LR3
