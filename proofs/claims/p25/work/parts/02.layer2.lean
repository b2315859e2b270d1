/-! THE LAYER, second part: rows that carry the shallow word along; calls; a method's entry and end -/
section ROWS2
variable {ST α : Type} {κ : XCtx ST} {cc : ByteArray} {nL : Nat} {own : String} {ret : Option FieldType} {F L pc : Nat} {σ : ST} {lv lv' : List (Nat × Value)} {st : List Value} {res : α}
/-- a body that makes no cell -/
def XZ (κ : XCtx ST) : Prop := (∀ σ σ' : ST, κ.HC σ = κ.HC σ') ∧ (∀ σ σ' : ST, κ.K σ = κ.K σ') ∧ (∀ σ σ' : ST, κ.N σ = κ.N σ')
theorem oA_some {n : Nat} {f : Nat → Int32} {j : Int32} {k : Int32 → Option α} (hf : oA n f j k = some res) : ¬ (j < 0 ∨ n ≤ j.toNatClampNeg) ∧ k (f j.toNatClampNeg) = some res := by
  unfold oA at hf
  split at hf
  next h => exact ⟨h, hf⟩
  next => cases hf
theorem oS_some {n : Nat} {f : Nat → Int32} {j x : Int32} {w : (Nat → Int32) → ST} {k : ST → Option α} (hf : oS n f j x w k = some res) : ¬ (j < 0 ∨ n ≤ j.toNatClampNeg) ∧ k (w (upd f j.toNatClampNeg x)) = some res := by
  unfold oS at hf
  split at hf
  next h => exact ⟨h, hf⟩
  next => cases hf
theorem x_iald (X : XC κ cc nL own ret F L) {i : Nat} {cA : ClassId} {n : Nat} {f : Nat → Int32} (t0 : Nat) (ht : κ.tys[t0]? = some (cA, .int)) (he : κ.HP σ i = .inl (cA, n, .inl f)) (hi : i < κ.HC σ) {j : Int32} {k : Int32 → Option α} (hd : decode cc pc = .ok (.iaload, 1)) (hf : oA n f j k = some res) (kk : ∀ x, k x = some res → XG κ σ (pc + 1) lv (.int x :: st)) : XG κ σ pc lv (.int j :: .ref (κ.S0 + i) :: st) :=
  x_iald0 X t0 ht he hi (oA_some hf).1 hd (kk _ (oA_some hf).2)
theorem x_zald (X : XC κ cc nL own ret F L) {i : Nat} {cA : ClassId} {n : Nat} {f : Nat → Int32} (t0 : Nat) (ht : κ.tys[t0]? = some (cA, .boolean)) (he : κ.HP σ i = .inl (cA, n, .inl f)) (hi : i < κ.HC σ) {j : Int32} {k : Int32 → Option α} (hd : decode cc pc = .ok (.baload, 1)) (hf : oA n f j k = some res) (kk : ∀ x, k x = some res → XG κ σ (pc + 1) lv (.int x :: st)) : XG κ σ pc lv (.int j :: .ref (κ.S0 + i) :: st) :=
  x_zald0 X t0 ht he hi (oA_some hf).1 hd (kk _ (oA_some hf).2)
theorem x_cald (X : XC κ cc nL own ret F L) {i : Nat} {cA : ClassId} {n : Nat} {f : Nat → Int32} (t0 : Nat) (ht : κ.tys[t0]? = some (cA, .char)) (he : κ.HP σ i = .inl (cA, n, .inl f)) (hi : i < κ.HC σ) {j : Int32} {k : Int32 → Option α} (hd : decode cc pc = .ok (.caload, 1)) (hf : oA n f j k = some res) (kk : ∀ x, k x = some res → XG κ σ (pc + 1) lv (.int x :: st)) : XG κ σ pc lv (.int j :: .ref (κ.S0 + i) :: st) :=
  x_cald0 X t0 ht he hi (oA_some hf).1 hd (kk _ (oA_some hf).2)
theorem x_iast (X : XC κ cc nL own ret F L) (Z : XZ κ) {i : Nat} {cA : ClassId} {n : Nat} {f : Nat → Int32} {w : (Nat → Int32) → ST} (t0 : Nat) (ht : κ.tys[t0]? = some (cA, .int)) (he : κ.HP σ i = .inl (cA, n, .inl f)) (hi : i < κ.HC σ) (e1 : ∀ f', hset (κ.HP σ) i (.inl (cA, n, .inl f')) = κ.HP (w f')) {j x : Int32} {k : ST → Option α} (hd : decode cc pc = .ok (.iastore, 1)) (hf : oS n f j (x) w k = some res) (kk : ∀ σ1, k σ1 = some res → XG κ σ1 (pc + 1) lv st) : XG κ σ pc lv (.int x :: .int j :: .ref (κ.S0 + i) :: st) :=
  x_iast0 X t0 ht he hi (oS_some hf).1 hd (e1 _) (Z.1 _ _) (Z.2.1 _ _) (Z.2.2 _ _) (kk _ (oS_some hf).2)
theorem x_zast (X : XC κ cc nL own ret F L) (Z : XZ κ) {i : Nat} {cA : ClassId} {n : Nat} {f : Nat → Int32} {w : (Nat → Int32) → ST} (t0 : Nat) (ht : κ.tys[t0]? = some (cA, .boolean)) (he : κ.HP σ i = .inl (cA, n, .inl f)) (hi : i < κ.HC σ) (e1 : ∀ f', hset (κ.HP σ) i (.inl (cA, n, .inl f')) = κ.HP (w f')) {j x : Int32} {k : ST → Option α} (hd : decode cc pc = .ok (.bastore, 1)) (hf : oS n f j (vp_nar .boolean x) w k = some res) (kk : ∀ σ1, k σ1 = some res → XG κ σ1 (pc + 1) lv st) : XG κ σ pc lv (.int x :: .int j :: .ref (κ.S0 + i) :: st) :=
  x_zast0 X t0 ht he hi (oS_some hf).1 hd (e1 _) (Z.1 _ _) (Z.2.1 _ _) (Z.2.2 _ _) (kk _ (oS_some hf).2)
theorem x_cast (X : XC κ cc nL own ret F L) (Z : XZ κ) {i : Nat} {cA : ClassId} {n : Nat} {f : Nat → Int32} {w : (Nat → Int32) → ST} (t0 : Nat) (ht : κ.tys[t0]? = some (cA, .char)) (he : κ.HP σ i = .inl (cA, n, .inl f)) (hi : i < κ.HC σ) (e1 : ∀ f', hset (κ.HP σ) i (.inl (cA, n, .inl f')) = κ.HP (w f')) {j x : Int32} {k : ST → Option α} (hd : decode cc pc = .ok (.castore, 1)) (hf : oS n f j (vp_nar .char x) w k = some res) (kk : ∀ σ1, k σ1 = some res → XG κ σ1 (pc + 1) lv st) : XG κ σ pc lv (.int x :: .int j :: .ref (κ.S0 + i) :: st) :=
  x_cast0 X t0 ht he hi (oS_some hf).1 hd (e1 _) (Z.1 _ _) (Z.2.1 _ _) (Z.2.2 _ _) (kk _ (oS_some hf).2)
theorem x_putI (X : XC κ cc nL own ret F L) (Z : XZ κ) {index ci k i : Nat} (hF : FP own index ci k .int false) {fs : List Value} (he : κ.HP σ i = .inr (ci, fs)) (hi : i < κ.HC σ) (hl0 : k < fs.length) {w : Int32 → ST} (e1 : ∀ v, hset (κ.HP σ) i (.inr (ci, fs.set k (.int v))) = κ.HP (w v)) {v : Int32} {kt : ST → Option α} (hd : decode cc pc = .ok (.putfield index, 3)) (hf : oN v w kt = some res) (kk : ∀ σ1, kt σ1 = some res → XG κ σ1 (pc + 3) lv st) : XG κ σ pc lv (.int v :: .ref (κ.S0 + i) :: st) :=
  x_put0 X hF he hi hl0 rfl rfl hd (e1 v) (Z.1 _ _) (Z.2.1 _ _) (Z.2.2 _ _) (kk _ hf)
theorem x_putZ (X : XC κ cc nL own ret F L) (Z : XZ κ) {index ci k i : Nat} (hF : FP own index ci k .boolean false) {fs : List Value} (he : κ.HP σ i = .inr (ci, fs)) (hi : i < κ.HC σ) (hl0 : k < fs.length) {w : Int32 → ST} (e1 : ∀ v, hset (κ.HP σ) i (.inr (ci, fs.set k (.int v))) = κ.HP (w v)) {v : Int32} {kt : ST → Option α} (hd : decode cc pc = .ok (.putfield index, 3)) (hf : oZ v w kt = some res) (kk : ∀ σ1, kt σ1 = some res → XG κ σ1 (pc + 3) lv st) : XG κ σ pc lv (.int v :: .ref (κ.S0 + i) :: st) := by
  unfold oZ at hf
  split at hf
  next h =>
    refine x_put0 X hF he hi hl0 ?_ ?_ hd (e1 v) (Z.1 _ _) (Z.2.1 _ _) (Z.2.2 _ _) (kk _ hf)
    · rcases h with rfl | rfl <;> rfl
    · rcases h with rfl | rfl <;> rfl
  next => cases hf
-- calls
def XCall (κ : XCtx ST) (σ : ST) (pc : Nat) (stk rest : List Value) (Qa : State → Outcome → State → Prop) (mc ms : Nat) : Prop :=
  ∀ (H : Heap) (locs : List Loc) (ls : Array Slot), XW κ.G κ.S0 (κ.HC σ) (κ.HP σ) H → ls.size = κ.nL → va_Run κ.p κ.l κ.e κ.R κ.s κ.m κ.args κ.below κ.meth κ.c H locs (κ.K σ) (κ.N σ) mc ms (F0 κ.m pc ls stk) rest Qa (XA κ.S0)
theorem x_callk {stk rest : List Value} {G : va_G} {av : Array Value} {c2 : Nat} {rv : Option Value} {h2 : Nat → va_E} {mc ms : Nat} (hc : XCall κ σ pc stk rest (XQ κ.G κ.S0 c2 rv h2 av) mc ms) (X : XC κ cc nL own ret F L) {σ1 : ST} (e1 : h2 = κ.HP σ1) (e2 : c2 = κ.HC σ1) (hle : κ.HC σ ≤ κ.HC σ1) (e3 : κ.K σ + mc = κ.K σ1) (e4 : κ.N σ + ms = κ.N σ1) (kk : XG κ σ1 (pc + 3) lv (rv.toList ++ rest)) : XG κ σ pc lv stk := by
  subst e1; subst e2
  intro H locs ls hW hS hl T hT XT
  obtain ⟨v, st₀, t, T', L', h0, X', hL, g1, g2, ⟨hv, hW1, hk⟩, stp⟩ := hc H locs ls hW hl.1 T hT XT
  cases hv
  rw [e3, e4] at X'
  rw [h0] at hk
  have hS0 : κ.S0 ≤ κ.s.heap.size := X.2.2.2.2.2.2.2.1
  have hS1 : va_S (XA κ.S0) κ.s.heap T'.heap (locs ++ L') := by
    refine ⟨?_, fun q h1 h2 => ?_, fun q hq => ?_⟩
    · rw [g1, hW1.1]
      have := hS.1
      rw [hW.1] at this
      omega
    · rw [g1, hk q (Nat.lt_of_not_le h2)]
      exact hS.2.1 q h1 h2
    · rcases List.mem_append.mp hq with h | h
      · exact hS.2.2 q h
      · exact hL q h
  rw [← g1] at hW1
  obtain ⟨t2, a1, b1⟩ := kk T'.heap _ ls hW1 hS1 hl T' rfl X'
  exact ⟨t2, stp t2 a1, b1⟩
theorem x_blind {G : va_G} {tys : List (ClassId × FieldType)} {S0 c : Nat} {h1 : Nat → va_E} {av : List Value} : FrameBlind (va_Pc av (fun U => XW G S0 c h1 U.heap ∧ XK G tys U)) := fun _ _ _ _ q => ⟨q.1, q.2.1, XK.calling q.2.2⟩
/-- what the tables say of a method that is called -/
def CM (y : MethodName) (n : Nat) (bytes : ByteArray) (maxL : Nat) (rt : Option FieldType) : Prop := Cond.initialized y.cls ∈ goodTbl ∧ Cond.code y bytes maxL rt ∈ goodTbl ∧ (y.cls ≠ "java/lang/invoke/MethodHandle" ∧ y.cls ≠ "java/lang/invoke/VarHandle" ∧ (parseMethodDescriptor y.desc).map (fun d => d.parameters.length) = some n)
theorem x_cb (X : XC κ cc nL own ret F L) {index n maxL F' L' mc ms : Nat} {y : MethodName} {bytes : ByteArray} {rt : Option FieldType} (hm : CM y n bytes maxL rt) (hl : Cond.methodLink own index y ∈ goodTbl) (hR : F' + 1 ≤ F ∧ 8 + (maxL + 11) + L' ≤ L) : CallB κ.R κ.s κ.args own index y bytes maxL rt (.code y bytes maxL rt :: goodTbl) { frames := F', cells := mc, slots := ms, locals := L' } mc ms n := by
  obtain ⟨-, -, -, -, -, hts, -, -, -, -, hF, hL⟩ := X
  exact callB_of n hts (goodIn_cons hm.2.1) rfl rfl rfl (hts _ hm.1) (hts _ hl) hm.2.2 ⟨Nat.le_trans hR.1 hF, Nat.le_trans hR.2 hL⟩
theorem x_cV (X : XC κ cc nL own ret F L) {index n ci maxL F' L' mc ms i c2 : Nat} {y : MethodName} {bytes : ByteArray} {rt : Option FieldType} {T : u_T} {N : Nat} {fs As stk rest : List Value} {rv : Option Value} {h2 : Nat → va_E}
    (hm : CM y n bytes maxL rt) (hlk : Cond.methodLink own index y ∈ goodTbl ∧ Cond.instanceMethod y ∈ goodTbl ∧ Cond.selects y.cls y y ∈ goodTbl) (hci : vwCl[ci]? = some (y.cls, T, N)) (hR : F' + 1 ≤ F ∧ 8 + (maxL + 11) + L' ≤ L) (he : κ.HP σ i = .inr (ci, fs)) (hi : i < κ.HC σ)
    (hM : XMet κ.l κ.G κ.tys κ.S0 (κ.HC σ) y bytes maxL rt F' L' (.ref (κ.S0 + i) :: As) (κ.HP σ) c2 rv h2 mc ms) (hn : As.length = n) (hst : stk = As.reverse ++ .ref (κ.S0 + i) :: rest) (hcat : (rest.map fun v => v.category).sum ≤ 8) (hf : κ.K σ + mc ≤ κ.R.cells ∧ κ.N σ + ms ≤ κ.R.slots) (hd : decode cc pc = .ok (.invokevirtual index, 3)) :
    XCall κ σ pc stk rest (XQ κ.G κ.S0 c2 rv h2 (Value.ref (κ.S0 + i) :: As).toArray) mc ms := by
  intro H locs ls hW hls
  have hcb := x_cb (mc := mc) (ms := ms) X hm hlk.1 hR
  obtain ⟨hx, hb, hml, hnl, hown, hts, hK, -⟩ := X
  refine va_runV (C := y.cls) ⟨hx, hb, hml, hown, hts⟩ hM ⟨hcb, hts _ hlk.2.1, hts _ hlk.2.2⟩ ⟨x_blind, ?_, fun U hU hWm => ⟨rfl, by rw [hU]; exact hW, hK.moved hWm⟩⟩ rfl hn (hls.trans hnl) hst (lv_room hcat) hd hf
  exact va_recv hK.1 hW.2 hci ((xw_get hi).trans (by rw [he]))
theorem x_cS (X : XC κ cc nL own ret F L) {index n maxL F' L' mc ms c2 : Nat} {y : MethodName} {bytes : ByteArray} {rt : Option FieldType} {As stk rest : List Value} {rv : Option Value} {h2 : Nat → va_E}
    (hm : CM y n bytes maxL rt) (hlk : Cond.methodLink own index y ∈ goodTbl ∧ Cond.static y ∈ goodTbl) (hR : F' + 1 ≤ F ∧ 8 + (maxL + 11) + L' ≤ L)
    (hM : XMet κ.l κ.G κ.tys κ.S0 (κ.HC σ) y bytes maxL rt F' L' As (κ.HP σ) c2 rv h2 mc ms) (hn : As.length = n) (hst : stk = As.reverse ++ rest) (hcat : (rest.map fun v => v.category).sum ≤ 8) (hf : κ.K σ + mc ≤ κ.R.cells ∧ κ.N σ + ms ≤ κ.R.slots) (hd : decode cc pc = .ok (.invokestatic index, 3)) :
    XCall κ σ pc stk rest (XQ κ.G κ.S0 c2 rv h2 As.toArray) mc ms := by
  intro H locs ls hW hls
  have hcb := x_cb (mc := mc) (ms := ms) X hm hlk.1 hR
  obtain ⟨hx, hb, hml, hnl, hown, hts, hK, -⟩ := X
  exact va_runS ⟨hx, hb, hml, hown, hts⟩ hM ⟨hcb, hts _ hlk.2⟩ ⟨x_blind, fun U hU hWm => ⟨rfl, by rw [hU]; exact hW, hK.moved hWm⟩⟩ rfl hn (hls.trans hnl) hst (lv_room hcat) hd hf
theorem x_cn (X : XC κ cc nL own ret F L) {index n maxL F' L' mc ms : Nat} {y : MethodName} {bytes : ByteArray} {rt : Option FieldType} (hm : CM y n bytes maxL rt) (hl : (own, index, y) ∈ nestL) (hR : F' + 1 ≤ F ∧ 8 + (maxL + 11) + L' ≤ L) : va_CN κ.R κ.s κ.args own index y "AppendZones" bytes maxL rt (.code y bytes maxL rt :: goodTbl) { frames := F', cells := mc, slots := ms, locals := L' } mc ms n := by
  obtain ⟨-, -, -, -, -, hts, hK, -, -, -, hF, hL⟩ := X
  exact va_cnB n hts (goodIn_cons hm.2.1) rfl rfl rfl (hK.2.1 _ hl) (hts _ hm.1) hm.2.2 ⟨Nat.le_trans hR.1 hF, Nat.le_trans hR.2 hL⟩
theorem x_cSN (X : XC κ cc nL own ret F L) {index n maxL F' L' mc ms c2 : Nat} {y : MethodName} {bytes : ByteArray} {rt : Option FieldType} {As stk rest : List Value} {rv : Option Value} {h2 : Nat → va_E}
    (hm : CM y n bytes maxL rt) (hlk : (own, index, y) ∈ nestL ∧ Cond.static y ∈ goodTbl) (hR : F' + 1 ≤ F ∧ 8 + (maxL + 11) + L' ≤ L)
    (hM : XMet κ.l κ.G κ.tys κ.S0 (κ.HC σ) y bytes maxL rt F' L' As (κ.HP σ) c2 rv h2 mc ms) (hn : As.length = n) (hst : stk = As.reverse ++ rest) (hcat : (rest.map fun v => v.category).sum ≤ 8) (hf : κ.K σ + mc ≤ κ.R.cells ∧ κ.N σ + ms ≤ κ.R.slots) (hd : decode cc pc = .ok (.invokestatic index, 3)) :
    XCall κ σ pc stk rest (XQ κ.G κ.S0 c2 rv h2 As.toArray) mc ms := by
  intro H locs ls hW hls
  have hcb := x_cn (mc := mc) (ms := ms) X hm hlk.1 hR
  obtain ⟨hx, hb, hml, hnl, hown, hts, hK, -⟩ := X
  exact va_runSN ⟨hx, hb, hml, hown, hts⟩ hM ⟨hcb, hts _ hlk.2, trivial⟩ ⟨x_blind, fun U hU hWm => ⟨rfl, by rw [hU]; exact hW, hK.moved hWm⟩⟩ rfl hn (hls.trans hnl) hst (lv_room hcat) hd hf
theorem x_cI (X : XC κ cc nL own ret F L) {index n maxL F' L' mc ms c2 i : Nat} {y : MethodName} {bytes : ByteArray} {As stk rest : List Value} {h2 : Nat → va_E} {rv : Option Value}
    (hm : CM y n bytes maxL none) (hlk : Cond.methodLink own index y ∈ goodTbl ∧ y.name = "<init>" ∧ Cond.instanceMethod y ∈ goodTbl) (hR : F' + 1 ≤ F ∧ 8 + (maxL + 11) + L' ≤ L)
    (hM : XMet κ.l κ.G κ.tys κ.S0 (κ.HC σ) y bytes maxL none F' L' (.ref i :: As) (κ.HP σ) c2 rv h2 mc ms) (hn : As.length = n) (hst : stk = As.reverse ++ .ref i :: rest) (hcat : (rest.map fun v => v.category).sum ≤ 8) (hf : κ.K σ + mc ≤ κ.R.cells ∧ κ.N σ + ms ≤ κ.R.slots) (hd : decode cc pc = .ok (.invokespecial index, 3)) :
    XCall κ σ pc stk rest (XQ κ.G κ.S0 c2 rv h2 (Value.ref i :: As).toArray) mc ms := by
  intro H locs ls hW hls
  have hcb := x_cb (mc := mc) (ms := ms) X hm hlk.1 hR
  obtain ⟨hx, hb, hml, hnl, hown, hts, hK, -⟩ := X
  exact va_runI ⟨hx, hb, hml, hown, hts⟩ hM ⟨hcb, hlk.2.1, hts _ hlk.2.2⟩ ⟨x_blind, fun U hU hWm => ⟨rfl, by rw [hU]; exact hW, hK.moved hWm⟩⟩ rfl hn (hls.trans hnl) hst (lv_room hcat) hd hf
theorem x_cIN (X : XC κ cc nL own ret F L) {index n maxL F' L' mc ms c2 i : Nat} {y : MethodName} {bytes : ByteArray} {As stk rest : List Value} {h2 : Nat → va_E} {rv : Option Value}
    (hm : CM y n bytes maxL none) (hlk : (own, index, y) ∈ nestL ∧ y.name = "<init>" ∧ Cond.instanceMethod y ∈ goodTbl) (hR : F' + 1 ≤ F ∧ 8 + (maxL + 11) + L' ≤ L)
    (hM : XMet κ.l κ.G κ.tys κ.S0 (κ.HC σ) y bytes maxL none F' L' (.ref i :: As) (κ.HP σ) c2 rv h2 mc ms) (hn : As.length = n) (hst : stk = As.reverse ++ .ref i :: rest) (hcat : (rest.map fun v => v.category).sum ≤ 8) (hf : κ.K σ + mc ≤ κ.R.cells ∧ κ.N σ + ms ≤ κ.R.slots) (hd : decode cc pc = .ok (.invokespecial index, 3)) :
    XCall κ σ pc stk rest (XQ κ.G κ.S0 c2 rv h2 (Value.ref i :: As).toArray) mc ms := by
  intro H locs ls hW hls
  have hcb := x_cn (mc := mc) (ms := ms) X hm hlk.1 hR
  obtain ⟨hx, hb, hml, hnl, hown, hts, hK, -⟩ := X
  exact va_runIN ⟨hx, hb, hml, hown, hts⟩ hM ⟨hcb, hlk.2.1, hts _ hlk.2.2⟩ ⟨x_blind, fun U hU hWm => ⟨rfl, by rw [hU]; exact hW, hK.moved hWm⟩⟩ rfl hn (hls.trans hnl) hst (lv_room hcat) hd hf
-- a call's answer goes on in the shallow word
theorem x_callR (X : XC κ cc nL own ret F L) {av : Array Value} {x : Option Int32} {k : Int32 → Option α} {stk rest : List Value} (hf : oR x k = some res) (hc : ∀ r, x = some r → XCall κ σ pc stk rest (XQ κ.G κ.S0 (κ.HC σ) (some (.int r)) (κ.HP σ) av) 0 0) (kk : ∀ r, k r = some res → XG κ σ (pc + 3) lv (.int r :: rest)) : XG κ σ pc lv stk := by
  cases x with
  | none => cases hf
  | some r => exact x_callk (G := κ.G) (hc r rfl) X rfl rfl (Nat.le_refl _) rfl rfl (kk r hf)
theorem x_callW (X : XC κ cc nL own ret F L) (Z : XZ κ) {ST' : Type} {av : Array Value} {x : Option (Int32 × ST')} {w : ST' → ST} {k : Int32 → ST → Option α} {stk rest : List Value} (hf : oW x w k = some res) (hc : ∀ r t, x = some (r, t) → XCall κ σ pc stk rest (XQ κ.G κ.S0 (κ.HC σ) (some (.int r)) (κ.HP (w t)) av) 0 0) (kk : ∀ r σ1, k r σ1 = some res → XG κ σ1 (pc + 3) lv (.int r :: rest)) : XG κ σ pc lv stk := by
  cases x with
  | none => cases hf
  | some r => exact x_callk (G := κ.G) (hc r.1 r.2 rfl) X rfl (Z.1 _ _) (Nat.le_of_eq (Z.1 _ _)) (Z.2.1 _ _) (Z.2.2 _ _) (kk r.1 _ hf)
theorem x_callV (X : XC κ cc nL own ret F L) (Z : XZ κ) {ST' : Type} {av : Array Value} {x : Option ST'} {w : ST' → ST} {k : ST → Option α} {stk rest : List Value} (hf : oV x w k = some res) (hc : ∀ t, x = some t → XCall κ σ pc stk rest (XQ κ.G κ.S0 (κ.HC σ) none (κ.HP (w t)) av) 0 0) (kk : ∀ σ1, k σ1 = some res → XG κ σ1 (pc + 3) lv rest) : XG κ σ pc lv stk := by
  cases x with
  | none => cases hf
  | some r => exact x_callk (G := κ.G) (hc r rfl) X rfl (Z.1 _ _) (Nat.le_of_eq (Z.1 _ _)) (Z.2.1 _ _) (Z.2.2 _ _) (kk _ hf)
theorem x_callD (X : XC κ cc nL own ret F L) (Z : XZ κ) {ST' : Type} {av : Array Value} {x : Option ST'} {w : ST' → ST} {k : ST → Option α} {stk rest : List Value} {a : Nat} (hf : oV x w k = some res) (hc : ∀ t, x = some t → XCall κ σ pc stk rest (XQ κ.G κ.S0 (κ.HC σ) (some (.ref a)) (κ.HP (w t)) av) 0 0) (kk : ∀ σ1, (∃ t, x = some t ∧ w t = σ1) → k σ1 = some res → XG κ σ1 (pc + 3) lv (.ref a :: rest)) : XG κ σ pc lv stk := by
  cases x with
  | none => cases hf
  | some r => exact x_callk (G := κ.G) (hc r rfl) X rfl (Z.1 _ _) (Nat.le_of_eq (Z.1 _ _)) (Z.2.1 _ _) (Z.2.2 _ _) (kk _ ⟨r, rfl, rfl⟩ hf)
-- ends
theorem x_qf {c2 : Nat} {rv : Option Value} {h2 : Nat → va_E} (X : XC κ cc nL own ret F L) {H : Heap} {locs : List Loc} (hW : XW κ.G κ.S0 c2 h2 H) (hS : va_S (XA κ.S0) κ.s.heap H locs) : ∀ t : State, t.heap = H → κ.s.WarmedH t.vm → XQ κ.G κ.S0 c2 rv h2 κ.args κ.s (.returned rv) t := by
  intro t ht _
  refine ⟨rfl, by rw [ht]; exact hW, fun q hq => ?_⟩
  rw [ht]
  exact hS.2.1 q (Nat.lt_of_lt_of_le hq X.2.2.2.2.2.2.2.1) (Nat.not_le.mpr hq)
theorem x_iret0 {c2 mc ms : Nat} {h2 : Nat → va_E} {v : Int32} {ty : FieldType} (X : XC κ cc nL own (some ty) F L) (hQ : XR κ c2 (some (.int v)) h2 mc ms) (hn : narrow ty (.int v) = .int v) (e1 : κ.HP σ = h2) (e2 : κ.HC σ = c2) (hk : κ.K σ ≤ mc ∧ κ.N σ ≤ ms) (hd : decode cc pc = .ok (.ireturn, 1)) : XG κ σ pc lv [.int v] := by
  intro H locs ls hW hS hl
  rw [show κ.Q = _ from hQ]
  rw [e1, e2] at hW
  exact W.widen hk.1 hk.2 (W.zret X.1 X.2.1 X.2.2.2.2.2.2.2.2.2.1 hn (x_qf X hW hS) (fun q hq => hS.2.2 q hq) hd X.2.2.2.2.2.2.2.2.1)
theorem x_vret0 {c2 mc ms : Nat} {h2 : Nat → va_E} (X : XC κ cc nL own none F L) (hQ : XR κ c2 none h2 mc ms) (e1 : κ.HP σ = h2) (e2 : κ.HC σ = c2) (hk : κ.K σ ≤ mc ∧ κ.N σ ≤ ms) (hd : decode cc pc = .ok (.return_, 1)) : XG κ σ pc lv [] := by
  intro H locs ls hW hS hl
  rw [show κ.Q = _ from hQ]
  rw [e1, e2] at hW
  exact W.widen hk.1 hk.2 (W.vret X.1 X.2.1 X.2.2.2.2.2.2.2.2.2.1 (x_qf X hW hS) (fun q hq => hS.2.2 q hq) hd X.2.2.2.2.2.2.2.2.1)
/-- what a body without new cells has at its end: the answer and the state -/
def XE (κ : XCtx ST) : Prop := XZ κ ∧ ∀ σ, κ.K σ = 0 ∧ κ.N σ = 0
theorem x_iretR {r v : Int32} {σ0 : ST} (X : XC κ cc nL own (some .int) F L) (E : XE κ) (hQ : XR κ (κ.HC σ0) (some (.int r)) (κ.HP σ) 0 0) (hf : some v = some r) (hd : decode cc pc = .ok (.ireturn, 1)) : XG κ σ pc lv [.int v] := by
  cases hf
  exact x_iret0 X hQ rfl rfl (E.1.1 _ _) ⟨Nat.le_of_eq (E.2 _).1, Nat.le_of_eq (E.2 _).2⟩ hd
theorem x_zretR {r v : Int32} {σ0 : ST} (X : XC κ cc nL own (some .boolean) F L) (E : XE κ) (hQ : XR κ (κ.HC σ0) (some (.int r)) (κ.HP σ) 0 0) (hf : oB v = some r) (hd : decode cc pc = .ok (.ireturn, 1)) : XG κ σ pc lv [.int v] := by
  unfold oB at hf
  split at hf
  next h =>
    cases hf
    refine x_iret0 X hQ ?_ rfl (E.1.1 _ _) ⟨Nat.le_of_eq (E.2 _).1, Nat.le_of_eq (E.2 _).2⟩ hd
    rcases h with rfl | rfl <;> rfl
  next => cases hf
theorem x_cretR {r v : Int32} {σ0 : ST} (X : XC κ cc nL own (some .char) F L) (E : XE κ) (hQ : XR κ (κ.HC σ0) (some (.int r)) (κ.HP σ) 0 0) (hf : oC v = some r) (hd : decode cc pc = .ok (.ireturn, 1)) : XG κ σ pc lv [.int v] := by
  unfold oC at hf
  split at hf
  next h =>
    cases hf
    refine x_iret0 X hQ ?_ rfl (E.1.1 _ _) ⟨Nat.le_of_eq (E.2 _).1, Nat.le_of_eq (E.2 _).2⟩ hd
    exact congrArg Value.int h
  next => cases hf
theorem x_iretW {r v : Int32} {σ0 σ1 : ST} (X : XC κ cc nL own (some .int) F L) (E : XE κ) (hQ : XR κ (κ.HC σ0) (some (.int r)) (κ.HP σ1) 0 0) (hf : some (v, σ) = some (r, σ1)) (hd : decode cc pc = .ok (.ireturn, 1)) : XG κ σ pc lv [.int v] := by
  cases hf
  exact x_iret0 X hQ rfl rfl (E.1.1 _ _) ⟨Nat.le_of_eq (E.2 _).1, Nat.le_of_eq (E.2 _).2⟩ hd
theorem x_zretW {r v : Int32} {σ0 σ1 : ST} (X : XC κ cc nL own (some .boolean) F L) (E : XE κ) (hQ : XR κ (κ.HC σ0) (some (.int r)) (κ.HP σ1) 0 0) (hf : (oB v).map (fun x => (x, σ)) = some (r, σ1)) (hd : decode cc pc = .ok (.ireturn, 1)) : XG κ σ pc lv [.int v] := by
  unfold oB at hf
  split at hf
  next h =>
    cases hf
    refine x_iret0 X hQ ?_ rfl (E.1.1 _ _) ⟨Nat.le_of_eq (E.2 _).1, Nat.le_of_eq (E.2 _).2⟩ hd
    rcases h with rfl | rfl <;> rfl
  next => cases hf
theorem x_vretV {σ0 σ1 : ST} (X : XC κ cc nL own none F L) (E : XE κ) (hQ : XR κ (κ.HC σ0) none (κ.HP σ1) 0 0) (hf : some σ = some σ1) (hd : decode cc pc = .ok (.return_, 1)) : XG κ σ pc lv [] := by
  cases hf
  exact x_vret0 X hQ rfl (E.1.1 _ _) ⟨Nat.le_of_eq (E.2 _).1, Nat.le_of_eq (E.2 _).2⟩ hd
end ROWS2
/-- a method's contract out of its body -/
theorem XMet.of {ST : Type} (HC : ST → Nat) (HP : ST → Nat → va_E) (K N : ST → Nat) {l : Launch} {G : va_G} {tys : List (ClassId × FieldType)} {S0 c2 nL F L mc ms : Nat} {y : MethodName} {bytes : ByteArray} {rt : Option FieldType} {av : List Value} {rv : Option Value} {h2 : Nat → va_E} (σ0 : ST) (hy : plainName y.cls = true) (hk : K σ0 = 0 ∧ N σ0 = 0) (hlen : (lg_sl av).length ≤ nL)
    (body : ∀ κ : XCtx ST, κ.HC = HC → κ.HP = HP → κ.K = K → κ.N = N → κ.l = l → κ.G = G → κ.tys = tys → κ.S0 = S0 → κ.R.cells = mc → κ.R.slots = ms → κ.meth.name = y.name → XC κ bytes nL y.cls rt F L → XR κ c2 rv h2 mc ms → XG κ σ0 0 (lv_args 0 av) []) :
    XMet l G tys S0 (HC σ0) y bytes nL rt F L av (HP σ0) c2 rv h2 mc ms := by
  refine Met.ofW (cc := bytes) (maxL := nL) (ret := rt) hy rfl ?_
  intro p e s m args below meth c s₁ B hml hv
  obtain ⟨rfl, hW, hK⟩ := hv
  have hts := atoms_spec (ws := .code y bytes nL rt :: goodTbl) B.pre
  have hs0 : S0 ≤ s.heap.size := by rw [hW.1]; exact Nat.le_add_right _ _
  have hl := lv_entry av (n := nL) hlen
  rw [lg_entry_eq]
  have key := body (p, l, e, (headSpec (.code y bytes nL rt :: goodTbl) { frames := F, cells := mc, slots := ms, locals := L }).room, s, m, av.toArray, below, meth, c, nL, G, tys, S0, HC, HP, K, N, MQ below (XQ G S0 c2 rv h2) av.toArray s mc ms (XA S0)) rfl rfl rfl rfl rfl rfl rfl rfl rfl rfl (name_of_methodNamed B.named B.method).1
    ⟨B.exec, B.bytes, hml, rfl, findClass_of_methodNamed B.named, fun w hw => hts w (List.mem_cons_of_mem _ hw), hK, hs0, B.notSynchronized, B.returns, Nat.le_refl _, Nat.le_refl _⟩ rfl s.heap [] _ hW va_S.rf hl
  have e1 : XCtx.K (p, l, e, (headSpec (.code y bytes nL rt :: goodTbl) { frames := F, cells := mc, slots := ms, locals := L }).room, s, m, av.toArray, below, meth, c, nL, G, tys, S0, HC, HP, K, N, MQ below (XQ G S0 c2 rv h2) av.toArray s mc ms (XA S0)) σ0 = 0 := hk.1
  have e2 : XCtx.N (p, l, e, (headSpec (.code y bytes nL rt :: goodTbl) { frames := F, cells := mc, slots := ms, locals := L }).room, s, m, av.toArray, below, meth, c, nL, G, tys, S0, HC, HP, K, N, MQ below (XQ G S0 c2 rv h2) av.toArray s mc ms (XA S0)) σ0 = 0 := hk.2
  rw [e1, e2] at key
  exact key
