/-! THE LAYER: one world for a whole run; cell i of it lies at the address S0 + i. A judgement XG over a state of any type, of which HP tells the cells. -/
def goodTbl : List Cond := lw_tbl.filter goodWord
theorem mem_good {w : Cond} (i : Nat) (h : lw_tbl[i]? = some w) (hg : goodWord w = true) : w ∈ goodTbl := List.mem_filter.mpr ⟨List.mem_of_getElem? h, hg⟩
theorem good_all : ∀ w ∈ goodTbl, (w.onTables && w.keeps) = true ∨ ∃ ty, w = .arrayClass ty := fun _ h => good_of_word (List.mem_filter.mp h).2
theorem goodIn_cons {w : Cond} (h : w ∈ goodTbl) : GoodIn goodTbl (w :: goodTbl) := fun x hx => by
  rcases List.mem_cons.mp hx with e | hx
  · subst e; exact ⟨h, good_all _ h⟩
  · exact ⟨hx, good_all _ hx⟩
/-- the words of calls between nest mates: they are no words of the tables that keep of themselves -/
def nestL : List (String × Nat × MethodName) := [(RX0, 52, yX5_copy), (RX3, 11, yX0_init), (RX3, 52, yX5_copy), (RX3, 72, yX5_isFrom), (RX3, 86, yX5_isZone), (RX3, 99, yX5_isWriter), (RX4, 46, yX5_copy), (RX5, 32, yX2_init)]
-- worlds
def hset (h : Nat → va_E) (i : Nat) (v : va_E) : Nat → va_E := fun j => if j = i then v else h j
def xw (S0 c : Nat) (h : Nat → va_E) : va_W := (List.range c).map (fun i => (S0 + i, h i))
theorem xw_get {S0 c i : Nat} {h : Nat → va_E} (hi : i < c) : (xw S0 c h)[i]? = some (S0 + i, h i) := by
  unfold xw
  rw [List.getElem?_map, List.getElem?_range hi]
  rfl
theorem xw_lt {S0 c k : Nat} {h : Nat → va_E} {q : Nat × va_E} (hq : (xw S0 c h)[k]? = some q) : k < c ∧ q = (S0 + k, h k) := by
  have hk : k < c := by
    have := (List.getElem?_eq_some_iff.mp hq).1
    simpa [xw] using this
  rw [xw_get hk] at hq
  exact ⟨hk, (Option.some.inj hq).symm⟩
theorem xw_none {S0 c k : Nat} {h : Nat → va_E} (hk : c ≤ k) : (xw S0 c h)[k]? = none := by
  rw [List.getElem?_eq_none_iff]
  simpa [xw] using hk
theorem xw_set {S0 c i : Nat} {h : Nat → va_E} {v : va_E} (hi : i < c) : (xw S0 c h).set i (S0 + i, v) = xw S0 c (hset h i v) := by
  apply List.ext_getElem?
  intro k
  rcases Nat.lt_or_ge k c with hk | hk
  · rw [xw_get hk]
    by_cases hki : k = i
    · subst hki
      rw [List.getElem?_set_self (by simpa [xw] using hk)]
      simp [hset]
    · rw [List.getElem?_set_ne (Ne.symm hki), xw_get hk]
      simp [hset, hki]
  · rw [xw_none hk, List.getElem?_eq_none_iff]
    simpa [xw] using hk
theorem xw_push {S0 c : Nat} {h : Nat → va_E} {v : va_E} : xw S0 c h ++ [(S0 + c, v)] = xw S0 (c + 1) (hset h c v) := by
  apply List.ext_getElem?
  intro k
  have hlen : (xw S0 c h).length = c := by simp [xw]
  rcases Nat.lt_or_ge k c with hk | hk
  · rw [List.getElem?_append_left (by rw [hlen]; exact hk), xw_get hk, xw_get (Nat.lt_succ_of_lt hk)]
    simp [hset, Nat.ne_of_lt hk]
  · rw [List.getElem?_append_right (by rw [hlen]; exact hk), hlen]
    rcases Nat.eq_or_lt_of_le hk with rfl | hk2
    · rw [xw_get (Nat.lt_succ_self _)]
      simp [hset]
    · rw [xw_none hk2, List.getElem?_eq_none_iff]
      simp
      omega
def XA (S0 : Nat) : Nat → Prop := fun q => S0 ≤ q
theorem xw_D {S0 c : Nat} {h : Nat → va_E} : va_D (XA S0) (xw S0 c h) := by
  refine ⟨fun i j p q hp hq e => ?_, fun k q hq => ?_⟩
  · obtain ⟨-, rfl⟩ := xw_lt hp
    obtain ⟨-, rfl⟩ := xw_lt hq
    exact Nat.add_left_cancel e
  · obtain ⟨-, rfl⟩ := xw_lt hq
    exact Nat.le_add_right _ _
def XW (G : va_G) (S0 c : Nat) (h : Nat → va_E) (H : Heap) : Prop := H.size = S0 + c ∧ va_P G vwCl (xw S0 c h) H
theorem XW.set {G : va_G} {S0 c i : Nat} {h : Nat → va_E} {v : va_E} {H H1 : Heap} (hs : H1.size = S0 + c) (hi : i < c) (hP : va_P G vwCl ((xw S0 c h).set i (S0 + i, v)) H1) : XW G S0 c (hset h i v) H1 := ⟨hs, by rw [← xw_set hi]; exact hP⟩
/-- what of the machine's tables is carried from method to method -/
def XK (G : va_G) (tys : List (ClassId × FieldType)) (U : State) : Prop := va_K G vwCl tys U ∧ (∀ q ∈ nestL, va_Nw (.methodLinkNest q.1 q.2.1 q.2.2 "AppendZones") U) ∧ va_AO "AppendZones$State" U
theorem XK.moved {G : va_G} {tys : List (ClassId × FieldType)} {s U : State} (hW : s.WarmedH U.vm) (h : XK G tys s) : XK G tys U :=
  ⟨va_K.moved hW.alike h.1, fun q hq => va_Nw.warmM hW (h.2.1 q hq), va_AO.moved hW.alike h.2.2⟩
theorem XK.calling {G : va_G} {tys : List (ClassId × FieldType)} {U : State} {g : JFrame} {mk : MethodId} {a : Array Value} (h : XK G tys U) : XK G tys (U.calling g mk a) :=
  ⟨va_K.moved (u := U) (U := U.calling g mk a) (Vm.Alike.refl U.vm) h.1, fun q hq => va_Nw.same rfl rfl (h.2.1 q hq), va_AO.moved (u := U) (U := U.calling g mk a) (Vm.Alike.refl U.vm) h.2.2⟩
/-- a method's end: what it answers, and the world behind it -/
def XQ (G : va_G) (S0 c2 : Nat) (rv : Option Value) (h2 : Nat → va_E) : Array Value → State → Outcome → State → Prop := fun _ st oc t => oc = .returned rv ∧ XW G S0 c2 h2 t.heap ∧ ∀ q, q < S0 → t.heap[q]? = st.heap[q]?
/-- the contract of a method at one state: from the cells h1 it comes to the cells h2, and answers rv -/
def XMet (l : Launch) (G : va_G) (tys : List (ClassId × FieldType)) (S0 c : Nat) (y : MethodName) (bytes : ByteArray) (maxL : Nat) (ret : Option FieldType) (F L : Nat) (av : List Value) (h1 : Nat → va_E) (c2 : Nat) (rv : Option Value) (h2 : Nat → va_E) (mc ms : Nat) : Prop :=
  Met l y (.code y bytes maxL ret :: goodTbl) { frames := F, cells := mc, slots := ms, locals := L } (va_Pc av (fun U => XW G S0 c h1 U.heap ∧ XK G tys U)) (XQ G S0 c2 rv h2) mc ms (XA S0)
-- the fixed things of a method's body
def XCtx (ST : Type) : Type := Program × Launch × Env × Room × State × MethodId × Array Value × List Frame × Method × Code × Nat × va_G × List (ClassId × FieldType) × Nat × (ST → Nat) × (ST → Nat → va_E) × (ST → Nat) × (ST → Nat) × (State → Prop)
section CTX
variable {ST : Type}
def XCtx.p (κ : XCtx ST) : Program := κ.1
def XCtx.l (κ : XCtx ST) : Launch := κ.2.1
def XCtx.e (κ : XCtx ST) : Env := κ.2.2.1
def XCtx.R (κ : XCtx ST) : Room := κ.2.2.2.1
def XCtx.s (κ : XCtx ST) : State := κ.2.2.2.2.1
def XCtx.m (κ : XCtx ST) : MethodId := κ.2.2.2.2.2.1
def XCtx.args (κ : XCtx ST) : Array Value := κ.2.2.2.2.2.2.1
def XCtx.below (κ : XCtx ST) : List Frame := κ.2.2.2.2.2.2.2.1
def XCtx.meth (κ : XCtx ST) : Method := κ.2.2.2.2.2.2.2.2.1
def XCtx.c (κ : XCtx ST) : Code := κ.2.2.2.2.2.2.2.2.2.1
def XCtx.nL (κ : XCtx ST) : Nat := κ.2.2.2.2.2.2.2.2.2.2.1
def XCtx.G (κ : XCtx ST) : va_G := κ.2.2.2.2.2.2.2.2.2.2.2.1
def XCtx.tys (κ : XCtx ST) : List (ClassId × FieldType) := κ.2.2.2.2.2.2.2.2.2.2.2.2.1
def XCtx.S0 (κ : XCtx ST) : Nat := κ.2.2.2.2.2.2.2.2.2.2.2.2.2.1
def XCtx.HC (κ : XCtx ST) : ST → Nat := κ.2.2.2.2.2.2.2.2.2.2.2.2.2.2.1
def XCtx.HP (κ : XCtx ST) : ST → Nat → va_E := κ.2.2.2.2.2.2.2.2.2.2.2.2.2.2.2.1
def XCtx.K (κ : XCtx ST) : ST → Nat := κ.2.2.2.2.2.2.2.2.2.2.2.2.2.2.2.2.1
def XCtx.N (κ : XCtx ST) : ST → Nat := κ.2.2.2.2.2.2.2.2.2.2.2.2.2.2.2.2.2.1
def XCtx.Q (κ : XCtx ST) : State → Prop := κ.2.2.2.2.2.2.2.2.2.2.2.2.2.2.2.2.2.2
end CTX
/-- what holds all through a method's body: the machine, the code, the tables -/
def XC {ST : Type} (κ : XCtx ST) (cc : ByteArray) (nL : Nat) (own : String) (ret : Option FieldType) (F L : Nat) : Prop :=
  κ.p.tables.exec = Jvm.exec ∧ κ.c.code = cc ∧ κ.c.maxLocals = nL ∧ κ.nL = nL ∧ κ.s.vm.findClass own = some κ.m.cls ∧ (∀ w ∈ goodTbl, w.before κ.args κ.s = true) ∧ XK κ.G κ.tys κ.s ∧ κ.S0 ≤ κ.s.heap.size ∧ κ.meth.locks = false ∧ κ.meth.sig.returnType = ret ∧ F ≤ κ.R.frames ∧ L ≤ κ.R.locals
def XR {ST : Type} (κ : XCtx ST) (c2 : Nat) (rv : Option Value) (h2 : Nat → va_E) (mc ms : Nat) : Prop := κ.Q = MQ κ.below (XQ κ.G κ.S0 c2 rv h2) κ.args κ.s mc ms (XA κ.S0)
/-- the judgement: from the state σ, the frame at pc with the locals lv and the stack st comes to its goal -/
def XG {ST : Type} (κ : XCtx ST) (σ : ST) (pc : Nat) (lv : List (Nat × Value)) (st : List Value) : Prop :=
  ∀ (H : Heap) (locs : List Loc) (ls : Array Slot), XW κ.G κ.S0 (κ.HC σ) (κ.HP σ) H → va_S (XA κ.S0) κ.s.heap H locs → lv_has ls κ.nL lv → W κ.p κ.l κ.e κ.R κ.s κ.m κ.args κ.below κ.meth κ.c H locs (κ.K σ) (κ.N σ) κ.Q (F0 κ.m pc ls st)
-- the shallow words
def oA {α : Type} (n : Nat) (f : Nat → Int32) (j : Int32) (k : Int32 → Option α) : Option α := if ¬ (j < 0 ∨ n ≤ j.toNatClampNeg) then k (f j.toNatClampNeg) else none
def oS {ST α : Type} (n : Nat) (f : Nat → Int32) (j x : Int32) (w : (Nat → Int32) → ST) (k : ST → Option α) : Option α := if ¬ (j < 0 ∨ n ≤ j.toNatClampNeg) then k (w (upd f j.toNatClampNeg x)) else none
def oN {ST α : Type} (v : Int32) (w : Int32 → ST) (k : ST → Option α) : Option α := k (w v)
def oZ {ST α : Type} (v : Int32) (w : Int32 → ST) (k : ST → Option α) : Option α := if v = 0 ∨ v = 1 then k (w v) else none
def oR {β α : Type} (x : Option β) (k : β → Option α) : Option α := match x with
  | none => none
  | some r => k r
def oW {ST ST' α : Type} (x : Option (Int32 × ST')) (w : ST' → ST) (k : Int32 → ST → Option α) : Option α := match x with
  | none => none
  | some r => k r.1 (w r.2)
def oV {ST ST' α : Type} (x : Option ST') (w : ST' → ST) (k : ST → Option α) : Option α := match x with
  | none => none
  | some r => k (w r)
def oJ {κ α : Type} (r : κ) (b : κ → Option α) : Option α := b r
def oB (v : Int32) : Option Int32 := if v = 0 ∨ v = 1 then some v else none
def oC (v : Int32) : Option Int32 := if vp_nar .char v = v then some v else none
section ROWS
variable {ST α : Type} {κ : XCtx ST} {cc : ByteArray} {nL : Nat} {own : String} {ret : Option FieldType} {F L pc : Nat} {σ : ST} {lv lv' : List (Nat × Value)} {st : List Value} {res : α}
theorem x_iconst (X : XC κ cc nL own ret F L) {n : Int} {v : Int32} (hd : decode cc pc = .ok (.iconst n, 1)) (hv : Int32.ofInt n = v) (kk : XG κ σ (pc + 1) lv (.int v :: st)) : XG κ σ pc lv st :=
  fun H locs ls hW hS hl => lv_iconst X.1 X.2.1 hd hv (kk H locs ls hW hS hl)
theorem x_bipush (X : XC κ cc nL own ret F L) {n : Int} {v : Int32} (hd : decode cc pc = .ok (.bipush n, 2)) (hv : (Int8.ofInt n).toInt32 = v) (kk : XG κ σ (pc + 2) lv (.int v :: st)) : XG κ σ pc lv st :=
  fun H locs ls hW hS hl => lv_bipush X.1 X.2.1 hd hv (kk H locs ls hW hS hl)
theorem x_sipush (X : XC κ cc nL own ret F L) {n : Int} {v : Int32} (hd : decode cc pc = .ok (.sipush n, 3)) (hv : (Int16.ofInt n).toInt32 = v) (kk : XG κ σ (pc + 3) lv (.int v :: st)) : XG κ σ pc lv st :=
  fun H locs ls hW hS hl => lv_sipush X.1 X.2.1 hd hv (kk H locs ls hW hS hl)
theorem x_iload_n (X : XC κ cc nL own ret F L) {k : Fin 4} {i : Nat} {x : Int32} (hd : decode cc pc = .ok (.iload_n k, 1)) (hi : (k : Nat) = i) (q : Nat) (hq : lv[q]? = some (i, .int x)) (kk : XG κ σ (pc + 1) lv (.int x :: st)) : XG κ σ pc lv st :=
  fun H locs ls hW hS hl => lv_iload_n X.1 X.2.1 hd hi (lv_at hl q hq) (kk H locs ls hW hS hl)
theorem x_iload (X : XC κ cc nL own ret F L) {i : Nat} {x : Int32} (hd : decode cc pc = .ok (.iload i, 2)) (q : Nat) (hq : lv[q]? = some (i, .int x)) (kk : XG κ σ (pc + 2) lv (.int x :: st)) : XG κ σ pc lv st :=
  fun H locs ls hW hS hl => lv_iload X.1 X.2.1 hd (lv_at hl q hq) (kk H locs ls hW hS hl)
theorem x_aload_n (X : XC κ cc nL own ret F L) {k : Fin 4} {i x : Nat} (hd : decode cc pc = .ok (.aload_n k, 1)) (hi : (k : Nat) = i) (q : Nat) (hq : lv[q]? = some (i, .ref x)) (kk : XG κ σ (pc + 1) lv (.ref x :: st)) : XG κ σ pc lv st :=
  fun H locs ls hW hS hl => lv_aload_n X.1 X.2.1 hd hi (lv_at hl q hq) (kk H locs ls hW hS hl)
theorem x_istore_n (X : XC κ cc nL own ret F L) {k : Fin 4} {i : Nat} {x : Int32} (hd : decode cc pc = .ok (.istore_n k, 1)) (hi : (k : Nat) = i) (hn : i < nL) (hl' : (i, Value.int x) :: lv.filter (fun q => !(q.1 == i) && !(q.1 + 1 == i && q.2.category == 2)) = lv') (kk : XG κ σ (pc + 1) lv' st) : XG κ σ pc lv (.int x :: st) :=
  fun H locs ls hW hS hl => lv_istore_n X.1 X.2.1 hd hi hl (by rw [X.2.2.2.1]; exact hn) hl' (fun ls' h' => kk H locs ls' hW hS h')
theorem x_istore (X : XC κ cc nL own ret F L) {i : Nat} {x : Int32} (hd : decode cc pc = .ok (.istore i, 2)) (hn : i < nL) (hl' : (i, Value.int x) :: lv.filter (fun q => !(q.1 == i) && !(q.1 + 1 == i && q.2.category == 2)) = lv') (kk : XG κ σ (pc + 2) lv' st) : XG κ σ pc lv (.int x :: st) :=
  fun H locs ls hW hS hl => lv_istore X.1 X.2.1 hd hl (by rw [X.2.2.2.1]; exact hn) hl' (fun ls' h' => kk H locs ls' hW hS h')
theorem x_astore_n (X : XC κ cc nL own ret F L) {k : Fin 4} {i x : Nat} (hd : decode cc pc = .ok (.astore_n k, 1)) (hi : (k : Nat) = i) (hn : i < nL) (hl' : (i, Value.ref x) :: lv.filter (fun q => !(q.1 == i) && !(q.1 + 1 == i && q.2.category == 2)) = lv') (kk : XG κ σ (pc + 1) lv' st) : XG κ σ pc lv (.ref x :: st) :=
  fun H locs ls hW hS hl => lv_astore_n X.1 X.2.1 hd hi hl (by rw [X.2.2.2.1]; exact hn) hl' (fun ls' h' => kk H locs ls' hW hS h')
theorem x_iinc (X : XC κ cc nL own ret F L) {i : Nat} {n : Int} {x v : Int32} (hd : decode cc pc = .ok (.iinc i n, 3)) (q : Nat) (hq : lv[q]? = some (i, .int x)) (hv : x + Int32.ofInt n = v) (hn : i < nL) (hl' : (i, Value.int v) :: lv.filter (fun q => !(q.1 == i) && !(q.1 + 1 == i && q.2.category == 2)) = lv') (kk : XG κ σ (pc + 3) lv' st) : XG κ σ pc lv st :=
  fun H locs ls hW hS hl => lv_iinc X.1 X.2.1 hd hl hq hv (by rw [X.2.2.2.1]; exact hn) hl' (fun ls' h' => kk H locs ls' hW hS h')
theorem x_sub (ks : List Nat) (hl' : lv_pick lv ks = lv') (kk : XG κ σ pc lv' st) : XG κ σ pc lv st :=
  fun H locs ls hW hS hl => kk H locs ls hW hS (lv_sub hl ks hl')
theorem x_iadd (X : XC κ cc nL own ret F L) {x y : Int32} (hd : decode cc pc = .ok (.iadd, 1)) (kk : XG κ σ (pc + 1) lv (.int (x + y) :: st)) : XG κ σ pc lv (.int y :: .int x :: st) :=
  fun H locs ls hW hS hl => lv_iadd X.1 X.2.1 hd (kk H locs ls hW hS hl)
theorem x_isub (X : XC κ cc nL own ret F L) {x y : Int32} (hd : decode cc pc = .ok (.isub, 1)) (kk : XG κ σ (pc + 1) lv (.int (x - y) :: st)) : XG κ σ pc lv (.int y :: .int x :: st) :=
  fun H locs ls hW hS hl => lv_isub X.1 X.2.1 hd (kk H locs ls hW hS hl)
theorem x_imul (X : XC κ cc nL own ret F L) {x y : Int32} (hd : decode cc pc = .ok (.imul, 1)) (kk : XG κ σ (pc + 1) lv (.int (x * y) :: st)) : XG κ σ pc lv (.int y :: .int x :: st) :=
  fun H locs ls hW hS hl => lv_imul X.1 X.2.1 hd (kk H locs ls hW hS hl)
theorem x_iand (X : XC κ cc nL own ret F L) {x y : Int32} (hd : decode cc pc = .ok (.iand, 1)) (kk : XG κ σ (pc + 1) lv (.int (x &&& y) :: st)) : XG κ σ pc lv (.int y :: .int x :: st) :=
  fun H locs ls hW hS hl => lv_iand X.1 X.2.1 hd (kk H locs ls hW hS hl)
theorem x_ior (X : XC κ cc nL own ret F L) {x y : Int32} (hd : decode cc pc = .ok (.ior, 1)) (kk : XG κ σ (pc + 1) lv (.int (x ||| y) :: st)) : XG κ σ pc lv (.int y :: .int x :: st) :=
  fun H locs ls hW hS hl => lv_ior X.1 X.2.1 hd (kk H locs ls hW hS hl)
theorem x_irem (X : XC κ cc nL own ret F L) {x y : Int32} (hd : decode cc pc = .ok (.irem, 1)) (hne : ¬ y = 0) (kk : XG κ σ (pc + 1) lv (.int (x - x / y * y) :: st)) : XG κ σ pc lv (.int y :: .int x :: st) :=
  fun H locs ls hW hS hl => lv_irem X.1 X.2.1 hd hne (kk H locs ls hW hS hl)
theorem x_ishl (X : XC κ cc nL own ret F L) {x y : Int32} (hd : decode cc pc = .ok (.ishl, 1)) (kk : XG κ σ (pc + 1) lv (.int (x <<< (y &&& 31)) :: st)) : XG κ σ pc lv (.int y :: .int x :: st) :=
  fun H locs ls hW hS hl => lv_ishl X.1 X.2.1 hd (kk H locs ls hW hS hl)
theorem x_i2c (X : XC κ cc nL own ret F L) {x : Int32} (hd : decode cc pc = .ok (.i2c, 1)) (kk : XG κ σ (pc + 1) lv (.int (x.toUInt32 % 65536).toInt32 :: st)) : XG κ σ pc lv (.int x :: st) :=
  fun H locs ls hW hS hl => lv_i2c X.1 X.2.1 hd rfl (kk H locs ls hW hS hl)
theorem x_dup (X : XC κ cc nL own ret F L) {v : Value} (hd : decode cc pc = .ok (.dup, 1)) (hv : v.category = 1) (kk : XG κ σ (pc + 1) lv (v :: v :: st)) : XG κ σ pc lv (v :: st) :=
  fun H locs ls hW hS hl => lv_dup X.1 X.2.1 hd hv (kk H locs ls hW hS hl)
theorem x_dup2 (X : XC κ cc nL own ret F L) {v w : Value} (hd : decode cc pc = .ok (.dup2, 1)) (hv : v.category = 1) (hw : w.category = 1) (kk : XG κ σ (pc + 1) lv (v :: w :: v :: w :: st)) : XG κ σ pc lv (v :: w :: st) :=
  fun H locs ls hW hS hl => lv_dup2_11 X.1 X.2.1 hd hv hw (kk H locs ls hW hS hl)
theorem x_pop (X : XC κ cc nL own ret F L) {v : Value} (hd : decode cc pc = .ok (.pop, 1)) (hv : v.category = 1) (kk : XG κ σ (pc + 1) lv st) : XG κ σ pc lv (v :: st) :=
  fun H locs ls hW hS hl => lv_pop X.1 X.2.1 hd hv (kk H locs ls hW hS hl)
theorem x_goto (X : XC κ cc nL own ret F L) {off : Int} {tgt : Nat} (hd : decode cc pc = .ok (.goto off, 3)) (ht : (pc : Int) + off = (tgt : Int)) (kk : XG κ σ tgt lv st) : XG κ σ pc lv st :=
  fun H locs ls hW hS hl => lv_goto X.1 X.2.1 hd ht (kk H locs ls hW hS hl)
-- branches: the shallow word's own 'if' goes along
theorem x_if {P : Prop} [Decidable P] {a b : Option α} {G : Prop} (hf : (if P then a else b) = some res) (kt : P → a = some res → G) (kf : ¬ P → b = some res → G) : G := by
  by_cases h : P
  · rw [if_pos h] at hf; exact kt h hf
  · rw [if_neg h] at hf; exact kf h hf
theorem x_if_eq (X : XC κ cc nL own ret F L) {x : Int32} {off : Int} {tgt : Nat} {a b : Option α} (hd : decode cc pc = .ok (.ifCond .eq off, 3)) (ht : (pc : Int) + off = (tgt : Int)) (hf : (if x = 0 then a else b) = some res) (kt : a = some res → XG κ σ tgt lv st) (kf : b = some res → XG κ σ (pc + 3) lv st) : XG κ σ pc lv (.int x :: st) :=
  fun H locs ls hW hS hl => lv_if_eq X.1 X.2.1 hd ht (fun h => kt (by rwa [if_pos h] at hf) H locs ls hW hS hl) (fun h => kf (by rwa [if_neg h] at hf) H locs ls hW hS hl)
theorem x_if_ne (X : XC κ cc nL own ret F L) {x : Int32} {off : Int} {tgt : Nat} {a b : Option α} (hd : decode cc pc = .ok (.ifCond .ne off, 3)) (ht : (pc : Int) + off = (tgt : Int)) (hf : (if x = 0 then b else a) = some res) (kt : a = some res → XG κ σ tgt lv st) (kf : b = some res → XG κ σ (pc + 3) lv st) : XG κ σ pc lv (.int x :: st) :=
  fun H locs ls hW hS hl => lv_if_ne X.1 X.2.1 hd ht (fun h => kt (by rwa [if_neg h] at hf) H locs ls hW hS hl) (fun h => kf (by rwa [if_pos h] at hf) H locs ls hW hS hl)
theorem x_if_lt (X : XC κ cc nL own ret F L) {x : Int32} {off : Int} {tgt : Nat} {a b : Option α} (hd : decode cc pc = .ok (.ifCond .lt off, 3)) (ht : (pc : Int) + off = (tgt : Int)) (hf : (if x < 0 then a else b) = some res) (kt : a = some res → XG κ σ tgt lv st) (kf : b = some res → XG κ σ (pc + 3) lv st) : XG κ σ pc lv (.int x :: st) :=
  fun H locs ls hW hS hl => lv_if_lt X.1 X.2.1 hd ht (fun h => kt (by rwa [if_pos h] at hf) H locs ls hW hS hl) (fun h => kf (by rwa [if_neg h] at hf) H locs ls hW hS hl)
theorem x_if_ge (X : XC κ cc nL own ret F L) {x : Int32} {off : Int} {tgt : Nat} {a b : Option α} (hd : decode cc pc = .ok (.ifCond .ge off, 3)) (ht : (pc : Int) + off = (tgt : Int)) (hf : (if 0 ≤ x then a else b) = some res) (kt : a = some res → XG κ σ tgt lv st) (kf : b = some res → XG κ σ (pc + 3) lv st) : XG κ σ pc lv (.int x :: st) :=
  fun H locs ls hW hS hl => lv_if_ge X.1 X.2.1 hd ht (fun h => kt (by rwa [if_pos h] at hf) H locs ls hW hS hl) (fun h => kf (by rwa [if_neg h] at hf) H locs ls hW hS hl)
theorem x_if_gt (X : XC κ cc nL own ret F L) {x : Int32} {off : Int} {tgt : Nat} {a b : Option α} (hd : decode cc pc = .ok (.ifCond .gt off, 3)) (ht : (pc : Int) + off = (tgt : Int)) (hf : (if 0 < x then a else b) = some res) (kt : a = some res → XG κ σ tgt lv st) (kf : b = some res → XG κ σ (pc + 3) lv st) : XG κ σ pc lv (.int x :: st) :=
  fun H locs ls hW hS hl => lv_if_gt X.1 X.2.1 hd ht (fun h => kt (by rwa [if_pos h] at hf) H locs ls hW hS hl) (fun h => kf (by rwa [if_neg h] at hf) H locs ls hW hS hl)
theorem x_if_le (X : XC κ cc nL own ret F L) {x : Int32} {off : Int} {tgt : Nat} {a b : Option α} (hd : decode cc pc = .ok (.ifCond .le off, 3)) (ht : (pc : Int) + off = (tgt : Int)) (hf : (if x ≤ 0 then a else b) = some res) (kt : a = some res → XG κ σ tgt lv st) (kf : b = some res → XG κ σ (pc + 3) lv st) : XG κ σ pc lv (.int x :: st) :=
  fun H locs ls hW hS hl => lv_if_le X.1 X.2.1 hd ht (fun h => kt (by rwa [if_pos h] at hf) H locs ls hW hS hl) (fun h => kf (by rwa [if_neg h] at hf) H locs ls hW hS hl)
theorem x_icmp_eq (X : XC κ cc nL own ret F L) {x y : Int32} {off : Int} {tgt : Nat} {a b : Option α} (hd : decode cc pc = .ok (.if_icmp .eq off, 3)) (ht : (pc : Int) + off = (tgt : Int)) (hf : (if x = y then a else b) = some res) (kt : a = some res → XG κ σ tgt lv st) (kf : b = some res → XG κ σ (pc + 3) lv st) : XG κ σ pc lv (.int y :: .int x :: st) :=
  fun H locs ls hW hS hl => lv_icmp_eq X.1 X.2.1 hd ht (fun h => kt (by rwa [if_pos h] at hf) H locs ls hW hS hl) (fun h => kf (by rwa [if_neg h] at hf) H locs ls hW hS hl)
theorem x_icmp_ne (X : XC κ cc nL own ret F L) {x y : Int32} {off : Int} {tgt : Nat} {a b : Option α} (hd : decode cc pc = .ok (.if_icmp .ne off, 3)) (ht : (pc : Int) + off = (tgt : Int)) (hf : (if x = y then b else a) = some res) (kt : a = some res → XG κ σ tgt lv st) (kf : b = some res → XG κ σ (pc + 3) lv st) : XG κ σ pc lv (.int y :: .int x :: st) :=
  fun H locs ls hW hS hl => lv_icmp_ne X.1 X.2.1 hd ht (fun h => kt (by rwa [if_neg h] at hf) H locs ls hW hS hl) (fun h => kf (by rwa [if_pos h] at hf) H locs ls hW hS hl)
theorem x_icmp_lt (X : XC κ cc nL own ret F L) {x y : Int32} {off : Int} {tgt : Nat} {a b : Option α} (hd : decode cc pc = .ok (.if_icmp .lt off, 3)) (ht : (pc : Int) + off = (tgt : Int)) (hf : (if x < y then a else b) = some res) (kt : a = some res → XG κ σ tgt lv st) (kf : b = some res → XG κ σ (pc + 3) lv st) : XG κ σ pc lv (.int y :: .int x :: st) :=
  fun H locs ls hW hS hl => lv_icmp_lt X.1 X.2.1 hd ht (fun h => kt (by rwa [if_pos h] at hf) H locs ls hW hS hl) (fun h => kf (by rwa [if_neg h] at hf) H locs ls hW hS hl)
theorem x_icmp_ge (X : XC κ cc nL own ret F L) {x y : Int32} {off : Int} {tgt : Nat} {a b : Option α} (hd : decode cc pc = .ok (.if_icmp .ge off, 3)) (ht : (pc : Int) + off = (tgt : Int)) (hf : (if y ≤ x then a else b) = some res) (kt : a = some res → XG κ σ tgt lv st) (kf : b = some res → XG κ σ (pc + 3) lv st) : XG κ σ pc lv (.int y :: .int x :: st) :=
  fun H locs ls hW hS hl => lv_icmp_ge X.1 X.2.1 hd ht (fun h => kt (by rwa [if_pos h] at hf) H locs ls hW hS hl) (fun h => kf (by rwa [if_neg h] at hf) H locs ls hW hS hl)
theorem x_icmp_gt (X : XC κ cc nL own ret F L) {x y : Int32} {off : Int} {tgt : Nat} {a b : Option α} (hd : decode cc pc = .ok (.if_icmp .gt off, 3)) (ht : (pc : Int) + off = (tgt : Int)) (hf : (if y < x then a else b) = some res) (kt : a = some res → XG κ σ tgt lv st) (kf : b = some res → XG κ σ (pc + 3) lv st) : XG κ σ pc lv (.int y :: .int x :: st) :=
  fun H locs ls hW hS hl => lv_icmp_gt X.1 X.2.1 hd ht (fun h => kt (by rwa [if_pos h] at hf) H locs ls hW hS hl) (fun h => kf (by rwa [if_neg h] at hf) H locs ls hW hS hl)
theorem x_icmp_le (X : XC κ cc nL own ret F L) {x y : Int32} {off : Int} {tgt : Nat} {a b : Option α} (hd : decode cc pc = .ok (.if_icmp .le off, 3)) (ht : (pc : Int) + off = (tgt : Int)) (hf : (if x ≤ y then a else b) = some res) (kt : a = some res → XG κ σ tgt lv st) (kf : b = some res → XG κ σ (pc + 3) lv st) : XG κ σ pc lv (.int y :: .int x :: st) :=
  fun H locs ls hW hS hl => lv_icmp_le X.1 X.2.1 hd ht (fun h => kt (by rwa [if_pos h] at hf) H locs ls hW hS hl) (fun h => kf (by rwa [if_neg h] at hf) H locs ls hW hS hl)
theorem x_tabIn (X : XC κ cc nL own ret F L) {dflt lo hi : Int} {offs : Array Int} {len : Nat} {x : Int32} {off : Int} {tgt : Nat} (hd : decode cc pc = .ok (.tableswitch dflt lo hi offs, len)) (h1 : ¬ x.toInt < lo) (h2 : ¬ hi < x.toInt) (ho : offs[(x.toInt - lo).toNat]? = some off) (ht : (pc : Int) + off = (tgt : Int)) (kk : XG κ σ tgt lv st) : XG κ σ pc lv (.int x :: st) :=
  fun H locs ls hW hS hl => lv_tableIn X.1 X.2.1 hd h1 h2 ho ht (kk H locs ls hW hS hl)
theorem x_tabOut (X : XC κ cc nL own ret F L) {dflt lo hi : Int} {offs : Array Int} {len : Nat} {x : Int32} {tgt : Nat} (hd : decode cc pc = .ok (.tableswitch dflt lo hi offs, len)) (h : x.toInt < lo ∨ hi < x.toInt) (ht : (pc : Int) + dflt = (tgt : Int)) (kk : XG κ σ tgt lv st) : XG κ σ pc lv (.int x :: st) :=
  fun H locs ls hW hS hl => lv_tableOut X.1 X.2.1 hd h ht (kk H locs ls hW hS hl)
theorem x_lookup (X : XC κ cc nL own ret F L) {dflt : Int} {ps : Array (Int × Int)} {len : Nat} {x : Int32} {off : Int} {tgt : Nat} (hd : decode cc pc = .ok (.lookupswitch dflt ps, len)) (hp : (ps.toList.zip (ps.toList.drop 1)).all (fun (a, next) => a.1 < next.1) = true) (ho : Op.lookupswitch.offset ps.toList dflt x.toInt = off) (ht : (pc : Int) + off = (tgt : Int)) (kk : XG κ σ tgt lv st) : XG κ σ pc lv (.int x :: st) :=
  fun H locs ls hW hS hl => lv_lookup X.1 X.2.1 hd hp ho ht (kk H locs ls hW hS hl)
theorem x_join {κ' : Type} {r : κ'} {b : κ' → Option α} {G : Prop} (P : κ' → Prop) (hf : oJ r b = some res) (h1 : P r) (h2 : ∀ k, P k → b k = some res → G) : G := h2 r h1 hf
-- fields
def FL (own : String) (index ci k : Nat) : Prop := ∃ (C : String) (T : u_T) (N : Nat), vwCl[ci]? = some (C, T, N) ∧ (∀ w ∈ u_ws C T N, w ∈ goodTbl) ∧ k < N ∧ Cond.fieldLink own index (T k).1 (T k).2.1 (T k).2.2.1 ∈ goodTbl
theorem x_getf (X : XC κ cc nL own ret F L) {index ci k i : Nat} (hF : FL own index ci k) {fs : List Value} {v : Value} (he : κ.HP σ i = .inr (ci, fs)) (hi : i < κ.HC σ) (hv : fs[k]? = some v) (hd : decode cc pc = .ok (.getfield index, 3)) (kk : XG κ σ (pc + 3) lv (v :: st)) : XG κ σ pc lv (.ref (κ.S0 + i) :: st) := by
  intro H locs ls hW hS hl
  obtain ⟨hx, hb, -, -, hown, hts, hK, -⟩ := X
  obtain ⟨C, T, N, hc, hin, hk, hlk⟩ := hF
  exact va_get hx hb hts hin hown hK.1 hW.2 i ((xw_get hi).trans (by rw [he])) hc k hk (hts _ hlk) (fun _ h => h) hv hd (kk H locs ls hW hS hl)
def FP (own : String) (index ci k : Nat) (ty : FieldType) (fin : Bool) : Prop := ∃ (C : String) (T : u_T) (N : Nat) (ty0 : Nat → FieldType), vwCl[ci]? = some (C, T, N) ∧ (∀ w ∈ u_ws C T N, w ∈ goodTbl) ∧ (∀ k, k < N → parseFieldDescriptor (T k).2.2.1 = some (ty0 k)) ∧ (∀ a, a < N → ∀ b, b < N → a ≠ b → (T a).2.1 ≠ (T b).2.1) ∧ k < N ∧ Cond.fieldLink own index (T k).1 (T k).2.1 (T k).2.2.1 ∈ goodTbl ∧ (T k).2.2.2 = fin ∧ (T k).1 = C ∧ parseFieldDescriptor (T k).2.2.1 = some ty
/-- behind a store into cell i -/
theorem XW.put {G : va_G} {S0 c i : Nat} {h : Nat → va_E} {v : va_E} {H H1 : Heap} (hW : XW G S0 c h H) (hi : i < c) (he : va_at G vwCl (S0 + i, v) H1) (hz : H1.size = H.size) (hq : ∀ q, q ≠ S0 + i → H1[q]? = H[q]?) : XW G S0 c (hset h i v) H1 :=
  ⟨hz.trans hW.1, by rw [← xw_set hi]; exact va_P.set hW.2 (xw_D (S0 := S0)) (xw_get hi) he hq⟩
theorem va_S.putA {S0 : Nat} {H0 H H1 : Heap} {locs : List Loc} {i k : Nat} (h : va_S (XA S0) H0 H locs) (z : H1.size = H.size) (oq : ∀ q : Nat, q ≠ S0 + i → H1[q]? = H[q]?) : va_S (XA S0) H0 H1 (locs ++ [⟨S0 + i, k⟩]) := va_S.put h z oq (Nat.le_add_right _ _)
theorem x_put0 (X : XC κ cc nL own ret F L) {index ci k i : Nat} {ty : FieldType} (hF : FP own index ci k ty false) {fs : List Value} {v : Value} (he : κ.HP σ i = .inr (ci, fs)) (hi : i < κ.HC σ) (hl0 : k < fs.length) (hn : narrow ty v = v) (hfit : fits ty v = true) (hd : decode cc pc = .ok (.putfield index, 3)) {σ1 : ST} (e1 : hset (κ.HP σ) i (.inr (ci, fs.set k v)) = κ.HP σ1) (e2 : κ.HC σ1 = κ.HC σ) (e3 : κ.K σ1 = κ.K σ) (e4 : κ.N σ1 = κ.N σ) (kk : XG κ σ1 (pc + 3) lv st) : XG κ σ pc lv (v :: .ref (κ.S0 + i) :: st) := by
  intro H locs ls hW hS hl
  obtain ⟨hx, hb, -, -, hown, hts, ⟨hK, -⟩, -⟩ := X
  obtain ⟨C, T, N, ty0, hc, hin, hty, hnm, hk, hlk, hfin, hdecl, hde⟩ := hF
  have hap := va_apart (own := own) hts hin ty0 hty hnm hK hc
  have hat := hW.2 i _ (xw_get hi)
  rw [he] at hat
  obtain ⟨r, h1, cell, q1, q2, q3, q4⟩ := hat
  have hr : r = (C, T, N) := Option.some.inj (h1.symm.trans hc)
  subst hr
  obtain ⟨hSl, hfc, kC, hkC, hkind⟩ := hK.1 ci _ hc
  obtain ⟨cf, kf, fi, f, hfi, hsl⟩ := hSl k hk
  have hlay := hts _ (hin _ (u_in_lay hk))
  unfold u_lay at hlay
  rw [if_neg (by rw [hfin]; decide)] at hlay
  have hst := (u_facts hfc hkC (u_lays hts hin hk) hfi).1
  have h6 := u_store hfc hkC hkind hlay hfi hde hn hfit
  refine W.putK hx hb (f := f) ⟨hown, hts _ hlk, ⟨_, _, _, hfi⟩, hst⟩ (by rw [q2]; exact h6) q1 q3 (by rw [hsl]; exact k2_hasslot (q4 k hk)) rfl rfl hd fun H1 g1 g2 g3 => ?_
  rw [hsl] at g1 ⊢
  have hW1 : XW κ.G κ.S0 (κ.HC σ) (hset (κ.HP σ) i (.inr (ci, fs.set k v))) H1 := hW.put hi ⟨_, hc, t_OB.to (V := updV (vp_V fs) k v) ⟨_, g1, q2, q3, t_set q4 hap hk v⟩ (fun j _ => vp_updV_set hl0 v j)⟩ g2 g3
  have hS1 := hS.putA (k := κ.G.2 ci k) g2 g3
  rw [e1, ← e2] at hW1
  have hg := kk H1 _ ls hW1 hS1 hl
  rw [e3, e4] at hg
  exact hg
theorem x_putF0 (X : XC κ cc nL own ret F L) {index ci k i : Nat} {ty : FieldType} (hF : FP own index ci k ty true) (hin2 : κ.meth.name = "<init>") (hownC : ∀ C T N, vwCl[ci]? = some (C, T, N) → C = own) {fs : List Value} {v : Value} (he : κ.HP σ i = .inr (ci, fs)) (hi : i < κ.HC σ) (hl0 : k < fs.length) (hn : narrow ty v = v) (hfit : fits ty v = true) (hd : decode cc pc = .ok (.putfield index, 3)) {σ1 : ST} (e1 : hset (κ.HP σ) i (.inr (ci, fs.set k v)) = κ.HP σ1) (e2 : κ.HC σ1 = κ.HC σ) (e3 : κ.K σ1 = κ.K σ) (e4 : κ.N σ1 = κ.N σ) (kk : XG κ σ1 (pc + 3) lv st) : XG κ σ pc lv (v :: .ref (κ.S0 + i) :: st) := by
  intro H locs ls hW hS hl
  obtain ⟨hx, hb, -, -, hown, hts, ⟨hK, -⟩, -⟩ := X
  obtain ⟨C, T, N, ty0, hc, hin, hty, hnm, hk, hlk, hfin, hdecl, hde⟩ := hF
  have hap := va_apart (own := own) hts hin ty0 hty hnm hK hc
  have hat := hW.2 i _ (xw_get hi)
  rw [he] at hat
  obtain ⟨r, h1, cell, q1, q2, q3, q4⟩ := hat
  have hr : r = (C, T, N) := Option.some.inj (h1.symm.trans hc)
  subst hr
  obtain ⟨hSl, hfc, kC, hkC, hkind⟩ := hK.1 ci _ hc
  obtain ⟨cf, kf, fi, f, hfi, hsl⟩ := hSl k hk
  have hlay := hts _ (hin _ (u_in_lay hk))
  unfold u_lay at hlay
  rw [if_pos hfin] at hlay
  have hst := (u_facts hfc hkC (u_lays hts hin hk) hfi).1
  have hcf : κ.m.cls = cf := by
    obtain ⟨_, _, c', _, _, _, -, -, hf', -, -, -, hown2, -⟩ := Cond.laysFinal_spec hlay
    have e1 : c' = cf := by have := hfi.symm.trans hf'; simp at this; exact this.1.symm
    rw [hdecl, hownC C T N hc] at hown2
    rw [← e1]; exact Option.some.inj (hown.symm.trans hown2)
  have h6 := u_fits hfc hkC hkind (Or.inr hlay) hfi hde hn hfit
  refine W.putFinK hx hb hown (hts _ hlk) hfi hst hcf hin2 (by rw [q2]; exact h6) q1 q3 (by rw [hsl]; exact k2_hasslot (q4 k hk)) rfl rfl hd fun H1 g1 g2 g3 => ?_
  rw [hsl] at g1 ⊢
  have hW1 : XW κ.G κ.S0 (κ.HC σ) (hset (κ.HP σ) i (.inr (ci, fs.set k v))) H1 := hW.put hi ⟨_, hc, t_OB.to (V := updV (vp_V fs) k v) ⟨_, g1, q2, q3, t_set q4 hap hk v⟩ (fun j _ => vp_updV_set hl0 v j)⟩ g2 g3
  have hS1 := hS.putA (k := κ.G.2 ci k) g2 g3
  rw [e1, ← e2] at hW1
  have hg := kk H1 _ ls hW1 hS1 hl
  rw [e3, e4] at hg
  exact hg
theorem x_iast0 (X : XC κ cc nL own ret F L) {i : Nat} {cA : ClassId} {n : Nat} {f : Nat → Int32} (t0 : Nat) (ht : κ.tys[t0]? = some (cA, .int)) (he : κ.HP σ i = .inl (cA, n, .inl f)) (hi : i < κ.HC σ) {j x : Int32} (hin : ¬ (j < 0 ∨ n ≤ j.toNatClampNeg)) (hd : decode cc pc = .ok (.iastore, 1)) {σ1 : ST} (e1 : hset (κ.HP σ) i (.inl (cA, n, .inl (upd f j.toNatClampNeg (x)))) = κ.HP σ1) (e2 : κ.HC σ1 = κ.HC σ) (e3 : κ.K σ1 = κ.K σ) (e4 : κ.N σ1 = κ.N σ) (kk : XG κ σ1 (pc + 1) lv st) : XG κ σ pc lv (.int x :: .int j :: .ref (κ.S0 + i) :: st) := by
  intro H locs ls hW hS hl
  obtain ⟨hx, hb, -, -, hown, hts, ⟨hK, -⟩, -⟩ := X
  have hat := hW.2 i _ (xw_get hi)
  rw [he] at hat
  refine W.iast hx hb hat ((hK.2 t0 _ ht).1 n (fun j => .int (f j))) (fun q => by cases q) (by show ¬ (j < 0 ∨ (arrV _ _ _).slots.size ≤ _); rw [arrV_size]; exact hin) rfl rfl hd fun H1 g1 g2 g3 => ?_
  have hW1 : XW κ.G κ.S0 (κ.HC σ) (hset (κ.HP σ) i (.inl (cA, n, .inl (upd f j.toNatClampNeg (x))))) H1 := by
    refine hW.put hi ?_ g2 g3
    show H1[κ.S0 + i]? = some (vp_cell _ _)
    rw [g1]
    rw [vp_cell_i, vp_cell_i, arrV_store]
    congr 2
    funext q
    by_cases hq : q = j.toNatClampNeg
    · subst hq
      simp [updV, upd, vp_nar]
      try rfl
    · simp [updV, upd, hq]
  have hS1 := hS.putA (k := j.toNatClampNeg) g2 g3
  rw [e1, ← e2] at hW1
  have hg := kk H1 _ ls hW1 hS1 hl
  rw [e3, e4] at hg
  exact hg
theorem x_zast0 (X : XC κ cc nL own ret F L) {i : Nat} {cA : ClassId} {n : Nat} {f : Nat → Int32} (t0 : Nat) (ht : κ.tys[t0]? = some (cA, .boolean)) (he : κ.HP σ i = .inl (cA, n, .inl f)) (hi : i < κ.HC σ) {j x : Int32} (hin : ¬ (j < 0 ∨ n ≤ j.toNatClampNeg)) (hd : decode cc pc = .ok (.bastore, 1)) {σ1 : ST} (e1 : hset (κ.HP σ) i (.inl (cA, n, .inl (upd f j.toNatClampNeg (vp_nar .boolean x)))) = κ.HP σ1) (e2 : κ.HC σ1 = κ.HC σ) (e3 : κ.K σ1 = κ.K σ) (e4 : κ.N σ1 = κ.N σ) (kk : XG κ σ1 (pc + 1) lv st) : XG κ σ pc lv (.int x :: .int j :: .ref (κ.S0 + i) :: st) := by
  intro H locs ls hW hS hl
  obtain ⟨hx, hb, -, -, hown, hts, ⟨hK, -⟩, -⟩ := X
  have hat := hW.2 i _ (xw_get hi)
  rw [he] at hat
  refine W.zast hx hb hat ((hK.2 t0 _ ht).1 n (fun j => .int (f j))) (fun q => by cases q) (by show ¬ (j < 0 ∨ (arrV _ _ _).slots.size ≤ _); rw [arrV_size]; exact hin) rfl rfl hd fun H1 g1 g2 g3 => ?_
  have hW1 : XW κ.G κ.S0 (κ.HC σ) (hset (κ.HP σ) i (.inl (cA, n, .inl (upd f j.toNatClampNeg (vp_nar .boolean x))))) H1 := by
    refine hW.put hi ?_ g2 g3
    show H1[κ.S0 + i]? = some (vp_cell _ _)
    rw [g1]
    rw [vp_cell_i, vp_cell_i, arrV_store]
    congr 2
    funext q
    by_cases hq : q = j.toNatClampNeg
    · subst hq
      simp [updV, upd, vp_nar]
      try rfl
    · simp [updV, upd, hq]
  have hS1 := hS.putA (k := j.toNatClampNeg) g2 g3
  rw [e1, ← e2] at hW1
  have hg := kk H1 _ ls hW1 hS1 hl
  rw [e3, e4] at hg
  exact hg
theorem x_cast0 (X : XC κ cc nL own ret F L) {i : Nat} {cA : ClassId} {n : Nat} {f : Nat → Int32} (t0 : Nat) (ht : κ.tys[t0]? = some (cA, .char)) (he : κ.HP σ i = .inl (cA, n, .inl f)) (hi : i < κ.HC σ) {j x : Int32} (hin : ¬ (j < 0 ∨ n ≤ j.toNatClampNeg)) (hd : decode cc pc = .ok (.castore, 1)) {σ1 : ST} (e1 : hset (κ.HP σ) i (.inl (cA, n, .inl (upd f j.toNatClampNeg (vp_nar .char x)))) = κ.HP σ1) (e2 : κ.HC σ1 = κ.HC σ) (e3 : κ.K σ1 = κ.K σ) (e4 : κ.N σ1 = κ.N σ) (kk : XG κ σ1 (pc + 1) lv st) : XG κ σ pc lv (.int x :: .int j :: .ref (κ.S0 + i) :: st) := by
  intro H locs ls hW hS hl
  obtain ⟨hx, hb, -, -, hown, hts, ⟨hK, -⟩, -⟩ := X
  have hat := hW.2 i _ (xw_get hi)
  rw [he] at hat
  refine W.cast hx hb hat ((hK.2 t0 _ ht).1 n (fun j => .int (f j))) (fun q => by cases q) (by show ¬ (j < 0 ∨ (arrV _ _ _).slots.size ≤ _); rw [arrV_size]; exact hin) rfl rfl hd fun H1 g1 g2 g3 => ?_
  have hW1 : XW κ.G κ.S0 (κ.HC σ) (hset (κ.HP σ) i (.inl (cA, n, .inl (upd f j.toNatClampNeg (vp_nar .char x))))) H1 := by
    refine hW.put hi ?_ g2 g3
    show H1[κ.S0 + i]? = some (vp_cell _ _)
    rw [g1]
    rw [vp_cell_i, vp_cell_i, arrV_store]
    congr 2
    funext q
    by_cases hq : q = j.toNatClampNeg
    · subst hq
      simp [updV, upd, vp_nar]
      try rfl
    · simp [updV, upd, hq]
  have hS1 := hS.putA (k := j.toNatClampNeg) g2 g3
  rw [e1, ← e2] at hW1
  have hg := kk H1 _ ls hW1 hS1 hl
  rw [e3, e4] at hg
  exact hg
theorem x_iald0 (X : XC κ cc nL own ret F L) {i : Nat} {cA : ClassId} {n : Nat} {f : Nat → Int32} (t0 : Nat) (ht : κ.tys[t0]? = some (cA, .int)) (he : κ.HP σ i = .inl (cA, n, .inl f)) (hi : i < κ.HC σ) {j : Int32} (hin : ¬ (j < 0 ∨ n ≤ j.toNatClampNeg)) (hd : decode cc pc = .ok (.iaload, 1)) (kk : XG κ σ (pc + 1) lv (.int (f j.toNatClampNeg) :: st)) : XG κ σ pc lv (.int j :: .ref (κ.S0 + i) :: st) := by
  intro H locs ls hW hS hl
  obtain ⟨hx, hb, -, -, hown, hts, ⟨hK, -⟩, -⟩ := X
  exact va_iald hx hb hK hW.2 i t0 ((xw_get hi).trans (by rw [he])) ht hin hd (kk H locs ls hW hS hl)
theorem x_zald0 (X : XC κ cc nL own ret F L) {i : Nat} {cA : ClassId} {n : Nat} {f : Nat → Int32} (t0 : Nat) (ht : κ.tys[t0]? = some (cA, .boolean)) (he : κ.HP σ i = .inl (cA, n, .inl f)) (hi : i < κ.HC σ) {j : Int32} (hin : ¬ (j < 0 ∨ n ≤ j.toNatClampNeg)) (hd : decode cc pc = .ok (.baload, 1)) (kk : XG κ σ (pc + 1) lv (.int (f j.toNatClampNeg) :: st)) : XG κ σ pc lv (.int j :: .ref (κ.S0 + i) :: st) := by
  intro H locs ls hW hS hl
  obtain ⟨hx, hb, -, -, hown, hts, ⟨hK, -⟩, -⟩ := X
  exact va_zald hx hb hK hW.2 i t0 ((xw_get hi).trans (by rw [he])) ht hin hd (kk H locs ls hW hS hl)
theorem x_cald0 (X : XC κ cc nL own ret F L) {i : Nat} {cA : ClassId} {n : Nat} {f : Nat → Int32} (t0 : Nat) (ht : κ.tys[t0]? = some (cA, .char)) (he : κ.HP σ i = .inl (cA, n, .inl f)) (hi : i < κ.HC σ) {j : Int32} (hin : ¬ (j < 0 ∨ n ≤ j.toNatClampNeg)) (hd : decode cc pc = .ok (.caload, 1)) (kk : XG κ σ (pc + 1) lv (.int (f j.toNatClampNeg) :: st)) : XG κ σ pc lv (.int j :: .ref (κ.S0 + i) :: st) := by
  intro H locs ls hW hS hl
  obtain ⟨hx, hb, -, -, hown, hts, ⟨hK, -⟩, -⟩ := X
  exact va_cald hx hb hK hW.2 i t0 ((xw_get hi).trans (by rw [he])) ht hin hd (kk H locs ls hW hS hl)
end ROWS
