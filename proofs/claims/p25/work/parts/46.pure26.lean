/-! PURE: the words of the reference step by step: indices and literals -/
theorem rA0 {α : Type} {a : Nat} {K : Int32 → Option α} : oR (f_X6_ofAppend (nI a) 0) K = K (nI (194 + 9 * a)) := by rw [show f_X6_ofAppend (nI a) 0 = some (nI (194 + 9 * a)) from w_ofAppend a 0, oR_some]
theorem rA1 {α : Type} {a : Nat} {K : Int32 → Option α} : oR (f_X6_ofAppend (nI a) 1) K = K (nI (194 + 9 * a + 1)) := by rw [show f_X6_ofAppend (nI a) 1 = some (nI (194 + 9 * a + 1)) from w_ofAppend a 1, oR_some]
theorem rA2 {α : Type} {a : Nat} {K : Int32 → Option α} : oR (f_X6_ofAppend (nI a) 2) K = K (nI (194 + 9 * a + 2)) := by rw [show f_X6_ofAppend (nI a) 2 = some (nI (194 + 9 * a + 2)) from w_ofAppend a 2, oR_some]
theorem rA3 {α : Type} {a : Nat} {K : Int32 → Option α} : oR (f_X6_ofAppend (nI a) 3) K = K (nI (194 + 9 * a + 3)) := by rw [show f_X6_ofAppend (nI a) 3 = some (nI (194 + 9 * a + 3)) from w_ofAppend a 3, oR_some]
theorem rA4 {α : Type} {a : Nat} {K : Int32 → Option α} : oR (f_X6_ofAppend (nI a) 4) K = K (nI (194 + 9 * a + 4)) := by rw [show f_X6_ofAppend (nI a) 4 = some (nI (194 + 9 * a + 4)) from w_ofAppend a 4, oR_some]
theorem rA5 {α : Type} {a : Nat} {K : Int32 → Option α} : oR (f_X6_ofAppend (nI a) 5) K = K (nI (194 + 9 * a + 5)) := by rw [show f_X6_ofAppend (nI a) 5 = some (nI (194 + 9 * a + 5)) from w_ofAppend a 5, oR_some]
theorem rA6 {α : Type} {a : Nat} {K : Int32 → Option α} : oR (f_X6_ofAppend (nI a) 6) K = K (nI (194 + 9 * a + 6)) := by rw [show f_X6_ofAppend (nI a) 6 = some (nI (194 + 9 * a + 6)) from w_ofAppend a 6, oR_some]
theorem rA7 {α : Type} {a : Nat} {K : Int32 → Option α} : oR (f_X6_ofAppend (nI a) 7) K = K (nI (194 + 9 * a + 7)) := by rw [show f_X6_ofAppend (nI a) 7 = some (nI (194 + 9 * a + 7)) from w_ofAppend a 7, oR_some]
theorem rA8 {α : Type} {a : Nat} {K : Int32 → Option α} : oR (f_X6_ofAppend (nI a) 8) K = K (nI (194 + 9 * a + 8)) := by rw [show f_X6_ofAppend (nI a) 8 = some (nI (194 + 9 * a + 8)) from w_ofAppend a 8, oR_some]
theorem rZ0 {α : Type} {z : Nat} {K : Int32 → Option α} : oR (f_X6_of (nI z) 0) K = K (nI (10 + 22 * z)) := by rw [show f_X6_of (nI z) 0 = some (nI (10 + 22 * z)) from w_of z 0, oR_some]
theorem rZ1 {α : Type} {z : Nat} {K : Int32 → Option α} : oR (f_X6_of (nI z) 1) K = K (nI (10 + 22 * z + 1)) := by rw [show f_X6_of (nI z) 1 = some (nI (10 + 22 * z + 1)) from w_of z 1, oR_some]
theorem rZ2 {α : Type} {z : Nat} {K : Int32 → Option α} : oR (f_X6_of (nI z) 2) K = K (nI (10 + 22 * z + 2)) := by rw [show f_X6_of (nI z) 2 = some (nI (10 + 22 * z + 2)) from w_of z 2, oR_some]
theorem rZ3 {α : Type} {z : Nat} {K : Int32 → Option α} : oR (f_X6_of (nI z) 3) K = K (nI (10 + 22 * z + 3)) := by rw [show f_X6_of (nI z) 3 = some (nI (10 + 22 * z + 3)) from w_of z 3, oR_some]
theorem rZ4 {α : Type} {z : Nat} {K : Int32 → Option α} : oR (f_X6_of (nI z) 4) K = K (nI (10 + 22 * z + 4)) := by rw [show f_X6_of (nI z) 4 = some (nI (10 + 22 * z + 4)) from w_of z 4, oR_some]
theorem rZ5 {α : Type} {z : Nat} {K : Int32 → Option α} : oR (f_X6_of (nI z) 5) K = K (nI (10 + 22 * z + 5)) := by rw [show f_X6_of (nI z) 5 = some (nI (10 + 22 * z + 5)) from w_of z 5, oR_some]
theorem rW0 {α : Type} {w : Nat} {K : Int32 → Option α} : oR (f_X6_ofWriter (nI w) 0) K = K (nI (186 + 2 * w)) := by rw [show f_X6_ofWriter (nI w) 0 = some (nI (186 + 2 * w)) from w_ofWriter w 0, oR_some]
theorem rW1 {α : Type} {w : Nat} {K : Int32 → Option α} : oR (f_X6_ofWriter (nI w) 1) K = K (nI (186 + 2 * w + 1)) := by rw [show f_X6_ofWriter (nI w) 1 = some (nI (186 + 2 * w + 1)) from w_ofWriter w 1, oR_some]
theorem rB {α : Type} {z q : Nat} {K : Int32 → Option α} : oR (f_X6_of (nI z) (6 + nI q)) K = K (nI (10 + 22 * z + (6 + q))) := by rw [show (6 : Int32) = nI 6 from rfl, nI_add, w_of, oR_some]
theorem oL0 {α : Type} {f : Nat → Int32} {K : Int32 → Option α} : oA 2204 f 0 K = K (f 0) := oA_lit 0 0 rfl (by decide) (by decide)
theorem oL1 {α : Type} {f : Nat → Int32} {K : Int32 → Option α} : oA 2204 f 1 K = K (f 1) := oA_lit 1 1 rfl (by decide) (by decide)
theorem oL2 {α : Type} {f : Nat → Int32} {K : Int32 → Option α} : oA 2204 f 2 K = K (f 2) := oA_lit 2 2 rfl (by decide) (by decide)
theorem oL3 {α : Type} {f : Nat → Int32} {K : Int32 → Option α} : oA 2204 f 3 K = K (f 3) := oA_lit 3 3 rfl (by decide) (by decide)
theorem oL4 {α : Type} {f : Nat → Int32} {K : Int32 → Option α} : oA 2204 f 4 K = K (f 4) := oA_lit 4 4 rfl (by decide) (by decide)
theorem oL5 {α : Type} {f : Nat → Int32} {K : Int32 → Option α} : oA 2204 f 5 K = K (f 5) := oA_lit 5 5 rfl (by decide) (by decide)
theorem oL6 {α : Type} {f : Nat → Int32} {K : Int32 → Option α} : oA 2204 f 6 K = K (f 6) := oA_lit 6 6 rfl (by decide) (by decide)
theorem oL7 {α : Type} {f : Nat → Int32} {K : Int32 → Option α} : oA 2204 f 7 K = K (f 7) := oA_lit 7 7 rfl (by decide) (by decide)
theorem oL8 {α : Type} {f : Nat → Int32} {K : Int32 → Option α} : oA 2204 f 8 K = K (f 8) := oA_lit 8 8 rfl (by decide) (by decide)
theorem oL9 {α : Type} {f : Nat → Int32} {K : Int32 → Option α} : oA 2204 f 9 K = K (f 9) := oA_lit 9 9 rfl (by decide) (by decide)
theorem oM5 {ST α : Type} {f : Nat → Int32} {x : Int32} {w : (Nat → Int32) → ST} {K : ST → Option α} : oS 2204 f 5 x w K = K (w (upd f 5 x)) := oS_at (n := 2204) (j := 5) (by decide) (by decide)
theorem oM9 {ST α : Type} {f : Nat → Int32} {x : Int32} {w : (Nat → Int32) → ST} {K : ST → Option α} : oS 2204 f 9 x w K = K (w (upd f 9 x)) := oS_at (n := 2204) (j := 9) (by decide) (by decide)
theorem oM0 {ST α : Type} {f : Nat → Int32} {x : Int32} {w : (Nat → Int32) → ST} {K : ST → Option α} : oS 2204 f 0 x w K = K (w (upd f 0 x)) := oS_at (n := 2204) (j := 0) (by decide) (by decide)
theorem oM1 {ST α : Type} {f : Nat → Int32} {x : Int32} {w : (Nat → Int32) → ST} {K : ST → Option α} : oS 2204 f 1 x w K = K (w (upd f 1 x)) := oS_at (n := 2204) (j := 1) (by decide) (by decide)
theorem oM2 {ST α : Type} {f : Nat → Int32} {x : Int32} {w : (Nat → Int32) → ST} {K : ST → Option α} : oS 2204 f 2 x w K = K (w (upd f 2 x)) := oS_at (n := 2204) (j := 2) (by decide) (by decide)
theorem oM3 {ST α : Type} {f : Nat → Int32} {x : Int32} {w : (Nat → Int32) → ST} {K : ST → Option α} : oS 2204 f 3 x w K = K (w (upd f 3 x)) := oS_at (n := 2204) (j := 3) (by decide) (by decide)
theorem oM4 {ST α : Type} {f : Nat → Int32} {x : Int32} {w : (Nat → Int32) → ST} {K : ST → Option α} : oS 2204 f 4 x w K = K (w (upd f 4 x)) := oS_at (n := 2204) (j := 4) (by decide) (by decide)
theorem oM6 {ST α : Type} {f : Nat → Int32} {x : Int32} {w : (Nat → Int32) → ST} {K : ST → Option α} : oS 2204 f 6 x w K = K (w (upd f 6 x)) := oS_at (n := 2204) (j := 6) (by decide) (by decide)
theorem oM7 {ST α : Type} {f : Nat → Int32} {x : Int32} {w : (Nat → Int32) → ST} {K : ST → Option α} : oS 2204 f 7 x w K = K (w (upd f 7 x)) := oS_at (n := 2204) (j := 7) (by decide) (by decide)
theorem oM8 {ST α : Type} {f : Nat → Int32} {x : Int32} {w : (Nat → Int32) → ST} {K : ST → Option α} : oS 2204 f 8 x w K = K (w (upd f 8 x)) := oS_at (n := 2204) (j := 8) (by decide) (by decide)
theorem oA_b {α : Type} {j : Nat} {f : Nat → Int32} {K : Int32 → Option α} (hj : j < 2204) : oA 2204 f (nI j) K = K (f j) := oA_at hj (by decide)
theorem oS_b {ST α : Type} {j : Nat} {f : Nat → Int32} {x : Int32} {w : (Nat → Int32) → ST} {K : ST → Option α} (hj : j < 2204) : oS 2204 f (nI j) x w K = K (w (upd f j x)) := oS_at hj (by decide)
theorem n2003 {q : Nat} : (2003 : Int32) + nI q = nI (2003 + q) := by rw [show (2003 : Int32) = nI 2003 from rfl, nI_add]
theorem upd_self {f : Nat → Int32} {i : Nat} {x : Int32} (h : f i = x) : upd f i x = f := by
  funext j
  by_cases e : j = i
  · subst e; rw [upd_eq, h]
  · rw [upd_ne e]
theorem cnt_lt {P : Nat → Bool} {a : Nat} : ∀ n, a < n → P a = false → cnt P n < n
  | 0, h, _ => absurd h (Nat.not_lt_zero _)
  | n + 1, h, hp => by
    have hn := cnt_le P n
    show cnt P n + _ < n + 1
    by_cases e : a = n
    · subst e; rw [hp]; simp; omega
    · have := cnt_lt (P := P) n (by omega) hp
      split <;> omega
/-- what a tick's steps leave -/
def Le (A B : NS) : Prop := (∀ k, k ≠ 1 → k ≠ 3 → k ≠ 7 → B.2 k = A.2 k) ∧ (∀ m, m = 2 ∨ m = 3 ∨ m = 4 ∨ m = 14 ∨ m = 15 ∨ m = 17 ∨ m = 19 → B.1 m = A.1 m) ∧
  ∀ a, a < A.2 0 → (B.1 5 a = 0 → A.1 5 a = 0) ∧ (B.1 5 a ≤ 1 → A.1 5 a ≤ 1) ∧ (2 ≤ A.1 5 a → B.1 5 a = A.1 5 a)
theorem Le.refl {A : NS} : Le A A := ⟨fun _ _ _ _ => rfl, fun _ _ => rfl, fun _ _ => ⟨id, id, fun _ => rfl⟩⟩
theorem Le.n0 {A B : NS} (h : Le A B) : B.2 0 = A.2 0 := h.1 0 (by decide) (by decide) (by decide)
theorem Le.trans {A B C : NS} (h : Le A B) (g : Le B C) : Le A C := by
  refine ⟨fun k h1 h3 h7 => (g.1 k h1 h3 h7).trans (h.1 k h1 h3 h7), fun m hm => (g.2.1 m hm).trans (h.2.1 m hm), fun a ha => ?_⟩
  have h1 := h.2.2 a ha
  have g1 := g.2.2 a (by rw [h.n0]; exact ha)
  refine ⟨fun x => h1.1 (g1.1 x), fun x => h1.2.1 (g1.2.1 x), fun x => ?_⟩
  rw [g1.2.2 (by rw [h1.2.2 x]; exact x), h1.2.2 x]
theorem Le_tell {A : NS} {a : Nat} (hp : A.1 5 a = 1) : Le A (aTell1 A a) := by
  refine ⟨fun k h1 _ _ => aTell1_num h1, fun m hm => funext fun i => aTell1_1 (by omega) (by omega) (by omega), fun i hi => ?_⟩
  rw [aTell1_5]
  by_cases e : i = a
  · subst e; rw [if_pos rfl, hp]; omega
  · rw [if_neg e]; exact ⟨id, id, fun _ => rfl⟩
theorem Le_fail {A : NS} {a r : Nat} (hp : A.1 5 a = 0) : Le A (aFail A a r) := by
  refine ⟨fun k _ _ _ => by rw [aFail_2], fun m hm => funext fun i => aFail_1 (by omega) (by omega), fun i hi => ?_⟩
  rw [aFail_5]
  by_cases e : i = a
  · subst e; rw [if_pos rfl, hp]; omega
  · rw [if_neg e]; exact ⟨id, id, fun _ => rfl⟩
/-- the class tells what is due -/
theorem told_lt {A : NS} {a : Nat} (I : Iv A) (ha : a < A.2 0) (hp : A.1 5 a ≠ 2) : A.2 1 < 201 := by
  rw [I.t.1]
  have := I.a.1
  have := cnt_lt (P := fun a => decide (A.1 5 a = 2)) (A.2 0) ha (decide_eq_false hp)
  omega
theorem w_tell1C {σ : SS} {A : NS} {P : Nat → Bool} (h : RC σ A) (I : Iv A) (lv : LV σ (A.2 0) P) {a : Nat} (ha : a < A.2 0) (hp : A.1 5 a = 1) : (∃ τ, f_X0_markTold (if aheadB A a = true then sA σ 20 (upd (σ.1 20) (A.1 2 a) (nI (A.1 20 (A.1 2 a) + 1))) else σ) (nI a) = some τ ∧ RC τ (aTell1 A a) ∧ LV τ (A.2 0) P) := by
  have ht := told_lt I ha (by rw [hp]; decide)
  have h20 := I.t.2.1 (A.1 2 a)
  unfold aTell1
  by_cases e : aheadB A a = true
  · rw [if_pos e, if_pos e]
    obtain ⟨τ, f1, f2, f3, f4⟩ := w_markTold (RC_zone h (m := 20) (z := A.1 2 a) (v := A.1 20 (A.1 2 a) + 1) (by decide) (by decide)) (Bd_setA I.b (by omega)) (a := a) ha (by rw [setA_nm (by decide)]; exact hp) ht
    exact ⟨τ, f1, f2, lv.same (f3 2 (by decide)) ((f4 11 (by decide) (by decide)).trans (sA_ne (by decide)))⟩
  · rw [if_neg e, if_neg e]
    obtain ⟨τ, f1, f2, f3, f4⟩ := w_markTold h I.b ha hp ht
    exact ⟨τ, f1, f2, lv.same (f3 2 (by decide)) (f4 11 (by decide) (by decide))⟩
theorem w_tellDue {σ : SS} {A : NS} {P : Nat → Bool} (h : RC σ A) (I : Iv A) (lv : LV σ (A.2 0) P) (hP : ∀ c, c < A.2 0 → A.1 5 c = 0 ∨ A.1 5 c = 1 → P c = true) :
    ∃ τ, f_X3_tellDue σ = some τ ∧ RC τ (aTellDue A) ∧ Iv (aTellDue A) ∧ LV τ (A.2 0) P ∧ Le A (aTellDue A) := by
  have hn := I.a.1
  have hl := lv.2.1
  unfold f_X3_tellDue
  have L := loop_rel ((List.range (A.2 0)).filter P) (fun m i (c : SS) => f_X3_tellDue_L2 (fun sx95 => some sx95) m i c) (fun c => some c) (fun a B => stTell B a)
    (fun _ B c => RC c B ∧ Iv B ∧ LV c (A.2 0) P ∧ Le A B) (fun m B c hR => ?_) (fun m i B c hi hR => ?_) σ A FU ⟨h, I, lv, Le.refl⟩ (by show _ < 20000; omega)
  · obtain ⟨τ, hR, e⟩ := L
    rw [show ((List.range (A.2 0)).filter P).foldl (fun B a => stTell B a) A = aTellDue A from tellDue_pick hP] at hR
    exact ⟨τ, e, hR⟩
  · show f_X3_tellDue_L2 (fun sx95 => some sx95) (m + 1) (nI _) c = _
    rw [f_X3_tellDue_L2, hR.2.2.1.len, if_pos (nI_le (Nat.le_refl _) (by omega))]
  · obtain ⟨hr, hI, hlv, hle⟩ := hR
    obtain ⟨hc, hpa⟩ := live_lt hi
    have e11 := hlv.2.2 i hi
    show ∃ c' : SS, _ ∧ f_X3_tellDue_L2 (fun sx95 => some sx95) (m + 1) (nI i) c = f_X3_tellDue_L2 (fun sx95 => some sx95) m (nI (i + 1)) c'
    rw [f_X3_tellDue_L2, hlv.len, if_neg (nI_ge hi (by omega)), oA_at (show i < 33 by omega) (by decide), e11]
    generalize ((List.range (A.2 0)).filter P)[i] = a at hc hpa
    have hcB : a < B.2 0 := by rw [hle.n0]; exact hc
    have hnB := hI.a.1
    have b := hI.b
    have hw := (hI.a.2 a hcB).1
    rw [oA_at (show a < 201 by omega) (by decide), oJ_to, hr.ap (by decide) (by decide) hcB, nI_1, show (1 : Int32) = nI 1 from rfl, if_eqN (b.2.1 5 a) (by decide)]
    by_cases hp : B.1 5 a = 1
    · rw [if_pos hp, oA_at (show a < 201 by omega) (by decide), (hr.2.2.1 a hcB (Or.inl hp)).2.1, show c.2 10 = nI (B.2 10) from hr.1 10 (by decide) (by decide), if_eqN (b.2.1 7 a) (b.2.2 10)]
      by_cases ht : B.1 7 a = B.2 10
      · have hs : stTell B a = aTell1 B a := by unfold stTell; rw [if_pos ⟨hp, ht⟩]
        have hlvB : LV c (B.2 0) P := by rw [hle.n0]; exact hlv
        have hPB : ∀ c, c < B.2 0 → B.1 5 c = 0 ∨ B.1 5 c = 1 → P c = true := fun c hc hx => by
          have hc' : c < A.2 0 := by rw [← hle.n0]; exact hc
          have := (hle.2.2 c hc').2.1 (by omega)
          exact hP c hc' (by omega)
        have ah := w_isAhead hr b hlvB hcB hPB
        have T := w_tell1C hr hI hlvB hcB hp
        rw [hs, if_pos ht]
        obtain ⟨τ, f1, f2, f3⟩ := T
        rw [hle.n0] at f3
        refine ⟨τ, ⟨f2, Iv_tell hI hcB hp, f3, hle.trans (Le_tell hp)⟩, ?_⟩
        by_cases e : Ahead B a
        · rw [if_pos (aheadB_iff.2 e)] at f1
          rw [ah.1 e, oR_some, oJ_to, if_neg (by decide), oA_at (show a < 201 by omega) (by decide), hr.ap (by decide) (by decide) hcB, oA_at hw (by decide), hr.wr (by decide) (by decide) hw, oS_at hw (by decide), show nI 1 = (1 : Int32) from rfl, nI_1]
          dsimp only
          rw [f1, oV_some]
        · rw [if_neg fun x => e (aheadB_iff.1 x)] at f1
          rw [ah.2 e, oR_some, oJ_to, if_pos rfl]
          dsimp only
          rw [f1, oV_some]
      · have hs : stTell B a = B := by unfold stTell; rw [if_neg fun x => ht x.2]
        rw [hs, if_neg ht]
        exact ⟨c, ⟨hr, hI, hlv, hle⟩, rfl⟩
    · have hs : stTell B a = B := by unfold stTell; rw [if_neg fun x => hp x.1]
      rw [hs, if_neg hp]
      exact ⟨c, ⟨hr, hI, hlv, hle⟩, rfl⟩
