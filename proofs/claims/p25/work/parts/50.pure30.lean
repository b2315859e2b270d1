/-! PURE: the class looks at an append that waits -/
def stLook (A : NS) (a : Nat) : NS :=
  if A.1 13 (A.1 3 a) = 3 then aFail A a 1 else if A.2 8 ≤ atW A then A else if A.1 13 (A.1 3 a) = 1 then aGo A a (A.1 3 a)
  else if ¬ (A.1 13 (A.1 3 a) = 0 ∧ A.2 5 ≤ nUse A) ∧ (nOpen A < A.2 4 ∨ idl A 8 ≠ 8) then aGo (aOpen A (A.1 3 a)) a (A.1 3 a) else A
/-- what an inner step leaves of a State -/
def InS (σ τ : SS) : Prop := τ.2 2 = σ.2 2 ∧ τ.1 11 = σ.1 11 ∧ τ.1 21 = σ.1 21
theorem InS.refl {σ : SS} : InS σ σ := ⟨rfl, rfl, rfl⟩
theorem InS.trans {σ τ ρ : SS} (h : InS σ τ) (g : InS τ ρ) : InS σ ρ := ⟨g.1.trans h.1, g.2.1.trans h.2.1, g.2.2.trans h.2.2⟩
theorem InS.sA {σ : SS} {m : Nat} {f : Nat → Int32} (h : m ≠ 11) (h2 : m ≠ 21) : InS σ (sA σ m f) := ⟨rfl, sA_ne (Ne.symm h), sA_ne (Ne.symm h2)⟩
theorem InS.sN {σ : SS} {k : Nat} {v : Int32} (h : k ≠ 2) : InS σ (sN σ k v) := ⟨sN_ne (Ne.symm h), rfl, rfl⟩
theorem w_openK {σ : SS} {A : NS} {P : Nat → Bool} (h : RC σ A) (I : Iv A) (lv : LV σ (A.2 0) P) (hP : ∀ a, a < A.2 0 → A.1 5 a = 1 → P a = true) {z : Nat} (hz : z < 8) :
    (nOpen A < A.2 4 ∨ idl A 8 ≠ 8 → ∃ τ, (oR (f_X4_inPhase σ 1) (fun r36 => oJ (κ := SS → Option (Int32 × SS)) (fun s_84 => oS 8 (s_84.1 13) (nI z) 1 (sA s_84 13) (fun s93 => (oB 1).map (fun x => (x, s93)))) (fun k84 => if r36 < (σ.2 4) then (k84 σ) else (oR (f_X3_longestIdle σ) (fun r50 => if r50 = (-1) then ((oB 0).map (fun x => (x, σ))) else (oS 8 (σ.1 13) r50 2 (sA σ 13) (fun s70 => oN ((s70.2 7) + 1) (sN s70 7) (fun s81 => k84 s81)))))))) = some (1, τ) ∧ RC τ (aOpen A z) ∧ InS σ τ) ∧
    (¬ (nOpen A < A.2 4 ∨ idl A 8 ≠ 8) → (oR (f_X4_inPhase σ 1) (fun r36 => oJ (κ := SS → Option (Int32 × SS)) (fun s_84 => oS 8 (s_84.1 13) (nI z) 1 (sA s_84 13) (fun s93 => (oB 1).map (fun x => (x, s93)))) (fun k84 => if r36 < (σ.2 4) then (k84 σ) else (oR (f_X3_longestIdle σ) (fun r50 => if r50 = (-1) then ((oB 0).map (fun x => (x, σ))) else (oS 8 (σ.1 13) r50 2 (sA σ 13) (fun s70 => oN ((s70.2 7) + 1) (sN s70 7) (fun s81 => k84 s81)))))))) = some (0, σ)) := by
  have b := I.b
  have hp : f_X4_inPhase σ 1 = some (nI (nOpen A)) := w_inPhase h (q := 1) (by decide) (fun z _ => b.2.1 13 z)
  have ho : nOpen A ≤ 8 := cnt_le _ 8
  have hlt : (nI (nOpen A) < σ.2 4) ↔ nOpen A < A.2 4 := by
    rw [h.1 4 (by decide) (by decide)]
    exact nI_ltI (by omega) (b.2.2 4)
  have hi := w_longestIdle h I lv hP
  have hid := idl_lt (A := A) 8
  rw [hp, oR_some, oJ_to, hi]
  simp only [oR_some]
  constructor
  · intro hc
    by_cases e : nOpen A < A.2 4
    · rw [if_pos (hlt.2 e), oS_at hz (by decide)]
      refine ⟨_, rfl, ?_, InS.sA (by decide) (by decide)⟩
      unfold aOpen aWay
      rw [if_pos e]
      exact RC_zone (v := 1) h (by decide) (by decide)
    · have e8 : idl A 8 ≠ 8 := hc.resolve_left e
      have hi8 : idl A 8 < 8 := by omega
      have hm : ¬ nI (idl A 8) = -1 := by
        intro x
        have := nI_pos (n := idl A 8) (by omega)
        rw [x] at this
        exact this (by decide)
      rw [if_neg (fun x => e (hlt.1 x)), if_neg e8, if_neg hm, oS_at hi8 (by decide), oN_to]
      simp only [oS_at hz (by decide : (8 : Nat) < 2 ^ 31)]
      refine ⟨_, rfl, ?_, ((InS.sA (by decide) (by decide)).trans (InS.sN (by decide))).trans (InS.sA (by decide) (by decide))⟩
      unfold aOpen aWay
      rw [if_neg e]
      have R := RC_zone (v := 2) (z := idl A 8) h (m := 13) (by decide) (by decide)
      have R2 := RC_num (k := 7) (v := A.2 7 + 1) R (by decide) (by decide)
      have e7 : (sA σ 13 (upd (σ.1 13) (idl A 8) 2)).2 7 + 1 = nI (A.2 7 + 1) := by
        show σ.2 7 + 1 = _
        rw [h.1 7 (by decide) (by decide), nI_1]
      rw [e7]
      exact RC_zone (v := 1) R2 (by decide) (by decide)
  · intro hc
    have e : ¬ nOpen A < A.2 4 := fun x => hc (Or.inl x)
    have e8 : idl A 8 = 8 := by
      by_cases x : idl A 8 = 8
      · exact x
      · exact absurd (Or.inr x) hc
    rw [if_neg (fun x => e (hlt.1 x)), if_pos e8, if_pos rfl]
    rfl
theorem w_couldOpen {σ : SS} {A : NS} {P : Nat → Bool} (h : RC σ A) (I : Iv A) (lv : LV σ (A.2 0) P) (hP : ∀ a, a < A.2 0 → A.1 5 a = 1 → P a = true) {z : Nat} (hz : z < 8) :
    (¬ (A.1 13 z = 0 ∧ A.2 5 ≤ nUse A) ∧ (nOpen A < A.2 4 ∨ idl A 8 ≠ 8) → ∃ τ, f_X3_couldOpen σ (nI z) = some (1, τ) ∧ RC τ (aOpen A z) ∧ InS σ τ) ∧
    (¬ (¬ (A.1 13 z = 0 ∧ A.2 5 ≤ nUse A) ∧ (nOpen A < A.2 4 ∨ idl A 8 ≠ 8)) → f_X3_couldOpen σ (nI z) = some (0, σ)) := by
  have b := I.b
  have K := w_openK h I lv hP hz
  have hu : f_X4_inUse σ = some (nI (nUse A)) := w_inUse h b
  have ho : nUse A ≤ 8 := cnt_le _ 8
  have hlt : (nI (nUse A) < σ.2 5) ↔ nUse A < A.2 5 := by
    rw [h.1 5 (by decide) (by decide)]
    exact nI_ltI (by omega) (b.2.2 5)
  have g0 : (nI (A.1 13 z) = 0) ↔ A.1 13 z = 0 := nI_eq0 (b.2.1 13 z)
  unfold f_X3_couldOpen
  rw [oA_at hz (by decide), h.zn (by decide) (by decide) hz, hu]
  simp only [oR_some]
  rw [oJ_to (κ := Option (Int32 × SS))]
  by_cases e : A.1 13 z = 0
  · rw [if_pos (g0.2 e)]
    by_cases e2 : nUse A < A.2 5
    · rw [if_pos (hlt.2 e2)]
      exact ⟨fun hc => K.1 hc.2, fun hc => K.2 fun x => hc ⟨by omega, x⟩⟩
    · rw [if_neg (fun x => e2 (hlt.1 x))]
      exact ⟨fun hc => absurd ⟨e, by omega⟩ hc.1, fun _ => rfl⟩
  · rw [if_neg (fun x => e (g0.1 x))]
    exact ⟨fun hc => K.1 hc.2, fun hc => K.2 fun x => hc ⟨fun y => e y.1, x⟩⟩
theorem w_takePlace {σ : SS} {A : NS} (h : RC σ A) (b : Bd A) {z : Nat} (hz : z < 8) (hb : A.1 16 z + 1 < 2 ^ 31) : ∃ τ, f_X4_takePlace σ (nI z) = some (nI (A.1 16 z), τ) ∧ RC τ (aTake A z) ∧ InS σ τ := by
  have hlt : (nI (A.1 16 z + 1) < nI (A.1 14 z)) ↔ A.1 16 z + 1 < A.1 14 z := nI_ltI hb (b.2.1 14 z)
  have R1 := RC_zone (v := A.1 16 z + 1) (z := z) h (m := 16) (by decide) (by decide)
  have e3 : σ.2 3 = nI (A.2 3) := h.1 3 (by decide) (by decide)
  unfold f_X4_takePlace
  rw [oA_at hz (by decide), h.zn (by decide) (by decide) hz, oS_at hz (by decide), oA_at hz (by decide), oA_at hz (by decide), oJ_to, nI_1, sA_eq, upd_eq, sA_ne (by decide), h.zn (by decide) (by decide) hz]
  dsimp only
  unfold aTake
  by_cases e : A.1 16 z + 1 < A.1 14 z
  · rw [if_pos (hlt.2 e), if_neg (by omega), oN_to, oS_at hz (by decide)]
    refine ⟨_, rfl, ?_, ((InS.sA (by decide) (by decide)).trans (InS.sN (by decide))).trans (InS.sA (by decide) (by decide))⟩
    rw [sN_eq, sA_2, e3, nI_1]
    exact RC_zone (RC_num (v := A.2 3 + 1) R1 (by decide) (by decide)) (by decide) (by decide)
  · rw [if_neg (fun x => e (hlt.1 x)), if_pos (by omega), oS_at hz (by decide)]
    rw [oN_to, oS_at hz (by decide)]
    refine ⟨_, rfl, ?_, (((InS.sA (by decide) (by decide)).trans (InS.sA (by decide) (by decide))).trans (InS.sN (by decide))).trans (InS.sA (by decide) (by decide))⟩
    rw [sN_eq, sA_2, sA_2, e3, nI_1]
    exact RC_zone (RC_num (v := A.2 3 + 1) (RC_zone (v := 3) R1 (by decide) (by decide)) (by decide) (by decide)) (by decide) (by decide)
theorem aTake_1 {A : NS} {z m : Nat} (h13 : m ≠ 13) (h16 : m ≠ 16) (h18 : m ≠ 18) : (aTake A z).1 m = A.1 m := by
  funext i
  unfold aTake; split <;> simp [setA, setN, h13, h16, h18]
theorem aTake_2 {A : NS} {z k : Nat} (h3 : k ≠ 3) : (aTake A z).2 k = A.2 k := by
  unfold aTake; split <;> simp [setA, setN, h3]
theorem Bd_take {A : NS} (b : Bd A) {z : Nat} (h1 : A.1 16 z + 1 < 2 ^ 31) (h2 : A.2 3 + 1 < 2 ^ 31) : Bd (aTake A z) := by
  unfold aTake
  refine Bd_setA (Bd_setN ?_ (by decide) h2) h2
  split
  · exact Bd_setA (Bd_setA b h1) (by decide)
  · exact Bd_setA b h1
theorem w_goC {σ : SS} {A : NS} (h : RC σ A) {a z : Nat} (I : IvO A z) (hz : z < 8) (ha : a < A.2 0) (hp : A.1 5 a = 0) :
    ∃ τ, (oW (f_X4_takePlace σ (nI z)) (fun t => t) (fun r79 s79 => oA 8 (s79.1 15) (nI z) (fun x95 => oA 8 (s79.1 17) (nI z) (fun x119 => oV (f_X0_begin s79 (nI a) r79 (((s79.2 10) + x95) + (r79 - r79 / 2 * 2)) x119) (fun t => t) (fun s120 => (oB 1).map (fun x => (x, s120))))))) = some (1, τ) ∧ RC τ (aGo A a z) ∧ InS σ τ := by
  have hn := I.1.1
  have hE := I.2.2.2.2.1.1
  have hzz := I.2.2.2.1
  have b := I.2.2.2.2.2.2.2
  have b16 : A.1 16 z + 1 < 2 ^ 31 := by omega
  obtain ⟨τ, f1, f2, f3⟩ := w_takePlace h b hz b16
  have bt := Bd_take b b16 (by omega : A.2 3 + 1 < 2 ^ 31)
  have ta : a < (aTake A z).2 0 := by rw [aTake_2 (by decide)]; exact ha
  obtain ⟨ρ, g1, g2, g3, g4⟩ := w_begin f2 bt (p := A.1 16 z) (t := A.2 10 + A.1 15 z + A.1 16 z % 2) (g := A.1 17 z) ta (by rw [aTake_1 (by decide) (by decide) (by decide), hp]; decide)
  rw [f1, oW_some, oA_at hz (by decide), oA_at hz (by decide), f2.zn (by decide) (by decide) hz, f2.zn (by decide) (by decide) hz, f2.1 10 (by decide) (by decide), aTake_1 (m := 15) (by decide) (by decide) (by decide), aTake_1 (m := 17) (by decide) (by decide) (by decide), aTake_2 (k := 10) (by decide), show (2 : Int32) = nI 2 from rfl, pk_rem (by omega) (by decide) (by decide), nI_add, nI_add, g1, oV_some]
  exact ⟨ρ, rfl, g2, f3.trans ⟨by rw [g3], g4 11 (by decide) (by decide) (by decide) (by decide), g4 21 (by decide) (by decide) (by decide) (by decide)⟩⟩
theorem w_hasBegun {σ : SS} {A : NS} {P : Nat → Bool} (h : RC σ A) (I : Iv A) (lv : LV σ (A.2 0) P) (hP : ∀ a, a < A.2 0 → A.1 5 a = 1 → P a = true) {a : Nat} (ha : a < A.2 0) (hp : A.1 5 a = 0) :
    ∃ τ, f_X3_hasBegun σ (nI a) = some (if (stLook A a).1 5 a = 1 then 1 else 0, τ) ∧ RC τ (stLook A a) ∧ InS σ τ := by
  have hn := I.a.1
  have b := I.b
  have hz : A.1 3 a < 8 := (I.a.2 a ha).2.1
  have ha2 : a < 201 := by omega
  have hl : f_X0_liveIn σ 1 = some (nI (atW A)) := w_liveIn h b lv (q := 1) (by decide) hP
  have hw : atW A ≤ A.2 0 := cnt_le _ _
  have hlt : (nI (atW A) < σ.2 8) ↔ atW A < A.2 8 := by
    rw [h.1 8 (by decide) (by decide)]
    exact nI_ltI (by omega) (b.2.2 8)
  have g3 : (nI (A.1 13 (A.1 3 a)) = 3) ↔ A.1 13 (A.1 3 a) = 3 := nI_eq (b := 3) (b.2.1 13 _) (by decide)
  have g1 : (nI (A.1 13 (A.1 3 a)) = 1) ↔ A.1 13 (A.1 3 a) = 1 := nI_eq (b := 1) (b.2.1 13 _) (by decide)
  have CO := w_couldOpen h I lv hP hz
  unfold f_X3_hasBegun
  rw [oA_at ha2 (by decide), h.ap (by decide) (by decide) ha, oA_at hz (by decide), h.zn (by decide) (by decide) hz, hl, oR_some]
  unfold stLook
  by_cases e3 : A.1 13 (A.1 3 a) = 3
  · obtain ⟨τ, f1, f2, f3, f4⟩ := w_markFailed (r := 1) h b ha
    have f1 : f_X0_markFailed σ (nI a) 1 = some τ := f1
    rw [if_pos (g3.2 e3), if_pos e3, f1, oV_some, aFail_5, if_pos rfl, if_neg (show ¬ (3 : Nat) = 1 by decide)]
    exact ⟨τ, rfl, f2, by rw [f3], f4 11 (by decide) (by decide), f4 21 (by decide) (by decide)⟩
  · rw [if_neg (fun x => e3 (g3.1 x)), if_neg e3]
    by_cases e8 : A.2 8 ≤ atW A
    · rw [if_neg (fun x => by have := hlt.1 x; omega), if_pos e8, hp, if_neg (show ¬ (0 : Nat) = 1 by decide)]
      exact ⟨σ, rfl, h, InS.refl⟩
    · rw [if_pos (hlt.2 (by omega)), if_neg e8, oA_at hz (by decide), h.zn (by decide) (by decide) hz]
      simp only [oJ_to]
      by_cases e1 : A.1 13 (A.1 3 a) = 1
      · rw [if_pos (g1.2 e1), if_pos e1, aGo_5, if_pos rfl, if_pos rfl]
        exact w_goC h (I.o hz e1) hz ha hp
      · rw [if_neg (fun x => e1 (g1.1 x)), if_neg e1]
        by_cases ec : ¬ (A.1 13 (A.1 3 a) = 0 ∧ A.2 5 ≤ nUse A) ∧ (nOpen A < A.2 4 ∨ idl A 8 ≠ 8)
        · obtain ⟨τ, f1, f2, f3⟩ := CO.1 ec
          rw [if_pos ec, f1, oW_some, if_neg (show ¬ (1 : Int32) = 0 by decide), aGo_5, if_pos rfl, if_pos rfl]
          obtain ⟨ρ, r1, r2, r3⟩ := w_goC f2 (Iv_open I hz e1 e3 ec) hz (by rw [aOpen_2 (by decide)]; exact ha) (by rw [aOpen_1 (by decide)]; exact hp)
          exact ⟨ρ, r1, r2, f3.trans r3⟩
        · rw [if_neg ec, CO.2 ec, oW_some, if_pos rfl, hp, if_neg (show ¬ (0 : Nat) = 1 by decide)]
          exact ⟨σ, rfl, h, InS.refl⟩
theorem Iv_look {A : NS} (I : Iv A) {a : Nat} (ha : a < A.2 0) (hp : A.1 5 a = 0) (ht : A.2 10 < 2 ^ 30) : Iv (stLook A a) ∧ Le A (stLook A a) := by
  have hz : A.1 3 a < 8 := (I.a.2 a ha).2.1
  unfold stLook
  by_cases e3 : A.1 13 (A.1 3 a) = 3
  · rw [if_pos e3]; exact ⟨Iv_fail I ha hp (by decide), Le_fail hp⟩
  · rw [if_neg e3]
    by_cases e8 : A.2 8 ≤ atW A
    · rw [if_pos e8]; exact ⟨I, Le.refl⟩
    · rw [if_neg e8]
      by_cases e1 : A.1 13 (A.1 3 a) = 1
      · rw [if_pos e1]; exact ⟨Iv_go (I.o hz e1) hz ha hp rfl ht, Le_go hp⟩
      · rw [if_neg e1]
        by_cases ec : ¬ (A.1 13 (A.1 3 a) = 0 ∧ A.2 5 ≤ nUse A) ∧ (nOpen A < A.2 4 ∨ idl A 8 ≠ 8)
        · rw [if_pos ec]
          have hp' : (aOpen A (A.1 3 a)).1 5 a = 0 := by rw [aOpen_1 (by decide)]; exact hp
          exact ⟨Iv_go (Iv_open I hz e1 e3 ec) hz (by rw [aOpen_2 (by decide)]; exact ha) hp' (by rw [aOpen_1 (by decide)]) (by rw [aOpen_2 (by decide)]; exact ht), Le_open.trans (Le_go hp')⟩
        · rw [if_neg ec]; exact ⟨I, Le.refl⟩
