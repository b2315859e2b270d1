/-! PURE: the reference looks at an append that waits: it begins -/
theorem w_goM {s50 : MS} {A : NS} (h : RM (s50.1 1) A) {a z : Nat} (I : IvO A z) (hz : z < 8) (ha : a < A.2 0) (hp : A.1 5 a = 0) (ht : A.2 10 < 2 ^ 30) :
    ∃ τ, (oR (f_X6_of (nI z) 3) (fun r64 => oA 2204 (s50.1 1) r64 (fun x67 => oR (f_X6_ofAppend (nI a) 3) (fun r75 => oS 2204 (s50.1 1) r75 1 (sA s50 1) (fun s79 => oR (f_X6_ofAppend (nI a) 4) (fun r86 => oS 2204 (s79.1 1) r86 x67 (sA s79 1) (fun s90 => oR (f_X6_ofAppend (nI a) 8) (fun r98 => oA 2204 (s90.1 1) 0 (fun x106 => oR (f_X6_of (nI z) 2) (fun r113 => oA 2204 (s90.1 1) r113 (fun x116 => oS 2204 (s90.1 1) r98 ((x106 + x116) + (x67 - x67 / 2 * 2)) (sA s90 1) (fun s122 => oR (f_X6_of (nI z) 3) (fun r129 => oA 2204 (s122.1 1) r129 (fun x133 => oS 2204 (s122.1 1) r129 (x133 + 1) (sA s122 1) (fun s136 => oR (f_X6_of (nI z) 5) (fun r143 => oA 2204 (s136.1 1) 8 (fun x152 => oS 2204 (s136.1 1) r143 x152 (sA s136 1) (fun s153 => oA 2204 (s153.1 1) 8 (fun x161 => oS 2204 (s153.1 1) 8 (x161 + 1) (sA s153 1) (fun s164 => oR (f_X6_of (nI z) 0) (fun r171 => oR (f_X6_of (nI z) 3) (fun r180 => oA 2204 (s164.1 1) r180 (fun x183 => oR (f_X6_of (nI z) 1) (fun r190 => oA 2204 (s164.1 1) r190 (fun x193 => oJ (κ := Int32 → Option (Int32 × MS)) (fun t0_202 => oS 2204 (s164.1 1) r171 t0_202 (sA s164 1) (fun s202 => some (1, s202))) (fun k202 => if x183 = x193 then (k202 3) else (k202 1))))))))))))))))))))))))))) = some (1, τ) ∧ RM (τ.1 1) (aGo A a z) ∧ InM s50 τ := by
  have hn := I.1.1
  have hE := I.2.2.2.2.1.1
  have hzz := I.2.2.2.1
  have b := I.2.2.2.2.2.2.2
  have b16 : A.1 16 z + 1 < 2 ^ 31 := by omega
  have z3 : s50.1 1 (10 + 22 * z + 3) = nI (A.1 16 z) := h.zn hz (by decide)
  have z2 : s50.1 1 (10 + 22 * z + 2) = nI (A.1 15 z) := h.zn hz (by decide)
  have z1 : s50.1 1 (10 + 22 * z + 1) = nI (A.1 14 z) := h.zn hz (by decide)
  have s0 := h.lit.1
  have s8 : s50.1 1 8 = nI (A.2 3) := h.lit.2.2.2.2.2.2.2.2.1
  have hm : nI (A.1 16 z) - nI (A.1 16 z) / 2 * 2 = nI (A.1 16 z % 2) := pk_rem (d := 2) (by omega) (by decide) (by decide)
  rw [rZ3, oA_b (by omega), z3, rA3, oS_b (by omega), rA4, oS_b (by omega), rA8, oL0, rZ2, oA_b (by omega)]
  simp only [sA_eq]
  rw [upd_ne (i := 0) (by omega), upd_ne (i := 0) (by omega), s0, upd_ne (i := 10 + 22 * z + 2) (by omega), upd_ne (i := 10 + 22 * z + 2) (by omega), z2, hm, nI_add, nI_add, oS_b (by omega), rZ3, oA_b (by omega)]
  simp only [sA_eq]
  rw [upd_ne (i := 10 + 22 * z + 3) (by omega), upd_ne (i := 10 + 22 * z + 3) (by omega), upd_ne (i := 10 + 22 * z + 3) (by omega), z3, nI_1, oS_b (by omega), rZ5, oL8]
  simp only [sA_eq]
  rw [upd_ne (i := 8) (by omega), upd_ne (i := 8) (by omega), upd_ne (i := 8) (by omega), upd_ne (i := 8) (by omega), s8, oS_b (by omega), oL8, oM8]
  simp only [sA_eq]
  rw [upd_ne (i := 8) (by omega), upd_ne (i := 8) (by omega), upd_ne (i := 8) (by omega), upd_ne (i := 8) (by omega), upd_ne (i := 8) (by omega), s8, nI_1, rZ0, rZ3, oA_b (by omega), rZ1, oA_b (by omega)]
  rw [upd_ne (i := 10 + 22 * z + 3) (by omega), upd_ne (i := 10 + 22 * z + 3) (by omega), upd_eq, upd_ne (i := 10 + 22 * z + 1) (by omega), upd_ne (i := 10 + 22 * z + 1) (by omega), upd_ne (i := 10 + 22 * z + 1) (by omega), upd_ne (i := 10 + 22 * z + 1) (by omega), upd_ne (i := 10 + 22 * z + 1) (by omega), upd_ne (i := 10 + 22 * z + 1) (by omega), z1, oJ_to, if_eqN b16 (b.2.1 14 z)]
  have B1 : Bd (aBegin A a (A.1 16 z) (A.2 10 + A.1 15 z + A.1 16 z % 2) (A.1 17 z)) := Bd_setA (Bd_setA (Bd_setA (Bd_setA b (by decide)) (by omega)) (by omega)) (b.2.1 17 z)
  have R1 := RM_begin h (a := a) (p := A.1 16 z) (t := A.2 10 + A.1 15 z + A.1 16 z % 2) (g := A.1 17 z) ha hn hp
  have R2 := RM_zone (k := 3) (v := A.1 16 z + 1) R1 B1 hz (by decide)
  have R3 := RM_latest (v := A.2 3) R2 hz
  have R4 := RM_num (v := A.2 3 + 1) R3 (i := 8) (k := 3) (by omega)
  have B4 : Bd (setN (setA (setA (aBegin A a (A.1 16 z) (A.2 10 + A.1 15 z + A.1 16 z % 2) (A.1 17 z)) 16 z (A.1 16 z + 1)) 18 z (A.2 3 + 1)) 3 (A.2 3 + 1)) := Bd_setN (Bd_setA (Bd_setA B1 b16) (by omega)) (by decide) (by omega)
  have key : ∀ v : Nat, v = (if A.1 16 z + 1 = A.1 14 z then 3 else 1) → RM (upd (upd (upd (upd (upd (upd (upd (s50.1 1) (194 + 9 * a + 3) 1) (194 + 9 * a + 4) (nI (A.1 16 z))) (194 + 9 * a + 8) (nI (A.2 10 + A.1 15 z + A.1 16 z % 2))) (10 + 22 * z + 3) (nI (A.1 16 z + 1))) (10 + 22 * z + 5) (nI (A.2 3))) 8 (nI (A.2 3 + 1))) (10 + 22 * z) (nI v)) (aGo A a z) := by
    intro v hv
    rw [← aGo_eqM hzz.1 hzz.2.2.2.1, ← hv]
    exact RM_zone (k := 0) R4 B4 hz (by decide)
  by_cases e : A.1 16 z + 1 = A.1 14 z
  · rw [if_pos e]
    dsimp only
    rw [oS_b (by omega)]
    refine ⟨_, rfl, ?_, ((((((InM.sA.trans InM.sA).trans InM.sA).trans InM.sA).trans InM.sA).trans InM.sA).trans InM.sA)⟩
    simp only [sA_eq]
    exact key 3 (by rw [if_pos e])
  · rw [if_neg e]
    dsimp only
    rw [oS_b (by omega)]
    refine ⟨_, rfl, ?_, ((((((InM.sA.trans InM.sA).trans InM.sA).trans InM.sA).trans InM.sA).trans InM.sA).trans InM.sA)⟩
    simp only [sA_eq]
    exact key 1 (by rw [if_neg e])
theorem w_lookAt {σ : MS} {A : NS} (h : RM (σ.1 1) A) (I : Iv A) {a : Nat} (ha : a < A.2 0) (hp : A.1 5 a = 0) (ht : A.2 10 < 2 ^ 30) :
    ∃ τ, f_X6_lookAt σ (nI a) = some (if (stLook A a).1 5 a = 1 then 1 else if (stLook A a).1 5 a = 3 then -1 else 0, τ) ∧ RM (τ.1 1) (stLook A a) ∧ InM σ τ := by
  have hn := I.a.1
  have b := I.b
  have hz : A.1 3 a < 8 := (I.a.2 a ha).2.1
  have hl : f_X6_appends σ 1 (-1) = some (nI (atW A)) := by
    have := w_appends h b (q := 1) (by decide) (-1) 0 (Or.inl (by decide))
    rw [show cnt (fun a => decide (A.1 5 a = 1 ∧ ((-1 : Int32) < 0 ∨ A.1 3 a = 0))) (A.2 0) = atW A from cnt_congr fun a _ => by
      have : ((-1 : Int32) < 0) = True := eq_true (by decide)
      simp [this]] at this
    exact this
  have hw : atW A ≤ A.2 0 := cnt_le _ _
  have hle : (σ.1 1 3 ≤ nI (atW A)) ↔ A.2 8 ≤ atW A := by
    rw [h.lit.2.2.2.1]
    exact nI_leI (b.2.2 8) (by omega)
  have g3 : (nI (A.1 13 (A.1 3 a)) = 3) ↔ A.1 13 (A.1 3 a) = 3 := nI_eq (b := 3) (b.2.1 13 _) (by decide)
  have a1 : σ.1 1 (194 + 9 * a + 1) = nI (A.1 3 a) := h.ap (k := 1) ha (by decide)
  have z0 : σ.1 1 (10 + 22 * A.1 3 a) = nI (A.1 13 (A.1 3 a)) := h.zn (k := 0) hz (by decide)
  have OP := w_opens h I hz
  unfold f_X6_lookAt
  rw [rA1, oA_b (by omega), a1, rZ0, oA_b (by omega), z0, hl, oR_some, oL3]
  unfold stLook
  by_cases e3 : A.1 13 (A.1 3 a) = 3
  · obtain ⟨τ, f1, f2, f3, f4⟩ := w_fail (r := 1) h ha hn (by rw [hp]; decide)
    have f1 : f_X6_fail σ (nI a) 1 = some τ := f1
    rw [if_pos (g3.2 e3), if_pos e3, f1, oV_some, aFail_5, if_pos rfl, if_neg (show ¬ (3 : Nat) = 1 by decide), if_pos rfl]
    exact ⟨τ, rfl, f2, f3, f4⟩
  · rw [if_neg (fun x => e3 (g3.1 x)), if_neg e3]
    by_cases e8 : A.2 8 ≤ atW A
    · rw [if_pos (hle.2 e8), if_pos e8, hp, if_neg (show ¬ (0 : Nat) = 1 by decide), if_neg (show ¬ (0 : Nat) = 3 by decide)]
      exact ⟨σ, rfl, h, InM.refl⟩
    · rw [if_neg (fun x => e8 (hle.1 x)), if_neg e8]
      by_cases e1 : A.1 13 (A.1 3 a) = 1
      · rw [OP.1 e1, oW_some, if_neg (show ¬ (1 : Int32) = 0 by decide), if_pos e1, aGo_5, if_pos rfl, if_pos rfl]
        exact w_goM h (I.o hz e1) hz ha hp ht
      · rw [if_neg e1]
        by_cases ec : ¬ (A.1 13 (A.1 3 a) = 0 ∧ A.2 5 ≤ nUse A) ∧ (nOpen A < A.2 4 ∨ idl A 8 ≠ 8)
        · obtain ⟨τ, f1, f2, f3⟩ := OP.2.1 e1 ec
          rw [if_pos ec, f1, oW_some, if_neg (show ¬ (1 : Int32) = 0 by decide), aGo_5, if_pos rfl, if_pos rfl]
          obtain ⟨ρ, r1, r2, r3⟩ := w_goM f2 (Iv_open I hz e1 e3 ec) hz (by rw [aOpen_2 (by decide)]; exact ha) (by rw [aOpen_1 (by decide)]; exact hp) (by rw [aOpen_2 (by decide)]; exact ht)
          exact ⟨ρ, r1, r2, f3.trans r3⟩
        · rw [if_neg ec, OP.2.2 e1 ec, oW_some, if_pos rfl, hp, if_neg (show ¬ (0 : Nat) = 1 by decide), if_neg (show ¬ (0 : Nat) = 3 by decide)]
          exact ⟨σ, rfl, h, InM.refl⟩
