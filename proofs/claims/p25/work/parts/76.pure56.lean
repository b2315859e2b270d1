/-! PURE: one order is done, on both sides -/
def c59 (t : Nat → Nat) (L i : Nat) : Nat := if i < L then t i else 59
theorem c59_lt {t : Nat → Nat} {L i : Nat} (h : i < L) : c59 t L i = cr t L i := by
  unfold c59 cr
  rw [if_pos h, if_pos h]
theorem w_sgC {c : CS} {L : Nat} {t : Nat → Nat} (h : TC c L t) {i : Nat} (hi : i ≤ 100) : f_X2_sign c (nI i) = some (nI (c59 t L i)) := by
  obtain ⟨h1, h2, h3⟩ := h
  unfold f_X2_sign c59
  rw [if_neg (nI_pos (by omega)), h1]
  by_cases e : i < L
  · rw [if_neg (nI_ge e (by omega)), oA_at (show i < 60 by omega) (by decide), (h3 i e).1, if_pos e]
    unfold oC
    rw [if_pos (nar_char (h3 i e).2)]
  · rw [if_pos (nI_le (by omega) (by omega)), if_neg e]
    rfl
theorem w_dgC {c : CS} {L : Nat} {t : Nat → Nat} (h : TC c L t) {i : Nat} (hi : i ≤ 100) : f_X2_digit c (nI i) = some (nI (c59 t L i) - 48) := by
  unfold f_X2_digit
  rw [w_sgC h hi, oR_some]
theorem w_room2 {σ : MS} {A : NS} (h : RM (σ.1 1) A) (I : Iv A) {w : Nat} (hw : w < 4) : (Full A w → f_X6_isRoom σ (nI w) = some 0) ∧ (¬ Full A w → f_X6_isRoom σ (nI w) = some 1) := w_full h I hw
theorem w_do {c : CS} {σ : MS} {A : NS} {L : Nat} {t : Nat → Nat} {p : Nat} (hc : CR (c.1 0) A) (hm : RM (σ.1 1) A) (hA : Rest A) (hT : TC c L t) (hM : TM σ L t) (hp : p ≤ 60) (hok : (oOrd (cr t L) p).1 = true)
    (hend : (oOrd (cr t L) p).2 = L ∨ cr t L (oOrd (cr t L) p).2 = 59) (hd : TD (cr t L) p (σ.1 7)) :
    ∃ r c' r' σ', f_X5_doOrder c (nI p) = some (r, c') ∧ f_X6_does σ = some (r', σ') ∧ InT σ σ' ∧ (∀ j, j ≠ 0 → c'.1 j = c.1 j) ∧ c'.2 = c.2 ∧
      ((r < 0 ∧ r ≠ -5 ∧ r' = r) ∨ ((0 ≤ r ∨ r = -5) ∧ 0 ≤ r' ∧ ∃ B, CR (c'.1 0) B ∧ RM (σ'.1 1) B ∧ Rest B)) := by
  have I := hA.1
  have bd := I.b
  have hn := hA.2.1
  have cb : ∀ i, cr t L i < 65536 := cr_b fun i hi => (hT.2.2 i hi).2
  have hlen := F1x hM hok (by
    by_cases e : p ≤ L
    · exact e
    · exfalso
      have z : ∀ i, L ≤ i → cr t L i = 0 := fun i hi => by unfold cr; rw [if_neg (by omega)]
      unfold oOrd at hok
      rw [z p (by omega), if_neg (by decide), if_neg (by decide), if_neg (by decide)] at hok
      exact absurd hok (by simp))
  have c0 : ∀ {τ : SS}, (∀ j, j ≠ 0 → (cS c 0 τ).1 j = c.1 j) := fun j hj => cS_ne hj
  have n1 : ¬ (1 : Int32) = 0 := by decide
  have hpL : p < L := by omega
  have hpc : c59 t L p = cr t L p := c59_lt hpL
  have e114 : (nI (cr t L p) = 114) ↔ cr t L p = 114 := nl 114 (cb p) (by decide)
  have e102 : (nI (cr t L p) = 102) ↔ cr t L p = 102 := nl 102 (cb p) (by decide)
  have e112 : (nI (cr t L p) = 112) ↔ cr t L p = 112 := nl 112 (cb p) (by decide)
  unfold f_X5_doOrder f_X6_does
  rw [w_sgC hT (by omega), oR_some, hpc, oA4.2.1, oA4.1, nI_1, w_dgC hT (show p + 1 ≤ 100 by omega)]
  simp only [oR_some]
  by_cases a1 : cr t L p = 114
  · have ho : (oOrd (cr t L) p) = (if dg (cr t L (p + 1)) 48 55 = true then (true, p + 2) else (false, p + 1)) := by unfold oOrd; rw [if_pos (Or.inl a1)]
    have hdg : dg (cr t L (p + 1)) 48 55 = true := by
      by_cases x : dg (cr t L (p + 1)) 48 55 = true
      · exact x
      · rw [ho, if_neg x] at hok; exact absurd hok (by simp)
    have r1 := dg_t.1 hdg
    have hp1 : c59 t L (p + 1) = cr t L (p + 1) := c59_lt (cr_ne hdg (by decide))
    obtain ⟨d0, d1⟩ := hd.1 (Or.inl a1)
    rw [a1] at d0
    have d0 : σ.1 7 0 = 114 := d0
    generalize hz : cr t L (p + 1) - 48 = z at d1
    have hz8 : z < 8 := by omega
    have z0 : σ.1 1 (10 + 22 * z) = nI (A.1 13 z) := hm.zn (k := 0) hz8 (by decide)
    rw [if_pos (e114.2 a1), hp1, sub48 r1.1, hz, d0, d1, if_neg (show ¬ (114 : Int32) = 0 by decide), if_neg (show ¬ (114 : Int32) = 102 by decide), if_pos (show (114 : Int32) = 114 from rfl), rZ0, oA_b (by omega), z0]
    by_cases e : A.1 13 z = 0
    · rw [cr_wipe_no hc.1 hz8 e, oW_some, e, if_pos (show nI 0 = 0 from rfl)]
      exact ⟨_, _, _, _, rfl, rfl, InT.refl, c0, rfl, Or.inr ⟨Or.inr rfl, by decide, A, by rw [cS_eq]; exact hc, hm, hA⟩⟩
    · obtain ⟨τ, f1, f2⟩ := cr_wipe hc I hz8 e
      obtain ⟨ρ, s1, s2, s3, s4⟩ := w_resets hm bd hz8 (w_readable hm I hz8) (fun a ha h2 h3 => by
        have := (I.h.1 a ha (Or.inr h2)).1
        rw [h3] at this
        exact this)
      have hcn := cnt_le (rdb A z) (A.2 0)
      rw [f1, oW_some, if_neg (fun x => e ((nI_eq0 (bd.2.1 13 z)).1 x)), s1, oW_some]
      exact ⟨_, _, _, _, rfl, rfl, InM.t ⟨s3, s4⟩, c0, rfl, Or.inr ⟨Or.inl (nI_pos' (by omega)), nI_pos' (by omega), aReset A z, by rw [cS_eq]; exact f2, s2, Rest_reset hA hz8 e⟩⟩
  by_cases a2 : cr t L p = 102
  · have ho : (oOrd (cr t L) p) = (if dg (cr t L (p + 1)) 48 55 = true then (true, p + 2) else (false, p + 1)) := by unfold oOrd; rw [if_pos (Or.inr a2)]
    have hdg : dg (cr t L (p + 1)) 48 55 = true := by
      by_cases x : dg (cr t L (p + 1)) 48 55 = true
      · exact x
      · rw [ho, if_neg x] at hok; exact absurd hok (by simp)
    have r1 := dg_t.1 hdg
    have hp1 : c59 t L (p + 1) = cr t L (p + 1) := c59_lt (cr_ne hdg (by decide))
    obtain ⟨d0, d1⟩ := hd.1 (Or.inr (Or.inl a2))
    rw [a2] at d0
    have d0 : σ.1 7 0 = 102 := d0
    generalize hz : cr t L (p + 1) - 48 = z at d1
    have hz8 : z < 8 := by omega
    obtain ⟨F1, F2, F3⟩ := w_finF hm I hz8
    obtain ⟨C1, C2⟩ := cr_fill_no hc.1 I hz8
    rw [if_neg (fun x => a1 (e114.1 x)), if_pos (e102.2 a2), hp1, sub48 r1.1, hz, d0, d1, if_neg (show ¬ (102 : Int32) = 0 by decide), if_pos (show (102 : Int32) = 102 from rfl)]
    by_cases e : A.1 13 z = 0
    · rw [C1 e, oW_some, F1 e, oR_some, if_pos (show (-4 : Int32) = -4 from rfl)]
      exact ⟨_, _, _, _, rfl, rfl, InT.refl, c0, rfl, Or.inl ⟨by decide, by decide, rfl⟩⟩
    · by_cases e3 : A.1 13 z = 3
      · rw [C2 e3, oW_some, F2 e3, oR_some, if_neg (show ¬ (-5 : Int32) = -4 by decide), if_pos (show (-5 : Int32) = -5 from rfl)]
        exact ⟨_, _, _, _, rfl, rfl, InT.refl, c0, rfl, Or.inr ⟨Or.inr rfl, by decide, A, by rw [cS_eq]; exact hc, hm, hA⟩⟩
      · obtain ⟨τ, f1, f2⟩ := cr_fill hc I hz8 e e3
        obtain ⟨ρ, s1, s2, s3, s4⟩ := w_finishes hm bd hz8
        have hcn := cnt_le (fun a => decide (A.1 3 a = z ∧ A.1 5 a = 0)) (A.2 0)
        rw [f1, oW_some, F3 e e3, oR_some, if_neg (show ¬ (0 : Int32) = -4 by decide), if_neg (show ¬ (0 : Int32) = -5 by decide), s1, oW_some]
        exact ⟨_, _, _, _, rfl, rfl, InM.t ⟨s3, s4⟩, c0, rfl, Or.inr ⟨Or.inl (nI_pos' (by omega)), nI_pos' (by omega), aFinish A z, by rw [cS_eq]; exact f2, s2, Rest_finish hA hz8 e⟩⟩
  by_cases a3 : cr t L p = 112
  · have ho : (oOrd (cr t L) p) = (if dg (cr t L (p + 1)) 49 57 = true then (true, p + 2) else (false, p + 1)) := by unfold oOrd; rw [if_neg (by omega), if_pos a3]
    have hdg : dg (cr t L (p + 1)) 49 57 = true := by
      by_cases x : dg (cr t L (p + 1)) 49 57 = true
      · exact x
      · rw [ho, if_neg x] at hok; exact absurd hok (by simp)
    have r1 := dg_t.1 hdg
    have hp1 : c59 t L (p + 1) = cr t L (p + 1) := c59_lt (cr_ne hdg (by decide))
    obtain ⟨d0, d1⟩ := hd.1 (Or.inr (Or.inr a3))
    rw [a3] at d0
    have d0 : σ.1 7 0 = 112 := d0
    generalize hz : cr t L (p + 1) - 48 = z at d1
    have hz1 : 1 ≤ z := by omega
    have hz9 : z ≤ 9 := by omega
    have ht := hA.2.2.2
    rw [if_neg (fun x => a1 (e114.1 x)), if_neg (fun x => a2 (e102.1 x)), if_pos (e112.2 a3), hp1, sub48 (show 48 ≤ cr t L (p + 1) by omega), hz, d0, d1, if_neg (show ¬ (112 : Int32) = 0 by decide), if_neg (show ¬ (112 : Int32) = 102 by decide), if_neg (show ¬ (112 : Int32) = 114 by decide), oL0, hm.lit.1, nI_add]
    by_cases e : A.2 10 + z ≤ 9999
    · obtain ⟨τ, f1, f2⟩ := w_letPass hc I hz1 (by omega) e
      obtain ⟨ρ, s1, s2, s3⟩ := w_goBy hm I (t := z) (by omega) e
      have RB := hA.ticks e
      have h201 := RB.1.told
      rw [f1, oW_some, if_pos (show nI (A.2 10 + z) ≤ 9999 from nI_le e (by decide)), s1, oW_some]
      exact ⟨_, _, _, _, rfl, rfl, s3, c0, rfl, Or.inr ⟨Or.inl (nI_pos' (by omega)), nI_pos' (by omega), aTicks A z, by rw [cS_eq]; exact f2, s2, RB⟩⟩
    · rw [w_letPass_full hc.1 ht hz1 (by omega) e, oW_some, if_neg (show ¬ nI (A.2 10 + z) ≤ 9999 from nI_ge (b := A.2 10 + z) (a := 9999) (by omega) (by omega))]
      exact ⟨_, _, _, _, rfl, rfl, InT.refl, c0, rfl, Or.inl ⟨by decide, by decide, rfl⟩⟩
  -- an append
  obtain ⟨d0, d1, d2, d3⟩ := hd.2 (by omega)
  obtain ⟨z1, z2⟩ := sg5_eq (cr t L) p (by omega) a3
  have hw5 : (sg5 (cr t L) p).2 = false := by
    by_cases x : (sg5 (cr t L) p).2 = true
    · rw [z1 x] at hok; exact absurd hok (by simp)
    · simpa using x
  obtain ⟨_, _, o2, g0, g2, g4, _⟩ := z2 hw5
  have r0 := dg_t.1 g0
  have r2 := dg_t.1 g2
  have r4 := dg_t.1 g4
  have p2 : c59 t L (p + 2) = cr t L (p + 2) := c59_lt (cr_ne g2 (by decide))
  have p4 : c59 t L (p + 4) = cr t L (p + 4) := c59_lt (cr_ne g4 (by decide))
  have e2 : nI p + 2 = nI (p + 2) := nI_add p 2
  have e4 : nI p + 4 = nI (p + 4) := nI_add p 4
  -- its value
  have hv : f_X2_valueFrom c (nI (p + 4)) = some (nI (ordV (cr t L) p)) ∧ ordV (cr t L) p ≤ 99 := by
    unfold f_X2_valueFrom
    rw [w_dgC hT (show p + 4 ≤ 100 by omega), oR_some, nI_1, w_sgC hT (show p + 4 + 1 ≤ 100 by omega), oR_some, w_dgC hT (show p + 4 + 1 ≤ 100 by omega), oR_some, p4, sub48 r4.1]
    unfold ordV
    by_cases x : dg (cr t L (p + 4)) 49 57 = true ∧ dg (cr t L (p + 5)) 48 57 = true
    · have r5 := dg_t.1 x.2
      have p5 : c59 t L (p + 5) = cr t L (p + 5) := c59_lt (cr_ne x.2 (by decide))
      have b5 := cb (p + 5)
      rw [if_pos x]
      refine ⟨?_, by omega⟩
      rw [p5, if_neg (fun y => by have := (nl 59 b5 (by decide)).1 y; omega), sub48 r5.1, show (10 : Int32) = nI 10 from rfl, pk_mul, nI_add]
      congr 2
      omega
    · rw [if_neg x] at o2
      rw [if_neg x]
      refine ⟨?_, by omega⟩
      have h59 : c59 t L (p + 5) = 59 := by
        rw [o2] at hend
        rcases hend with h | h
        · unfold c59; rw [if_neg (by omega)]
        · rw [c59_lt (cr_lt (t := t) (by omega))]; exact h
      rw [h59, if_pos (show nI 59 = 59 from rfl)]
  generalize hw : cr t L p - 48 = w at d1
  generalize hz : cr t L (p + 2) - 48 = z at d2
  generalize hvv : ordV (cr t L) p = v at d3 hv
  have hw4 : w < 4 := by omega
  have hz8 : z < 8 := by omega
  rw [if_neg (fun x => a1 (e114.1 x)), if_neg (fun x => a2 (e102.1 x)), if_neg (fun x => a3 (e112.1 x)), w_dgC hT (show p ≤ 100 by omega), oR_some, hpc, sub48 r0.1, hw, e2, w_dgC hT (show p + 2 ≤ 100 by omega), oR_some, p2, sub48 r2.1, hz, e4, hv.1, oR_some, d0, if_pos rfl, d1, oA4.2.2.1, d2, oA4.2.2.2, d3]
  by_cases hf : Full A w
  · rw [w_sendC_full hc.1 bd hw4 hz8 hv.2 hf, oW_some, (w_full hm I hw4).1 hf, oR_some, if_pos rfl]
    exact ⟨_, _, _, _, rfl, rfl, InT.refl, c0, rfl, Or.inl ⟨by decide, by decide, rfl⟩⟩
  · obtain ⟨τ, f1, f2⟩ := cr_send hc hA hw4 hz8 hv.2 hf
    obtain ⟨ρ, s1, s2, s3, s4⟩ := w_sendM hm (by omega) w z v
    rw [f1, oW_some, (w_full hm I hw4).2 hf, oR_some, if_neg n1, s1, oW_some]
    exact ⟨_, _, _, _, rfl, rfl, InM.t ⟨s3, s4⟩, c0, rfl, Or.inr ⟨Or.inl (nI_pos' (by omega)), nI_pos' (by omega), aAdd A w z v, by rw [cS_eq]; exact f2, s2, Rest_add hA hw4 hz8 hv.2 hf⟩⟩
