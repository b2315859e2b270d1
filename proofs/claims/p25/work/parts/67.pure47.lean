/-! PURE: settings -/
theorem sN_self {σ : SS} {k : Nat} {x : Int32} (h : σ.2 k = x) : sN σ k x = σ := by
  unfold sN
  rw [upd_self h]
theorem sA_self {σ : SS} {m z : Nat} {x : Int32} (h : σ.1 m z = x) : sA σ m (upd (σ.1 m) z x) = σ := by
  unfold sA
  rw [upd_self h]
  refine Prod.ext (funext fun j => ?_) rfl
  show (if j = m then σ.1 m else σ.1 j) = σ.1 j
  by_cases e : j = m
  · rw [e, if_pos rfl]
  · rw [if_neg e]
theorem t_change {c : CS} {m : MS} {A B : NS} {o k : Nat} {H : Nat → NS} {b : Bool} {S : NS} {L : Nat} {t : Nat → Nat} (hT : Top c m A o k H b S L t) {ix old v : Nat} (hix : ix < 2204) (hs : m.1 1 ix = nI old) (ho : old < 2 ^ 31) (hv : v < 2 ^ 31) (hB : Rest B) (hRM : ∀ s, RM s A → RM (upd s ix (nI v)) B)
    {act : SS → Option (Int32 × SS)} {τ : SS} (e1 : act (c.1 0) = some (if old = v then -5 else nI old, τ)) (h1 : old = v → τ = c.1 0) (h2 : CR τ B) {W : Option (Int32 × MS)} (hW : W = oW (f_X6_change m (nI ix) (nI v)) (fun t => t) (fun r s => some (r, s))) :
    ∃ r c' m', oV (f_X1_draft c) (fun t => t) (fun s8 => oW (act (s8.1 0)) (cS s8 0) (fun r21 s21 => oW (f_X1_settle s21 r21) (fun t => t) (fun r24 s24 => some (r24, s24)))) = some (r, c') ∧ W = some (r, m') ∧ TopE c' m' := by
  have hrm := hT.2.1
  unfold f_X6_change at hW
  rw [oA_b hix, hs, if_eqN ho hv] at hW
  by_cases e : old = v
  · rw [if_pos e, oW_some] at hW
    rw [if_pos e, h1 e] at e1
    exact t_refuse hT e1 (by decide) hT.1 hW hrm Fr.refl FrH.refl
  · obtain ⟨ρ, k1, k2, k3, k4⟩ := w_know hT.2.2.2.2.1 hrm hT.2.2.1
    rw [if_neg e, k1, oV_some, oS_b hix, oW_some] at hW
    rw [if_neg e] at e1
    have fr : Fr ρ (sA ρ 1 (upd (ρ.1 1) ix (nI v))) ∧ FrH ρ (sA ρ 1 (upd (ρ.1 1) ix (nI v))) := InM.fr InM.sA
    refine t_accept hT e1 ho h2 hB hW ?_ ((know_fr k3 k4).trans fr.1) (k2.fr fr.2)
    rw [sA_eq]
    refine hRM _ ?_
    rw [k3 1 (by decide)]
    exact hrm
theorem CR_num {σ : SS} {A : NS} (h : CR σ A) {k v : Nat} (h0 : k ≠ 0) (h1 : k ≠ 1) (h2 : k ≠ 2) : CR (sN σ k (nI v)) (setN A k v) :=
  ⟨RC_num h.1 h0 h1, by rw [setN_ne (Ne.symm h0)]; exact h.2.same (sN_ne (Ne.symm h2)) rfl⟩
theorem CR_zone {σ : SS} {A : NS} (h : CR σ A) {m z v : Nat} (hm : 13 ≤ m) (hm2 : m < 21) : CR (sA σ m (upd (σ.1 m) z (nI v))) (setA A m z v) :=
  ⟨RC_zone h.1 hm hm2, LV_congr (h.2.same rfl (sA_ne (by omega))) fun a _ => by unfold liveP; rw [setA_nm (by omega)]⟩
theorem Rest_num {A : NS} (h : Rest A) {k v : Nat} (hk : k = 4 ∧ v ≤ 8 ∨ k = 5 ∧ v ≤ 8 ∨ k = 8 ∧ 1 ≤ v ∧ v ≤ 4 ∨ k = 9 ∧ v ≤ 1) : Rest (setN A k v) := by
  refine h.mono (Iv_num h.1 (by omega) (by omega) (by omega) (by omega) ?_ (by omega)) (setN_ne (by omega)) rfl (fun a _ => id) (setN_ne (by omega))
  have := h.1.n
  unfold ivN at this ⊢
  obtain ⟨n1, n2, n3, n4, n5, n6⟩ := this
  rcases hk with ⟨e, e'⟩ | ⟨e, e'⟩ | ⟨e, e'⟩ | ⟨e, e'⟩ <;> subst e <;> simp (disch := decide) only [setN_eq, setN_ne, setN_1] <;> exact ⟨by omega, by omega, by omega, by omega, by omega, n6⟩
theorem call_set {c : CS} {m : MS} (h : TopE c m) (p1 p2 : Int32) : ∃ r c' m', f_X5_set c p1 p2 = some (r, c') ∧ f_X6_set m p1 p2 = some (r, m') ∧ TopE c' m' := by
  obtain ⟨A, o, k, H, b, S, L, t, hT⟩ := h
  have hcr := hT.1
  have hrm := hT.2.1
  have hA := hT.2.2.1
  have bd := hA.1.b
  have no : ∀ r : Int32, r < 0 → f_X3_changeNumber (c.1 0) p1 p2 = some (r, c.1 0) → f_X6_set m p1 p2 = some (r, m) → ∃ r c' m', f_X5_set c p1 p2 = some (r, c') ∧ f_X6_set m p1 p2 = some (r, m') ∧ TopE c' m' := fun r hr e1 e2 =>
    t_refuse hT (act := fun s => f_X3_changeNumber s p1 p2) e1 hr hcr e2 hrm Fr.refl FrH.refl
  have hop : f_X4_inPhase (c.1 0) 1 = some (nI (nOpen A)) := w_inPhase hcr.1 (q := 1) (by decide) (fun z _ => bd.2.1 13 z)
  have huse : f_X4_inUse (c.1 0) = some (nI (nUse A)) := w_inUse hcr.1 bd
  have hz0 : f_X6_zones m 0 = some (nI (nOpen A)) := by
    have := w_zones hrm bd (p := 0) (by decide)
    rw [show cnt (fun z => decide (A.1 13 z = 1 ∨ 0 ≠ 0 ∧ A.1 13 z = 2)) 8 = nOpen A from cnt_congr fun z _ => by simp] at this
    exact this
  have hz1 : f_X6_zones m 1 = some (nI (nUse A)) := by
    have := w_zones hrm bd (p := 1) (by decide)
    rw [show cnt (fun z => decide (A.1 13 z = 1 ∨ 1 ≠ 0 ∧ A.1 13 z = 2)) 8 = nUse A from cnt_congr fun z _ => by simp] at this
    exact this
  have ho8 : nOpen A ≤ 8 := cnt_le _ 8
  have hu8 : nUse A ≤ 8 := cnt_le _ 8
  rcases range_cases p1 0 3 (by decide) (by decide) with ⟨w, _, hw, rfl, _, e2⟩ | ⟨hp, _, e2⟩
  · have e2 : f_X6_in (nI w) 0 3 = some 1 := e2
    rcases (by omega : w = 0 ∨ w = 1 ∨ w = 2 ∨ w = 3) with e | e | e | e
    · subst e
      rcases range_cases p2 1 8 (by decide) (by decide) with ⟨v, hv1, hv8, rfl, q1, q2⟩ | ⟨_, q1, q2⟩
      · have q1 : f_X5_isFrom (nI v) 1 8 = some 1 := q1
        have q2 : f_X6_in (nI v) 1 8 = some 1 := q2
        have hle : (nI (nOpen A) ≤ nI v) ↔ nOpen A ≤ v := nI_leI (by omega) (by omega)
        by_cases e : nOpen A ≤ v
        · refine t_change hT (act := fun s => f_X3_changeNumber s (nI 0) (nI v)) (ix := 1) (old := A.2 4) (v := v) (by decide) hrm.lit.2.1 (bd.2.2 4) (by omega) (Rest_num hA (Or.inl ⟨rfl, hv8⟩)) (fun s hs => RM_num hs (Or.inr (Or.inl ⟨rfl, rfl⟩))) (τ := sN (c.1 0) 4 (nI v)) ?_ (fun x => sN_self (by rw [hcr.1.1 4 (by decide) (by decide), x])) (CR_num hcr (by decide) (by decide) (by decide)) ?_
          · unfold f_X3_changeNumber f_X3_changeOpenLimit
            rw [if_pos (show nI 0 = 0 from rfl), q1, oR_some, if_neg (show ¬ (1 : Int32) = 0 by decide), hop, oR_some, if_pos (hle.2 e), oN_to, hcr.1.1 4 (by decide) (by decide), if_eqN (bd.2.2 4) (by omega)]
            split <;> rfl
          · unfold f_X6_set
            rw [e2, oR_some, if_neg (show ¬ (1 : Int32) = 0 by decide)]
            simp only [oJ_to]
            rw [if_neg (show ¬ nI 0 = 3 by decide), if_neg (show ¬ (2 : Int32) ≤ nI 0 by decide), q2, oR_some, if_neg (show ¬ (1 : Int32) = 0 by decide), if_neg (show ¬ (2 : Int32) ≤ nI 0 by decide), if_neg (show ¬ nI 0 = 1 by decide), hz0, oR_some, if_pos (hle.2 e)]
            rfl
        · refine no (-4) (by decide) ?_ ?_
          · unfold f_X3_changeNumber f_X3_changeOpenLimit
            rw [if_pos (show nI 0 = 0 from rfl), q1, oR_some, if_neg (show ¬ (1 : Int32) = 0 by decide), hop, oR_some, if_neg (fun x => e (hle.1 x)), oW_some]
          · unfold f_X6_set
            rw [e2, oR_some, if_neg (show ¬ (1 : Int32) = 0 by decide)]
            simp only [oJ_to]
            rw [if_neg (show ¬ nI 0 = 3 by decide), if_neg (show ¬ (2 : Int32) ≤ nI 0 by decide), q2, oR_some, if_neg (show ¬ (1 : Int32) = 0 by decide), if_neg (show ¬ (2 : Int32) ≤ nI 0 by decide), if_neg (show ¬ nI 0 = 1 by decide), hz0, oR_some, if_neg (fun x => e (hle.1 x))]
      · have q1 : f_X5_isFrom p2 1 8 = some 0 := q1
        have q2 : f_X6_in p2 1 8 = some 0 := q2
        refine no (-2) (by decide) ?_ ?_
        · unfold f_X3_changeNumber f_X3_changeOpenLimit
          rw [if_pos (show nI 0 = 0 from rfl), q1, oR_some, if_pos rfl, oW_some]
        · unfold f_X6_set
          rw [e2, oR_some, if_neg (show ¬ (1 : Int32) = 0 by decide)]
          simp only [oJ_to]
          rw [if_neg (show ¬ nI 0 = 3 by decide), if_neg (show ¬ (2 : Int32) ≤ nI 0 by decide), q2, oR_some, if_pos rfl]
    · subst e
      rcases range_cases p2 1 8 (by decide) (by decide) with ⟨v, hv1, hv8, rfl, q1, q2⟩ | ⟨_, q1, q2⟩
      · have q1 : f_X5_isFrom (nI v) 1 8 = some 1 := q1
        have q2 : f_X6_in (nI v) 1 8 = some 1 := q2
        have hle : (nI (nUse A) ≤ nI v) ↔ nUse A ≤ v := nI_leI (by omega) (by omega)
        by_cases e : nUse A ≤ v
        · refine t_change hT (act := fun s => f_X3_changeNumber s (nI 1) (nI v)) (ix := 2) (old := A.2 5) (v := v) (by decide) hrm.lit.2.2.1 (bd.2.2 5) (by omega) (Rest_num hA (Or.inr (Or.inl ⟨rfl, hv8⟩))) (fun s hs => RM_num hs (by omega)) (τ := sN (c.1 0) 5 (nI v)) ?_ (fun x => sN_self (by rw [hcr.1.1 5 (by decide) (by decide), x])) (CR_num hcr (by decide) (by decide) (by decide)) ?_
          · unfold f_X3_changeNumber f_X3_changeUseLimit
            rw [if_neg (show ¬ nI 1 = 0 by decide), if_pos (show nI 1 = 1 from rfl), q1, oR_some, if_neg (show ¬ (1 : Int32) = 0 by decide), huse, oR_some, if_pos (hle.2 e), oN_to, hcr.1.1 5 (by decide) (by decide), if_eqN (bd.2.2 5) (by omega)]
            split <;> rfl
          · unfold f_X6_set
            rw [e2, oR_some, if_neg (show ¬ (1 : Int32) = 0 by decide)]
            simp only [oJ_to]
            rw [if_neg (show ¬ nI 1 = 3 by decide), if_neg (show ¬ (2 : Int32) ≤ nI 1 by decide), q2, oR_some, if_neg (show ¬ (1 : Int32) = 0 by decide), if_neg (show ¬ (2 : Int32) ≤ nI 1 by decide), if_pos (show nI 1 = 1 from rfl), hz1, oR_some, if_pos (hle.2 e)]
            rfl
        · refine no (-4) (by decide) ?_ ?_
          · unfold f_X3_changeNumber f_X3_changeUseLimit
            rw [if_neg (show ¬ nI 1 = 0 by decide), if_pos (show nI 1 = 1 from rfl), q1, oR_some, if_neg (show ¬ (1 : Int32) = 0 by decide), huse, oR_some, if_neg (fun x => e (hle.1 x)), oW_some]
          · unfold f_X6_set
            rw [e2, oR_some, if_neg (show ¬ (1 : Int32) = 0 by decide)]
            simp only [oJ_to]
            rw [if_neg (show ¬ nI 1 = 3 by decide), if_neg (show ¬ (2 : Int32) ≤ nI 1 by decide), q2, oR_some, if_neg (show ¬ (1 : Int32) = 0 by decide), if_neg (show ¬ (2 : Int32) ≤ nI 1 by decide), if_pos (show nI 1 = 1 from rfl), hz1, oR_some, if_neg (fun x => e (hle.1 x))]
      · have q1 : f_X5_isFrom p2 1 8 = some 0 := q1
        have q2 : f_X6_in p2 1 8 = some 0 := q2
        refine no (-2) (by decide) ?_ ?_
        · unfold f_X3_changeNumber f_X3_changeUseLimit
          rw [if_neg (show ¬ nI 1 = 0 by decide), if_pos (show nI 1 = 1 from rfl), q1, oR_some, if_pos rfl, oW_some]
        · unfold f_X6_set
          rw [e2, oR_some, if_neg (show ¬ (1 : Int32) = 0 by decide)]
          simp only [oJ_to]
          rw [if_neg (show ¬ nI 1 = 3 by decide), if_neg (show ¬ (2 : Int32) ≤ nI 1 by decide), q2, oR_some, if_pos rfl]
    · subst e
      rcases range_cases p2 1 4 (by decide) (by decide) with ⟨v, hv1, hv8, rfl, q1, q2⟩ | ⟨_, q1, q2⟩
      · have q1 : f_X5_isFrom (nI v) 1 4 = some 1 := q1
        have q2 : f_X6_in (nI v) 1 4 = some 1 := q2
        refine t_change hT (act := fun s => f_X3_changeNumber s (nI 2) (nI v)) (ix := 3) (old := A.2 8) (v := v) (by decide) hrm.lit.2.2.2.1 (bd.2.2 8) (by omega) (Rest_num hA (Or.inr (Or.inr (Or.inl ⟨rfl, hv1, hv8⟩)))) (fun s hs => RM_num hs (by omega)) (τ := sN (c.1 0) 8 (nI v)) ?_ (fun x => sN_self (by rw [hcr.1.1 8 (by decide) (by decide), x])) (CR_num hcr (by decide) (by decide) (by decide)) ?_
        · unfold f_X3_changeNumber f_X3_changeChannels
          rw [if_neg (show ¬ nI 2 = 0 by decide), if_neg (show ¬ nI 2 = 1 by decide), if_pos (show nI 2 = 2 from rfl), q1, oR_some, if_neg (show ¬ (1 : Int32) = 0 by decide), oN_to, hcr.1.1 8 (by decide) (by decide), if_eqN (bd.2.2 8) (by omega)]
          split <;> rfl
        · unfold f_X6_set
          rw [e2, oR_some, if_neg (show ¬ (1 : Int32) = 0 by decide)]
          simp only [oJ_to]
          rw [if_neg (show ¬ nI 2 = 3 by decide), if_pos (show (2 : Int32) ≤ nI 2 by decide), if_pos (show nI 2 = 2 from rfl), q2, oR_some, if_neg (show ¬ (1 : Int32) = 0 by decide), if_pos (show (2 : Int32) ≤ nI 2 by decide)]
          rfl
      · have q1 : f_X5_isFrom p2 1 4 = some 0 := q1
        have q2 : f_X6_in p2 1 4 = some 0 := q2
        refine no (-2) (by decide) ?_ ?_
        · unfold f_X3_changeNumber f_X3_changeChannels
          rw [if_neg (show ¬ nI 2 = 0 by decide), if_neg (show ¬ nI 2 = 1 by decide), if_pos (show nI 2 = 2 from rfl), q1, oR_some, if_pos rfl, oW_some]
        · unfold f_X6_set
          rw [e2, oR_some, if_neg (show ¬ (1 : Int32) = 0 by decide)]
          simp only [oJ_to]
          rw [if_neg (show ¬ nI 2 = 3 by decide), if_pos (show (2 : Int32) ≤ nI 2 by decide), if_pos (show nI 2 = 2 from rfl), q2, oR_some, if_pos rfl]
    · subst e
      rcases range_cases p2 0 1 (by decide) (by decide) with ⟨v, hv1, hv8, rfl, q1, q2⟩ | ⟨_, q1, q2⟩
      · have q1 : f_X5_isFrom (nI v) 0 1 = some 1 := q1
        have q2 : f_X6_in (nI v) 0 1 = some 1 := q2
        refine t_change hT (act := fun s => f_X3_changeNumber s (nI 3) (nI v)) (ix := 4) (old := A.2 9) (v := v) (by decide) hrm.lit.2.2.2.2.1 (bd.2.2 9) (by omega) (Rest_num hA (Or.inr (Or.inr (Or.inr ⟨rfl, hv8⟩)))) (fun s hs => RM_num hs (by omega)) (τ := sN (c.1 0) 9 (nI v)) ?_ (fun x => sN_self (by rw [hcr.1.1 9 (by decide) (by decide), x])) (CR_num hcr (by decide) (by decide) (by decide)) ?_
        · unfold f_X3_changeNumber f_X3_changeManner
          rw [if_neg (show ¬ nI 3 = 0 by decide), if_neg (show ¬ nI 3 = 1 by decide), if_neg (show ¬ nI 3 = 2 by decide), if_pos (show nI 3 = 3 from rfl), q1, oR_some, if_neg (show ¬ (1 : Int32) = 0 by decide), oN_to, hcr.1.1 9 (by decide) (by decide), if_eqN (bd.2.2 9) (by omega)]
          split <;> rfl
        · unfold f_X6_set
          rw [e2, oR_some, if_neg (show ¬ (1 : Int32) = 0 by decide)]
          simp only [oJ_to]
          rw [if_pos (show nI 3 = 3 from rfl), if_pos (show (2 : Int32) ≤ nI 3 by decide), if_neg (show ¬ nI 3 = 2 by decide), q2, oR_some, if_neg (show ¬ (1 : Int32) = 0 by decide), if_pos (show (2 : Int32) ≤ nI 3 by decide)]
          rfl
      · have q1 : f_X5_isFrom p2 0 1 = some 0 := q1
        have q2 : f_X6_in p2 0 1 = some 0 := q2
        refine no (-2) (by decide) ?_ ?_
        · unfold f_X3_changeNumber f_X3_changeManner
          rw [if_neg (show ¬ nI 3 = 0 by decide), if_neg (show ¬ nI 3 = 1 by decide), if_neg (show ¬ nI 3 = 2 by decide), if_pos (show nI 3 = 3 from rfl), q1, oR_some, if_pos rfl, oW_some]
        · unfold f_X6_set
          rw [e2, oR_some, if_neg (show ¬ (1 : Int32) = 0 by decide)]
          simp only [oJ_to]
          rw [if_pos (show nI 3 = 3 from rfl), if_pos (show (2 : Int32) ≤ nI 3 by decide), if_neg (show ¬ nI 3 = 2 by decide), q2, oR_some, if_pos rfl]
  · have e2 : f_X6_in p1 0 3 = some 0 := e2
    have ne : ∀ j : Nat, j ≤ 3 → ¬ p1 = nI j := by
      intro j hj x
      rw [x] at hp
      rcases hp with hp | hp
      · exact nI_pos (n := j) (by omega) hp
      · exact nI_nlt (b := j) (a := 3) hj (by decide) hp
    refine no (-2) (by decide) ?_ ?_
    · unfold f_X3_changeNumber
      rw [if_neg (show ¬ p1 = 0 from ne 0 (by decide)), if_neg (show ¬ p1 = 1 from ne 1 (by decide)), if_neg (show ¬ p1 = 2 from ne 2 (by decide)), if_neg (show ¬ p1 = 3 from ne 3 (by decide))]
    · unfold f_X6_set
      rw [e2, oR_some, if_pos rfl]
theorem call_setWindow {c : CS} {m : MS} (h : TopE c m) (p1 p2 : Int32) : ∃ r c' m', f_X5_setWindow c p1 p2 = some (r, c') ∧ f_X6_setWindow m p1 p2 = some (r, m') ∧ TopE c' m' := by
  obtain ⟨A, o, k, H, b, S, L, t, hT⟩ := h
  have hcr := hT.1
  have hrm := hT.2.1
  have hA := hT.2.2.1
  have bd := hA.1.b
  have no : ∀ r : Int32, r < 0 → f_X3_changeWindow (c.1 0) p1 p2 = some (r, c.1 0) → f_X6_setWindow m p1 p2 = some (r, m) → ∃ r c' m', f_X5_setWindow c p1 p2 = some (r, c') ∧ f_X6_setWindow m p1 p2 = some (r, m') ∧ TopE c' m' := fun r hr e1 e2 =>
    t_refuse hT (act := fun s => f_X3_changeWindow s p1 p2) e1 hr hcr e2 hrm Fr.refl FrH.refl
  rcases writer_cases p1 with ⟨w, hw, rfl⟩ | ⟨e1, e2⟩
  · rcases range_cases p2 1 8 (by decide) (by decide) with ⟨v, hv1, hv8, rfl, q1, q2⟩ | ⟨_, q1, q2⟩
    · have q1 : f_X5_isFrom (nI v) 1 8 = some 1 := q1
      have q2 : f_X6_in (nI v) 1 8 = some 1 := q2
      refine t_change hT (act := fun s => f_X3_changeWindow s (nI w) (nI v)) (ix := 186 + 2 * w) (old := A.1 19 w) (v := v) (by omega) (hrm.2.2.2.1 w hw).1 (bd.2.1 19 w) (by omega) (hA.mono (Iv_window hA.1 hv8) rfl (funext fun i => setA_nm (by decide)) (fun a _ hx => by rw [setA_nm (by decide)] at hx; exact hx) rfl) (fun s hs => RM_wr (k := 0) hs hw (by decide)) (τ := sA (c.1 0) 19 (upd ((c.1 0).1 19) w (nI v))) ?_ (fun x => sA_self (by rw [hcr.1.wr (by decide) (by decide) hw, x])) (CR_zone hcr (by decide) (by decide)) ?_
      · unfold f_X3_changeWindow
        rw [w_isWriter hw, oR_some, if_neg (show ¬ (1 : Int32) = 0 by decide), q1, oR_some, if_neg (show ¬ (1 : Int32) = 0 by decide), oA_at hw (by decide), oS_at hw (by decide), hcr.1.wr (by decide) (by decide) hw, if_eqN (bd.2.1 19 w) (by omega)]
        split <;> rfl
      · unfold f_X6_setWindow
        rw [w_isWriterM hw, oR_some, if_neg (show ¬ (1 : Int32) = 0 by decide), q2, oR_some, if_neg (show ¬ (1 : Int32) = 0 by decide), rW0]
    · have q1 : f_X5_isFrom p2 1 8 = some 0 := q1
      have q2 : f_X6_in p2 1 8 = some 0 := q2
      refine no (-2) (by decide) ?_ ?_
      · unfold f_X3_changeWindow
        rw [w_isWriter hw, oR_some, if_neg (show ¬ (1 : Int32) = 0 by decide), q1, oR_some, if_pos rfl]
      · unfold f_X6_setWindow
        rw [w_isWriterM hw, oR_some, if_neg (show ¬ (1 : Int32) = 0 by decide), q2, oR_some, if_pos rfl]
  · refine no (-1) (by decide) ?_ ?_
    · unfold f_X3_changeWindow
      rw [e1, oR_some, if_pos rfl]
    · unfold f_X6_setWindow
      rw [e2, oR_some, if_pos rfl]
theorem call_setZone {c : CS} {m : MS} (h : TopE c m) (p1 p2 p3 : Int32) : ∃ r c' m', f_X5_setZone c p1 p2 p3 = some (r, c') ∧ f_X6_setZone m p1 p2 p3 = some (r, m') ∧ TopE c' m' := by
  obtain ⟨A, o, k, H, b, S, L, t, hT⟩ := h
  have hcr := hT.1
  have hrm := hT.2.1
  have hA := hT.2.2.1
  have bd := hA.1.b
  by_cases hd : p2 = 0
  · have X : f_X5_setZone c p1 p2 p3 = oV (f_X1_draft c) (fun t => t) (fun s8 => oW (f_X3_changeCapacity (s8.1 0) p1 p3) (cS s8 0) (fun r21 s21 => oW (f_X1_settle s21 r21) (fun t => t) (fun r24 s24 => some (r24, s24)))) := by
      unfold f_X5_setZone
      simp only [oJ_to, if_pos hd]
    rw [X]
    have no : ∀ r : Int32, r < 0 → f_X3_changeCapacity (c.1 0) p1 p3 = some (r, c.1 0) → f_X6_setZone m p1 p2 p3 = some (r, m) → ∃ r c' m', oV (f_X1_draft c) (fun t => t) (fun s8 => oW (f_X3_changeCapacity (s8.1 0) p1 p3) (cS s8 0) (fun r21 s21 => oW (f_X1_settle s21 r21) (fun t => t) (fun r24 s24 => some (r24, s24)))) = some (r, c') ∧ f_X6_setZone m p1 p2 p3 = some (r, m') ∧ TopE c' m' := fun r hr e1 e2 =>
      t_refuse hT (act := fun s => f_X3_changeCapacity s p1 p3) e1 hr hcr e2 hrm Fr.refl FrH.refl
    rcases zone_cases p1 with ⟨z, hz, rfl⟩ | ⟨e1, e2⟩
    · have z0 : m.1 1 (10 + 22 * z) = nI (A.1 13 z) := hrm.zn (k := 0) hz (by decide)
      rcases range_cases p3 1 16 (by decide) (by decide) with ⟨v, hv1, hv8, rfl, q1, q2⟩ | ⟨_, q1, q2⟩
      · have q1 : f_X5_isFrom (nI v) 1 16 = some 1 := q1
        have q2 : f_X6_in (nI v) 1 16 = some 1 := q2
        by_cases e : A.1 13 z = 0
        · refine t_change hT (act := fun s => f_X3_changeCapacity s (nI z) (nI v)) (ix := 10 + 22 * z + 1) (old := A.1 14 z) (v := v) (by omega) (hrm.zn hz (by decide)) (bd.2.1 14 z) (by omega) (hA.mono (Iv_cap hA.1 hz e hv1 hv8) rfl (funext fun i => setA_nm (by decide)) (fun a _ hx => by rw [setA_nm (by decide)] at hx; exact hx) rfl) (fun s hs => RM_zone (k := 1) hs bd hz (by decide)) (τ := sA (c.1 0) 14 (upd ((c.1 0).1 14) z (nI v))) ?_ (fun x => sA_self (by rw [hcr.1.zn (by decide) (by decide) hz, x])) (CR_zone hcr (by decide) (by decide)) ?_
          · unfold f_X3_changeCapacity
            rw [w_isZone hz, oR_some, if_neg (show ¬ (1 : Int32) = 0 by decide), q1, oR_some, if_neg (show ¬ (1 : Int32) = 0 by decide), oA_at hz (by decide), hcr.1.zn (by decide) (by decide) hz, e, if_pos (show nI 0 = 0 from rfl), oA_at hz (by decide), oS_at hz (by decide), hcr.1.zn (by decide) (by decide) hz, if_eqN (bd.2.1 14 z) (by omega)]
            split <;> rfl
          · unfold f_X6_setZone
            rw [w_isZoneM hz, oR_some, if_neg (show ¬ (1 : Int32) = 0 by decide)]
            simp only [oJ_to, if_pos hd]
            rw [q2, oR_some, if_neg (show ¬ (1 : Int32) = 0 by decide), rZ0, oA_b (by omega), z0, e, if_pos (show nI 0 = 0 from rfl), rZ1]
        · refine no (-4) (by decide) ?_ ?_
          · unfold f_X3_changeCapacity
            rw [w_isZone hz, oR_some, if_neg (show ¬ (1 : Int32) = 0 by decide), q1, oR_some, if_neg (show ¬ (1 : Int32) = 0 by decide), oA_at hz (by decide), hcr.1.zn (by decide) (by decide) hz, if_neg (fun x => e ((nI_eq0 (bd.2.1 13 z)).1 x))]
          · unfold f_X6_setZone
            rw [w_isZoneM hz, oR_some, if_neg (show ¬ (1 : Int32) = 0 by decide)]
            simp only [oJ_to, if_pos hd]
            rw [q2, oR_some, if_neg (show ¬ (1 : Int32) = 0 by decide), rZ0, oA_b (by omega), z0, if_neg (fun x => e ((nI_eq0 (bd.2.1 13 z)).1 x))]
      · have q1 : f_X5_isFrom p3 1 16 = some 0 := q1
        have q2 : f_X6_in p3 1 16 = some 0 := q2
        refine no (-2) (by decide) ?_ ?_
        · unfold f_X3_changeCapacity
          rw [w_isZone hz, oR_some, if_neg (show ¬ (1 : Int32) = 0 by decide), q1, oR_some, if_pos rfl]
        · unfold f_X6_setZone
          rw [w_isZoneM hz, oR_some, if_neg (show ¬ (1 : Int32) = 0 by decide)]
          simp only [oJ_to, if_pos hd]
          rw [q2, oR_some, if_pos rfl]
    · refine no (-1) (by decide) ?_ ?_
      · unfold f_X3_changeCapacity
        rw [e1, oR_some, if_pos rfl]
      · unfold f_X6_setZone
        rw [e2, oR_some, if_pos rfl]
  · have X : f_X5_setZone c p1 p2 p3 = oV (f_X1_draft c) (fun t => t) (fun s8 => oW (f_X3_changeDelay (s8.1 0) p1 p3) (cS s8 0) (fun r21 s21 => oW (f_X1_settle s21 r21) (fun t => t) (fun r24 s24 => some (r24, s24)))) := by
      unfold f_X5_setZone
      simp only [oJ_to, if_neg hd]
    rw [X]
    have no : ∀ r : Int32, r < 0 → f_X3_changeDelay (c.1 0) p1 p3 = some (r, c.1 0) → f_X6_setZone m p1 p2 p3 = some (r, m) → ∃ r c' m', oV (f_X1_draft c) (fun t => t) (fun s8 => oW (f_X3_changeDelay (s8.1 0) p1 p3) (cS s8 0) (fun r21 s21 => oW (f_X1_settle s21 r21) (fun t => t) (fun r24 s24 => some (r24, s24)))) = some (r, c') ∧ f_X6_setZone m p1 p2 p3 = some (r, m') ∧ TopE c' m' := fun r hr e1 e2 =>
      t_refuse hT (act := fun s => f_X3_changeDelay s p1 p3) e1 hr hcr e2 hrm Fr.refl FrH.refl
    rcases zone_cases p1 with ⟨z, hz, rfl⟩ | ⟨e1, e2⟩
    · rcases range_cases p3 1 9 (by decide) (by decide) with ⟨v, hv1, hv8, rfl, q1, q2⟩ | ⟨_, q1, q2⟩
      · have q1 : f_X5_isFrom (nI v) 1 9 = some 1 := q1
        have q2 : f_X6_in (nI v) 1 9 = some 1 := q2
        refine t_change hT (act := fun s => f_X3_changeDelay s (nI z) (nI v)) (ix := 10 + 22 * z + 2) (old := A.1 15 z) (v := v) (by omega) (hrm.zn hz (by decide)) (bd.2.1 15 z) (by omega) (hA.mono (Iv_delay hA.1 hz hv1 hv8) rfl (funext fun i => setA_nm (by decide)) (fun a _ hx => by rw [setA_nm (by decide)] at hx; exact hx) rfl) (fun s hs => RM_zone (k := 2) hs bd hz (by decide)) (τ := sA (c.1 0) 15 (upd ((c.1 0).1 15) z (nI v))) ?_ (fun x => sA_self (by rw [hcr.1.zn (by decide) (by decide) hz, x])) (CR_zone hcr (by decide) (by decide)) ?_
        · unfold f_X3_changeDelay
          rw [w_isZone hz, oR_some, if_neg (show ¬ (1 : Int32) = 0 by decide), q1, oR_some, if_neg (show ¬ (1 : Int32) = 0 by decide), oA_at hz (by decide), oS_at hz (by decide), hcr.1.zn (by decide) (by decide) hz, if_eqN (bd.2.1 15 z) (by omega)]
          split <;> rfl
        · unfold f_X6_setZone
          rw [w_isZoneM hz, oR_some, if_neg (show ¬ (1 : Int32) = 0 by decide)]
          simp only [oJ_to, if_neg hd]
          rw [q2, oR_some, if_neg (show ¬ (1 : Int32) = 0 by decide), rZ2]
      · have q1 : f_X5_isFrom p3 1 9 = some 0 := q1
        have q2 : f_X6_in p3 1 9 = some 0 := q2
        refine no (-2) (by decide) ?_ ?_
        · unfold f_X3_changeDelay
          rw [w_isZone hz, oR_some, if_neg (show ¬ (1 : Int32) = 0 by decide), q1, oR_some, if_pos rfl]
        · unfold f_X6_setZone
          rw [w_isZoneM hz, oR_some, if_neg (show ¬ (1 : Int32) = 0 by decide)]
          simp only [oJ_to, if_neg hd]
          rw [q2, oR_some, if_pos rfl]
    · refine no (-1) (by decide) ?_ ?_
      · unfold f_X3_changeDelay
        rw [e1, oR_some, if_pos rfl]
      · unfold f_X6_setZone
        rw [e2, oR_some, if_pos rfl]
