/-! PURE: following a text -/
theorem FG.fr {m m' : MS} (h : FG m m') : Fr m m' ∧ FrH m m' := ⟨⟨h.1 4 (by decide) (by decide) (by decide), h.1 5 (by decide) (by decide) (by decide), h.2 1 (by decide) (by decide) (by decide) (by decide) (by decide), h.2 2 (by decide) (by decide) (by decide) (by decide) (by decide)⟩, h.1 3 (by decide) (by decide) (by decide), h.2 0 (by decide) (by decide) (by decide) (by decide) (by decide)⟩
def go0 (m : MS) : MS := sN (sN (sN m 5 0) 6 0) 7 0
theorem go0_f {m : MS} : FQ m (go0 m) := ⟨fun _ _ => rfl, fun k a b c => by unfold go0; rw [sN_ne c, sN_ne b, sN_ne a]⟩
theorem go0_s {m : MS} : St (go0 m) (0, false) := ⟨by unfold go0; rw [sN_ne (by decide), sN_ne (by decide), sN_eq]; rfl, by unfold go0; rw [sN_ne (by decide), sN_eq]; rfl⟩
theorem w_go {m : MS} {p1 : Int32} : f_X6_go m p1 = f_X6_go_L19 p1 (fun w2_120 sx120 => some (w2_120, sx120)) FU (nI 0) 1 (go0 m) := by
  unfold f_X6_go
  rw [oN_to, oZ0, oN_to]
  rfl
theorem call_follow {c : CS} {m : MS} (h : TopE c m) : ∃ r c' m', f_X5_follow c = some (r, c') ∧ f_X6_follow m = some (r, m') ∧ TopE c' m' := by
  obtain ⟨A, o, k, H, b, S, L, t, hT⟩ := h
  have hcr := hT.1
  have hrm := hT.2.1
  have hA := hT.2.2.1
  have I := hA.1
  obtain ⟨x1, x2, x3, x4⟩ := hT.2.2.2.2.2.2
  have TCc : TC c L t := ⟨x1, x3, fun i hi => ⟨(x4 i hi).1, (x4 i hi).2.2⟩⟩
  have TMm : TM m L t := ⟨x2, x3, fun i hi => ⟨(x4 i hi).2.1, (x4 i hi).2.2⟩⟩
  obtain ⟨F1, F2⟩ := fa_prs TCc 62 0 FU (Nat.zero_le _) (by omega) (by show _ < 20000; omega)
  have F1 : f_X2_fault c = (if (prs (cr t L) L 62 0).1 = true then some (-1) else some (nI (prs (cr t L) L 62 0).2)) := F1
  obtain ⟨N0, s2, g1, g2, g3, g4⟩ := go_prs (L := L) (t := t) 62 0 FU 0 (go0 m) (go0_f.g.tm TMm) go0_s (Nat.zero_le _) (by omega) (by show _ < 20000; omega)
  have gf : FQ m s2 := FQ.trans go0_f g2
  unfold f_X5_follow f_X6_follow
  rw [F1, w_go, g1, oW_some]
  by_cases e : (prs (cr t L) L 62 0).1 = true
  · have s26 := g3 e
    rw [if_pos e, oR_some, if_pos rfl, if_pos s26]
    obtain ⟨d, f1, f2, f3, f4, f5⟩ := w_draft hT.2.2.2.1 hcr I
    obtain ⟨s22, a1, a2, a3, a4⟩ := w_aside (σ := s2) (K := fun sx27 => some sx27)
    have a1 : f_X6_putAside s2 = some s22 := a1
    have TM22 : TM (go0 s22) L t := by
      refine go0_f.g.tm ?_
      refine ⟨by rw [a3, gf.2 2 (by decide) (by decide) (by decide)]; exact x2, x3, fun i hi => ?_⟩
      rw [a4 5 (by decide), gf.1 5 (by decide)]
      exact ⟨(x4 i hi).2.1, (x4 i hi).2.2⟩
    have R22 : RM ((go0 s22).1 1) A := by
      show RM (s22.1 1) A
      rw [a4 1 (by decide), gf.1 1 (by decide)]
      exact hrm
    have TCd : TC d L t := by
      unfold TC
      rw [f5.2.2.2, f5.2.1]
      exact TCc
    rw [f1, oV_some, a1, oV_some, w_go]
    -- what the row aside holds
    have side : ∀ σ', FG (go0 s22) σ' → ∀ j, j < 2204 → σ'.1 2 j = m.1 1 j := fun σ' hg j hj => by
      rw [hg.1 2 (by decide) (by decide) (by decide)]
      show s22.1 2 j = _
      rw [a2 j hj, gf.1 1 (by decide)]
    have fr0 : Fr m s22 ∧ FrH m s22 := by
      have q := (FQ.g gf).fr
      exact ⟨q.1.trans ⟨a4 4 (by decide), a4 5 (by decide), by rw [a3], by rw [a3]⟩, q.2.trans ⟨a4 3 (by decide), by rw [a3]⟩⟩
    have fr1 : ∀ σ', FG (go0 s22) σ' → Fr m σ' ∧ FrH m σ' := fun σ' hg => by
      have q := (FG.trans (FQ.g (go0_f (m := s22))) hg).fr
      exact ⟨fr0.1.trans q.1, fr0.2.trans q.2⟩
    rcases w_exec (L := L) (t := t) I 62 0 0 FU FU d (go0 s22) A e (Nat.zero_le _) (Nat.le_refl _) (by show _ < 20000; omega) (by show _ < 20000; omega) TCd f2 (by rw [f3]; exact hcr) f4 R22 hA TM22 go0_s with ⟨N, c', σ', B, w0, w1, w2, w3, w4, w5, w6, w7, w8, w9, w10⟩ | ⟨r, c', σ', N, w0, w1, w2, w3, w4, w5, w6, w7⟩
    · have w1 : f_X5_follow_L34 (fun w3_100 sx100 => oW (f_X1_settle sx100 w3_100) (fun t => t) (fun r105 s105 => some (r105, s105))) FU 0 0 d = oW (f_X1_settle c' (nI N)) (fun t => t) (fun r105 s105 => some (r105, s105)) := w1
      obtain ⟨c2, o', u1, u2, u3, u4⟩ := w_settle w3 w5 (v := N) (by omega)
      obtain ⟨m1, v1, v2, v3, v4⟩ := w_swapL (σ := σ') (K := fun sx88 => oV (f_X6_know sx88) (fun t => t) (fun s89 => oV (f_X6_putBack s89) (fun t => t) (fun s93 => some (nI N, s93))))
      have frS := fr1 σ' w8
      have Rm1 : RM (m1.1 1) A := RM_congr hrm (fun j hj => by rw [(v2 j hj).1, side σ' w8 j hj]) I.a.1 I.told
      have HM1 : HM m1 k H := hT.2.2.2.2.1.fr (frS.2.trans ⟨v4 3 (by decide) (by decide), by rw [v3]⟩)
      obtain ⟨m2, k1, k2, k3, k4⟩ := w_know HM1 Rm1 hA
      obtain ⟨m3, b1, b2, b3, b4⟩ := w_back (σ := m2) (K := fun sx27 => some sx27)
      have b1 : f_X6_putBack m2 = some m3 := b1
      rw [w1, u1, oW_some, w2, oW_some, w9, if_pos (show (0 : Int32) ≤ 0 by decide), v1, k1, oV_some, b1, oV_some]
      refine ⟨_, _, _, rfl, rfl, top_yes hT (B := B) (by rw [u3]; exact w4) u2 (FrC.trans f5 (FrC.trans w10 u4)) (RM_congr w6 (fun j hj => by rw [b2 j hj, k3 2 (by decide), (v2 j hj).2]) w7.1.a.1 w7.1.told) ?_ (k2.fr ⟨b4 3 (by decide), by rw [b3]⟩) w7⟩
      refine frS.1.trans (Fr.trans ⟨v4 4 (by decide) (by decide), v4 5 (by decide) (by decide), by rw [v3], by rw [v3]⟩ ((know_fr k3 k4).trans ⟨b4 4 (by decide), b4 5 (by decide), by rw [b3], by rw [b3]⟩))
    · have w1 : f_X5_follow_L34 (fun w3_100 sx100 => oW (f_X1_settle sx100 w3_100) (fun t => t) (fun r105 s105 => some (r105, s105))) FU 0 0 d = some (r, c') := w1
      obtain ⟨m3, b1, b2, b3, b4⟩ := w_back (σ := σ') (K := fun sx27 => some sx27)
      have b1 : f_X6_putBack σ' = some m3 := b1
      have frS := fr1 σ' w6
      rw [w1, w2, oW_some, w3, if_neg (Int32.not_le.2 w0), b1, oV_some]
      have e7 : m3.2 7 = r := by rw [b3]; exact w3
      refine ⟨_, _, _, rfl, by rw [e7], top_no hT (A := A) w5 w4 (FrC.trans f5 w7) (RM_congr hrm (fun j hj => by rw [b2 j hj, side σ' w6 j hj]) I.a.1 I.told) (frS.1.trans ⟨b4 4 (by decide), b4 5 (by decide), by rw [b3], by rw [b3]⟩) (frS.2.trans ⟨b4 3 (by decide), by rw [b3]⟩)⟩
  · have ef : (prs (cr t L) L 62 0).1 = false := by simpa using e
    obtain ⟨s26, s25⟩ := g4 ef
    have hle := F2 ef
    have hne : ¬ nI (prs (cr t L) L 62 0).2 = -1 := fun x => by
      have := nI_pos (n := (prs (cr t L) L 62 0).2) (by omega)
      rw [x] at this
      exact this (by decide)
    rw [if_neg e, oR_some, if_neg hne, if_neg (by rw [s26]; decide), s25]
    have q := (FQ.g gf).fr
    refine ⟨_, _, _, rfl, rfl, top_no hT hcr hT.2.2.2.1 FrC.refl (by rw [gf.1 1 (by decide)]; exact hrm) q.1 q.2⟩
