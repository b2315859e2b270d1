/-! PURE: the class fails a zone's appends in a phase -/
theorem live_lt2 {n : Nat} {P : Nat → Bool} {i j : Nat} (hj : j < ((List.range n).filter P).length) (hij : i < j) : ((List.range n).filter P)[i]'(Nat.lt_trans hij hj) < ((List.range n).filter P)[j] := by
  have h : ((List.range n).filter P).Pairwise (· < ·) := List.Pairwise.filter _ List.pairwise_lt_range
  exact List.pairwise_iff_getElem.1 h i j _ hj hij
theorem foldl_live {A : NS} {z q r : Nat} {P : Nat → Bool} (hq : q ≠ 3) : ∀ n, (∀ a, a < n → A.1 5 a = q → P a = true) → ((List.range n).filter P).foldl (fun B a => stF z q r B a) A = aFailTo A z q r n
  | 0, _ => rfl
  | n + 1, hP => by
    have ih := foldl_live (A := A) (z := z) (r := r) (P := P) hq n (fun a ha => hP a (by omega))
    have h5 : (aFailTo A z q r n).1 5 n = A.1 5 n := by rw [aFailTo_1 hq, if_neg (by omega)]
    rw [List.range_succ, List.filter_append, List.foldl_append, ih]
    show _ = stF z q r (aFailTo A z q r n) n
    by_cases e : P n = true
    · simp [e]
    · have : ¬ A.1 5 n = q := fun x => e (hP n (by omega) x)
      have hs : stF z q r (aFailTo A z q r n) n = aFailTo A z q r n := by
        unfold stF
        rw [if_neg (fun x => this (h5 ▸ x.2))]
      rw [hs]
      simp [e]
theorem w_failInZone {σ : SS} {A : NS} {P : Nat → Bool} (h : RC σ A) (b : Bd A) (lv : LV σ (A.2 0) P) {z q r : Nat} (hz : z < 2 ^ 31) (hq : q < 2) (hr : r < 2 ^ 31) (hP : ∀ a, a < A.2 0 → A.1 5 a = q → P a = true) :
    ∃ τ, f_X0_failInZone σ (nI z) (nI q) (nI r) = some (nI (cnt (fun a => decide (A.1 3 a = z ∧ A.1 5 a = q)) (A.2 0)), τ) ∧ RC τ (aFailAll A z q r) ∧ LV τ (A.2 0) (fun a => decide ((aFailAll A z q r).1 5 a = 0 ∨ (aFailAll A z q r).1 5 a = 1) && P a) := by
  have hn := b.1
  have hl := lv.2.1
  have hF := foldl_live (A := A) (z := z) (q := q) (r := r) (P := P) (by omega) (A.2 0) hP
  have hC := countP_filter_range P (fun a => decide (A.1 3 a = z ∧ A.1 5 a = q)) (A.2 0)
  rw [cnt_and fun a ha e => hP a ha (of_decide_eq_true e).2] at hC
  have hlt : ∀ i (hi : i < ((List.range (A.2 0)).filter P).length), ((List.range (A.2 0)).filter P)[i] < A.2 0 := fun i hi => (live_lt hi).1
  have hsl : ∀ i j (hj : j < ((List.range (A.2 0)).filter P).length) (hij : i < j), ((List.range (A.2 0)).filter P)[i]'(Nat.lt_trans hij hj) < ((List.range (A.2 0)).filter P)[j] := fun i j hj hij => live_lt2 hj hij
  have hat := lv.2.2
  have hlen := lv.1
  have hLV : ∀ s : SS, s.2 = σ.2 → s.1 11 = σ.1 11 → LV s (A.2 0) P := fun s e2 e11 => ⟨by rw [e2]; exact lv.1, lv.2.1, fun i hi => by rw [e11]; exact lv.2.2 i hi⟩
  unfold f_X0_failInZone
  generalize (List.range (A.2 0)).filter P = l at hl hF hC hlt hsl hat hlen
  have L := loop_rel (B := NS) l (fun m i (c : Int32 × SS) => f_X0_failInZone_L6 (nI z) (nI q) (nI r) (fun w4_62 sx62 => oV (f_X0_dropEnded sx62) (fun t => t) (fun s63 => some (w4_62, s63))) m c.1 i c.2) (fun c => oV (f_X0_dropEnded c.2) (fun t => t) (fun s63 => some (c.1, s63))) (fun a B => stF z q r B a)
    (fun i B c => c.1 = nI ((l.take i).countP (fun a => decide (A.1 3 a = z ∧ A.1 5 a = q))) ∧ RC c.2 B ∧ c.2.2 = σ.2 ∧ c.2.1 11 = σ.1 11 ∧ B.2 = A.2 ∧ (∀ a, B.1 3 a = A.1 3 a) ∧ (∀ j (hj : j < l.length), i ≤ j → B.1 5 l[j] = A.1 5 l[j]) ∧ Bd B) (fun m B c hR => ?_) (fun m i B c hi hR => ?_) (nI 0, σ) A FU
    ⟨rfl, h, rfl, rfl, rfl, fun _ => rfl, fun _ _ _ => rfl, b⟩ (by show _ < 20000; omega)
  · obtain ⟨⟨c, s⟩, ⟨h1, h2, h3, h4, h5, h6, h7, h8⟩, e⟩ := L
    have h2 : RC s (l.foldl (fun B a => stF z q r B a) A) := h2
    rw [hF] at h2
    have h2 : RC s (aFailAll A z q r) := h2
    have h1 : c = nI ((l.take l.length).countP (fun a => decide (A.1 3 a = z ∧ A.1 5 a = q))) := h1
    rw [List.take_length, hC] at h1
    have n0 : (aFailAll A z q r).2 0 = A.2 0 := by unfold aFailAll; rw [aFailTo_2]
    have bb : Bd (aFailAll A z q r) := ⟨by rw [n0]; exact hn, fun m a => by
      unfold aFailAll
      rw [aFailTo_1 (by omega)]
      split
      · split
        · decide
        · exact hr
      · exact b.2.1 m a, fun k => by unfold aFailAll; rw [aFailTo_2]; exact b.2.2 k⟩
    obtain ⟨τ, d1, d2, d3⟩ := w_dropEnded (P := P) h2 bb (by rw [n0]; exact hLV s h3 h4)
    rw [n0] at d3
    refine ⟨τ, ?_, d2.rc h2, d3⟩
    have e : f_X0_failInZone_L6 (nI z) (nI q) (nI r) (fun w4_62 sx62 => oV (f_X0_dropEnded sx62) (fun t => t) (fun s63 => some (w4_62, s63))) FU (nI 0) (nI 0) σ = oV (f_X0_dropEnded s) (fun t => t) (fun s63 => some (c, s63)) := e
    rw [d1, oV_some, h1] at e
    exact e
  · obtain ⟨h1, h2, h3, h4, h5, h6, h7, h8⟩ := hR
    show f_X0_failInZone_L6 (nI z) (nI q) (nI r) (fun w4_62 sx62 => oV (f_X0_dropEnded sx62) (fun t => t) (fun s63 => some (w4_62, s63))) (m + 1) c.1 (nI l.length) c.2 = _
    rw [f_X0_failInZone_L6, h3, hlen, if_pos (nI_le (Nat.le_refl _) (by omega))]
  · obtain ⟨cc, s⟩ := c
    obtain ⟨h1, h2, h3, h4, h5, h6, h7, h8⟩ := hR
    have h1 : cc = nI ((l.take i).countP (fun a => decide (A.1 3 a = z ∧ A.1 5 a = q))) := h1
    subst h1
    have h2 : RC s B := h2
    have h3 : s.2 = σ.2 := h3
    have h4 : s.1 11 = σ.1 11 := h4
    have ha := hlt i hi
    have hsep : ∀ j (hj : j < l.length), i + 1 ≤ j → l[j] ≠ l[i] := fun j hj hij => by
      have := hsl i j hj (by omega)
      omega
    have e11 : s.1 11 i = nI l[i] := by rw [h4]; exact hat i hi
    have p5 : B.1 5 l[i] = A.1 5 l[i] := h7 i hi (Nat.le_refl _)
    have p3 : B.1 3 l[i] = A.1 3 l[i] := h6 _
    have haB : l[i] < B.2 0 := by rw [h5]; exact ha
    have x3 : s.1 3 l[i] = nI (A.1 3 l[i]) := by rw [← p3]; exact h2.ap (by decide) (by decide) haB
    have x5 : s.1 5 l[i] = nI (A.1 5 l[i]) := by rw [← p5]; exact h2.ap (by decide) (by decide) haB
    have hk : (l.take (i + 1)).countP (fun a => decide (A.1 3 a = z ∧ A.1 5 a = q)) = (l.take i).countP (fun a => decide (A.1 3 a = z ∧ A.1 5 a = q)) + (if decide (A.1 3 l[i] = z ∧ A.1 5 l[i] = q) = true then 1 else 0) := by
      rw [List.take_succ, List.getElem?_eq_getElem hi, List.countP_append]
      simp [List.countP_cons]
    show ∃ c' : Int32 × SS, _ ∧ f_X0_failInZone_L6 (nI z) (nI q) (nI r) (fun w4_62 sx62 => oV (f_X0_dropEnded sx62) (fun t => t) (fun s63 => some (w4_62, s63))) (m + 1) (nI ((l.take i).countP _)) (nI i) s = f_X0_failInZone_L6 (nI z) (nI q) (nI r) (fun w4_62 sx62 => oV (f_X0_dropEnded sx62) (fun t => t) (fun s63 => some (w4_62, s63))) m c'.1 (nI (i + 1)) c'.2
    rw [f_X0_failInZone_L6, h3, hlen, if_neg (nI_ge hi (by omega)), oA_at (show i < 33 by omega) (by decide), e11]
    generalize l[i] = a at ha hsep e11 p5 p3 haB x3 x5 hk
    have a201 : a < 201 := by omega
    rw [oA_at a201 (by decide), x3, oJ_to, oA_at a201 (by decide), x5, nI_1, nI_1, if_eqN (b.2.1 3 a) hz, if_eqN (b.2.1 5 a) (by omega), hk]
    have hst : stF z q r B a = if A.1 3 a = z ∧ A.1 5 a = q then aFail B a r else B := by
      unfold stF
      rw [p3, p5]
    rw [hst]
    by_cases G : A.1 3 a = z ∧ A.1 5 a = q
    · obtain ⟨τ, f1, f2, f3, f4⟩ := w_markFailed (r := r) h2 h8 haB
      have D : decide (A.1 3 a = z ∧ A.1 5 a = q) = true := decide_eq_true G
      rw [if_pos G.1, if_pos G.2, f1, oV_some, if_pos D, if_pos G]
      refine ⟨(_, τ), ⟨rfl, f2, f3.trans h3, (f4 11 (by decide) (by decide)).trans h4, h5, fun x => ?_, fun j hj hij => ?_, ?_⟩, rfl⟩
      · unfold aFail
        rw [setA_nm (by decide), setA_nm (by decide)]
        exact h6 x
      · unfold aFail
        rw [setA_nm (by decide), setA_na (hsep j hj hij)]
        exact h7 j hj (by omega)
      · refine ⟨h8.1, fun m x => ?_, h8.2.2⟩
        show (if m = 8 ∧ x = a then r else if m = 5 ∧ x = a then 3 else B.1 m x) < _
        split
        · exact hr
        · split
          · decide
          · exact h8.2.1 m x
    · have D : ¬ decide (A.1 3 a = z ∧ A.1 5 a = q) = true := fun x => G (of_decide_eq_true x)
      rw [if_neg D, if_neg G]
      refine ⟨(nI ((l.take i).countP (fun a => decide (A.1 3 a = z ∧ A.1 5 a = q))), s), ⟨rfl, h2, h3, h4, h5, h6, fun j hj hij => h7 j hj (by omega), h8⟩, ?_⟩
      by_cases g1 : A.1 3 a = z
      · rw [if_pos g1, if_neg (fun x => G ⟨g1, x⟩)]
      · rw [if_neg g1]
