/-! PURE (p25): the law's loop -/
theorem oJ_ok {κ α : Type} {j : κ} {b : κ → Option α} {r : Option α} (P : κ → Prop) (h1 : P j) (h2 : ∀ k, P k → b k = r) : oJ j b = r := h2 j h1
theorem w_law10 {Ls : Nat} {xs : Nat → Int32} (hL : Ls ≤ 260) : ∀ (d i m : Nat) (c : CS) (A : NS) (o k : Nat) (H : Nat → NS), i + d = 56 → d < m → Tq c A o k H → A.2 10 ≤ 4 * i → f_L_law_L10 Ls xs (fun _ => some 1) m (nI i) c = some 1 := by
  intro d
  induction d with
  | zero =>
    intro i m c A o k H hi hm _ _
    obtain ⟨m, rfl⟩ : ∃ q, m = q + 1 := ⟨m - 1, by omega⟩
    have e : i = 56 := by omega
    subst e
    rw [f_L_law_L10, if_pos (show (56 : Int32) ≤ nI 56 by decide)]
  | succ d ih =>
    intro i m c A o k H hi hm h ht
    obtain ⟨m, rfl⟩ : ∃ q, m = q + 1 := ⟨m - 1, by omega⟩
    obtain ⟨v, ev⟩ := w_cell (Ls := Ls) (xs := xs) hL (e := i) (by omega)
    obtain ⟨r, c', A', o', k', H', ed, h', ht', hr, hw⟩ := w_does h v
    have I' := h'.2.1.1
    have hn' := I'.a.1
    have h10 : ¬ (1 : Int32) = 0 := by decide
    have bw : atW A' ≤ A'.2 0 := cnt_le _ _
    have bw0 : atW A ≤ A.2 0 := cnt_le _ _
    have hn0 := h.2.1.1.a.1
    rw [f_L_law_L10, if_neg (show ¬ (56 : Int32) ≤ nI i from nI_ge (b := 56) (by omega) (by decide)), ev, oR_some, q_count9 h, oR_some, ed, oW_some, if_neg hr, q_count9 h', oR_some]
    refine oJ_ok (fun x => x = some 1) ?_ (fun k69 hk => ?_)
    · rw [w_zonesSo h', oR_some, if_neg h10]
      refine oJ_ok (fun K => ∀ c1 o1 k1 H1, Tq c1 A' o1 k1 H1 → K c1 = some 1) (fun c1 o1 k1 H1 h1 => ?_) (fun k112 hk => ?_)
      · rw [q_count7 h1, oR_some]
        refine oJ_ok (fun K => ∀ t, (A'.2 0 = 0 ∨ ∃ a, a < A'.2 0 ∧ t = nI a) → K t = some 1) (fun t htt => ?_) (fun k138 hk => ?_)
        · refine oJ_ok (fun K => ∀ c2 o2 k2 H2, Tq c2 A' o2 k2 H2 → K c2 = some 1) (fun c2 o2 k2 H2 h2 => ?_) (fun k194 hk => ?_)
          · show f_L_law_L10 Ls xs _ m (nI i + 1) c2 = some 1
            rw [nI_1]
            exact ih (i + 1) m c2 A' o2 k2 H2 (by omega) (by omega) h2 (by omega)
          · by_cases c0 : A'.2 0 = 0
            · rw [if_pos (show nI (A'.2 0) ≤ 0 by rw [c0]; decide)]
              exact hk c1 o1 k1 H1 h1
            · rw [if_neg (show ¬ nI (A'.2 0) ≤ 0 from nI_ge (a := 0) (by omega) (by omega))]
              obtain ⟨a, ha, rfl⟩ := htt.resolve_left c0
              by_cases cm : nI i - nI i / 3 * 3 = 1
              · rw [if_pos cm, q_app3 h1 ha, oR_some]
                by_cases cp : A'.1 5 a ≤ 1
                · obtain ⟨c2, e2, h2⟩ := q_toldIn h1 ha cp
                  obtain ⟨c3, o3, k3, H3, e3, h3⟩ := w_toldSo h2 ha cp (by omega)
                  rw [if_pos (show nI (A'.1 5 a) ≤ 1 from nI_le (b := 1) cp (by decide)), e2, oW_some, e3, oW_some, if_neg h10]
                  exact hk c3 o3 k3 H3 h3
                · rw [if_neg (show ¬ nI (A'.1 5 a) ≤ 1 from nI_ge (a := 1) (by omega) (I'.b.2.1 5 a)), q_toldIn_no h1 ha cp, oW_some, if_pos rfl]
                  exact hk c1 o1 k1 H1 h1
              · rw [if_neg cm]
                exact hk c1 o1 k1 H1 h1
        · by_cases c0 : A'.2 0 = 0
          · rw [if_pos (show nI (A'.2 0) = 0 by rw [c0]; rfl)]
            exact hk 0 (Or.inl c0)
          · obtain ⟨q, hq, e⟩ := w_low (v := v >>> (9 &&& 31)) (n := A'.2 0) (by omega) (by omega)
            rw [if_neg (nI_ne0 (by omega) (by omega)), e, oR_some]
            exact hk _ (Or.inr ⟨q, hq, rfl⟩)
      · by_cases cm : nI i - nI i / 4 * 4 = 3
        · obtain ⟨w, hw4, ew⟩ := pk_andE (v >>> (5 &&& 31)) (m := 3) 2 (by decide)
          obtain ⟨z, hz4, ez⟩ := pk_andE (v >>> (7 &&& 31)) (m := 3) 2 (by decide)
          obtain ⟨c2, o2, k2, H2, e2, h2⟩ := w_wouldSo h' (w := w) (z := z) (by omega) (by omega) (by omega)
          rw [if_pos cm, w_appsSo h', oR_some, if_neg h10, ew, ez, e2, oW_some, if_neg h10]
          exact hk c2 o2 k2 H2 h2
        · rw [if_neg cm]
          exact hk c' o' k' H' h'
    · by_cases cw : atW A' ≤ atW A
      · rw [if_pos (nI_le cw (by omega))]
        exact hk
      · rw [if_neg (nI_ge (by omega) (by omega)), oR_some, q_count3 h', oR_some, if_neg (nI_nlt (by omega) (I'.b.2.2 8))]
        exact hk
