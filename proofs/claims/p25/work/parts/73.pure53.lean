/-! PURE: the reference reads one order -/
def sgnK (σ : MS) (p1 p2 t0_24 : Int32) : Option (Int32 × MS) :=
  oJ (κ := Int32 → Option (Int32 × MS)) (fun t0_47 => oZ t0_47 (sN σ 6) (fun s47 => oJ (κ := Int32 → Option (Int32 × MS)) (fun t0_67 => oN ((s47.2 5) + t0_67) (sN s47 5) (fun s68 => some (t0_24, s68))) (fun k67 => if (s47.2 6) = 0 then (k67 1) else (k67 0)))) (fun k47 => oJ (κ := Option (Int32 × MS)) (k47 1) (fun k42 => if (σ.2 6) = 0 then (oR (f_X6_in t0_24 p1 p2) (fun r36 => if r36 = 0 then k42 else (k47 0))) else k42))
def ordK (σ : MS) (t0_24 : Int32) : Option MS :=
  oJ (κ := Int32 → Option (MS)) (fun t0_48 => oJ (κ := Int32 → MS → Option (MS)) (fun t0_68 s_68 => oS 4 (s_68.1 7) 0 t0_68 (sA s_68 7) (fun s68 => oJ (κ := Int32 → MS → Option (MS)) (fun t0_123 s_123 => oS 4 (s_123.1 7) 1 t0_123 (sA s_123 7) (fun s123 => if t0_48 = 0 then (oW (f_X6_sign s123 62 62) (fun t => t) (fun r134 s134 => oW (f_X6_sign s134 48 55) (fun t => t) (fun r148 s148 => oS 4 (s148.1 7) 2 (r148 - 48) (sA s148 7) (fun s154 => oW (f_X6_sign s154 61 61) (fun t => t) (fun r160 s160 => oW (f_X6_sign s160 48 57) (fun t => t) (fun r175 s175 => oS 4 (s175.1 7) 3 (r175 - 48) (sA s175 7) (fun s181 => if (s181.2 6) = 0 then (oA 4 (s181.1 7) 3 (fun x194 => if x194 ≤ 0 then (some s181) else (if (s181.2 2) ≤ (s181.2 5) then (some s181) else (oA 60 (s181.1 5) (s181.2 5) (fun x217 => oR (f_X6_in x217 48 57) (fun r222 => if r222 = 0 then (some s181) else (oA 4 (s181.1 7) 3 (fun x240 => oW (f_X6_sign s181 48 57) (fun t => t) (fun r247 s247 => oS 4 (s247.1 7) 3 (((10 * x240) + r247) - 48) (sA s247 7) (fun s254 => some s254)))))))))) else (some s181)))))))) else (some s123))) (fun k123 => if t0_24 = 112 then (oW (f_X6_sign s68 49 57) (fun t => t) (fun r85 s85 => k123 (r85 - 48) s85)) else (if t0_48 = 0 then (oW (f_X6_sign s68 48 51) (fun t => t) (fun r117 s117 => k123 (r117 - 48) s117)) else (oW (f_X6_sign s68 48 55) (fun t => t) (fun r103 s103 => k123 (r103 - 48) s103)))))) (fun k68 => if t0_48 = 0 then (k68 0 σ) else (oW (f_X6_sign σ t0_24 t0_24) (fun t => t) (fun r61 s61 => k68 r61 s61)))) (fun k48 => oJ (κ := Option (MS)) (k48 1) (fun k43 => if t0_24 = 114 then k43 else (if t0_24 = 102 then k43 else (if t0_24 = 112 then k43 else (k48 0)))))
def TM (σ : MS) (L : Nat) (t : Nat → Nat) : Prop := σ.2 2 = nI L ∧ L ≤ 60 ∧ ∀ i, i < L → σ.1 5 i = nI (t i) ∧ t i < 65536
theorem w_read1 {σ : MS} {L : Nat} {t : Nat → Nat} {p : Nat} (h : TM σ L t) (h5 : σ.2 5 = nI p) (hp : p ≤ 100) {α : Type} {K : Int32 → Option α} : (if (σ.2 2) ≤ (σ.2 5) then (K 0) else (oA 60 (σ.1 5) (σ.2 5) (fun x19 => K x19))) = K (nI (cr t L p)) := by
  obtain ⟨h1, h2, h3⟩ := h
  unfold cr
  rw [h1, h5]
  by_cases e : p < L
  · rw [if_neg (nI_ge e (by omega)), oA_at (show p < 60 by omega) (by decide), (h3 p e).1, if_pos e]
  · rw [if_pos (nI_le (by omega) (by omega)), if_neg e]; rfl
theorem cr_b {L : Nat} {t : Nat → Nat} (h : ∀ i, i < L → t i < 65536) (i : Nat) : cr t L i < 65536 := by
  unfold cr
  by_cases e : i < L
  · rw [if_pos e]; exact h i e
  · rw [if_neg e]; decide
/-- scratch of reading alone -/
def FO (σ τ : MS) : Prop := (∀ j, j ≠ 7 → τ.1 j = σ.1 j) ∧ ∀ k, k ≠ 5 → k ≠ 6 → τ.2 k = σ.2 k
theorem FO.refl {σ : MS} : FO σ σ := ⟨fun _ _ => rfl, fun _ _ _ => rfl⟩
theorem FO.trans {σ τ ρ : MS} (h : FO σ τ) (g : FO τ ρ) : FO σ ρ := ⟨fun j a => (g.1 j a).trans (h.1 j a), fun k a b => (g.2 k a b).trans (h.2 k a b)⟩
theorem FO.tm {σ τ : MS} {L : Nat} {t : Nat → Nat} (f : FO σ τ) (h : TM σ L t) : TM τ L t := ⟨by rw [f.2 2 (by decide) (by decide)]; exact h.1, h.2.1, fun i hi => by rw [f.1 5 (by decide)]; exact h.2.2 i hi⟩
theorem FO.sA {σ : MS} {f : Nat → Int32} : FO σ (sA σ 7 f) := ⟨fun _ hj => sA_ne hj, fun _ _ _ => rfl⟩
theorem w_sign {σ : MS} {L : Nat} {t : Nat → Nat} {p lo hi : Nat} (h : TM σ L t) (h5 : σ.2 5 = nI p) (hp : p ≤ 100) (hlo : lo < 65536) (hhi : hi < 65536) :
    (σ.2 6 = 0 → dg (cr t L p) lo hi = true → ∃ τ, f_X6_sign σ (nI lo) (nI hi) = some (nI (cr t L p), τ) ∧ τ.2 5 = nI (p + 1) ∧ τ.2 6 = 0 ∧ FO σ τ ∧ τ.1 = σ.1) ∧
    (σ.2 6 = 1 ∨ σ.2 6 = 0 ∧ dg (cr t L p) lo hi = false → ∃ τ, f_X6_sign σ (nI lo) (nI hi) = some (nI (cr t L p), τ) ∧ τ.2 5 = nI p ∧ τ.2 6 = 1 ∧ FO σ τ ∧ τ.1 = σ.1) := by
  have e : f_X6_sign σ (nI lo) (nI hi) = sgnK σ (nI lo) (nI hi) (nI (cr t L p)) := w_read1 h h5 hp (K := sgnK σ (nI lo) (nI hi))
  have hi1 : f_X6_in (nI (cr t L p)) (nI lo) (nI hi) = some (if dg (cr t L p) lo hi = true then 1 else 0) := inF (cr_b (fun i hi => (h.2.2 i hi).2) p) hlo hhi
  rw [e]
  unfold sgnK
  simp only [oJ_to]
  rw [hi1]
  have yes : ∃ τ, oZ 0 (sN σ 6) (fun s47 => if (s47.2 6) = 0 then (oN ((s47.2 5) + 1) (sN s47 5) (fun s68 => some (nI (cr t L p), s68))) else (oN ((s47.2 5) + 0) (sN s47 5) (fun s68 => some (nI (cr t L p), s68)))) = some (nI (cr t L p), τ) ∧ τ.2 5 = nI (p + 1) ∧ τ.2 6 = 0 ∧ FO σ τ ∧ τ.1 = σ.1 := by
    rw [oZ0, sN_eq, if_pos rfl, oN_to, sN_ne (by decide), h5, nI_1]
    exact ⟨_, rfl, sN_eq, by rw [sN_ne (by decide), sN_eq], ⟨fun _ _ => rfl, fun k a b => by rw [sN_ne a, sN_ne b]⟩, rfl⟩
  have no : ∃ τ, oZ 1 (sN σ 6) (fun s47 => if (s47.2 6) = 0 then (oN ((s47.2 5) + 1) (sN s47 5) (fun s68 => some (nI (cr t L p), s68))) else (oN ((s47.2 5) + 0) (sN s47 5) (fun s68 => some (nI (cr t L p), s68)))) = some (nI (cr t L p), τ) ∧ τ.2 5 = nI p ∧ τ.2 6 = 1 ∧ FO σ τ ∧ τ.1 = σ.1 := by
    rw [oZ1, sN_eq, if_neg (show ¬ (1 : Int32) = 0 by decide), oN_to, sN_ne (by decide), h5, show nI p + (0 : Int32) = nI p from nI_add p 0]
    exact ⟨_, rfl, sN_eq, by rw [sN_ne (by decide), sN_eq], ⟨fun _ _ => rfl, fun k a b => by rw [sN_ne a, sN_ne b]⟩, rfl⟩
  constructor
  · intro h6 hd
    rw [if_pos h6, oR_some, if_pos hd, if_neg (show ¬ (1 : Int32) = 0 by decide)]
    exact yes
  · rintro (h6 | ⟨h6, hd⟩)
    · rw [if_neg (by rw [h6]; decide)]
      exact no
    · have hd' : ¬ dg (cr t L p) lo hi = true := by rw [hd]; decide
      rw [if_pos h6, oR_some, if_neg hd', if_pos rfl]
      exact no
