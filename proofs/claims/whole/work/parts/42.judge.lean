/-! ===== judge: both sides at once ===== -/
variable {c : Ca} {pl ha : Int32} {fn ff fe fk : Nat → Int32} {pl' ha' : Int32} {fn' ff' fe' fk' : Nat → Int32} {fs fv fc : Nat → Int32} {d n : Int32} {page : Nat → Int32}
theorem x_unit {nn : Nat} (h1 : 1 ≤ nn) (h4 : nn ≤ 4) {K : Int64 → Int32 → Prop} (h : K (lN (1000 ^ (nn - 1))) (nI nn)) : ∃ k, L_X8_judge_19 (nI nn) K k (1 : Int64) (1 : Int32) := by
  refine lpD (fun r i (s : Int64) => L_X8_judge_19 (nI nn) K r s (nI i)) (fun i => lN (1000 ^ (i - 1))) 1 nn h1 (by rfl) ?_ ?_
  · intro r
    exact ⟨fun _ => h, fun z => absurd (nI_rf _) z⟩
  · intro r i hi hlt ih
    refine ⟨fun z => absurd z (nI_ge hlt (by omega)), fun _ => ?_⟩
    have e : lN (1000 ^ (i - 1)) * (1000 : Int64) = lN (1000 ^ (i + 1 - 1)) := by
      have : lN (1000 ^ (i - 1)) * lN 1000 = lN (1000 ^ (i - 1) * 1000) := lN_mul _ _
      rw [← Nat.pow_succ, show (i - 1).succ = i + 1 - 1 by omega] at this
      exact this
    rw [nI_1, e]
    exact ih
theorem pw {nn : Nat} (h1 : 1 ≤ nn) (h4 : nn ≤ 4) : 1000 ^ (nn - 1) * 1000 = 1000 ^ nn := by rw [← Nat.pow_succ]; congr 1; omega
theorem j_judge (hC : JC c pl ha fn ff fe fk pl' ha' fn' ff' fe' fk') (hM : JM c fs fv fc d n page) {td tn : Int32} {ts tv tc tr : Nat → Int32} (p : Int32) (row : Int64) : wp_X8_judge td tn d n fs ts fv tv fc tc pl ha fk ff fe fn p row (fun r _ _ _ _ _ => wp_X9_judge pl' ha' page tr fe' fk' ff' fn' p row (fun r' _ _ => r = r')) := by
  obtain ⟨e1, e2, e3, e4, hc1, hc2⟩ := hC
  subst e1 e2 e3 e4
  obtain ⟨m, hm1, hm2⟩ := hM
  have bad : ¬ ((1 : Int32) ≤ p ∧ p ≤ 4) → wp_X9_judge (nI (cnp c)) (nI (cnh c)) page tr fe' fk' ff' fn' p row (fun r' _ _ => (-2 : Int32) = r') := fun z => by
    unfold wp_X9_judge
    rw [l1, l4]
    exact in_no z (z0 rfl)
  refine ⟨fun z => bad (fun g => not_of_lt z g.1), fun z => ⟨fun w' => ?_, fun w' => bad (fun g => w' g.2)⟩⟩
  have hin : (1 : Int32) ≤ p ∧ p ≤ 4 := ⟨lt_of_not z, w'⟩
  obtain ⟨nn, h1, h4, e⟩ := bet (lo := 1) (hi := 4) (by omega) (by omega) hin
  subst e
  have hU := p1000 (nn - 1) (by omega)
  have hV := p1000 nn (by omega)
  have hp := pw h1 h4
  have go : ∀ {r : Int32}, (¬ ((0 : Int64) ≤ row ∧ row ≤ lN (1000 ^ nn - 1)) → r = -2) → ((0 : Int64) ≤ row ∧ row ≤ lN (1000 ^ nn - 1) → ∀ q', momM c m q' → ∃ k, L_X9_judge_44 (nI (cnp c)) (nI (cnh c)) fe' fk' ff' fn' (nI nn) row (fun r' _ _ => r = r') (K_X9_judge_44 (fun r' _ _ => r = r')) k 0 q') → wp_X9_judge (nI (cnp c)) (nI (cnh c)) page tr fe' fk' ff' fn' (nI nn) row (fun r' _ _ => r = r') := fun {r} g1 g2 => by
    unfold wp_X9_judge
    have hl : (1 : Int64) = (1 : Int32).toInt64 := l1
    refine m_in _ _ _ (fun q => absurd ?_ q) (fun _ => z1 (m_longPower h4 ?_))
    · rw [l1, l4]
      exact ⟨(w_le _ _).mpr hin.1, (w_le _ _).mpr hin.2⟩
    · have es : lN (1000 ^ nn) - (1 : Int64) = lN (1000 ^ nn - 1) := lN_sub (b := 1) hV.1
      rw [es]
      exact m_in _ _ _ (fun q => y0 (g1 q)) (fun q => y1 (m_begin (fun q' hq => g2 q q' (momM_congr hc2 hq hm2))))
  refine x_unit h1 h4 ?_
  unfold K_X8_judge_19
  rw [lg_cmp_lt, lg_cmp_lt]
  refine ⟨fun q => go (fun _ => rfl) (fun g => absurd g.1 (lg_lt_not_le q)), fun q => ?_⟩
  obtain ⟨R, hR, eR⟩ := pk_lOf q
  subst eR
  have ed : lN R / (1000 : Int64) = lN (R / 1000) := pk_lDiv (b := 1000) hR (by omega) (by omega)
  rw [ed, pk_lLT (by omega) (by omega)]
  have hle : ((0 : Int64) ≤ lN R ∧ lN R ≤ lN (1000 ^ nn - 1)) ↔ R / 1000 < 1000 ^ (nn - 1) := by
    have h0 : (0 : Int64) ≤ lN R := (pk_lLE (a := 0) (by omega) hR).mpr (Nat.zero_le _)
    rw [pk_lLE hR (by omega), Nat.div_lt_iff_lt_mul (by omega), hp]
    exact ⟨fun g => by omega, fun g => ⟨h0, by omega⟩⟩
  refine ⟨fun s => ?_, fun s => go (fun _ => rfl) (fun g => absurd (hle.mp g) s)⟩
  have hR2 : R < 1000000000000 := by
    have := (Nat.div_lt_iff_lt_mul (k := 1000) (by omega)).mp s
    omega
  exact x_firstNotSo hc1 hm1 h1 h4 hR2 (fun _ _ _ _ _ => go (fun g => absurd (hle.mpr s) g) (fun _ q' hq' => m_judge44 hc2 hq' h1 h4 hR2 (fun _ => rfl)))
