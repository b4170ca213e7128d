/-! ===== what is to come, what is heard, chances: both sides at once ===== -/
variable {c : Ca} {pl ha : Int32} {fn ff fe fk : Nat → Int32} {pl' ha' : Int32} {fn' ff' fe' fk' : Nat → Int32} {fs fv fc : Nat → Int32} {d n : Int32} {page : Nat → Int32}
theorem heaR_push {k : Nat} {T O C ft fo fc : Nat → Int32} (h : heaR k T O C ft fo fc) (hk : k < 6) {t o w : Int32} (ho : o = 0 ∨ o = 1) : heaR (k + 1) (upd T k t) (upd O k o) (upd C k w) (upd ft k t) (upd fo k o) (upd fc k w) := by
  refine ⟨by omega, fun i hi => ?_⟩
  by_cases e : i = k
  · subst e; rw [upd_at, upd_at, upd_at, upd_at, upd_at, upd_at]; exact ⟨rfl, rfl, rfl, ho⟩
  · rw [upd_ne e, upd_ne e, upd_ne e, upd_ne e, upd_ne e, upd_ne e]; exact h.2 i (by omega)
theorem in_ll {x : Int32} {lo hi : Int32} (h : lo ≤ x ∧ x ≤ hi) {post : Int32 → Prop} (hp : post 1) : wp_X9_in x.toInt64 lo.toInt64 hi.toInt64 post := m_in32 _ _ _ (fun z => absurd h z) (fun _ => hp)
theorem in_no {x : Int32} {lo hi : Int32} (h : ¬ (lo ≤ x ∧ x ≤ hi)) {post : Int32 → Prop} (hp : post 0) : wp_X9_in x.toInt64 lo.toInt64 hi.toInt64 post := m_in32 _ _ _ (fun _ => hp) (fun z => absurd z h)
theorem j_hear {hn : Int32} {ft fo fc : Nat → Int32} {hn' : Int32} {ft' fo' fc' : Nat → Int32} (h : JH hn ft fo fc hn' ft' fo' fc') (t o w : Int32) : wp_X8_hear hn ft fo fc t o w (fun r k ft1 fo1 fc1 => wp_X9_hear hn' ft' fo' fc' t o w (fun r' _ k' ft2 fo2 fc2 => r = r' ∧ JH k ft1 fo1 fc1 k' ft2 fo2 fc2)) := by
  have bad : ¬ ((0 : Int32) ≤ t ∧ t ≤ 9) → wp_X9_hear hn' ft' fo' fc' t o w (fun r' _ k' ft2 fo2 fc2 => (-2 : Int32) = r' ∧ JH hn ft fo fc k' ft2 fo2 fc2) := fun z => in_no z (z0 ⟨rfl, h⟩)
  refine ⟨fun z => bad (fun g => absurd g.1 (not_of_lt z)), fun z => ⟨fun w => bad (fun g => absurd g.2 (not_of_lt w)), fun w' => ?_⟩⟩
  have hin : (0 : Int32) ≤ t ∧ t ≤ 9 := ⟨lt_of_not z, lt_of_not w'⟩
  refine x_either (fun ho => z1 ?_) (fun ho => z0 (in_ll hin (z1 (m_in01 (fun g => absurd g ho) (fun _ => z0 ⟨rfl, h⟩)))))
  refine x_either (fun hw => y1 ?_) (fun hw => y0 (in_ll hin (z1 (m_in01 (fun _ => z1 (m_in01 (fun g => absurd g hw) (fun _ => y0 ⟨rfl, h⟩))) (fun g => absurd ho g)))))
  obtain ⟨k, T, O, C, e1, e2, h1, h2⟩ := h
  subst e1 e2
  have h6 := h1.1
  have go : ∀ {post : Int32 → Int32 → Int32 → (Nat → Int32) → (Nat → Int32) → (Nat → Int32) → Prop}, ((¬ nI k = 6 → (vp_in (nI k) 6 ∧ (vp_in (nI k) 6 ∧ (vp_in (nI k) 6 ∧ (post (nI k + (1 : Int32)) (0 : Int32) (nI k + (1 : Int32)) (upd ft' (nI k).toNatClampNeg t) (upd fo' (nI k).toNatClampNeg o) (upd fc' (nI k).toNatClampNeg w)))))) ∧ (nI k = 6 → (post (-4 : Int32) (0 : Int32) (nI k) ft' fo' fc'))) → wp_X9_hear (nI k) ft' fo' fc' t o w post := fun {post} z => in_ll hin (z1 (m_in01 (fun _ => z1 (m_in01 (fun _ => y1 z) (fun g => absurd hw g))) (fun g => absurd ho g)))
  refine ⟨fun g => ?_, fun g => ?_⟩
  · have g' : k < 6 := (nI_ltI (b := 6) (by omega) (by omega)).mp g
    have hv : vp_in (nI k) 6 := vp_in_nI g' (by omega)
    refine ⟨hv, hv, hv, go ⟨fun _ => ⟨hv, hv, hv, rfl, ?_⟩, fun q => ?_⟩⟩
    · rw [nI_clamp (by omega), nI_1]
      exact ⟨k + 1, _, _, _, rfl, rfl, heaR_push h1 g' ho, heaR_push h2 g' ho⟩
    · have := (nI_eq (b := 6) (by omega) (by omega)).mp q
      omega
  · have g' : k = 6 := by
      have : ¬ k < 6 := fun q => g (nI_lt (b := 6) q (by omega))
      omega
    exact go ⟨fun q => absurd (by rw [g']; rfl) q, fun _ => ⟨rfl, k, T, O, C, rfl, rfl, h1, h2⟩⟩
theorem j_whose {hn : Int32} {ft fo fc : Nat → Int32} {hn' : Int32} {ft' fo' fc' : Nat → Int32} (h : JH hn ft fo fc hn' ft' fo' fc') {i1 i2 : Int32} (p : Int32) : wp_X8_whose hn ft fo fc p (fun r => wp_X9_whose hn' i1 i2 ft' fo' fc' p (fun r' _ _ _ => r = r')) := by
  obtain ⟨k, T, O, C, e1, e2, h1, h2⟩ := h
  subst e1 e2
  refine x_either (fun ho => y1 ⟨fun q => ?_, fun q => ?_⟩) (fun ho => y0 (m_in01 (fun g => absurd g ho) (fun _ => y0 rfl)))
  · refine x_firstFitting h1 (m_in01 (fun _ => y1 (m_whose31 h2 (fun x y => ?_))) (fun g => absurd ho g))
    rw [whA, if_neg q]
  · refine x_countFitting h1 (m_in01 (fun _ => y1 (m_whose31 h2 (fun x y => ?_))) (fun g => absurd ho g))
    rw [whA, if_pos q]
theorem j_yet (hC : JC c pl ha fn ff fe fk pl' ha' fn' ff' fe' fk') (hM : JM c fs fv fc d n page) {ld ln : Int32} {ls lv lc tr : Nat → Int32} (p : Int32) : wp_X8_yet pl ha d n ld ln fs ls fv lv fc lc fk ff fn p (fun r _ _ _ _ _ => wp_X9_yet pl' ha' page tr fk' ff' fn' p (fun r' _ _ => r = r')) := by
  obtain ⟨e1, e2, e3, e4, hc1, hc2⟩ := hC
  subst e1 e2 e3 e4
  obtain ⟨m, hm1, hm2⟩ := hM
  have hnp := hc1.1
  have hD : d = page 17 := hm1.2.2.2.1.trans hm2.2.2.2.2.2.1.symm
  refine x_hasPlayer (by omega) (fun k hk e => y1 ?_) (fun hno => y0 (no_p' (by omega) hno (z1 rfl)))
  subst e
  refine x_isDead (by omega) (fun b => z0 ?_) (fun b => z1 (no_p (by omega) hk (z0 ?_)))
  · refine x_comings hc1 hm1 hk b (fun _ _ _ _ _ => no_p (by omega) hk (z0 ?_))
    rw [k17, ← hD]
    exact has_f (by omega) b (z0 (m_begin (fun q' hq => m_yetOf hc2 (momM_congr hc2 hq hm2) hk (fun _ => rfl))))
  · rw [k17, ← hD]
    exact has_t (by omega) b (z1 rfl)
theorem bestA_how {m : Mo} {h : Nat} {w : Int32} (hw : ¬ w = 0) : bestA c m h w = bestA c m h 1 := by
  unfold bestA
  rw [if_neg hw, if_neg (by decide)]
theorem j_best (hC : JC c pl ha fn ff fe fk pl' ha' fn' ff' fe' fk') (hM : JM c fs fv fc d n page) {td tn ld ln i1 i2 : Int32} {ts tv tc ls lv lc tr : Nat → Int32} (p w : Int32) : wp_X8_best ha ff d n fs td tn ts fv tv fc tc ld ln ls lv lc fk fn p w (fun r _ _ _ _ _ _ _ _ _ _ => wp_X9_best ha' i1 i2 page ff' tr fk' fn' p w (fun r' _ _ _ _ => r = r')) := by
  obtain ⟨e1, e2, e3, e4, hc1, hc2⟩ := hC
  subst e1 e2 e3 e4
  obtain ⟨m, hm1, hm2⟩ := hM
  have hnp := hc1.1
  have hnh := hc1.2.1
  have hD : d = page 17 := hm1.2.2.2.1.trans hm2.2.2.2.2.2.1.symm
  refine x_hasHand (by omega) (fun k hk e => y1 ?_) (fun hno => y0 (no_h' (by omega) hno (z1 rfl)))
  subst e
  have hf1 := (hc1.2.2.2.1 k hk).1
  have hf2 := (hc2.2.2.2.1 k hk).1
  have hfp := hc1.2.2.2.2.2.2.1 k hk
  refine x_either (fun ho => y1 ⟨vp_in_nI (by omega) (by omega), ?_⟩) (fun ho => y0 (no_h (by omega) hk (z0 (m_in01 (fun g => absurd g ho) (fun _ => y0 rfl)))))
  rw [nI_clamp (by omega), hf1]
  have go : ∀ {r : Int32}, bt d (cfo c k) = false → r = bestA c m k w → wp_X9_best (nI (cnh c)) i1 i2 page ff' tr fk' fn' (nI k) w (fun r' _ _ _ _ => r = r') := fun {r} b e => by
    refine no_h (by omega) hk (z0 (m_in01 (fun _ => y1 ⟨vp_in_nI (by omega) (by omega), ?_⟩) (fun g => absurd ho g)))
    rw [nI_clamp (by omega), hf2, k17, ← hD]
    exact has_f (by omega) b (z0 (m_best64 hc2 hm2 hk (fun _ _ _ => e)))
  refine x_isDead (by omega) (fun b => z0 ⟨fun q => ?_, fun q => ?_⟩) (fun b => z1 ?_)
  · have q0 : w = 0 := ho.resolve_right q
    exact x_bestSeat hc1 hm1 hk b (fun _ _ _ _ _ _ _ _ _ _ => go b (by rw [q0]))
  · exact x_bestSeat hc1 hm1 hk b (fun _ _ _ _ _ _ _ _ _ _ => go b (by rw [q]))
  · refine no_h (by omega) hk (z0 (m_in01 (fun _ => y1 ⟨vp_in_nI (by omega) (by omega), ?_⟩) (fun g => absurd ho g)))
    rw [nI_clamp (by omega), hf2, k17, ← hD]
    exact has_t (by omega) b (z1 rfl)
theorem bet {x : Int32} {lo hi : Nat} (hl : lo < 2 ^ 31) (hh : hi < 2 ^ 31) (h : nI lo ≤ x ∧ x ≤ nI hi) : ∃ j, lo ≤ j ∧ j ≤ hi ∧ x = nI j := by
  have h0 : ¬ x < 0 := fun z => by
    have h1 := h.1
    rw [Int32.le_iff_toInt_le, nI_toInt hl] at h1
    rw [Int32.lt_iff_toInt_lt] at z
    have : (0 : Int32).toInt = 0 := rfl
    omega
  obtain ⟨j, hj, e⟩ := nI_of h0
  subst e
  exact ⟨j, (nI_leI hl hj).mp h.1, (nI_leI hj hh).mp h.2, rfl⟩
theorem j_wants (hC : JC c pl ha fn ff fe fk pl' ha' fn' ff' fe' fk') (hM : JM c fs fv fc d n page) {td tn ld ln : Int32} {ts tv tc ls lv lc tr : Nat → Int32} (p w : Int32) : wp_X8_wants pl ha d n td tn fs ts fv tv fc tc ff ld ln ls lv lc fk fn p w (fun r _ _ _ _ _ _ _ _ _ _ => wp_X9_wants pl' ha' page tr ff' fk' fn' p w (fun r' _ _ => r = r')) := by
  obtain ⟨e1, e2, e3, e4, hc1, hc2⟩ := hC
  subst e1 e2 e3 e4
  obtain ⟨m, hm1, hm2⟩ := hM
  have hnp := hc1.1
  have hD : d = page 17 := hm1.2.2.2.1.trans hm2.2.2.2.2.2.1.symm
  refine x_hasPlayer (by omega) (fun k hk e => y1 ?_) (fun hno => y0 (no_p' (by omega) hno (z1 rfl)))
  subst e
  have bad : ¬ ((1 : Int32) ≤ w ∧ w ≤ 9) → wp_X9_wants (nI (cnp c)) (nI (cnh c)) page tr ff' fk' fn' (nI k) w (fun r' _ _ => (-2 : Int32) = r') := fun z => no_p (by omega) hk (z0 (by rw [l1, l9]; exact in_no z (y0 rfl)))
  refine ⟨fun z => bad (fun g => not_of_lt z g.1), fun z => ⟨fun w' => ?_, fun w' => bad (fun g => w' g.2)⟩⟩
  have hin : (1 : Int32) ≤ w ∧ w ≤ 9 := ⟨lt_of_not z, w'⟩
  obtain ⟨j, hj1, hj9, e⟩ := bet (lo := 1) (hi := 9) (by omega) (by omega) hin
  subst e
  refine x_isDead (by omega) (fun b => z0 ?_) (fun b => z1 (no_p (by omega) hk (z0 ?_)))
  · refine x_fewestFlowers hc1 hm1 hk b hj9 (fun _ _ _ _ _ _ _ _ _ _ => no_p (by omega) hk (z0 ?_))
    rw [l1, l9]
    refine in_ll hin (y1 ?_)
    rw [k17, ← hD]
    exact has_f (by omega) b (z0 (m_wants49 hc2 hm2 hk hj9 (fun _ => rfl)))
  · rw [l1, l9]
    refine in_ll hin (y1 ?_)
    rw [k17, ← hD]
    exact has_t (by omega) b (z1 rfl)
theorem j_still (hC : JC c pl ha fn ff fe fk pl' ha' fn' ff' fe' fk') (hM : JM c fs fv fc d n page) (p : Int32) : wp_X8_still pl ha d fk fv fs ff fn p (fun r => wp_X9_still pl' ha' page fk' ff' fn' p (fun r' _ => r = r')) := by
  obtain ⟨e1, e2, e3, e4, hc1, hc2⟩ := hC
  subst e1 e2 e3 e4
  obtain ⟨m, hm1, hm2⟩ := hM
  have hnp := hc1.1
  have hD : d = page 17 := hm1.2.2.2.1.trans hm2.2.2.2.2.2.1.symm
  refine x_hasPlayer (by omega) (fun k hk e => y1 ?_) (fun hno => y0 (no_p' (by omega) hno (z1 rfl)))
  subst e
  refine x_isDead (by omega) (fun b => z0 ?_) (fun b => z1 (no_p (by omega) hk (z0 ?_)))
  · refine x_fewestSentHome hc1 hm1.1 hm1.2.1 hk (no_p (by omega) hk (z0 ?_))
    rw [k17, ← hD]
    exact has_f (by omega) b (z0 (m_still37 hc2 hm2 hk rfl))
  · rw [k17, ← hD]
    exact has_t (by omega) b (z1 rfl)
theorem j_share (hC : JC c pl ha fn ff fe fk pl' ha' fn' ff' fe' fk') (hM : JM c fs fv fc d n page) {va : Nat → Int32} (p w u : Int32) : wp_X8_share pl ha fk fv fs ff p w u (fun r => wp_X9_share pl' ha' fk' page ff' va p w u (fun r' _ _ => r = r')) := by
  obtain ⟨e1, e2, e3, e4, hc1, hc2⟩ := hC
  subst e1 e2 e3 e4
  obtain ⟨m, hm1, hm2⟩ := hM
  have hnp := hc1.1
  have hnh := hc1.2.1
  refine x_hasHand (by omega) (fun k hk e => z1 ?_) (fun hno => z0 (no_h' (by omega) hno (y1 rfl)))
  subst e
  refine x_hasPlayer (by omega) (fun j hj e => y1 ?_) (fun hno => y0 (no_h (by omega) hk (y0 (no_p' (by omega) hno (z1 rfl)))))
  subst e
  exact x_meanLouder hc1 hm1.1 hm1.2.1 hk hj (no_h (by omega) hk (y0 (no_p (by omega) hj (z0 (m_share26 hc2 hm2 hk hj (fun _ => rfl))))))
theorem j_rests (hC : JC c pl ha fn ff fe fk pl' ha' fn' ff' fe' fk') (hM : JM c fs fv fc d n page) {i1 i2 : Int32} {ga : Nat → Int32} (p w u : Int32) : wp_X8_rests ha ff fk fv fs fn p w u (fun r => wp_X9_rests ha' i1 i2 ff' fk' page fn' ga p w u (fun r' _ _ _ _ => r = r')) := by
  obtain ⟨e1, e2, e3, e4, hc1, hc2⟩ := hC
  subst e1 e2 e3 e4
  obtain ⟨m, hm1, hm2⟩ := hM
  have hnp := hc1.1
  have hnh := hc1.2.1
  refine x_hasHand (by omega) (fun k hk e => z1 ?_) (fun hno => z0 (no_h' (by omega) hno (y1 rfl)))
  subst e
  refine x_hasHand (by omega) (fun j hj e => y1 ?_) (fun hno => y0 (no_h (by omega) hk (y0 (no_h' (by omega) hno (z1 rfl)))))
  subst e
  refine ⟨fun q => no_h (by omega) hk (y0 (no_h (by omega) hj (z0 ⟨fun _ => rfl, fun z => absurd q z⟩))), fun q => ?_⟩
  have hne : k ≠ j := fun z => q (by rw [z])
  refine x_either (fun ho => y1 ⟨vp_in_nI (by omega) (by omega), vp_in_nI (by omega) (by omega), ?_⟩) (fun ho => y0 (no_h (by omega) hk (y0 (no_h (by omega) hj (z0 ⟨fun z => absurd z q, fun _ => m_in01 (fun g => absurd g ho) (fun _ => y0 rfl)⟩)))))
  have f1 := (hc1.2.2.2.1 k hk)
  have f2 := (hc1.2.2.2.1 j hj)
  have g1 := (hc2.2.2.2.1 k hk)
  have g2 := (hc2.2.2.2.1 j hj)
  have go : ∀ {r : Int32}, ((nI (cfo c k) = nI (cfo c j) → (∃ n, L_X9_rests_62 (nI (cnh c)) ff' fk' page fn' (nI k) (nI j) (K_X9_rests_62 u (fun r' _ _ _ _ => r = r')) n (0 : Int32) ga)) ∧ (¬ nI (cfo c k) = nI (cfo c j) → r = -3)) → wp_X9_rests (nI (cnh c)) i1 i2 ff' fk' page fn' ga (nI k) (nI j) u (fun r' _ _ _ _ => r = r') := fun {r} z => by
    refine no_h (by omega) hk (y0 (no_h (by omega) hj (z0 ⟨fun z => absurd z q, fun _ => m_in01 (fun _ => y1 ⟨vp_in_nI (by omega) (by omega), vp_in_nI (by omega) (by omega), ?_⟩) (fun g => absurd ho g)⟩)))
    rw [nI_clamp (n := k) (by omega), nI_clamp (n := j) (by omega), g1.1, g2.1]
    exact z
  rw [nI_clamp (n := k) (by omega), nI_clamp (n := j) (by omega), f1.1, f2.1]
  refine ⟨fun e => ?_, fun e => go ⟨fun z => absurd z e, fun _ => rfl⟩⟩
  have e' : cfo c k = cfo c j := (nI_eq (by omega) (by omega)).mp e
  refine ⟨fun s => x_firstRest hc1 hm1.1 hm1.2.1 hk hj hne e' (go ⟨fun _ => m_rests62 hc2 hm2 hk hj hne (fun _ _ _ => ?_), fun z => absurd e z⟩), fun s => x_countRests hc1 hm1.1 hm1.2.1 hk hj hne e' (go ⟨fun _ => m_rests62 hc2 hm2 hk hj hne (fun _ _ _ => ?_), fun z => absurd e z⟩)⟩
  · rw [resA, if_neg s]
  · rw [resA, if_pos s]
theorem l10 : (10 : Int64) = (10 : Int32).toInt64 := by decide
theorem l30 : (30 : Int64) = (30 : Int32).toInt64 := by decide
theorem l4 : (4 : Int64) = (4 : Int32).toInt64 := by decide
theorem j_away (hC : JC c pl ha fn ff fe fk pl' ha' fn' ff' fe' fk') (hM : JM c fs fv fc d n page) (p w u : Int32) : wp_X8_away pl ha fk fv fs ff fn p w u (fun r => wp_X9_away pl' ha' fk' page ff' fn' p w u (fun r' _ => r = r')) := by
  obtain ⟨e1, e2, e3, e4, hc1, hc2⟩ := hC
  subst e1 e2 e3 e4
  obtain ⟨m, hm1, hm2⟩ := hM
  have hnp := hc1.1
  refine x_hasPlayer (by omega) (fun k hk e => y1 ?_) (fun hno => y0 (no_p' (by omega) hno (z1 rfl)))
  subst e
  have bad : ¬ ((0 : Int32) ≤ w ∧ w ≤ 10) → wp_X9_away (nI (cnp c)) (nI (cnh c)) fk' page ff' fn' (nI k) w u (fun r' _ => (-2 : Int32) = r') := fun z => no_p (by omega) hk (z0 (by rw [l0, l10]; exact in_no z (y0 rfl)))
  refine ⟨fun z => bad (fun g => not_of_lt z g.1), fun z => ⟨fun w' => ?_, fun w' => bad (fun g => w' g.2)⟩⟩
  have hin : (0 : Int32) ≤ w ∧ w ≤ 10 := ⟨lt_of_not z, w'⟩
  obtain ⟨j, -, hj, e⟩ := bet (lo := 0) (hi := 10) (by omega) (by omega) hin
  subst e
  refine x_enoughStay hc1 hm1.1 hm1.2.1 hk hj (no_p (by omega) hk (z0 ?_))
  rw [l0, l10]
  exact in_ll hin (y1 (m_away36 hc2 hm2 hk hj rfl))
theorem j_seasons (hC : JC c pl ha fn ff fe fk pl' ha' fn' ff' fe' fk') (hM : JM c fs fv fc d n page) {g : Int64} {td tn : Int32} {ts tv tc tr : Nat → Int32} (p : Int32) : wp_X8_seasons g td tn d n fs ts fv tv fc tc pl ha fk ff fn fe p (fun r g1 _ _ _ _ _ => wp_X9_seasons pl' ha' g page tr fe' fk' ff' fn' p (fun r' _ g2 _ => r = r' ∧ g1 = g2)) := by
  obtain ⟨e1, e2, e3, e4, hc1, hc2⟩ := hC
  subst e1 e2 e3 e4
  obtain ⟨m, hm1, hm2⟩ := hM
  have bad : ¬ ((1 : Int32) ≤ p ∧ p ≤ 30) → wp_X9_seasons (nI (cnp c)) (nI (cnh c)) g page tr fe' fk' ff' fn' p (fun r' _ g2 _ => (-2 : Int32) = r' ∧ g = g2) := fun z => by
    unfold wp_X9_seasons
    rw [l1, l30]
    exact in_no z (y0 ⟨rfl, rfl⟩)
  refine ⟨fun z => bad (fun g => not_of_lt z g.1), fun z => ⟨fun w' => ?_, fun w' => bad (fun g => w' g.2)⟩⟩
  have hin : (1 : Int32) ≤ p ∧ p ≤ 30 := ⟨lt_of_not z, w'⟩
  obtain ⟨j, -, hj, e⟩ := bet (lo := 1) (hi := 30) (by omega) (by omega) hin
  subst e
  refine x_playSeasons hc1 hm1 g hj (fun _ _ _ _ _ => ?_)
  unfold wp_X9_seasons
  rw [l1, l30]
  exact in_ll hin (y1 (m_begin (fun q' hq => m_seasons28 hc2 (momM_congr hc2 hq hm2) g hj (fun _ => ⟨rfl, rfl⟩))))
