/-- who may clap at all -/
def mayB (nh : Nat) (fo ki S V : Nat → Nat) (pl : Nat) (T : Nat → Bool) (h : Nat) : Bool := frB nh fo ki S V pl T h && decide (1 ≤ V h) && !decide (ki h = 3)
section CL
variable {nh : Nat} {fo ki S V : Nat → Nat} {ff fk q : Nat → Int32} {pl : Nat} {t : Int32} {post : Int32 → Prop}
theorem s_claps261 (hn : nh ≤ 7) (hk : relB nh fk ki 3) (hp : post (setI nh (loB nh fo ki S V pl (bt t)))) : ∃ n, L_X9_clapsOf_261 (nI nh) fk (setI nh (mayB nh fo ki S V pl (bt t))) (K_X9_clapsOf_261 post) n 0 0 := by
  refine lpD (fun n i s => L_X9_clapsOf_261 (nI nh) fk (setI nh (mayB nh fo ki S V pl (bt t))) (K_X9_clapsOf_261 post) n s (nI i)) (fun i => setI i (loB nh fo ki S V pl (bt t))) 0 nh (Nat.zero_le _) rfl ?_ ?_
  · intro n; exact ⟨fun _ => hp, fun h => absurd (nI_rf nh) h⟩
  · intro n i _ hi ih
    refine ⟨fun h => absurd h (nI_ge hi (by omega)), fun _ => ?_⟩
    have hK := (hk i hi).2
    rw [nI_1, nI_clamp (show i < 2 ^ 31 by omega), (hk i hi).1]
    have g0 : loB nh fo ki S V pl (bt t) i = false → L_X9_clapsOf_261 (nI nh) fk (setI nh (mayB nh fo ki S V pl (bt t))) (K_X9_clapsOf_261 post) n (setI i (loB nh fo ki S V pl (bt t)) ||| 0) (nI (i + 1)) := fun z => by
      rw [o_0, ← setI_succ_f z]; exact ih
    refine s_has (by omega) (fun hb => ?_) (fun hb => ?_)
    · rw [b_setlt _ hi (by omega)] at hb
      refine z0 (g0 ?_)
      rw [mayB] at hb; rw [loB]
      by_cases e : ki i = 2
      · rw [e] at hb ⊢; simpa using hb
      · simp [e]
    · rw [b_setlt _ hi (by omega)] at hb
      refine z1 ⟨vp_in_nI (by omega) (by omega), ?_⟩
      rw [show (2 : Int32) = nI 2 from rfl, nI_eq (by omega) (by omega)]
      refine ⟨fun hc => g0 (by simp [loB, hc]), fun hc => ?_⟩
      rw [setI_succ_t (by omega) (show loB nh fo ki S V pl (bt t) i = true by
        rw [mayB] at hb; rw [loB]; rw [hc] at hb ⊢; simpa using hb)]
      exact ih
theorem s_claps173 (hn : nh ≤ 7) (hk : relB nh fk ki 3) (hs : relB nh q S 9) (hp : post (setI nh (clapB nh fo ki S V pl (bt t)))) : ∃ n, L_X9_clapsOf_173 (nI nh) fk q (setI nh (mayB nh fo ki S V pl (bt t))) (K_X9_clapsOf_173 (nI nh) fk post (setI nh (mayB nh fo ki S V pl (bt t)))) n (setI nh (p0B nh fo ki S V pl (bt t))) 0 := by
  have usmay : ∀ j, usB nh fo ki S V pl (bt t) j = true ↔ (mayB nh fo ki S V pl (bt t) j = true ∧ ki j = 1) := fun j => by
    simp only [usB, mayB, Bool.and_eq_true, decide_eq_true_eq, Bool.not_eq_true', decide_eq_false_iff_not]
    constructor
    · rintro ⟨⟨a, b⟩, c⟩; exact ⟨⟨⟨a, c⟩, by omega⟩, b⟩
    · rintro ⟨⟨⟨a, b⟩, c⟩, d⟩; exact ⟨⟨a, d⟩, b⟩
  refine pk_loop (fun n i s => L_X9_clapsOf_173 (nI nh) fk q (setI nh (mayB nh fo ki S V pl (bt t))) (K_X9_clapsOf_173 (nI nh) fk post (setI nh (mayB nh fo ki S V pl (bt t)))) n s (nI i)) (fun i x => ∃ X : Nat → Bool, x = setI nh X ∧ (∀ j, j < nh → itB nh S (usB nh fo ki S V pl (bt t)) (p0B nh fo ki S V pl (bt t)) i j = true → X j = true) ∧ (∀ j, j < nh → X j = true → itB nh S (usB nh fo ki S V pl (bt t)) (p0B nh fo ki S V pl (bt t)) 7 j = true)) 7 0 _ (by omega) ⟨_, rfl, fun j _ e => e, fun j _ e => itB_le (by omega) (show itB nh S (usB nh fo ki S V pl (bt t)) (p0B nh fo ki S V pl (bt t)) 0 j = true from e)⟩ ?_ ?_
  · rintro n x ⟨X, rfl, h1, h2⟩
    have e7 : ∀ j, j < nh → X j = itB nh S (usB nh fo ki S V pl (bt t)) (p0B nh fo ki S V pl (bt t)) 7 j := fun j hj => by
      have a := h1 j hj
      have b := h2 j hj
      cases e1 : X j <;> cases e2 : itB nh S (usB nh fo ki S V pl (bt t)) (p0B nh fo ki S V pl (bt t)) 7 j <;> simp_all
    refine ⟨fun _ => ⟨fun h => ?_, fun h => ?_⟩, fun h => absurd (nI_rf 7) h⟩
    · have h0 := (setI_ne0 (by omega)).mp h
      rw [exB_congr e7] at h0
      rw [h]
      refine s_claps261 hn hk ?_
      refine (show ∀ {x y : Int32}, x = y → post y → post x from fun e h => e ▸ h) ?_ hp
      exact setI_congr (fun i _ => by rw [clapB, h0, if_neg (by decide)])
    · have h3 : exB nh (itB nh S (usB nh fo ki S V pl (bt t)) (p0B nh fo ki S V pl (bt t)) 7) = true := by
        cases z : exB nh (itB nh S (usB nh fo ki S V pl (bt t)) (p0B nh fo ki S V pl (bt t)) 7) with
        | true => rfl
        | false => rw [← exB_congr e7] at z; exact absurd ((setI_ne0 (by omega)).mpr z) h
      refine (show ∀ {x y : Int32}, x = y → post y → post x from fun e h => e ▸ h) ?_ hp
      exact setI_congr (fun i hi => by rw [clapB, h3, if_pos rfl, e7 i hi])
  · rintro n r x hr ⟨X, rfl, h1, h2⟩ ih
    refine ⟨fun h => absurd h (nI_ge (b := 7) hr (by omega)), fun _ => ?_⟩
    refine pk_loop (fun m i s => L_X9_clapsOf_183 (nI nh) fk q (setI nh (mayB nh fo ki S V pl (bt t))) (K_X9_clapsOf_183 (nI r) (L_X9_clapsOf_173 (nI nh) fk q (setI nh (mayB nh fo ki S V pl (bt t))) (K_X9_clapsOf_173 (nI nh) fk post (setI nh (mayB nh fo ki S V pl (bt t)))) n)) m s (nI i)) (fun i x => ∃ Y : Nat → Bool, x = setI nh Y ∧ (∀ j, j < nh → itB nh S (usB nh fo ki S V pl (bt t)) (p0B nh fo ki S V pl (bt t)) r j = true → Y j = true) ∧ (∀ j, j < nh → Y j = true → itB nh S (usB nh fo ki S V pl (bt t)) (p0B nh fo ki S V pl (bt t)) 7 j = true) ∧ (∀ j, j < i → j < nh → itB nh S (usB nh fo ki S V pl (bt t)) (p0B nh fo ki S V pl (bt t)) (r + 1) j = true → Y j = true)) nh 0 _ (Nat.zero_le _) ⟨X, rfl, h1, h2, fun j hj => absurd hj (by omega)⟩ ?_ ?_
    · rintro m x ⟨Y, rfl, g1, g2, g3⟩
      refine ⟨fun _ => ?_, fun h => absurd (nI_rf nh) h⟩
      show L_X9_clapsOf_173 (nI nh) fk q (setI nh (mayB nh fo ki S V pl (bt t))) (K_X9_clapsOf_173 (nI nh) fk post (setI nh (mayB nh fo ki S V pl (bt t)))) n (setI nh Y) (nI r + 1)
      rw [nI_1]
      exact ih _ ⟨Y, rfl, fun j hj e => g3 j hj hj e, g2⟩
    · rintro m i x hi ⟨Y, rfl, g1, g2, g3⟩ ih2
      refine ⟨fun h => absurd h (nI_ge hi (by omega)), fun _ => ?_⟩
      have hK := (hk i hi).2
      rw [nI_1, nI_clamp (show i < 2 ^ 31 by omega), (hk i hi).1]
      -- it does not come in
      have keep : (itB nh S (usB nh fo ki S V pl (bt t)) (p0B nh fo ki S V pl (bt t)) (r + 1) i = true → Y i = true) → L_X9_clapsOf_183 (nI nh) fk q (setI nh (mayB nh fo ki S V pl (bt t))) (K_X9_clapsOf_183 (nI r) (L_X9_clapsOf_173 (nI nh) fk q (setI nh (mayB nh fo ki S V pl (bt t))) (K_X9_clapsOf_173 (nI nh) fk post (setI nh (mayB nh fo ki S V pl (bt t)))) n)) m (setI nh Y ||| 0) (nI (i + 1)) := fun z => by
        rw [o_0]
        refine ih2 _ ⟨Y, rfl, g1, g2, fun j hj hj2 e => ?_⟩
        by_cases w : j = i
        · subst w; exact z e
        · exact g3 j (by omega) hj2 e
      have split : itB nh S (usB nh fo ki S V pl (bt t)) (p0B nh fo ki S V pl (bt t)) (r + 1) i = true → Y i = true ∨ (usB nh fo ki S V pl (bt t) i = true ∧ exB nh (fun o => Y o && bes (S i) (S o)) = true) := fun e => by
        rw [itB, clB, Bool.or_eq_true, Bool.and_eq_true] at e
        rcases e with e | ⟨e1, e2⟩
        · exact Or.inl (g1 i hi e)
        · obtain ⟨o, ho, e3⟩ := exB_iff.mp e2
          rw [Bool.and_eq_true] at e3
          exact Or.inr ⟨e1, exB_iff.mpr ⟨o, ho, by rw [Bool.and_eq_true]; exact ⟨g1 o ho e3.1, e3.2⟩⟩⟩
      refine s_has (by omega) (fun hb => ?_) (fun hb => ?_)
      · rw [b_setlt _ hi (by omega)] at hb
        refine z0 (keep (fun e => ?_))
        rcases split e with e | ⟨e, _⟩
        · exact e
        · rw [((usmay i).mp e).1] at hb; cases hb
      · rw [b_setlt _ hi (by omega)] at hb
        refine z1 ⟨vp_in_nI (by omega) (by omega), ?_⟩
        rw [show (1 : Int32) = nI 1 from rfl, nI_eq (by omega) (by omega)]
        refine ⟨fun hc => keep (fun e => ?_), fun hc => ?_⟩
        · rcases split e with e | ⟨e, _⟩
          · exact e
          · exact absurd ((usmay i).mp e).2 hc
        · have eqY : exB nh (fun o => bt (setI nh Y) o && bes (S i) (S o)) = exB nh (fun o => Y o && bes (S i) (S o)) := exB_congr (fun o ho => by rw [b_setlt _ ho (by omega)])
          refine s_isMoved hn hs hi _ (fun hd => ?_) (fun hd => ?_)
          · rw [eqY] at hd
            refine z0 (keep (fun e => ?_))
            rcases split e with e | ⟨_, e⟩
            · exact e
            · rw [hd] at e; cases e
          · rw [eqY] at hd
            refine z1 ?_
            show L_X9_clapsOf_183 (nI nh) fk q (setI nh (mayB nh fo ki S V pl (bt t))) (K_X9_clapsOf_183 (nI r) (L_X9_clapsOf_173 (nI nh) fk q (setI nh (mayB nh fo ki S V pl (bt t))) (K_X9_clapsOf_173 (nI nh) fk post (setI nh (mayB nh fo ki S V pl (bt t)))) n)) m (setI nh Y ||| ((1 : Int32) <<< (nI i &&& 31))) (nI (i + 1))
            rw [setI_or_bit hi (by omega)]
            refine ih2 _ ⟨_, rfl, fun j hj e => ?_, fun j hj e => ?_, fun j hj hj2 e => ?_⟩
            · simp [g1 j hj e]
            · rw [Bool.or_eq_true] at e
              rcases e with e | e
              · exact g2 j hj e
              · have w : j = i := of_decide_eq_true e
                subst w
                refine itB_shut hn j hj ?_
                rw [clB, Bool.or_eq_true, Bool.and_eq_true]
                obtain ⟨o, ho, e3⟩ := exB_iff.mp hd
                rw [Bool.and_eq_true] at e3
                exact Or.inr ⟨(usmay j).mpr ⟨hb, hc⟩, exB_iff.mpr ⟨o, ho, by rw [Bool.and_eq_true]; exact ⟨g2 o ho e3.1, e3.2⟩⟩⟩
            · by_cases w : j = i
              · simp [w]
              · simp [g3 j (by omega) hj2 e]
theorem s_clapsOf (hn : nh ≤ 7) (hf : relB nh ff fo 2) (hk : relB nh fk ki 3) (hs : relB nh q S 9) (hv : relB nh (fun h => q (7 + h)) V 9) (hpl : pl < 3) (hp : post (setI nh (clapB nh fo ki S V pl (bt t)))) : wp_X9_clapsOf (nI nh) fk q ff (nI pl) t post := by
  refine s_hushedOf hn hk hs hv t ?_
  refine lpD (fun n i s => L_X9_clapsOf_14 (nI nh) fk q ff (nI pl) t (setI nh (huB nh ki S V (bt t))) (K_X9_clapsOf_14 (nI nh) fk q post) n s (nI i)) (fun i => setI i (mayB nh fo ki S V pl (bt t))) 0 nh (Nat.zero_le _) rfl ?_ ?_
  · intro n
    refine ⟨fun _ => ?_, fun h => absurd (nI_rf nh) h⟩
    refine lpD (fun n i s => L_X9_clapsOf_111 (nI nh) fk q (setI nh (mayB nh fo ki S V pl (bt t))) (K_X9_clapsOf_111 (nI nh) fk q post (setI nh (mayB nh fo ki S V pl (bt t)))) n s (nI i)) (fun i => setI i (p0B nh fo ki S V pl (bt t))) 0 nh (Nat.zero_le _) rfl ?_ ?_
    · intro n
      exact ⟨fun _ => s_claps173 hn hk hs hp, fun h => absurd (nI_rf nh) h⟩
    · intro n i _ hi ih
      refine ⟨fun h => absurd h (nI_ge hi (by omega)), fun _ => ?_⟩
      have hK := (hk i hi).2
      have hV := (hv i hi).2
      have eV : q (7 + i) = nI (V i) := (hv i hi).1
      rw [nI_1, show (7 : Int32) + nI i = nI (7 + i) from nI_add 7 i, nI_clamp (show i < 2 ^ 31 by omega), nI_clamp (show 7 + i < 2 ^ 31 by omega), (hk i hi).1, eV]
      have g0 : p0B nh fo ki S V pl (bt t) i = false → L_X9_clapsOf_111 (nI nh) fk q (setI nh (mayB nh fo ki S V pl (bt t))) (K_X9_clapsOf_111 (nI nh) fk q post (setI nh (mayB nh fo ki S V pl (bt t)))) n (setI i (p0B nh fo ki S V pl (bt t)) ||| 0) (nI (i + 1)) := fun z => by
        rw [o_0, ← setI_succ_f z]; exact ih
      refine s_has (by omega) (fun hb => ?_) (fun hb => ?_)
      · rw [b_setlt _ hi (by omega)] at hb
        refine z0 (g0 ?_)
        cases e : p0B nh fo ki S V pl (bt t) i with
        | false => rfl
        | true =>
          simp only [p0B, Bool.and_eq_true, decide_eq_true_eq] at e
          rw [mayB, e.1.1, decide_eq_true (show 1 ≤ V i by omega), decide_eq_false (show ¬ ki i = 3 by omega)] at hb
          cases hb
      · rw [b_setlt _ hi (by omega)] at hb
        refine z1 ⟨vp_in_nI (by omega) (by omega), ?_⟩
        rw [show nI (ki i) = 0 ↔ ki i = 0 from nI_eq (b := 0) (by omega) (by omega), show nI (V i) ≤ 2 ↔ V i ≤ 2 from nI_leI (b := 2) (by omega) (by omega)]
        refine ⟨fun hc => g0 (by simp [p0B, hc]), fun hc => ⟨vp_in_nI (by omega) (by omega), fun hd => g0 (by simp [p0B, show ¬ 3 ≤ V i by omega]), fun hd => ?_⟩⟩
        rw [setI_succ_t (by omega) (show p0B nh fo ki S V pl (bt t) i = true by
          simp only [mayB, Bool.and_eq_true] at hb
          rw [p0B, hb.1.1, decide_eq_true hc, decide_eq_true (show 3 ≤ V i by omega)]; rfl)]
        exact ih
  · intro n i _ hi ih
    refine ⟨fun h => absurd h (nI_ge hi (by omega)), fun _ => ?_⟩
    have hK := (hk i hi).2
    have hF := (hf i hi).2
    have hV := (hv i hi).2
    have eV : q (7 + i) = nI (V i) := (hv i hi).1
    rw [nI_1, show (7 : Int32) + nI i = nI (7 + i) from nI_add 7 i, nI_clamp (show i < 2 ^ 31 by omega), nI_clamp (show 7 + i < 2 ^ 31 by omega), (hk i hi).1, (hf i hi).1, eV]
    have g0 : mayB nh fo ki S V pl (bt t) i = false → L_X9_clapsOf_14 (nI nh) fk q ff (nI pl) t (setI nh (huB nh ki S V (bt t))) (K_X9_clapsOf_14 (nI nh) fk q post) n (setI i (mayB nh fo ki S V pl (bt t)) ||| 0) (nI (i + 1)) := fun z => by
      rw [o_0, ← setI_succ_f z]; exact ih
    refine s_has (by omega) (fun hb => ?_) (fun hb => ?_)
    · exact z0 (g0 (by simp [mayB, frB, hb]))
    · refine z1 ?_
      refine s_has (by omega) (fun hc => ?_) (fun hc => ?_)
      · rw [b_setlt _ hi (by omega)] at hc
        refine y0 ⟨vp_in_nI (by omega) (by omega), ?_⟩
        rw [nI_eq (by omega) (by omega), show nI (V i) ≤ 0 ↔ V i ≤ 0 from nI_leI (b := 0) (by omega) (by omega), show nI (ki i) = 3 ↔ ki i = 3 from nI_eq (b := 3) (by omega) (by omega)]
        refine ⟨fun hd => g0 (by simp [mayB, frB, hd]), fun hd => ⟨vp_in_nI (by omega) (by omega), fun he => g0 (by simp [mayB, show ¬ 1 ≤ V i by omega]), fun he => ⟨vp_in_nI (by omega) (by omega), fun hg => g0 (by simp [mayB, hg]), fun hg => ?_⟩⟩⟩
        rw [setI_succ_t (by omega) (show mayB nh fo ki S V pl (bt t) i = true by simp [mayB, frB, hb, hc, hd, hg, show 1 ≤ V i by omega])]
        exact ih
      · rw [b_setlt _ hi (by omega)] at hc
        exact y1 (g0 (by simp [mayB, frB, hc]))
theorem s_loudOf (hn : nh ≤ 7) (hf : relB nh ff fo 2) (hk : relB nh fk ki 3) (hs : relB nh q S 9) (hv : relB nh (fun h => q (7 + h)) V 9) (hpl : pl < 3) (hp : post (nI (ctB (clapB nh fo ki S V pl (bt t)) nh))) : wp_X9_loudOf (nI nh) fk q ff (nI pl) t post := by
  refine s_clapsOf hn hf hk hs hv hpl ?_
  refine s_many _ ?_
  rw [ct_bt hn]
  exact hp
end CL
