/-! ===== the reference: who claps ===== -/
theorem z0 {A B : Prop} (a : A) : ((0 : Int32) = 0 → A) ∧ (¬ (0 : Int32) = 0 → B) := ⟨fun _ => a, fun h => absurd rfl h⟩
theorem z1 {A B : Prop} (b : B) : ((1 : Int32) = 0 → A) ∧ (¬ (1 : Int32) = 0 → B) := ⟨fun h => absurd h (by decide), fun _ => b⟩
theorem y0 {A B : Prop} (b : B) : (¬ (0 : Int32) = 0 → A) ∧ ((0 : Int32) = 0 → B) := ⟨fun h => absurd rfl h, fun _ => b⟩
theorem y1 {A B : Prop} (a : A) : (¬ (1 : Int32) = 0 → A) ∧ ((1 : Int32) = 0 → B) := ⟨fun _ => a, fun h => absurd h (by decide)⟩
theorem o_0 (x : Int32) : x ||| 0 = x := b_ext (fun i _ => by rw [b_or, b_0, Bool.or_false])
theorem setI_or_bit {n k : Nat} (hk : k < n) (hn : n ≤ 31) (P : Nat → Bool) : setI n P ||| ((1 : Int32) <<< (nI k &&& 31)) = setI n (fun j => P j || decide (j = k)) := by
  apply b_ext
  intro i hi
  rw [b_or, b_1s (by omega) hi, b_set _ _ hi, b_set _ _ hi]
  by_cases e : i = k
  · subst e; simp [hk]
  · simp [e]
theorem s_has {x : Int32} {h : Nat} (hh : h < 32) {post : Int32 → Prop} (hf : bt x h = false → post 0) (ht : bt x h = true → post 1) : wp_X9_has x (nI h) post := by
  unfold wp_X9_has
  rw [b_get x hh]
  cases q : bt x h with
  | false => exact ⟨fun _ => hf q, fun h => absurd h (by decide)⟩
  | true => exact ⟨fun h => absurd rfl h, fun _ => ht q⟩
theorem s_many (t : Int32) {post : Int32 → Prop} (hp : post (nI (ctB (bt t) 7))) : wp_X9_many t post := by
  refine lpD (fun n i s => L_X9_many_4 t (K_X9_many_4 post) n s (nI i)) (fun i => nI (ctB (bt t) i)) 0 7 (by omega) rfl ?_ ?_
  · intro n; exact ⟨fun _ => hp, fun h => absurd (nI_rf 7) h⟩
  · intro n i _ hi ih
    refine ⟨fun h => absurd h (nI_ge (b := 7) hi (by omega)), fun _ => ?_⟩
    rw [b_get t (by omega), nI_1]
    have e : nI (ctB (bt t) i) + (if bt t i then (1 : Int32) else 0) = nI (ctB (bt t) (i + 1)) := by
      rw [ctB]
      cases bt t i
      · exact (nI_add _ 0)
      · exact (nI_add _ 1)
    rw [e]
    exact ih
theorem ct_bt {nh : Nat} (hn : nh ≤ 7) (P : Nat → Bool) : ctB (bt (setI nh P)) 7 = ctB P nh := by
  rw [ctB_ext hn (fun k h1 h2 => by rw [b_set _ _ (by omega), decide_eq_false (by omega), Bool.false_and])]
  exact ctB_congr (fun k hk => b_setlt P hk (by omega))
theorem sub1 : ∀ x, x < 10 → ∀ y, y < 10 → (nI x - nI y = 1 ↔ x = y + 1) := by decide +kernel
theorem s_areBeside {nh : Nat} {S : Nat → Nat} {q : Nat → Int32} (hn : nh ≤ 7) (hs : relB nh q S 9) {a b : Nat} (ha : a < nh) (hb : b < nh) {post : Int32 → Prop} (hf : bes (S a) (S b) = false → post 0) (ht : bes (S a) (S b) = true → post 1) : wp_X9_areBeside q (nI a) (nI b) post := by
  unfold wp_X9_areBeside
  have h1 := (hs a ha).2
  have h2 := (hs b hb).2
  rw [nI_clamp (show a < 2 ^ 31 by omega), nI_clamp (show b < 2 ^ 31 by omega), (hs a ha).1, (hs b hb).1, sub1 _ (by omega) _ (by omega), sub1 _ (by omega) _ (by omega)]
  refine ⟨vp_in_nI (by omega) (by omega), vp_in_nI (by omega) (by omega), fun h => ?_, fun h => ⟨vp_in_nI (by omega) (by omega), vp_in_nI (by omega) (by omega), fun h3 => ?_, fun h3 => ?_⟩⟩
  · exact ht (by rw [bes, decide_eq_true h, Bool.true_or])
  · exact hf (by rw [bes, decide_eq_false h, decide_eq_false h3]; rfl)
  · exact ht (by rw [bes, decide_eq_true h3, Bool.or_true])
theorem nar0 : narrow .boolean (.int (0 : Int32)) = .int (0 : Int32) := rfl
theorem nar1 : narrow .boolean (.int (1 : Int32)) = .int (1 : Int32) := rfl
theorem s_isMoved {nh : Nat} {S : Nat → Nat} {q : Nat → Int32} (hn : nh ≤ 7) (hs : relB nh q S 9) {h : Nat} (hh : h < nh) (x : Int32) {post : Int32 → Prop} (hf : exB nh (fun o => bt x o && bes (S h) (S o)) = false → post 0) (ht : exB nh (fun o => bt x o && bes (S h) (S o)) = true → post 1) : wp_X9_isMoved (nI nh) q (nI h) x post := by
  refine lpD (fun n i s => L_X9_isMoved_6 (nI nh) q (nI h) x (K_X9_isMoved_6 post) n s (nI i)) (fun i => if exB i (fun o => bt x o && bes (S h) (S o)) then (1 : Int32) else 0) 0 nh (Nat.zero_le _) rfl ?_ ?_
  · intro n
    refine ⟨fun _ => ?_, fun h => absurd (nI_rf nh) h⟩
    cases e : exB nh (fun o => bt x o && bes (S h) (S o)) with
    | false => exact ⟨nar0, hf e⟩
    | true => exact ⟨nar1, ht e⟩
  · intro n i _ hi ih
    refine ⟨fun h => absurd h (nI_ge hi (by omega)), fun _ => ?_⟩
    rw [nI_1]
    cases e : exB i (fun o => bt x o && bes (S h) (S o)) with
    | true =>
      have e2 : exB (i + 1) (fun o => bt x o && bes (S h) (S o)) = true := by rw [exB, e, Bool.true_or]
      rw [e2] at ih
      exact y1 ih
    | false =>
      refine y0 ?_
      have go : ∀ b : Bool, (bt x i && bes (S h) (S i)) = b → L_X9_isMoved_6 (nI nh) q (nI h) x (K_X9_isMoved_6 post) n (if b then (1 : Int32) else 0) (nI (i + 1)) := fun b hb => by
        have e2 : exB (i + 1) (fun o => bt x o && bes (S h) (S o)) = b := by rw [exB, e, Bool.false_or]; exact hb
        rw [e2] at ih; exact ih
      refine s_has (by omega) (fun hb => ?_) (fun hb => ?_)
      · exact z0 (go false (by rw [hb, Bool.false_and]))
      · refine z1 ?_
        refine s_areBeside hn hs hh hi (fun hc => ?_) (fun hc => ?_)
        · exact z0 (go false (by rw [hc, Bool.and_false]))
        · exact z1 (go true (by rw [hb, hc]; rfl))
theorem s_hushedOf {nh : Nat} {ki S V : Nat → Nat} {fk q : Nat → Int32} (hn : nh ≤ 7) (hk : relB nh fk ki 3) (hs : relB nh q S 9) (hv : relB nh (fun h => q (7 + h)) V 9) (t : Int32) {post : Int32 → Prop} (hp : post (setI nh (huB nh ki S V (bt t)))) : wp_X9_hushedOf (nI nh) fk q t post := by
  refine lpD (fun n i s => L_X9_hushedOf_5 (nI nh) fk q t (K_X9_hushedOf_5 post) n s (nI i)) (fun i => setI i (huB nh ki S V (bt t))) 0 nh (Nat.zero_le _) rfl ?_ ?_
  · intro n; exact ⟨fun _ => hp, fun h => absurd (nI_rf nh) h⟩
  · intro n h _ hh ih
    refine ⟨fun z => absurd z (nI_ge hh (by omega)), fun _ => ?_⟩
    have hKh := (hk h hh).2
    refine lpD (fun m o s => L_X9_hushedOf_17 (nI nh) fk q t (nI h) (K_X9_hushedOf_17 (nI h) (L_X9_hushedOf_5 (nI nh) fk q t (K_X9_hushedOf_5 post) n)) m s (nI o)) (fun o => setI (h + 1) (fun j => if j < h then huB nh ki S V (bt t) j else (!decide (ki h = 3) && exB o (fun o => bt t o && decide (ki o = 3) && decide (1 ≤ V o) && bes (S h) (S o))))) 0 nh (Nat.zero_le _) ?_ ?_ ?_
    · have e0 : (fun j => if j < h then huB nh ki S V (bt t) j else (!decide (ki h = 3) && exB 0 (fun o => bt t o && decide (ki o = 3) && decide (1 ≤ V o) && bes (S h) (S o)))) h = false := by
        show (if h < h then huB nh ki S V (bt t) h else (!decide (ki h = 3) && false)) = false
        rw [if_neg (by omega), Bool.and_false]
      exact (setI_succ_f e0).trans (setI_congr (fun j hj => by show (if j < h then huB nh ki S V (bt t) j else _) = _; rw [if_pos hj]))
    · intro m
      refine ⟨fun _ => ?_, fun z => absurd (nI_rf nh) z⟩
      show L_X9_hushedOf_5 (nI nh) fk q t (K_X9_hushedOf_5 post) n _ (nI h + 1)
      rw [nI_1]
      have e : setI (h + 1) (fun j => if j < h then huB nh ki S V (bt t) j else (!decide (ki h = 3) && exB nh (fun o => bt t o && decide (ki o = 3) && decide (1 ≤ V o) && bes (S h) (S o)))) = setI (h + 1) (huB nh ki S V (bt t)) := setI_congr (fun j hj => by
        by_cases z : j < h
        · rw [if_pos z]
        · have : j = h := by omega
          subst this
          rw [if_neg z, huB])
      rw [e]
      exact ih
    · intro m o _ ho ih2
      refine ⟨fun z => absurd z (nI_ge ho (by omega)), fun _ => ?_⟩
      have hKo := (hk o ho).2
      have hVo := (hv o ho).2
      have eV : q (7 + o) = nI (V o) := (hv o ho).1
      rw [nI_1, show (7 : Int32) + nI o = nI (7 + o) from nI_add 7 o, nI_clamp (show o < 2 ^ 31 by omega), nI_clamp (show h < 2 ^ 31 by omega), nI_clamp (show 7 + o < 2 ^ 31 by omega), (hk o ho).1, (hk h hh).1, eV]
      have g0 : (!decide (ki h = 3) && (bt t o && decide (ki o = 3) && decide (1 ≤ V o) && bes (S h) (S o))) = false → L_X9_hushedOf_17 (nI nh) fk q t (nI h) (K_X9_hushedOf_17 (nI h) (L_X9_hushedOf_5 (nI nh) fk q t (K_X9_hushedOf_5 post) n)) m (setI (h + 1) (fun j => if j < h then huB nh ki S V (bt t) j else (!decide (ki h = 3) && exB o (fun o => bt t o && decide (ki o = 3) && decide (1 ≤ V o) && bes (S h) (S o)))) ||| 0) (nI (o + 1)) := fun z => by
        rw [o_0]
        refine (show ∀ {x y : Int32}, x = y → L_X9_hushedOf_17 (nI nh) fk q t (nI h) (K_X9_hushedOf_17 (nI h) (L_X9_hushedOf_5 (nI nh) fk q t (K_X9_hushedOf_5 post) n)) m y (nI (o + 1)) → L_X9_hushedOf_17 (nI nh) fk q t (nI h) (K_X9_hushedOf_17 (nI h) (L_X9_hushedOf_5 (nI nh) fk q t (K_X9_hushedOf_5 post) n)) m x (nI (o + 1)) from fun e w => e ▸ w) ?_ ih2
        refine setI_congr (fun j hj => ?_)
        by_cases y : j < h
        · rw [if_pos y, if_pos y]
        · rw [if_neg y, if_neg y, exB, Bool.and_or_distrib_left, z, Bool.or_false]
      have g1 : (!decide (ki h = 3) && (bt t o && decide (ki o = 3) && decide (1 ≤ V o) && bes (S h) (S o))) = true → L_X9_hushedOf_17 (nI nh) fk q t (nI h) (K_X9_hushedOf_17 (nI h) (L_X9_hushedOf_5 (nI nh) fk q t (K_X9_hushedOf_5 post) n)) m (setI (h + 1) (fun j => if j < h then huB nh ki S V (bt t) j else (!decide (ki h = 3) && exB o (fun o => bt t o && decide (ki o = 3) && decide (1 ≤ V o) && bes (S h) (S o)))) ||| ((1 : Int32) <<< (nI h &&& 31))) (nI (o + 1)) := fun z => by
        rw [setI_or_bit (by omega) (by omega)]
        refine (show ∀ {x y : Int32}, x = y → L_X9_hushedOf_17 (nI nh) fk q t (nI h) (K_X9_hushedOf_17 (nI h) (L_X9_hushedOf_5 (nI nh) fk q t (K_X9_hushedOf_5 post) n)) m y (nI (o + 1)) → L_X9_hushedOf_17 (nI nh) fk q t (nI h) (K_X9_hushedOf_17 (nI h) (L_X9_hushedOf_5 (nI nh) fk q t (K_X9_hushedOf_5 post) n)) m x (nI (o + 1)) from fun e w => e ▸ w) ?_ ih2
        refine setI_congr (fun j hj => ?_)
        by_cases y : j < h
        · rw [if_pos y, if_pos y, decide_eq_false (show ¬ j = h by omega), Bool.or_false]
        · rw [if_neg y, if_neg y, exB, Bool.and_or_distrib_left, z, Bool.or_true, decide_eq_true (show j = h by omega), Bool.or_true]
      refine s_has (by omega) (fun hb => ?_) (fun hb => ?_)
      · exact z0 (g0 (by rw [hb]; simp))
      · refine z1 ⟨vp_in_nI (by omega) (by omega), ?_⟩
        rw [show (3 : Int32) = nI 3 from rfl, nI_eq (by omega) (by omega), nI_eq (by omega) (by omega)]
        refine ⟨fun hc => g0 (by simp [hc]), fun hc => ⟨vp_in_nI (by omega) (by omega), ?_⟩⟩
        rw [show nI (V o) ≤ 0 ↔ V o ≤ 0 from nI_leI (b := 0) (by omega) (by omega)]
        refine ⟨fun hd => g0 (by simp [show ¬ 1 ≤ V o by omega]), fun hd => ⟨vp_in_nI (by omega) (by omega), fun he => g0 (by simp [he]), fun he => ?_⟩⟩
        refine s_areBeside hn hs hh ho (fun hf => ?_) (fun hf => ?_)
        · exact z0 (g0 (by simp [hf]))
        · exact z1 (g1 (by simp [hb, hc, show 1 ≤ V o by omega, he, hf]))
