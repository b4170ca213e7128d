/-! ===== Integer.bitCount ===== -/
def bcA (p1 : Int32) : Int32 := (((p1 - ((((p1).toUInt32 >>> (((1 : Int32)).toUInt32 &&& Int32.toUInt32 31)).toInt32) &&& (1431655765 : Int32))) &&& (858993459 : Int32)) + (((((p1 - ((((p1).toUInt32 >>> (((1 : Int32)).toUInt32 &&& Int32.toUInt32 31)).toInt32) &&& (1431655765 : Int32)))).toUInt32 >>> (((2 : Int32)).toUInt32 &&& Int32.toUInt32 31)).toInt32) &&& (858993459 : Int32)))
def bcB (v_23 : Int32) : Int32 := (((v_23 + (((v_23).toUInt32 >>> (((4 : Int32)).toUInt32 &&& Int32.toUInt32 31)).toInt32)) &&& (252645135 : Int32)) + (((((v_23 + (((v_23).toUInt32 >>> (((4 : Int32)).toUInt32 &&& Int32.toUInt32 31)).toInt32)) &&& (252645135 : Int32))).toUInt32 >>> (((8 : Int32)).toUInt32 &&& Int32.toUInt32 31)).toInt32))
def bcC (v_40 : Int32) : Int32 := ((v_40 + (((v_40).toUInt32 >>> (((16 : Int32)).toUInt32 &&& Int32.toUInt32 31)).toInt32)) &&& (63 : Int32))
theorem bc_key : ∀ x, x < 128 → bcC (bcB (bcA (nI x))) = nI (ctB (fun i => x.testBit i) 7) := by decide +kernel
theorem s_bitCount {x : Nat} (hx : x < 128) {post : Int32 → Prop} (hp : post (nI (ctB (fun i => x.testBit i) 7))) : wp_J6_bitCount_0f7a4 (nI x) post := by
  intro v1 e1 v2 e2
  have h := bc_key x hx
  have h1 : bcA (nI x) = v1 := e1.symm
  rw [h1] at h
  have h2 : bcB v1 = v2 := e2.symm
  rw [h2] at h
  have h3 : post (bcC v2) := by rw [h]; exact hp
  exact h3
theorem ct_set {nh : Nat} (hn : nh ≤ 7) (P : Nat → Bool) : ctB (fun i => (stN P nh).testBit i) 7 = ctB P nh := by
  rw [ctB_ext hn (fun k h1 h2 => by rw [stN_bit, decide_eq_false (by omega), Bool.false_and])]
  exact ctB_congr (fun k hk => by rw [stN_bit, decide_eq_true hk, Bool.true_and])
theorem s_bitCountS {nh : Nat} (hn : nh ≤ 7) (P : Nat → Bool) {post : Int32 → Prop} (hp : post (nI (ctB P nh))) : wp_J6_bitCount_0f7a4 (setI nh P) post := by
  refine s_bitCount (x := stN P nh) ?_ (by rw [ct_set hn]; exact hp)
  exact Nat.lt_of_lt_of_le (stN_lt P nh) (Nat.pow_le_pow_right (n := 2) (by omega) hn)
/-! ===== Moment: what its calls ask ===== -/
theorem setI_and (n : Nat) (P Q : Nat → Bool) : setI n P &&& setI n Q = setI n (fun h => P h && Q h) := by
  apply b_ext
  intro i hi
  rw [b_and, b_set _ _ hi, b_set _ _ hi, b_set _ _ hi]
  cases decide (i < n) <;> cases P i <;> cases Q i <;> rfl
theorem setI_stepc {n : Nat} {P : Nat → Bool} (hn : n < 31) : setI n P ||| ((if P n then (1 : Int32) else 0) <<< (nI n &&& 31)) = setI (n + 1) P := by
  apply b_ext
  intro i hi
  rw [b_or, b_cs _ (by omega) hi, b_set _ _ hi, b_set _ _ hi]
  by_cases e : i = n
  · subst e; simp
  · have e1 : decide (i < n + 1) = decide (i < n) := by
      by_cases q : i < n
      · rw [decide_eq_true q, decide_eq_true (by omega)]
      · rw [decide_eq_false q, decide_eq_false (by omega)]
    rw [e1]; simp [e]
theorem s_seatsOf {nh : Nat} {S : Nat → Nat} {fs : Nat → Int32} (hn : nh ≤ 7) (hs : relB nh fs S 9) (t : Int32) {post : Int32 → Prop} (hp : post (setI 10 (fun j => exB nh (fun h => bt t h && decide (S h = j))))) : wp_X4_seatsOf (nI nh) fs t post := by
  refine lpD (fun n i s => L_X4_seatsOf_4 (nI nh) fs t (K_X4_seatsOf_4 post) n s (nI i)) (fun i => setI 10 (fun j => exB i (fun h => bt t h && decide (S h = j)))) 0 nh (Nat.zero_le _) ?_ ?_ ?_
  · exact (setI_ne0 (by omega)).mpr exB_false
  · intro n; exact ⟨fun _ => hp, fun h => absurd (nI_rf nh) h⟩
  · intro n i _ hi ih
    refine ⟨fun h => absurd h (nI_ge hi (by omega)), fun _ => ⟨vp_in_nI (by omega) (by omega), ?_⟩⟩
    have e : setI 10 (fun j => exB i (fun h => bt t h && decide (S h = j))) ||| ((if bt t i then (1 : Int32) else 0) <<< (nI (S i) &&& 31)) = setI 10 (fun j => exB (i + 1) (fun h => bt t h && decide (S h = j))) := by
      have hS := (hs i hi).2
      apply b_ext
      intro j hj
      rw [b_or, b_cs _ (by omega) hj, b_set _ _ hj, b_set _ _ hj]
      by_cases q : j < 10
      · have e2 : decide (j = S i) = decide (S i = j) := decide_eq_decide.mpr eq_comm
        rw [decide_eq_true q, Bool.true_and, Bool.true_and, exB, e2]
      · rw [decide_eq_false q, Bool.false_and, Bool.false_and, decide_eq_false (show ¬ j = S i by omega), Bool.and_false]; rfl
    rw [nI_clamp (show i < 2 ^ 31 by omega), nI_1, (hs i hi).1, b_get t (show i < 32 by omega), e]
    exact ih
theorem s_handsAt {nh : Nat} {S : Nat → Nat} {fs : Nat → Int32} (hn : nh ≤ 7) (hs : relB nh fs S 9) (t : Int32) {post : Int32 → Prop} (hp : post (setI nh (fun h => bt t (S h)))) : wp_X4_handsAt (nI nh) fs t post := by
  refine lpD (fun n i s => L_X4_handsAt_4 (nI nh) fs t (K_X4_handsAt_4 post) n s (nI i)) (fun i => setI i (fun h => bt t (S h))) 0 nh (Nat.zero_le _) rfl ?_ ?_
  · intro n; exact ⟨fun _ => hp, fun h => absurd (nI_rf nh) h⟩
  · intro n i _ hi ih
    refine ⟨fun h => absurd h (nI_ge hi (by omega)), fun _ => ⟨vp_in_nI (by omega) (by omega), ?_⟩⟩
    have hS := (hs i hi).2
    have e := setI_stepc (n := i) (P := fun h => bt t (S h)) (by omega)
    rw [nI_clamp (show i < 2 ^ 31 by omega), nI_1, (hs i hi).1, b_get t (show S i < 32 by omega), e]
    exact ih
theorem s_fondOnes {nh : Nat} {fo : Nat → Nat} {ff : Nat → Int32} (hn : nh ≤ 7) (hf : relB nh ff fo 2) {pl : Nat} (hpl : pl < 3) {post : Int32 → Prop} (hp : post (setI nh (fun h => decide (fo h = pl)))) : wp_X4_fondOnes (nI nh) ff (nI pl) post := by
  refine lpD (fun n i s => L_X4_fondOnes_4 (nI nh) ff (nI pl) (K_X4_fondOnes_4 post) n s (nI i)) (fun i => setI i (fun h => decide (fo h = pl))) 0 nh (Nat.zero_le _) rfl ?_ ?_
  · intro n; exact ⟨fun _ => hp, fun h => absurd (nI_rf nh) h⟩
  · intro n i _ hi ih
    refine ⟨fun h => absurd h (nI_ge hi (by omega)), fun _ => ⟨vp_in_nI (by omega) (by omega), ?_⟩⟩
    have hF := (hf i hi).2
    rw [nI_clamp (show i < 2 ^ 31 by omega), nI_1, (hf i hi).1, nI_eq (by omega) (by omega)]
    refine ⟨fun h => ?_, fun h => ?_⟩
    · rw [← setI_succ_f (P := fun h => decide (fo h = pl)) (decide_eq_false h)]; exact ih
    · rw [setI_succ_t (P := fun h => decide (fo h = pl)) (by omega) (decide_eq_true h)]; exact ih
theorem s_ready {nh : Nat} {ki V : Nat → Nat} {fk fv : Nat → Int32} (hn : nh ≤ 7) (hk : relB nh fk ki 3) (hv : relB nh fv V 9) {k least : Nat} (hkb : k ≤ 3) (hl : least ≤ 9) {post : Int32 → Prop} (hp : post (setI nh (fun h => decide (ki h = k) && decide (least ≤ V h)))) : wp_X4_ready (nI nh) fk fv (nI k) (nI least) post := by
  refine lpD (fun n i s => L_X4_ready_5 (nI nh) fk fv (nI k) (nI least) (K_X4_ready_5 post) n s (nI i)) (fun i => setI i (fun h => decide (ki h = k) && decide (least ≤ V h))) 0 nh (Nat.zero_le _) rfl ?_ ?_
  · intro n; exact ⟨fun _ => hp, fun h => absurd (nI_rf nh) h⟩
  · intro n i _ hi ih
    refine ⟨fun h => absurd h (nI_ge hi (by omega)), fun _ => ⟨vp_in_nI (by omega) (by omega), ?_⟩⟩
    have hK := (hk i hi).2
    have hV := (hv i hi).2
    rw [nI_clamp (show i < 2 ^ 31 by omega), nI_1, (hk i hi).1, (hv i hi).1, nI_eq (by omega) (by omega), nI_ltI (by omega) (by omega)]
    refine ⟨fun h => ?_, fun h => ⟨vp_in_nI (by omega) (by omega), fun h2 => ?_, fun h2 => ?_⟩⟩
    · rw [← setI_succ_f (P := fun h => decide (ki h = k) && decide (least ≤ V h)) (by rw [decide_eq_false h, Bool.false_and])]; exact ih
    · rw [← setI_succ_f (P := fun h => decide (ki h = k) && decide (least ≤ V h)) (by rw [decide_eq_false (show ¬ least ≤ V i by omega), Bool.and_false])]; exact ih
    · rw [setI_succ_t (P := fun h => decide (ki h = k) && decide (least ≤ V h)) (by omega) (by rw [decide_eq_true h, decide_eq_true (show least ≤ V i by omega)]; rfl)]; exact ih
theorem adj_bit {nh : Nat} {S : Nat → Nat} (hS : ∀ o, o < nh → S o ≤ 9) (X : Nat → Bool) {j : Nat} (hj : j ≤ 9) : bt ((setI 10 (fun j => exB nh (fun h => X h && decide (S h = j))) <<< ((1 : Int32) &&& 31)) ||| (setI 10 (fun j => exB nh (fun h => X h && decide (S h = j))) >>> ((1 : Int32) &&& 31))) j = exB nh (fun o => X o && bes j (S o)) := by
  rw [b_or]
  show (bt (setI 10 (fun j => exB nh (fun h => X h && decide (S h = j))) <<< (nI 1 &&& 31)) j || bt (setI 10 (fun j => exB nh (fun h => X h && decide (S h = j))) >>> (nI 1 &&& 31)) j) = _
  rw [b_shl 1 (by omega) _ (show j < 32 by omega), b_sshr 1 (by omega) _ (show j < 32 by omega), if_pos (show 1 + j < 32 by omega), b_set _ _ (show j - 1 < 32 by omega), b_set _ _ (show 1 + j < 32 by omega)]
  apply Bool.eq_iff_iff.mpr
  simp only [Bool.or_eq_true, Bool.and_eq_true, decide_eq_true_eq, exB_iff, bes]
  constructor
  · rintro (⟨h1, _, o, ho, h2, h3⟩ | ⟨_, o, ho, h2, h3⟩)
    · exact ⟨o, ho, h2, Or.inl (by omega)⟩
    · exact ⟨o, ho, h2, Or.inr (by omega)⟩
  · rintro ⟨o, ho, h2, h3⟩
    have := hS o ho
    rcases h3 with h3 | h3
    · exact Or.inl ⟨by omega, by omega, o, ho, h2, by omega⟩
    · exact Or.inr ⟨by omega, o, ho, h2, by omega⟩
theorem adj_set {nh : Nat} {S : Nat → Nat} (hS : ∀ o, o < nh → S o ≤ 9) (X : Nat → Bool) : setI nh (fun h => bt ((setI 10 (fun j => exB nh (fun h => X h && decide (S h = j))) <<< ((1 : Int32) &&& 31)) ||| (setI 10 (fun j => exB nh (fun h => X h && decide (S h = j))) >>> ((1 : Int32) &&& 31))) (S h)) = setI nh (fun h => exB nh (fun o => X o && bes (S h) (S o))) := setI_congr (fun i hi => adj_bit hS X (hS i hi))
theorem s_hushed {nh : Nat} {ki S V : Nat → Nat} {fk fs fv : Nat → Int32} (hn : nh ≤ 7) (hk : relB nh fk ki 3) (hs : relB nh fs S 9) (hv : relB nh fv V 9) (t : Int32) {post : Int32 → Prop} (hp : post (setI nh (fun h => bt t h && huB nh ki S V (bt t) h))) : wp_X4_hushed (nI nh) fk fv fs t post := by
  refine s_ready (k := 3) (least := 1) hn hk hv (by omega) (by omega) ?_
  refine s_seatsOf hn hs _ ?_
  refine s_handsAt hn hs _ ?_
  refine s_ready (k := 3) (least := 0) hn hk hv (by omega) (by omega) ?_
  rw [adj_set (fun o ho => (hs o ho).2)]
  refine (show ∀ {x y : Int32}, x = y → post y → post x from fun e h => e ▸ h) ?_ hp
  apply b_ext
  intro i hi
  rw [b_and, b_and, b_not _ hi, b_set _ _ hi, b_set _ _ hi, b_set _ _ hi]
  by_cases q : i < nh
  · have e : exB nh (fun o => bt (t &&& setI nh (fun h => decide (ki h = 3) && decide (1 ≤ V h))) o && bes (S i) (S o)) = exB nh (fun o => bt t o && decide (ki o = 3) && decide (1 ≤ V o) && bes (S i) (S o)) := exB_congr (fun o ho => by
      rw [b_and, b_setlt _ ho (by omega)]; simp only [Bool.and_assoc])
    rw [e, huB, decide_eq_true q, decide_eq_true (Nat.zero_le (V i))]
    cases bt t i <;> cases decide (ki i = 3) <;> simp
  · simp [q]
theorem s_clapping {nh : Nat} {fo ki S V : Nat → Nat} {ff fk fs fv : Nat → Int32} (hn : nh ≤ 7) (hf : relB nh ff fo 2) (hk : relB nh fk ki 3) (hs : relB nh fs S 9) (hv : relB nh fv V 9) {pl : Nat} (hpl : pl < 3) (t : Int32) {post : Int32 → Prop} (hp : post (setI nh (clapB nh fo ki S V pl (bt t)))) : wp_X4_clapping (nI nh) fk fv fs ff (nI pl) t post := by
  refine s_hushed hn hk hs hv t ?_
  refine s_fondOnes hn hf hpl ?_
  refine s_ready (k := 0) (least := 3) hn hk hv (by omega) (by omega) ?_
  refine s_ready (k := 1) (least := 1) hn hk hv (by omega) (by omega) ?_
  have eF : (t &&& (setI nh (fun h => bt t h && huB nh ki S V (bt t) h) ^^^ (-1 : Int32))) &&& setI nh (fun h => decide (fo h = pl)) = setI nh (frB nh fo ki S V pl (bt t)) := by
    apply b_ext
    intro i hi
    rw [b_and, b_and, b_not _ hi, b_set _ _ hi, b_set _ _ hi, b_set _ _ hi]
    by_cases q : i < nh
    · rw [frB]; cases bt t i <;> cases huB nh ki S V (bt t) i <;> simp [q]
    · simp [q]
  rw [eF, setI_and, setI_and]
  refine lpD (fun n i s => L_X4_clapping_39 (nI nh) fs (setI nh (fun h => frB nh fo ki S V pl (bt t) h && (decide (ki h = 1) && decide (1 ≤ V h)))) (K_X4_clapping_39 (nI nh) fk fv post (setI nh (frB nh fo ki S V pl (bt t)))) n s (nI i)) (fun i => setI nh (itB nh S (usB nh fo ki S V pl (bt t)) (p0B nh fo ki S V pl (bt t)) i)) 0 nh (Nat.zero_le _) ?_ ?_ ?_
  · exact setI_congr (fun i _ => by show p0B nh fo ki S V pl (bt t) i = _; rw [p0B, Bool.and_assoc])
  · intro n
    refine ⟨fun _ => ?_, fun h => absurd (nI_rf nh) h⟩
    have e7 : ∀ i, i < nh → itB nh S (usB nh fo ki S V pl (bt t)) (p0B nh fo ki S V pl (bt t)) nh i = itB nh S (usB nh fo ki S V pl (bt t)) (p0B nh fo ki S V pl (bt t)) 7 i := fun i hi => itB_eq (Nat.le_refl _) hn hi
    refine ⟨fun h => ?_, fun h => ?_⟩
    · have h0 := (setI_ne0 (by omega)).mp h
      rw [exB_congr e7] at h0
      refine s_ready (k := 2) (least := 1) hn hk hv (by omega) (by omega) ?_
      rw [setI_and]
      refine (show ∀ {x y : Int32}, x = y → post y → post x from fun e h => e ▸ h) ?_ hp
      exact setI_congr (fun i _ => by rw [clapB, h0, if_neg (by decide), loB, Bool.and_assoc])
    · have h1 : exB nh (itB nh S (usB nh fo ki S V pl (bt t)) (p0B nh fo ki S V pl (bt t)) 7) = true := by
        cases q : exB nh (itB nh S (usB nh fo ki S V pl (bt t)) (p0B nh fo ki S V pl (bt t)) 7) with
        | true => rfl
        | false => rw [← exB_congr e7] at q; exact absurd ((setI_ne0 (by omega)).mpr q) h
      refine (show ∀ {x y : Int32}, x = y → post y → post x from fun e h => e ▸ h) ?_ hp
      exact setI_congr (fun i hi => by rw [clapB, h1, if_pos rfl, e7 i hi])
  · intro n i _ hi ih
    refine ⟨fun h => absurd h (nI_ge hi (by omega)), fun _ => ?_⟩
    refine s_seatsOf hn hs _ ?_
    refine s_handsAt hn hs _ ?_
    rw [adj_set (fun o ho => (hs o ho).2), setI_and, nI_1]
    have e : setI nh (itB nh S (usB nh fo ki S V pl (bt t)) (p0B nh fo ki S V pl (bt t)) i) ||| setI nh (fun h => frB nh fo ki S V pl (bt t) h && (decide (ki h = 1) && decide (1 ≤ V h)) && exB nh (fun o => bt (setI nh (itB nh S (usB nh fo ki S V pl (bt t)) (p0B nh fo ki S V pl (bt t)) i)) o && bes (S h) (S o))) = setI nh (itB nh S (usB nh fo ki S V pl (bt t)) (p0B nh fo ki S V pl (bt t)) (i + 1)) := by
      apply b_ext
      intro j hj
      rw [b_or, b_set _ _ hj, b_set _ _ hj, b_set _ _ hj]
      by_cases q : j < nh
      · rw [decide_eq_true q, Bool.true_and, Bool.true_and, Bool.true_and, itB, clB, usB, ← Bool.and_assoc (frB nh fo ki S V pl (bt t) j)]
        rw [exB_congr (fun o ho => by rw [b_setlt _ ho (by omega)])]
      · simp [q]
    rw [e]
    exact ih
