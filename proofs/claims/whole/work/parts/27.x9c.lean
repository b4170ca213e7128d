section X9C
variable {c : Ca} {m : Mo} {fn ff fe fk q : Nat → Int32} {pl : Nat}
theorem all_T {nh : Nat} (hn : nh ≤ 7) : ∀ i, i < nh → bt 127 i = allT i := fun i hi => bt_127 i (by omega)
theorem m_clapsOf (hc : okC c fn ff fe fk) (hs : relB (cnh c) q (mS m) 9) (hv : relB (cnh c) (fun h => q (7 + h)) (mV m) 9) (hpl : pl < cnp c) (t : Int32) {post : Int32 → Prop} (hp : post (setI (cnh c) (clM c m pl (bt t)))) : wp_X9_clapsOf (nI (cnh c)) fk q ff (nI pl) t post :=
  s_clapsOf hc.2.1 hc.2.2.2.1 hc.2.2.2.2.2.1 hs hv (Nat.lt_of_lt_of_le hpl hc.1) hp
theorem m_loudOf (hc : okC c fn ff fe fk) (hs : relB (cnh c) q (mS m) 9) (hv : relB (cnh c) (fun h => q (7 + h)) (mV m) 9) (hpl : pl < cnp c) (t : Int32) {post : Int32 → Prop} (hp : post (nI (ldM c m pl (bt t)))) : wp_X9_loudOf (nI (cnh c)) fk q ff (nI pl) t post :=
  s_loudOf hc.2.1 hc.2.2.2.1 hc.2.2.2.2.2.1 hs hv (Nat.lt_of_lt_of_le hpl hc.1) hp
theorem k17 : (17 : Int32).toNatClampNeg = 17 := by decide
theorem k18 : (18 : Int32).toNatClampNeg = 18 := by decide
theorem k14 : (14 : Int32).toNatClampNeg = 14 := by decide
theorem m_goCall (hc : okC c fn ff fe fk) (hm : momM c m q) (hpl : pl < cnp c) {post : Int32 → (Nat → Int32) → Prop} (h2 : ∀ q', momM c (goM c m pl) q' → post (if comesM c m pl then 1 else 0) q') : wp_X9_goCall (nI (cnh c)) fk q ff fn (nI pl) post := by
  have hnp := hc.1
  have hnh := hc.2.1
  have hN := hc.2.2.1 pl hpl
  obtain ⟨hS, hV, hV0, hC, hC0, hD, hNi⟩ := hm
  refine m_clapsOf hc hS hV hpl _ ?_
  refine s_many _ ?_
  have eC : setI (cnh c) (clM c m pl (bt 127)) = setI (cnh c) (clM c m pl allT) := setI_congr (fun i hi => clapB_congr (all_T hnh) hi)
  have hL : ldM c m pl allT ≤ cnh c := ctB_le _ _
  rw [eC, ct_bt hnh]
  show vp_in (nI pl) 3 ∧ ((nI (ldM c m pl allT) < fn (nI pl).toNatClampNeg → _) ∧ (¬ nI (ldM c m pl allT) < fn (nI pl).toNatClampNeg → _))
  rw [show (14 : Int32) + nI pl = nI (14 + pl) from nI_add 14 pl, nI_clamp (show pl < 2 ^ 31 by omega), nI_clamp (show 14 + pl < 2 ^ 31 by omega), hN.1, nI_ltI (by omega) (by omega), k17]
  refine ⟨vp_in_nI (by omega) (by omega), fun h => ?_, fun h => ⟨vp_in_nI (by omega) (by omega), vp_in_nI (by omega) (by omega), ?_⟩⟩
  · have hcm : comesM c m pl = false := decide_eq_false (by omega)
    rw [hcm] at h2
    refine h2 _ ?_
    rw [goM, hcm]
    refine ⟨fun i hi => ?_, fun i hi => ?_, fun i h1 h3 => ?_, fun p hp => ?_, fun p h1 h3 => ?_, ?_, ?_⟩
    · rw [upd_ne (by omega)]; exact hS i hi
    · show upd q 17 _ (7 + i) = _ ∧ _
      rw [upd_ne (by omega)]; exact hV i hi
    · rw [upd_ne (by omega)]; exact hV0 i h1 h3
    · rw [upd_ne (by omega)]; exact hC p hp
    · rw [upd_ne (by omega)]; exact hC0 p h1 h3
    · rw [upd_at, hD]; rfl
    · rw [upd_ne (by omega)]; exact hNi
  · have hcm : comesM c m pl = true := decide_eq_true (by omega)
    rw [hcm] at h2
    refine lpD (fun k i s => L_X9_goCall_59 (nI (cnh c)) (setI (cnh c) (clM c m pl allT)) (K_X9_goCall_59 post) k (nI i) s) (fun i => fp (upd q (14 + pl) (q (14 + pl) + 1)) (fun h => nI (mV m h - (if clM c m pl allT h then 1 else 0))) 7 i) 0 (cnh c) (Nat.zero_le _) (fp_0 _ _ _) ?_ ?_
    · intro k
      refine ⟨fun _ => h2 _ ?_, fun z => absurd (nI_rf _) z⟩
      rw [goM, hcm]
      refine ⟨fun i hi => ?_, fun i hi => ?_, fun i h1 h3 => ?_, fun p hp => ?_, fun p h1 h3 => ?_, ?_, ?_⟩
      · rw [fp_out (by omega), upd_ne (by omega)]; exact hS i hi
      · show fp _ _ 7 (cnh c) (7 + i) = _ ∧ _
        rw [fp_in hi]
        have := (hV i hi).2
        exact ⟨rfl, by show mV m i - _ ≤ 9; omega⟩
      · rw [fp_out (by omega), upd_ne (by omega)]; exact hV0 i h1 h3
      · rw [fp_out (by omega)]
        show (if 14 + p = 14 + pl then q (14 + pl) + 1 else q (14 + p)) = (if p = pl then mC m pl + 1 else mC m p)
        by_cases e : p = pl
        · rw [if_pos (by omega), if_pos e, hC pl hpl]
        · rw [if_neg (by omega), if_neg e, hC p hp]
      · rw [fp_out (by omega), upd_ne (by omega)]; exact hC0 p h1 h3
      · rw [fp_out (by omega), upd_ne (by omega)]; exact hD
      · rw [fp_out (by omega), upd_ne (by omega)]; exact hNi
    · intro k i _ hi ih
      have eV : q (7 + i) = nI (mV m i) := (hV i hi).1
      have eo : fp (upd q (14 + pl) (q (14 + pl) + 1)) (fun h => nI (mV m h - (if clM c m pl allT h then 1 else 0))) 7 i (7 + i) = nI (mV m i) := by
        rw [fp_out (by omega), upd_ne (by omega)]; exact eV
      refine ⟨fun z => absurd z (nI_ge hi (by omega)), fun _ => ?_⟩
      rw [nI_1, show (7 : Int32) + nI i = nI (7 + i) from nI_add 7 i, nI_clamp (show 7 + i < 2 ^ 31 by omega), eo]
      refine ⟨vp_in_nI (by omega) (by omega), ?_⟩
      refine s_has (by omega) (fun hb => ?_) (fun hb => ?_)
      · rw [b_setlt _ hi (by omega)] at hb
        refine z0 ⟨vp_in_nI (by omega) (by omega), ?_⟩
        rw [fp_succ _ (fun h => nI (mV m h - (if clM c m pl allT h then 1 else 0))) 7 i (by rw [hb]; exact i_m0 _)]
        exact ih
      · rw [b_setlt _ hi (by omega)] at hb
        refine z1 ⟨vp_in_nI (by omega) (by omega), ?_⟩
        rw [fp_succ _ (fun h => nI (mV m h - (if clM c m pl allT h then 1 else 0))) 7 i (by rw [hb]; exact pk_sub (clapB_vig hb))]
        exact ih
theorem m_goFlowers (hc : okC c fn ff fe fk) (hm : momM c m q) (hpl : pl < 3) {post : (Nat → Int32) → Prop} (h2 : ∀ q', momM c (strewM c m pl 1) q' → post q') : wp_X9_goFlowers (nI (cnh c)) q ff (nI pl) post := by
  have hnp := hc.1
  have hnh := hc.2.1
  obtain ⟨hS, hV, hV0, hC, hC0, hD, hNi⟩ := hm
  refine lpD (fun r i s => L_X9_goFlowers_2 (nI (cnh c)) ff (nI pl) (K_X9_goFlowers_2 post) r (nI i) s) (fun i => fp q (fun h => nI (mV (strewM c m pl 1) h)) 7 i) 0 (cnh c) (Nat.zero_le _) (fp_0 _ _ _) ?_ ?_
  · intro r
    refine ⟨fun _ => h2 _ ⟨fun i hi => ?_, fun i hi => ?_, fun i h1 h3 => ?_, fun p hp => ?_, fun p h1 h3 => ?_, ?_, ?_⟩, fun z => absurd (nI_rf _) z⟩
    · rw [fp_out (by omega)]; exact hS i hi
    · show fp _ _ 7 (cnh c) (7 + i) = _ ∧ _
      rw [fp_in hi]
      have := (hV i hi).2
      refine ⟨rfl, ?_⟩
      show (if cfo c i = pl then min 9 (mV m i + 1) else mV m i) ≤ 9
      split <;> omega
    · rw [fp_out (by omega)]; exact hV0 i h1 h3
    · rw [fp_out (by omega)]; exact hC p hp
    · rw [fp_out (by omega)]; exact hC0 p h1 h3
    · rw [fp_out (by omega)]; exact hD
    · rw [fp_out (by omega)]; exact hNi
  · intro r i _ hi ih
    have hF := hc.2.2.2.1 i hi
    have hVi := (hV i hi).2
    have eV : q (7 + i) = nI (mV m i) := (hV i hi).1
    have eo : fp q (fun h => nI (mV (strewM c m pl 1) h)) 7 i (7 + i) = nI (mV m i) := by rw [fp_out (by omega)]; exact eV
    refine ⟨fun z => absurd z (nI_ge hi (by omega)), fun _ => ?_⟩
    rw [nI_1, show (7 : Int32) + nI i = nI (7 + i) from nI_add 7 i, nI_clamp (show i < 2 ^ 31 by omega), nI_clamp (show 7 + i < 2 ^ 31 by omega), eo, hF.1, nI_eq (by omega) (by omega), show (9 : Int32) ≤ nI (mV m i) ↔ 9 ≤ mV m i from nI_leI (a := 9) (by omega) (by omega), nI_1]
    refine ⟨vp_in_nI (by omega) (by omega), vp_in_nI (by omega) (by omega), fun z => ⟨vp_in_nI (by omega) (by omega), ?_⟩, fun z => ⟨vp_in_nI (by omega) (by omega), fun y => ⟨vp_in_nI (by omega) (by omega), ?_⟩, fun y => ⟨vp_in_nI (by omega) (by omega), ?_⟩⟩⟩
    · rw [fp_succ _ (fun h => nI (mV (strewM c m pl 1) h)) 7 i (by
        show _ = nI (if cfo c i = pl then min 9 (mV m i + 1) else mV m i)
        rw [if_neg z]; exact i_0 _)]
      exact ih
    · rw [fp_succ _ (fun h => nI (mV (strewM c m pl 1) h)) 7 i (by
        show _ = nI (if cfo c i = pl then min 9 (mV m i + 1) else mV m i)
        rw [if_pos z, show min 9 (mV m i + 1) = mV m i by omega]; exact i_0 _)]
      exact ih
    · rw [fp_succ _ (fun h => nI (mV (strewM c m pl 1) h)) 7 i (by
        show _ = nI (if cfo c i = pl then min 9 (mV m i + 1) else mV m i)
        rw [if_pos z, show min 9 (mV m i + 1) = mV m i + 1 by omega])]
      exact ih
theorem m_goNight (hc : okC c fn ff fe fk) (hm : momM c m q) {post : (Nat → Int32) → Prop} (h2 : ∀ q', momM c (sleepM c m) q' → post q') : wp_X9_goNight (nI (cnh c)) q fe post := by
  have hnp := hc.1
  have hnh := hc.2.1
  obtain ⟨hS, hV, hV0, hC, hC0, hD, hNi⟩ := hm
  refine lpD (fun r i s => L_X9_goNight_2 (nI (cnh c)) fe (K_X9_goNight_2 post) r (nI i) s) (fun i => fp q (fun h => nI (mV (sleepM c m) h)) 7 i) 0 (cnh c) (Nat.zero_le _) (fp_0 _ _ _) ?_ ?_
  · intro r
    refine ⟨fun _ => h2 _ ⟨fun i hi => ?_, fun i hi => ?_, fun i h1 h3 => ?_, fun p hp => ?_, fun p h1 h3 => ?_, ?_, ?_⟩, fun z => absurd (nI_rf _) z⟩
    · rw [k18, upd_ne (by omega), fp_out (by omega)]; exact hS i hi
    · show upd _ _ _ (7 + i) = _ ∧ _
      rw [k18, upd_ne (by omega), fp_in hi]
      have h1 := (hV i hi).2
      have h2 := (hc.2.2.2.2.1 i hi).2
      refine ⟨rfl, ?_⟩
      show (if mV m i < cfe c i then mV m i + 1 else mV m i) ≤ 9
      split <;> omega
    · rw [k18, upd_ne (by omega), fp_out (by omega)]; exact hV0 i h1 h3
    · rw [k18, upd_ne (by omega), fp_out (by omega)]; exact hC p hp
    · rw [k18, upd_ne (by omega), fp_out (by omega)]; exact hC0 p h1 h3
    · rw [k18, upd_ne (by omega), fp_out (by omega)]; exact hD
    · rw [k18, upd_at, fp_out (by omega), hNi]; rfl
  · intro r i _ hi ih
    have hF := hc.2.2.2.2.1 i hi
    have hVi := (hV i hi).2
    have eV : q (7 + i) = nI (mV m i) := (hV i hi).1
    have eo : fp q (fun h => nI (mV (sleepM c m) h)) 7 i (7 + i) = nI (mV m i) := by rw [fp_out (by omega)]; exact eV
    refine ⟨fun z => absurd z (nI_ge hi (by omega)), fun _ => ?_⟩
    rw [nI_1, show (7 : Int32) + nI i = nI (7 + i) from nI_add 7 i, nI_clamp (show i < 2 ^ 31 by omega), nI_clamp (show 7 + i < 2 ^ 31 by omega), eo, hF.1, nI_leI (by omega) (by omega), nI_1]
    refine ⟨vp_in_nI (by omega) (by omega), vp_in_nI (by omega) (by omega), vp_in_nI (by omega) (by omega), fun z => ⟨vp_in_nI (by omega) (by omega), ?_⟩, fun z => ⟨vp_in_nI (by omega) (by omega), ?_⟩⟩
    · rw [fp_succ _ (fun h => nI (mV (sleepM c m) h)) 7 i (by
        show _ = nI (if mV m i < cfe c i then mV m i + 1 else mV m i)
        rw [if_neg (by omega)]; exact i_0 _)]
      exact ih
    · rw [fp_succ _ (fun h => nI (mV (sleepM c m) h)) 7 i (by
        show _ = nI (if mV m i < cfe c i then mV m i + 1 else mV m i)
        rw [if_pos (by omega)])]
      exact ih
theorem momM_congr {q' : Nat → Int32} (hc : okC c fn ff fe fk) (h : ∀ k, k < 19 → q' k = q k) (hm : momM c m q) : momM c m q' := by
  have hnp := hc.1
  have hnh := hc.2.1
  obtain ⟨hS, hV, hV0, hC, hC0, hD, hNi⟩ := hm
  refine ⟨fun i hi => ?_, fun i hi => ?_, fun i h1 h3 => ?_, fun p hp => ?_, fun p h1 h3 => ?_, ?_, ?_⟩
  · rw [h i (by omega)]; exact hS i hi
  · show q' (7 + i) = _ ∧ _
    rw [h (7 + i) (by omega)]; exact hV i hi
  · rw [h _ (by omega)]; exact hV0 i h1 h3
  · rw [h _ (by omega)]; exact hC p hp
  · rw [h _ (by omega)]; exact hC0 p h1 h3
  · rw [h 17 (by omega)]; exact hD
  · rw [h 18 (by omega)]; exact hNi
theorem m_begin {g : Nat → Int32} {post : (Nat → Int32) → Prop} (h2 : ∀ q', (∀ k, k < 19 → q' k = q k) → post q') : wp_X9_begin q g post := by
  refine lpD (fun r i s => L_X9_begin_2 q (K_X9_begin_2 post) r (nI i) s) (fun i => fp g q 0 i) 0 19 (by omega) (fp_0 _ _ _) ?_ ?_
  · intro r
    exact ⟨fun _ => h2 _ (fun k hk => fp_in0 hk), fun z => absurd (nI_rf 19) z⟩
  · intro r i _ hi ih
    refine ⟨fun z => absurd z (nI_ge (b := 19) hi (by omega)), fun _ => ?_⟩
    rw [nI_1, nI_clamp (show i < 2 ^ 31 by omega)]
    refine ⟨vp_in_nI (by omega) (by omega), vp_in_nI (by omega) (by omega), ?_⟩
    have es := fp_succ g q 0 i (x := q i) rfl
    rw [Nat.zero_add] at es
    rw [es]
    exact ih
/-- in -/
theorem m_in (a b c : Int64) {post : Int32 → Prop} (hf : ¬ (b ≤ a ∧ a ≤ c) → post 0) (ht : b ≤ a ∧ a ≤ c → post 1) : wp_X9_in a b c post := by
  unfold wp_X9_in
  rw [lg_cmp_lt, lg_cmp_gt]
  refine ⟨fun h => hf (fun q => lg_lt_not_le h q.1), fun h => ⟨fun h2 => hf (fun q => lg_lt_not_le h2 q.2), fun h2 => ht ⟨?_, ?_⟩⟩⟩
  · rw [Int64.le_iff_toInt_le]; rw [Int64.lt_iff_toInt_lt] at h; omega
  · rw [Int64.le_iff_toInt_le]; rw [Int64.lt_iff_toInt_lt] at h2; omega
theorem w_le (a b : Int32) : a.toInt64 ≤ b.toInt64 ↔ a ≤ b := by
  rw [Int64.le_iff_toInt_le, Int32.le_iff_toInt_le, Int32.toInt_toInt64, Int32.toInt_toInt64]
theorem m_in32 (x lo hi : Int32) {post : Int32 → Prop} (hf : ¬ (lo ≤ x ∧ x ≤ hi) → post 0) (ht : lo ≤ x ∧ x ≤ hi → post 1) : wp_X9_in x.toInt64 lo.toInt64 hi.toInt64 post :=
  m_in _ _ _ (fun h => hf (fun q => h ⟨(w_le _ _).mpr q.1, (w_le _ _).mpr q.2⟩)) (fun h => ht ⟨(w_le _ _).mp h.1, (w_le _ _).mp h.2⟩)
theorem l0 : (0 : Int64) = (0 : Int32).toInt64 := by decide
theorem l1 : (1 : Int64) = (1 : Int32).toInt64 := by decide
theorem l9 : (9 : Int64) = (9 : Int32).toInt64 := by decide
/-- is a number one of the first n -/
theorem ix_in {n : Nat} (hn : n < 2 ^ 30) (x : Int32) : (0 ≤ x ∧ x ≤ nI n - 1) ↔ ∃ k, k < n ∧ x = nI k := by
  have e : (nI n - 1).toInt = (n : Int) - 1 := pk_sub_toInt (b := 1) hn (by omega)
  constructor
  · rintro ⟨h1, h2⟩
    have h3 : ¬ x < 0 := by rw [Int32.lt_iff_toInt_lt]; rw [Int32.le_iff_toInt_le] at h1; omega
    obtain ⟨j, hj, ej⟩ := nI_of h3
    refine ⟨j, ?_, ej⟩
    rw [Int32.le_iff_toInt_le, e, ej, nI_toInt hj] at h2
    omega
  · rintro ⟨k, hk, rfl⟩
    refine ⟨nI_pos' (by omega), ?_⟩
    rw [Int32.le_iff_toInt_le, e, nI_toInt (by omega)]
    omega
theorem m_noPlayer {n : Nat} (hn : n < 2 ^ 30) {x : Int32} {post : Int32 → Prop} (ht : ∀ k, k < n → x = nI k → post 0) (hf : (∀ k, k < n → ¬ x = nI k) → post 1) : wp_X9_noPlayer (nI n) x post := by
  unfold wp_X9_noPlayer
  rw [l0]
  refine m_in32 x 0 _ (fun h => ?_) (fun h => ?_)
  · refine y0 (hf (fun k hk e => h ((ix_in hn x).mpr ⟨k, hk, e⟩)))
  · obtain ⟨k, hk, e⟩ := (ix_in hn x).mp h
    exact y1 (ht k hk e)
theorem m_noHand {n : Nat} (hn : n < 2 ^ 30) {x : Int32} {post : Int32 → Prop} (ht : ∀ k, k < n → x = nI k → post 0) (hf : (∀ k, k < n → ¬ x = nI k) → post 1) : wp_X9_noHand (nI n) x post := m_noPlayer hn ht hf
theorem x_hasPlayer {n : Nat} (hn : n < 2 ^ 31) {x : Int32} {post : Int32 → Prop} (ht : ∀ k, k < n → x = nI k → post 1) (hf : (∀ k, k < n → ¬ x = nI k) → post 0) : wp_X1_hasPlayer (nI n) x post := by
  rcases pk_ix x hn with h | h | ⟨j, hj, e⟩
  · exact ⟨fun _ => hf (fun k hk e => absurd (e ▸ h) (nI_pos (by omega))), fun h2 => absurd h h2⟩
  · refine ⟨fun h2 => hf (fun k hk e => absurd (e ▸ h2) (nI_pos (by omega))), fun h2 => ⟨fun _ => hf (fun k hk e => absurd (e ▸ h) (nI_ge hk hn)), fun h3 => absurd h h3⟩⟩
  · refine ⟨fun h2 => absurd (e ▸ h2) (nI_pos (by omega)), fun _ => ⟨fun h3 => absurd (e ▸ h3) (nI_ge hj hn), fun _ => ht j hj e⟩⟩
theorem x_hasHand {n : Nat} (hn : n < 2 ^ 31) {x : Int32} {post : Int32 → Prop} (ht : ∀ k, k < n → x = nI k → post 1) (hf : (∀ k, k < n → ¬ x = nI k) → post 0) : wp_X1_hasHand (nI n) x post := x_hasPlayer hn ht hf
theorem m_isFree (hn : cnh c ≤ 7) (hs : relB (cnh c) q (mS m) 9) {s : Nat} (hh : s ≤ 9) {post : Int32 → Prop} (hf : takenM c m s = false → post 1) (ht : takenM c m s = true → post 0) : wp_X9_isFree (nI (cnh c)) q (nI s) post := by
  unfold wp_X9_isFree
  rw [l0, l9]
  refine m_in32 (nI s) 0 9 (fun h => absurd ⟨nI_pos' (by omega), show nI s ≤ 9 from nI_le (b := 9) hh (by omega)⟩ h) (fun _ => ?_)
  refine lpD (fun r i z => L_X9_isFree_13 (nI (cnh c)) q (nI s) (K_X9_isFree_13 post) r z (nI i)) (fun i => if exB i (fun h => decide (mS m h = s)) then (0 : Int32) else 1) 0 (cnh c) (Nat.zero_le _) rfl ?_ ?_
  · intro r
    refine ⟨fun _ => ?_, fun z => absurd (nI_rf _) z⟩
    cases e : exB (cnh c) (fun h => decide (mS m h = s)) with
    | false => exact ⟨nar1, hf e⟩
    | true => exact ⟨nar0, ht e⟩
  · intro r i _ hi ih
    have hS := hs i hi
    refine ⟨fun z => absurd z (nI_ge hi (by omega)), fun _ => ?_⟩
    rw [nI_1, nI_clamp (show i < 2 ^ 31 by omega), hS.1, nI_eq (by omega) (by omega)]
    rw [exB] at ih
    cases e : exB i (fun h => decide (mS m h = s)) with
    | true =>
      rw [e, Bool.true_or] at ih
      exact z0 ih
    | false =>
      rw [e, Bool.false_or] at ih
      refine z1 ⟨vp_in_nI (by omega) (by omega), fun z => ?_, fun z => ?_⟩
      · rw [decide_eq_true z] at ih; exact ih
      · rw [decide_eq_false z] at ih; exact ih
theorem m_vigours (hn : cnh c ≤ 7) (hv : relB (cnh c) (fun h => q (7 + h)) (mV m) 9) (hv0 : ∀ h, cnh c ≤ h → h < 7 → q (7 + h) = 0) {post : Int32 → Prop} (hp : post (sumV c m)) : wp_X9_vigours q post := by
  refine lpD (fun r i s => L_X9_vigours_4 q (K_X9_vigours_4 post) r s (nI i)) (fun i => smI (fun h => q (7 + h)) i) 0 7 (by omega) rfl ?_ ?_
  · intro r
    refine ⟨fun _ => ?_, fun z => absurd (nI_rf 7) z⟩
    refine (show ∀ {x y : Int32}, x = y → post y → post x from fun e h => e ▸ h) ?_ hp
    rw [smI_ext hn hv0]
    exact smI_congr (fun i hi => (hv i hi).1)
  · intro r i _ hi ih
    refine ⟨fun z => absurd z (nI_ge (b := 7) hi (by omega)), fun _ => ?_⟩
    rw [nI_1, show (7 : Int32) + nI i = nI (7 + i) from nI_add 7 i, nI_clamp (show 7 + i < 2 ^ 31 by omega)]
    exact ⟨vp_in_nI (by omega) (by omega), ih⟩
theorem m_seatsOf (hn : cnh c ≤ 7) (hs : relB (cnh c) q (mS m) 9) {post : Int32 → Prop} (hp : post (setI 10 (takenM c m))) : wp_X9_seatsOf (nI (cnh c)) q post := by
  refine lpD (fun r i s => L_X9_seatsOf_4 (nI (cnh c)) q (K_X9_seatsOf_4 post) r s (nI i)) (fun i => setI 10 (fun j => exB i (fun h => decide (mS m h = j)))) 0 (cnh c) (Nat.zero_le _) ?_ ?_ ?_
  · exact (setI_ne0 (by omega)).mpr exB_false
  · intro r; exact ⟨fun _ => hp, fun z => absurd (nI_rf _) z⟩
  · intro r i _ hi ih
    have hS := hs i hi
    refine ⟨fun z => absurd z (nI_ge hi (by omega)), fun _ => ⟨vp_in_nI (by omega) (by omega), ?_⟩⟩
    rw [nI_1, nI_clamp (show i < 2 ^ 31 by omega), hS.1, setI_or_bit (by omega) (by omega)]
    refine (show ∀ {x y : Int32}, x = y → L_X9_seatsOf_4 (nI (cnh c)) q (K_X9_seatsOf_4 post) r y (nI (i + 1)) → L_X9_seatsOf_4 (nI (cnh c)) q (K_X9_seatsOf_4 post) r x (nI (i + 1)) from fun e w => e ▸ w) ?_ ih
    refine setI_congr (fun j _ => ?_)
    rw [exB, show decide (j = mS m i) = decide (mS m i = j) from decide_eq_decide.mpr eq_comm]
end X9C
