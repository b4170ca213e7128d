section X4B
variable {c : Ca} {m : Mo} {fn ff fe fk fs fv fc : Nat → Int32} {d n : Int32} {pl : Nat}
theorem x_isDead {d : Int32} {h : Nat} (hh : h < 32) {post : Int32 → Prop} (hf : bt d h = false → post 0) (ht : bt d h = true → post 1) : wp_X4_isDead d (nI h) post := by
  unfold wp_X4_isDead
  rw [b_get d hh]
  cases q : bt d h with
  | false => exact ⟨fun _ => hf q, fun h => absurd h (by decide)⟩
  | true => exact ⟨fun h => absurd rfl h, fun _ => ht q⟩
theorem x_clapping (hc : okC c fn ff fe fk) (hs : relB (cnh c) fs (mS m) 9) (hv : relB (cnh c) fv (mV m) 9) (hpl : pl < cnp c) (t : Int32) {post : Int32 → Prop} (hp : post (setI (cnh c) (clM c m pl (bt t)))) : wp_X4_clapping (nI (cnh c)) fk fv fs ff (nI pl) t post :=
  s_clapping hc.2.1 hc.2.2.2.1 hc.2.2.2.2.2.1 hs hv (Nat.lt_of_lt_of_le hpl hc.1) t hp
theorem x_loud (hc : okC c fn ff fe fk) (hs : relB (cnh c) fs (mS m) 9) (hv : relB (cnh c) fv (mV m) 9) (hpl : pl < cnp c) (t : Int32) {post : Int32 → Prop} (hp : post (nI (ldM c m pl (bt t)))) : wp_X4_loud (nI (cnh c)) fk fv fs ff (nI pl) t post :=
  x_clapping hc hs hv hpl t (s_bitCountS hc.2.1 _ hp)
theorem x_isEnough (hc : okC c fn ff fe fk) (hs : relB (cnh c) fs (mS m) 9) (hv : relB (cnh c) fv (mV m) 9) (hpl : pl < cnp c) (t : Int32) {post : Int32 → Prop} (hf : ¬ cnd c pl ≤ ldM c m pl (bt t) → post 0) (ht : cnd c pl ≤ ldM c m pl (bt t) → post 1) : wp_X4_isEnough (nI (cnh c)) fk fv fs ff fn (nI pl) t post := by
  refine x_loud hc hs hv hpl t ?_
  have h1 := hc.1
  have h2 := hc.2.1
  have hN := hc.2.2.1 pl hpl
  have hL : ldM c m pl (bt t) ≤ cnh c := ctB_le _ _
  rw [nI_clamp (show pl < 2 ^ 31 by omega), hN.1, nI_ltI (by omega) (by omega)]
  exact ⟨vp_in_nI (by omega) (by omega), fun h => hf (by omega), fun h => ht (by omega)⟩
theorem every_T {nh : Nat} (hn : nh ≤ 7) : ∀ i, i < nh → bt (setI nh allT) i = allT i := fun i hi => b_setlt allT hi (by omega)
theorem x_bringOut (hc : okC c fn ff fe fk) (hm : momX c m fs fv fc d n) (hpl : pl < cnp c) {post : Int32 → Int32 → (Nat → Int32) → (Nat → Int32) → Prop} (h1 : bt d pl = true → post 0 d fv fc) (h2 : bt d pl = false → ∀ d' fv' fc', momX c (goM c m pl) fs fv' fc' d' n → post (if comesM c m pl then 1 else 0) d' fv' fc') : wp_X4_bringOut d (nI (cnh c)) fk fv fs ff fn fc (nI pl) post := by
  have hnp := hc.1
  have hnh := hc.2.1
  have hN := hc.2.2.1 pl hpl
  refine x_isDead (by omega) (fun e => z0 ?_) (fun e => z1 (h1 e))
  refine s_everyHand hnh ?_
  refine x_clapping hc hm.1 hm.2.1 hpl _ ?_
  refine s_bitCountS hnh _ ?_
  have eC : setI (cnh c) (clM c m pl (bt (setI (cnh c) allT))) = setI (cnh c) (clM c m pl allT) := setI_congr (fun i hi => clapB_congr (every_T hnh) hi)
  have eL : ctB (clM c m pl (bt (setI (cnh c) allT))) (cnh c) = ldM c m pl allT := ldM_congr (every_T hnh)
  have hL : ldM c m pl allT ≤ cnh c := ctB_le _ _
  rw [eC, eL, nI_clamp (show pl < 2 ^ 31 by omega), hN.1, nI_leI (by omega) (by omega)]
  refine ⟨vp_in_nI (by omega) (by omega), fun h => ⟨vp_in_nI (by omega) (by omega), vp_in_nI (by omega) (by omega), ?_⟩, fun h => ?_⟩
  · have hcm : comesM c m pl = true := decide_eq_true h
    have h2 := h2 e
    rw [hcm] at h2
    refine lpD (fun k i s => L_X4_bringOut_65 (nI (cnh c)) (setI (cnh c) (clM c m pl allT)) (K_X4_bringOut_65 d post (upd fc pl (fc pl + 1))) k (nI i) s) (fun i => fp fv (fun h => nI (mV m h - (if clM c m pl allT h then 1 else 0))) 0 i) 0 (cnh c) (Nat.zero_le _) (fp_0 _ _ _) ?_ ?_
    · intro k
      refine ⟨fun _ => ?_, fun z => absurd (nI_rf _) z⟩
      refine h2 _ _ _ ?_
      rw [goM, hcm]
      refine ⟨hm.1, fun i hi => ?_, fun p hp => ?_, hm.2.2.2.1, hm.2.2.2.2⟩
      · rw [fp_in0 hi]
        have := (hm.2.1 i hi).2
        exact ⟨rfl, by show mV m i - _ ≤ 9; omega⟩
      · show (if p = pl then fc pl + 1 else fc p) = (if p = pl then mC m pl + 1 else mC m p)
        rw [hm.2.2.1 pl hpl, hm.2.2.1 p hp]
    · intro k i _ hi ih
      refine ⟨fun z => absurd z (nI_ge hi (by omega)), fun _ => ⟨vp_in_nI (by omega) (by omega), vp_in_nI (by omega) (by omega), ?_⟩⟩
      have hV := (hm.2.1 i hi)
      rw [nI_1, nI_clamp (show i < 2 ^ 31 by omega), fp_out (Or.inr (by omega)), b_get _ (by omega), b_setlt _ hi (by omega), hV.1]
      have ev : nI (mV m i) - (if clM c m pl allT i then (1 : Int32) else 0) = nI (mV m i - (if clM c m pl allT i then 1 else 0)) := by
        cases q : clM c m pl allT i with
        | false => exact i_m0 _
        | true => exact pk_sub (clapB_vig q)
      have es := fp_succ fv (fun h => nI (mV m h - (if clM c m pl allT h then 1 else 0))) 0 i ev
      rw [Nat.zero_add] at es
      rw [es]
      exact ih
  · have hcm : comesM c m pl = false := decide_eq_false h
    have h2 := h2 e
    rw [hcm] at h2
    refine h2 _ _ _ ?_
    rw [goM, hcm]
    exact ⟨hm.1, hm.2.1, hm.2.2.1, by show d ||| _ = mD m ||| _; rw [hm.2.2.2.1], hm.2.2.2.2⟩
theorem x_strew (hc : okC c fn ff fe fk) (hm : momX c m fs fv fc d n) (hpl : pl < 3) {k : Nat} (hk : k ≤ 9) {post : (Nat → Int32) → Prop} (h2 : ∀ fv', momX c (strewM c m pl k) fs fv' fc d n → post fv') : wp_X4_strew (nI (cnh c)) ff fv (nI pl) (nI k) post := by
  have hnh := hc.2.1
  refine lpD (fun r i s => L_X4_strew_2 (nI (cnh c)) ff (nI pl) (nI k) (K_X4_strew_2 post) r (nI i) s) (fun i => fp fv (fun h => nI (mV (strewM c m pl k) h)) 0 i) 0 (cnh c) (Nat.zero_le _) (fp_0 _ _ _) ?_ ?_
  · intro r
    refine ⟨fun _ => h2 _ ⟨hm.1, fun i hi => ?_, hm.2.2⟩, fun z => absurd (nI_rf _) z⟩
    rw [fp_in0 hi]
    have := (hm.2.1 i hi).2
    refine ⟨rfl, ?_⟩
    show (if cfo c i = pl then min 9 (mV m i + k) else mV m i) ≤ 9
    split <;> omega
  · intro r i _ hi ih
    have hF := hc.2.2.2.1 i hi
    have hV := hm.2.1 i hi
    refine ⟨fun z => absurd z (nI_ge hi (by omega)), fun _ => ⟨vp_in_nI (by omega) (by omega), ?_⟩⟩
    rw [nI_1, nI_clamp (show i < 2 ^ 31 by omega), fp_out (Or.inr (by omega)), hF.1, hV.1, nI_eq (by omega) (by omega)]
    refine ⟨fun z => ?_, fun z => ⟨vp_in_nI (by omega) (by omega), vp_in_nI (by omega) (by omega), ?_⟩⟩
    · rw [← fp_same (f := fv) (a := 0) (n := i) (g := fun h => nI (mV (strewM c m pl k) h)) (by
        rw [Nat.zero_add, hV.1]; show nI (mV m i) = nI (if cfo c i = pl then min 9 (mV m i + k) else mV m i); rw [if_neg z])]
      exact ih
    · rw [nI_add]
      have e9 : nI (mV m i + k) < 9 ↔ mV m i + k < 9 := nI_ltI (b := 9) (by omega) (by omega)
      have es := fp_succ fv (fun h => nI (mV (strewM c m pl k) h)) 0 i (x := if nI (mV m i + k) < 9 then nI (mV m i + k) else 9) (by
        show _ = nI (if cfo c i = pl then min 9 (mV m i + k) else mV m i)
        rw [if_pos z]
        by_cases w : mV m i + k < 9
        · rw [if_pos (e9.mpr w), Nat.min_eq_right (by omega)]
        · rw [if_neg (fun h => w (e9.mp h)), Nat.min_eq_left (by omega)]; rfl)
      rw [Nat.zero_add] at es
      rw [es]
      exact ih
theorem x_sleep (hc : okC c fn ff fe fk) (hm : momX c m fs fv fc d n) {post : Int32 → (Nat → Int32) → Prop} (h2 : ∀ n' fv', momX c (sleepM c m) fs fv' fc d n' → post n' fv') : wp_X4_sleep n (nI (cnh c)) fv fe post := by
  have hnh := hc.2.1
  refine lpD (fun r i s => L_X4_sleep_2 (nI (cnh c)) fe (K_X4_sleep_2 n post) r (nI i) s) (fun i => fp fv (fun h => nI (mV (sleepM c m) h)) 0 i) 0 (cnh c) (Nat.zero_le _) (fp_0 _ _ _) ?_ ?_
  · intro r
    refine ⟨fun _ => h2 _ _ ⟨hm.1, fun i hi => ?_, hm.2.2.1, hm.2.2.2.1, by show n + 1 = mN m + 1; rw [hm.2.2.2.2]⟩, fun z => absurd (nI_rf _) z⟩
    rw [fp_in0 hi]
    have h1 := (hm.2.1 i hi).2
    have h2 := (hc.2.2.2.2.1 i hi).2
    refine ⟨rfl, ?_⟩
    show (if mV m i < cfe c i then mV m i + 1 else mV m i) ≤ 9
    split <;> omega
  · intro r i _ hi ih
    have hF := hc.2.2.2.2.1 i hi
    have hV := hm.2.1 i hi
    refine ⟨fun z => absurd z (nI_ge hi (by omega)), fun _ => ⟨vp_in_nI (by omega) (by omega), vp_in_nI (by omega) (by omega), ?_⟩⟩
    rw [nI_1, nI_clamp (show i < 2 ^ 31 by omega), fp_out (Or.inr (by omega)), hF.1, hV.1, nI_leI (by omega) (by omega), nI_1]
    refine ⟨fun z => ?_, fun z => ⟨vp_in_nI (by omega) (by omega), vp_in_nI (by omega) (by omega), ?_⟩⟩
    · rw [← fp_same (f := fv) (a := 0) (n := i) (g := fun h => nI (mV (sleepM c m) h)) (by
        rw [Nat.zero_add, hV.1]; show nI (mV m i) = nI (if mV m i < cfe c i then mV m i + 1 else mV m i); rw [if_neg (by omega)])]
      exact ih
    · have es := fp_succ fv (fun h => nI (mV (sleepM c m) h)) 0 i (x := nI (mV m i + 1)) (by
        show _ = nI (if mV m i < cfe c i then mV m i + 1 else mV m i)
        rw [if_pos (by omega)])
      rw [Nat.zero_add] at es
      rw [es]
      exact ih
theorem x_takenSeats (hn : cnh c ≤ 7) (hs : relB (cnh c) fs (mS m) 9) {post : Int32 → Prop} (hp : post (setI 10 (takenM c m))) : wp_X4_takenSeats (nI (cnh c)) fs post := by
  refine s_everyHand hn ?_
  refine s_seatsOf hn hs _ ?_
  refine (show ∀ {x y : Int32}, x = y → post y → post x from fun e h => e ▸ h) ?_ hp
  refine setI_congr (fun j _ => exB_congr (fun h hh => ?_))
  rw [every_T hn h hh]
  exact Bool.true_and _
theorem x_isTaken (hn : cnh c ≤ 7) (hs : relB (cnh c) fs (mS m) 9) {s : Nat} (hh : s ≤ 9) {post : Int32 → Prop} (hf : takenM c m s = false → post 0) (ht : takenM c m s = true → post 1) : wp_X4_isTaken (nI (cnh c)) fs (nI s) post := by
  refine x_takenSeats hn hs ?_
  rw [b_get _ (by omega), b_setlt _ (by omega) (by omega)]
  cases q : takenM c m s with
  | false => exact ⟨fun _ => hf q, fun h => absurd h (by decide)⟩
  | true => exact ⟨fun h => absurd rfl h, fun _ => ht q⟩
theorem x_allVigour (hn : cnh c ≤ 7) (hv : relB (cnh c) fv (mV m) 9) {post : Int32 → Prop} (hp : post (sumV c m)) : wp_X4_allVigour (nI (cnh c)) fv post := by
  refine lpD (fun r i s => L_X4_allVigour_4 (nI (cnh c)) fv (K_X4_allVigour_4 post) r s (nI i)) (fun i => smI (fun h => nI (mV m h)) i) 0 (cnh c) (Nat.zero_le _) rfl ?_ ?_
  · intro r; exact ⟨fun _ => hp, fun z => absurd (nI_rf _) z⟩
  · intro r i _ hi ih
    refine ⟨fun z => absurd z (nI_ge hi (by omega)), fun _ => ⟨vp_in_nI (by omega) (by omega), ?_⟩⟩
    rw [nI_1, nI_clamp (show i < 2 ^ 31 by omega), (hv i hi).1]
    exact ih
theorem x_allCalled (hn : cnp c ≤ 3) (hv : ∀ p, p < cnp c → fc p = mC m p) {post : Int32 → Prop} (hp : post (sumC c m)) : wp_X4_allCalled (nI (cnp c)) fc post := by
  refine lpD (fun r i s => L_X4_allCalled_4 (nI (cnp c)) fc (K_X4_allCalled_4 post) r s (nI i)) (fun i => smI (mC m) i) 0 (cnp c) (Nat.zero_le _) rfl ?_ ?_
  · intro r; exact ⟨fun _ => hp, fun z => absurd (nI_rf _) z⟩
  · intro r i _ hi ih
    refine ⟨fun z => absurd z (nI_ge hi (by omega)), fun _ => ⟨vp_in_nI (by omega) (by omega), ?_⟩⟩
    rw [nI_1, nI_clamp (show i < 2 ^ 31 by omega), hv i hi]
    exact ih
theorem x_copyFrom (hc : okC c fn ff fe fk) {gs gv gc : Nat → Int32} (hm : momX c m fs fv fc d n) {post : Int32 → Int32 → (Nat → Int32) → (Nat → Int32) → (Nat → Int32) → Prop} (h2 : ∀ d' n' fs' fv' fc', momX c m fs' fv' fc' d' n' → post d' n' fs' fv' fc') : wp_X4_copyFrom d n fs gs fv gv fc gc post := by
  have h1 := hc.1
  have h3 := hc.2.1
  refine h2 _ _ _ _ _ ⟨fun i hi => ?_, fun i hi => ?_, fun p hp => ?_, hm.2.2.2.1, hm.2.2.2.2⟩
  · rw [c0, c7, cpy_at (by omega)]; exact hm.1 i hi
  · rw [c0, c7, cpy_at (by omega)]; exact hm.2.1 i hi
  · rw [c0, c3, cpy_at (by omega)]; exact hm.2.2.1 p hp
end X4B
