/-! ===== longs (began as kit/laws/BITS.to-paste) ===== -/
theorem wb_tb (n : Nat) : (lN n).toBitVec = BitVec.ofNat 64 n := rfl
theorem wb_inj {a b : Int64} (h : a.toBitVec = b.toBitVec) : a = b := Int64.toBitVec_inj.mp h
theorem wb_tn {n : Nat} (h : n < 2 ^ 64) : (lN n).toBitVec.toNat = n := by rw [wb_tb, BitVec.toNat_ofNat, Nat.mod_eq_of_lt h]
theorem wb_of (x : Int64) : ∃ n, n < 2 ^ 64 ∧ x = lN n := ⟨x.toBitVec.toNat, x.toBitVec.isLt, wb_inj (by rw [wb_tb]; simp)⟩
theorem wb_cu : ∀ k, k < 64 → ((nI k).toInt64.toUInt64 &&& Int64.toUInt64 63) = UInt64.ofNat k := by decide +kernel
theorem wb_shr {n k : Nat} (hn : n < 2 ^ 64) (hk : k < 64) : ((lN n).toUInt64 >>> ((nI k).toInt64.toUInt64 &&& Int64.toUInt64 63)).toInt64 = lN (n / 2 ^ k) := by
  rw [wb_cu k hk]
  apply wb_inj
  apply BitVec.eq_of_toNat_eq
  show ((lN n).toUInt64 >>> UInt64.ofNat k).toNat = (BitVec.ofNat 64 _).toNat
  have h1 : (UInt64.ofNat k).toNat = k := by
    show (BitVec.ofNat 64 k).toNat = k
    rw [BitVec.toNat_ofNat, Nat.mod_eq_of_lt (by omega)]
  have h2 : (lN n).toUInt64.toNat = n := wb_tn hn
  rw [UInt64.toNat_shiftRight, h1, h2, Nat.mod_eq_of_lt hk, Nat.shiftRight_eq_div_pow, BitVec.toNat_ofNat, Nat.mod_eq_of_lt (Nat.lt_of_le_of_lt (Nat.div_le_self _ _) hn)]
/-! ===== seasons ===== -/
def nxS (x : Int64) : Int64 := x * 6364136223846793005 + 1442695040888963407
def lotN (x : Int64) : Nat := x.toBitVec.toNat / 2 ^ 33 % 24
theorem lot_eq (x : Int64) : (((x).toUInt64 >>> (((33 : Int32)).toInt64.toUInt64 &&& Int64.toUInt64 63)).toInt64 - ((x).toUInt64 >>> (((33 : Int32)).toInt64.toUInt64 &&& Int64.toUInt64 63)).toInt64 / (24 : Int64) * (24 : Int64)).toInt32 = nI (lotN x) := by
  obtain ⟨n, hn, rfl⟩ := wb_of x
  have h33 : ((lN n).toUInt64 >>> (((33 : Int32)).toInt64.toUInt64 &&& Int64.toUInt64 63)).toInt64 = lN (n / 2 ^ 33) := wb_shr (k := 33) hn (by omega)
  rw [h33, lotN, wb_tn hn]
  have hb : n / 2 ^ 33 < 2 ^ 63 := by omega
  rw [show lN (n / 2 ^ 33) - lN (n / 2 ^ 33) / (24 : Int64) * (24 : Int64) = lN (n / 2 ^ 33 % 24) from pk_lRem (b := 24) hb (by omega) (by omega)]
  exact lN_i _
theorem lot_lt (x : Int64) : lotN x < 24 := Nat.mod_lt _ (by omega)
def hapM (c : Ca) (m : Mo) (t : Nat) : Mo := if t < 6 then (if t % 3 < cnp c ∧ bt (mD m) (t % 3) = false then goM c m (t % 3) else m) else if t < 9 then (if t - 6 < cnp c then strewM c m (t - 6) 1 else m) else if t < 19 then (if 0 < cnh c ∧ takenM c m (t - 9) = false then seatM m 0 (t - 9) else m) else sleepM c m
def seaM (c : Ca) (x : Int64) (m : Mo) : Nat → Int64 × Mo × Int32
  | 0 => (x, m, 0)
  | k + 1 => (nxS (seaM c x m k).1, hapM c (seaM c x m k).2.1 (lotN (nxS (seaM c x m k).1)), (seaM c x m k).2.2 + sumC c (hapM c (seaM c x m k).2.1 (lotN (nxS (seaM c x m k).1))))
section SEAS
variable {c : Ca} {m : Mo} {fn ff fe fk fs fv fc q : Nat → Int32} {d n : Int32}
theorem strew_none (hc : okC c fn ff fe fk) {pl : Nat} (h : ¬ pl < cnp c) (hm : momX c (strewM c m pl 1) fs fv fc d n) : momX c m fs fv fc d n := by
  refine ⟨hm.1, fun i hi => ?_, hm.2.2⟩
  have h1 := hm.2.1 i hi
  have h2 := hc.2.2.2.2.2.2.1 i hi
  have e : mV (strewM c m pl 1) i = mV m i := by
    show (if cfo c i = pl then min 9 (mV m i + 1) else mV m i) = mV m i
    rw [if_neg (by omega)]
  rw [e] at h1
  exact h1
theorem r3 {t : Nat} (ht : t < 1000) : nI t - nI t / (3 : Int32) * (3 : Int32) = nI (t % 3) := pk_rem (d := 3) (by omega) (by omega) (by omega)
theorem x_happen (hc : okC c fn ff fe fk) (hm : momX c m fs fv fc d n) {t : Nat} (ht : t < 24) {post : Int32 → Int32 → (Nat → Int32) → (Nat → Int32) → (Nat → Int32) → Prop} (h2 : ∀ d' n' fv' fs' fc', momX c (hapM c m t) fs' fv' fc' d' n' → post d' n' fv' fs' fc') : wp_X2_happen (nI (cnp c)) (nI (cnh c)) d n fk fv fs ff fn fc fe (nI t) post := by
  have hnp := hc.1
  have hnh := hc.2.1
  have hD : d = mD m := hm.2.2.2.1
  unfold wp_X2_happen
  rw [r3 (by omega), show (6 : Int32) ≤ nI t ↔ 6 ≤ t from nI_leI (a := 6) (by omega) (by omega), show (9 : Int32) ≤ nI t ↔ 9 ≤ t from nI_leI (a := 9) (by omega) (by omega), show (19 : Int32) ≤ nI t ↔ 19 ≤ t from nI_leI (a := 19) (by omega) (by omega)]
  refine ⟨fun h6 => ⟨fun h9 => ⟨fun h19 => ?_, fun h19 => ?_⟩, fun h9 => ?_⟩, fun h6 => ?_⟩
  · rw [hapM, if_neg (by omega), if_neg (by omega), if_neg (by omega)] at h2
    exact x_sleep hc hm (fun n' v' hm' => h2 _ _ _ _ _ hm')
  · rw [hapM, if_neg (by omega), if_neg (by omega), if_pos (by omega)] at h2
    refine x_hasHand (x := 0) (by omega) (fun k hk ek => z1 ?_) (fun hno => z0 ?_)
    · rw [show nI t - 9 = nI (t - 9) from pk_sub (b := 9) h9, c0]
      refine x_isTaken hnh hm.1 (by omega) (fun z => y0 ?_) (fun z => y1 ?_)
      · rw [if_pos ⟨by omega, z⟩] at h2
        exact h2 _ _ _ _ _ (seat_momX hm (by omega))
      · rw [if_neg (fun y => by rw [z] at y; cases y.2)] at h2
        exact h2 _ _ _ _ _ hm
    · rw [if_neg (fun y => hno 0 y.1 rfl)] at h2
      exact h2 _ _ _ _ _ hm
  · rw [hapM, if_neg (by omega), if_pos (by omega)] at h2
    rw [show nI t - 6 = nI (t - 6) from pk_sub (b := 6) h6]
    refine x_strew (k := 1) hc hm (by omega) (by omega) (fun v' hm' => ?_)
    by_cases w : t - 6 < cnp c
    · rw [if_pos w] at h2; exact h2 _ _ _ _ _ hm'
    · rw [if_neg w] at h2; exact h2 _ _ _ _ _ (strew_none hc w hm')
  · rw [hapM, if_pos (by omega)] at h2
    refine x_hasPlayer (by omega) (fun k hk ek => z1 ?_) (fun hno => z0 ?_)
    · have : t % 3 = k := nI_inj (by omega) (by omega) ek
      subst this
      refine x_bringOut hc hm hk (fun z => ?_) (fun z d' v' c' hm' => ?_)
      · rw [if_neg (fun y => by rw [← hD, z] at y; cases y.2)] at h2
        exact h2 _ _ _ _ _ hm
      · rw [if_pos ⟨hk, by rw [← hD]; exact z⟩] at h2
        exact h2 _ _ _ _ _ hm'
    · rw [if_neg (fun y => hno _ y.1 rfl)] at h2
      exact h2 _ _ _ _ _ hm
theorem m_season (hc : okC c fn ff fe fk) (hm : momM c m q) {t : Nat} (ht : t < 24) {post : (Nat → Int32) → Prop} (h2 : ∀ q', momM c (hapM c m t) q' → post q') : wp_X9_season (nI (cnp c)) (nI (cnh c)) q fe fk ff fn (nI t) post := by
  unfold wp_X9_season
  rw [r3 (by omega), show (6 : Int32) ≤ nI t ↔ 6 ≤ t from nI_leI (a := 6) (by omega) (by omega), show nI t < (9 : Int32) ↔ t < 9 from nI_ltI (b := 9) (by omega) (by omega), show nI t < (19 : Int32) ↔ t < 19 from nI_ltI (b := 19) (by omega) (by omega)]
  refine ⟨fun h19 => ⟨fun h9 => ⟨fun h6 => ?_, fun h6 => ?_⟩, fun h9 => ?_⟩, fun h19 => ?_⟩
  · rw [hapM, if_neg (by omega), if_pos h9] at h2
    refine m_doesTo (w := 2) hc hm (by omega) (by omega) (fun q' hq' => h2 q' ?_)
    rw [dtS, if_neg (by omega), if_pos rfl, show t % 3 = t - 6 by omega] at hq'
    exact hq'
  · rw [hapM, if_pos (by omega)] at h2
    refine m_doesTo (w := 1) hc hm (by omega) (by omega) (fun q' hq' => h2 q' ?_)
    rw [dtS, if_pos rfl] at hq'
    exact hq'
  · rw [hapM, if_neg (by omega), if_neg h9, if_pos h19] at h2
    rw [show (291 : Int32) + nI t = nI (291 + t) from nI_add 291 t]
    refine m_does hc hm (by omega) (fun q' hq' => h2 q' ?_)
    rw [dsS, if_neg (by omega), if_pos (by omega), show (291 + t) / 10 % 10 = 0 by omega, show (291 + t) % 10 = t - 9 by omega] at hq'
    exact hq'
  · rw [hapM, if_neg (by omega), if_neg (by omega), if_neg h19] at h2
    exact m_goNight hc hm h2
theorem x_playSeasons (hc : okC c fn ff fe fk) (hm : momX c m fs fv fc d n) (x : Int64) {mm : Nat} (hmm : mm ≤ 30) {gs gv gc : Nat → Int32} {post : Int32 → Int64 → Int32 → Int32 → (Nat → Int32) → (Nat → Int32) → (Nat → Int32) → Prop} (h2 : ∀ d' n' fs' fv' fc', post (seaM c x m mm).2.2 (seaM c x m mm).1 d' n' fs' fv' fc') : wp_X2_playSeasons x d n fs gs fv gv fc gc (nI (cnp c)) (nI (cnh c)) fk ff fn fe (nI mm) post := by
  refine x_copyFrom hc hm ?_
  intro d' n' fs' fv' fc' hm'
  obtain ⟨k, hk⟩ := pk_loop (fun k i (z : Int32 × Int32 × (Nat → Int32) × (Nat → Int32) × (Nat → Int32)) => L_X2_playSeasons_13 (nI (cnp c)) (nI (cnh c)) fk ff fn fe (nI mm) (K_X2_playSeasons_13 post) k (seaM c x m i).2.2 (nI i) (seaM c x m i).1 z.1 z.2.1 z.2.2.1 z.2.2.2.1 z.2.2.2.2) (fun i z => momX c (seaM c x m i).2.1 z.2.2.1 z.2.2.2.1 z.2.2.2.2 z.1 z.2.1) mm 0 (d', n', fs', fv', fc') (Nat.zero_le _) hm'
    (by
      rintro k ⟨w1, w2, w3, w4, w5⟩ h3
      exact ⟨fun _ => h2 _ _ _ _ _, fun z => absurd (nI_rf _) z⟩)
    (by
      rintro k i ⟨w1, w2, w3, w4, w5⟩ hi h3 ih
      refine ⟨fun z => absurd z (nI_ge hi (by omega)), fun _ => ?_⟩
      rw [lot_eq]
      refine x_happen hc h3 (lot_lt _) (fun d2 n2 v2 s2 c2 hm2 => ?_)
      refine x_allCalled hc.1 hm2.2.2.1 ?_
      rw [nI_1]
      exact ih (d2, n2, s2, v2, c2) hm2)
  exact ⟨k, hk⟩
theorem k15 : (15 : Int32).toNatClampNeg = 15 := by decide
theorem k16 : (16 : Int32).toNatClampNeg = 16 := by decide
theorem i_0a (x : Int32) : 0 + x = x := Int32.zero_add x
theorem m_sumC (hc : okC c fn ff fe fk) (hm : momM c m q) : q 14 + q 15 + q 16 = sumC c m := by
  have e : smI (fun p => q (14 + p)) 3 = sumC c m := by
    rw [smI_ext hc.1 (fun k h1 h3 => hm.2.2.2.2.1 k h1 h3)]
    exact smI_congr (fun i hi => hm.2.2.2.1 i hi)
  rw [← e]
  show q 14 + q 15 + q 16 = 0 + q 14 + q 15 + q 16
  rw [i_0a]
theorem m_seasons28 (hc : okC c fn ff fe fk) (hm : momM c m q) (x : Int64) {mm : Nat} (hmm : mm ≤ 30) {post : Int32 → Int32 → Int64 → (Nat → Int32) → Prop} (h2 : ∀ g', post (seaM c x m mm).2.2 0 (seaM c x m mm).1 g') : ∃ k, L_X9_seasons_28 (nI (cnp c)) (nI (cnh c)) fe fk ff fn (nI mm) (K_X9_seasons_28 post) k 0 0 x q := by
  refine pk_loop (fun k i z => L_X9_seasons_28 (nI (cnp c)) (nI (cnh c)) fe fk ff fn (nI mm) (K_X9_seasons_28 post) k (seaM c x m i).2.2 (nI i) (seaM c x m i).1 z) (fun i z => momM c (seaM c x m i).2.1 z) mm 0 q (Nat.zero_le _) hm ?_ ?_
  · intro k z h3
    exact ⟨fun _ => h2 _, fun z => absurd (nI_rf _) z⟩
  · intro k i z hi h3 ih
    refine ⟨fun z => absurd z (nI_ge hi (by omega)), fun _ => ?_⟩
    rw [lot_eq]
    refine m_season hc h3 (lot_lt _) (fun q' hq' => ?_)
    rw [nI_1, k14, k15, k16, m_sumC hc hq']
    exact ih q' hq'
end SEAS
