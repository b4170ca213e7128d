/-! ===== told doings judged ===== -/
def dtB (c : Ca) (m : Mo) (w b : Nat) : Bool := if w = 1 then decide (b < cnp c) && !bt (mD m) b && comesM c m b else if w = 2 then decide (b < cnp c) else if w = 5 then decide (b < cnp c) && !bt (mD m) b else false
def dtS (c : Ca) (m : Mo) (w b : Nat) : Mo := if w = 1 then (if b < cnp c ∧ bt (mD m) b = false then goM c m b else m) else if w = 2 then (if b < cnp c then strewM c m b 1 else m) else m
def dsB (c : Ca) (m : Mo) (t : Nat) : Bool := if t = 400 then true else if t / 100 = 3 then decide (t / 10 % 10 < cnh c) && !takenM c m (t % 10) else if t / 100 = 6 then decide (t / 10 % 10 < cnp c) && decide (t % 10 ≤ ldM c m (t / 10 % 10) allT) else decide (t / 10 % 10 = 0) && dtB c m (t / 100) (t % 10)
def dsS (c : Ca) (m : Mo) (t : Nat) : Mo := if t = 400 then sleepM c m else if t / 100 = 3 then (if t / 10 % 10 < cnh c ∧ takenM c m (t % 10) = false then seatM m (t / 10 % 10) (t % 10) else m) else if t / 100 = 6 then m else if t / 10 % 10 = 0 then dtS c m (t / 100) (t % 10) else m
def judL (c : Ca) (ts : Nat → Nat) : Nat → Nat → Mo → Int32
  | 0, _, _ => -9
  | f + 1, k, m => if dsB c m (ts k) then judL c ts f (k + 1) (dsS c m (ts k)) else nI k
section JUDGE
variable {c : Ca} {m : Mo} {fn ff fe fk fs fv fc q : Nat → Int32} {d n : Int32}
theorem nI_inj {a b : Nat} (ha : a < 2 ^ 31) (hb : b < 2 ^ 31) (h : nI a = nI b) : a = b := (nI_eq ha hb).mp h
theorem m_doesTo (hc : okC c fn ff fe fk) (hm : momM c m q) {w b : Nat} (hw : w ≤ 9) (hb : b ≤ 9) {post : Int32 → (Nat → Int32) → Prop} (h2 : ∀ q', momM c (dtS c m w b) q' → post (if dtB c m w b then 1 else 0) q') : wp_X9_doesTo (nI (cnp c)) (nI (cnh c)) q fk ff fn (nI w) (nI b) post := by
  have hnp := hc.1
  have hD : q 17 = mD m := hm.2.2.2.2.2.1
  unfold wp_X9_doesTo
  refine m_noPlayer (by omega) (fun k hk ek => z0 ?_) (fun hno => z1 ?_)
  · have : b = k := nI_inj (by omega) (by omega) ek
    subst this
    rw [show nI w = (1 : Int32) ↔ w = 1 from nI_eq (b := 1) (by omega) (by omega), show nI w = (2 : Int32) ↔ w = 2 from nI_eq (b := 2) (by omega) (by omega), show nI w = (5 : Int32) ↔ w = 5 from nI_eq (b := 5) (by omega) (by omega), k17, hD]
    refine ⟨fun n1 => ⟨fun n2 => ⟨fun n5 => ?_, fun e5 => ?_⟩, fun e2 => ?_⟩, fun e1 => ?_⟩
    · rw [dtB, dtS, if_neg n1, if_neg n2, if_neg n5, if_neg n1, if_neg n2] at h2
      exact h2 q hm
    · rw [dtB, dtS, if_neg n1, if_neg n2, if_pos e5, if_neg n1, if_neg n2, decide_eq_true hk] at h2
      refine s_has (by omega) (fun z => y0 ?_) (fun z => y1 ?_)
      · rw [z] at h2; exact h2 q hm
      · rw [z] at h2; exact h2 q hm
    · rw [dtB, dtS, if_neg n1, if_pos e2, if_neg n1, if_pos e2, decide_eq_true hk, if_pos hk] at h2
      exact m_goFlowers hc hm (by omega) (fun q' hq' => h2 q' hq')
    · rw [dtB, dtS, if_pos e1, if_pos e1, decide_eq_true hk] at h2
      refine s_has (by omega) (fun z => y0 ?_) (fun z => y1 ?_)
      · rw [z, if_pos ⟨hk, rfl⟩] at h2
        refine m_goCall hc hm hk (fun q' hq' => ?_)
        have h3 := h2 q' hq'
        cases e : comesM c m b with
        | true => rw [e] at h3; exact z1 h3
        | false => rw [e] at h3; exact z0 h3
      · rw [z, if_neg (fun y => by cases y.2)] at h2
        exact h2 q hm
  · have hb2 : ¬ b < cnp c := fun hlt => hno b hlt rfl
    have eB : dtB c m w b = false := by
      unfold dtB
      rw [decide_eq_false hb2]
      by_cases w1 : w = 1
      · rw [if_pos w1]; rfl
      · rw [if_neg w1]
        by_cases w2 : w = 2
        · rw [if_pos w2]
        · rw [if_neg w2]
          by_cases w5 : w = 5
          · rw [if_pos w5]; rfl
          · rw [if_neg w5]
    have eS : dtS c m w b = m := by
      unfold dtS
      by_cases w1 : w = 1
      · rw [if_pos w1, if_neg (fun y => hb2 y.1)]
      · rw [if_neg w1]
        by_cases w2 : w = 2
        · rw [if_pos w2, if_neg hb2]
        · rw [if_neg w2]
    rw [eB, eS] at h2
    exact h2 q hm
theorem d100 {t : Nat} (ht : t < 1000) : nI t / (100 : Int32) = nI (t / 100) := pk_div (d := 100) (by omega) (by omega) (by omega)
theorem d10 {t : Nat} (ht : t < 1000) : nI t / (10 : Int32) = nI (t / 10) := pk_div (d := 10) (by omega) (by omega) (by omega)
theorem r10 {t : Nat} (ht : t < 1000) : nI t - nI t / (10 : Int32) * (10 : Int32) = nI (t % 10) := pk_rem (d := 10) (by omega) (by omega) (by omega)
theorem m_does (hc : okC c fn ff fe fk) (hm : momM c m q) {t : Nat} (ht : t < 1000) {post : Int32 → (Nat → Int32) → Prop} (h2 : ∀ q', momM c (dsS c m t) q' → post (if dsB c m t then 1 else 0) q') : wp_X9_does (nI (cnp c)) (nI (cnh c)) q fe fk ff fn (nI t) post := by
  have hnp := hc.1
  have hnh := hc.2.1
  unfold wp_X9_does
  rw [r10 ht, d100 ht, d10 ht, r10 (show t / 10 < 1000 by omega)]
  rw [show nI t = (400 : Int32) ↔ t = 400 from nI_eq (b := 400) (by omega) (by omega), show nI (t / 100) = (3 : Int32) ↔ t / 100 = 3 from nI_eq (b := 3) (by omega) (by omega), show nI (t / 100) = (6 : Int32) ↔ t / 100 = 6 from nI_eq (b := 6) (by omega) (by omega), show nI (t / 10 % 10) = (0 : Int32) ↔ t / 10 % 10 = 0 from nI_eq (b := 0) (by omega) (by omega)]
  refine ⟨fun n4 => ⟨fun n3 => ⟨fun n6 => ⟨fun na => ?_, fun ea => ?_⟩, fun e6 => ?_⟩, fun e3 => ?_⟩, fun e4 => ?_⟩
  · rw [dsB, dsS, if_neg n4, if_neg n3, if_neg n6, if_neg n4, if_neg n3, if_neg n6, if_neg na, decide_eq_false na] at h2
    exact h2 q hm
  · rw [dsB, dsS, if_neg n4, if_neg n3, if_neg n6, if_neg n4, if_neg n3, if_neg n6, if_pos ea, decide_eq_true ea, Bool.true_and] at h2
    refine m_doesTo hc hm (by omega) (by omega) (fun q' hq' => ?_)
    have h3 := h2 q' hq'
    cases e : dtB c m (t / 100) (t % 10) with
    | true => rw [e] at h3; exact z1 h3
    | false => rw [e] at h3; exact z0 h3
  · rw [dsB, dsS, if_neg n4, if_neg n3, if_pos e6, if_neg n4, if_neg n3, if_pos e6] at h2
    have h3 := h2 q hm
    refine m_noPlayer (by omega) (fun k hk ek => y0 ?_) (fun hno => y1 ?_)
    · have : t / 10 % 10 = k := nI_inj (by omega) (by omega) ek
      subst this
      refine m_loudOf hc hm.1 hm.2.1 hk _ ?_
      have hL : ldM c m (t / 10 % 10) allT ≤ cnh c := ctB_le _ _
      rw [ldM_congr (all_T hnh), nI_ltI (by omega) (by omega)]
      rw [decide_eq_true hk, Bool.true_and] at h3
      refine ⟨fun z => ?_, fun z => ?_⟩
      · rw [decide_eq_false (by omega)] at h3; exact h3
      · rw [decide_eq_true (by omega)] at h3; exact h3
    · rw [decide_eq_false (fun hlt => hno _ hlt rfl)] at h3
      exact h3
  · rw [dsB, dsS, if_neg n4, if_pos e3, if_neg n4, if_pos e3] at h2
    refine m_noHand (by omega) (fun k hk ek => y0 ?_) (fun hno => y1 ?_)
    · have : t / 10 % 10 = k := nI_inj (by omega) (by omega) ek
      subst this
      rw [decide_eq_true hk, Bool.true_and] at h2
      refine m_isFree hnh hm.1 (by omega) (fun z => z1 ?_) (fun z => z0 ?_)
      · rw [z, if_pos ⟨hk, rfl⟩] at h2
        refine ⟨vp_in_nI (by omega) (by omega), ?_⟩
        rw [nI_clamp (show t / 10 % 10 < 2 ^ 31 by omega)]
        exact h2 _ (seat_momM hnh hm hk (by omega))
      · rw [z, if_neg (fun y => by cases y.2)] at h2
        exact h2 q hm
    · have hb2 : ¬ t / 10 % 10 < cnh c := fun hlt => hno _ hlt rfl
      rw [decide_eq_false hb2, if_neg (fun y => hb2 y.1)] at h2
      exact h2 q hm
  · rw [dsB, dsS, if_pos e4, if_pos e4] at h2
    exact m_goNight hc hm (fun q' hq' => h2 q' hq')
theorem x_isSeat {s : Nat} (hs : s ≤ 9) {post : Int32 → Prop} (h : post 1) : wp_X8_isSeat (nI s) post := ⟨fun z => absurd z (nI_pos (by omega)), fun _ => ⟨fun z => absurd z (nI_ge (b := 10) (by omega) (by omega)), fun _ => h⟩⟩
theorem x_isSo (hc : okC c fn ff fe fk) (hm : momX c m fs fv fc d n) {t : Nat} (ht : t < 1000) {post : Int32 → Int32 → Int32 → (Nat → Int32) → (Nat → Int32) → (Nat → Int32) → Prop} (h0 : dsB c m t = false → ∀ d' n' fv' fs' fc', post 0 d' n' fv' fs' fc') (h1 : dsB c m t = true → ∀ d' n' fv' fs' fc', momX c (dsS c m t) fs' fv' fc' d' n' → post 1 d' n' fv' fs' fc') : wp_X5_isSo (nI (cnp c)) (nI (cnh c)) d n fk fv fs ff fe fn fc (nI (t / 100)) (nI (t / 10 % 10)) (nI (t % 10)) post := by
  have hnp := hc.1
  have hnh := hc.2.1
  have hD : d = mD m := hm.2.2.2.1
  unfold wp_X5_isSo
  rw [show nI (t / 100) = (1 : Int32) ↔ t / 100 = 1 from nI_eq (b := 1) (by omega) (by omega), show nI (t / 100) = (2 : Int32) ↔ t / 100 = 2 from nI_eq (b := 2) (by omega) (by omega), show nI (t / 100) = (3 : Int32) ↔ t / 100 = 3 from nI_eq (b := 3) (by omega) (by omega), show nI (t / 100) = (4 : Int32) ↔ t / 100 = 4 from nI_eq (b := 4) (by omega) (by omega), show nI (t / 100) = (5 : Int32) ↔ t / 100 = 5 from nI_eq (b := 5) (by omega) (by omega), show nI (t / 100) = (6 : Int32) ↔ t / 100 = 6 from nI_eq (b := 6) (by omega) (by omega), show nI (t / 10 % 10) = (0 : Int32) ↔ t / 10 % 10 = 0 from nI_eq (b := 0) (by omega) (by omega), show nI (t % 10) = (0 : Int32) ↔ t % 10 = 0 from nI_eq (b := 0) (by omega) (by omega)]
  refine ⟨fun e1 => ?_, fun n1 => ⟨fun e2 => ?_, fun n2 => ⟨fun e3 => ?_, fun n3 => ⟨fun e4 => ?_, fun n4 => ⟨fun e5 => ?_, fun n5 => ⟨fun e6 => ?_, fun n6 => ?_⟩⟩⟩⟩⟩⟩
  · have eB : dsB c m t = (decide (t / 10 % 10 = 0) && (decide (t % 10 < cnp c) && !bt (mD m) (t % 10) && comesM c m (t % 10))) := by rw [dsB, if_neg (by omega), if_neg (by omega), if_neg (by omega), dtB, if_pos e1]
    refine ⟨fun na => h0 (by rw [eB, decide_eq_false na]; rfl) _ _ _ _ _, fun ea => ?_⟩
    rw [decide_eq_true ea, Bool.true_and] at eB
    refine x_hasPlayer (by omega) (fun k hk ek => z1 ?_) (fun hno => z0 (h0 (by rw [eB, decide_eq_false (fun hlt => hno _ hlt rfl)]; rfl) _ _ _ _ _))
    have : t % 10 = k := nI_inj (by omega) (by omega) ek
    subst this
    rw [decide_eq_true hk, Bool.true_and] at eB
    refine x_bringOut hc hm hk (fun z => z0 (h0 (by rw [eB, ← hD, z]; rfl) _ _ _ _ _)) (fun z d' v' c' hm' => ?_)
    rw [← hD, z] at eB
    cases e : comesM c m (t % 10) with
    | false => exact z0 (h0 (by rw [eB, e]; rfl) _ _ _ _ _)
    | true =>
      refine z1 (h1 (by rw [eB, e]; rfl) _ _ _ _ _ ?_)
      rw [dsS, if_neg (by omega), if_neg (by omega), if_neg (by omega), if_pos ea, dtS, if_pos e1, if_pos ⟨hk, by rw [← hD]; exact z⟩]
      exact hm'
  · have eB : dsB c m t = (decide (t / 10 % 10 = 0) && decide (t % 10 < cnp c)) := by rw [dsB, if_neg (by omega), if_neg (by omega), if_neg (by omega), dtB, if_neg n1, if_pos e2]
    refine ⟨fun na => h0 (by rw [eB, decide_eq_false na]; rfl) _ _ _ _ _, fun ea => ?_⟩
    rw [decide_eq_true ea, Bool.true_and] at eB
    refine x_hasPlayer (by omega) (fun k hk ek => z1 ?_) (fun hno => z0 (h0 (by rw [eB, decide_eq_false (fun hlt => hno _ hlt rfl)]) _ _ _ _ _))
    have : t % 10 = k := nI_inj (by omega) (by omega) ek
    subst this
    refine x_strew (k := 1) hc hm (by omega) (by omega) (fun v' hm' => z1 (h1 (by rw [eB, decide_eq_true hk]) _ _ _ _ _ ?_))
    rw [dsS, if_neg (by omega), if_neg (by omega), if_neg (by omega), if_pos ea, dtS, if_neg n1, if_pos e2, if_pos hk]
    exact hm'
  · have eB : dsB c m t = (decide (t / 10 % 10 < cnh c) && !takenM c m (t % 10)) := by rw [dsB, if_neg (by omega), if_pos e3]
    refine x_hasHand (by omega) (fun k hk ek => z1 ?_) (fun hno => z0 (h0 (by rw [eB, decide_eq_false (fun hlt => hno _ hlt rfl)]; rfl) _ _ _ _ _))
    have : t / 10 % 10 = k := nI_inj (by omega) (by omega) ek
    subst this
    rw [decide_eq_true hk, Bool.true_and] at eB
    refine x_isSeat (by omega) (z1 ?_)
    refine x_isTaken hnh hm.1 (by omega) (fun z => z0 ⟨vp_in_nI (by omega) (by omega), z1 (h1 (by rw [eB, z]; rfl) _ _ _ _ _ ?_)⟩) (fun z => z1 (z0 (h0 (by rw [eB, z]; rfl) _ _ _ _ _)))
    rw [dsS, if_neg (by omega), if_pos e3, if_pos ⟨hk, z⟩, nI_clamp (show t / 10 % 10 < 2 ^ 31 by omega)]
    exact seat_momX hm (by omega)
  · by_cases e400 : t = 400
    · refine ⟨fun na => absurd (by omega) na, fun ea => ⟨fun nb => absurd (by omega) nb, fun eb => ?_⟩⟩
      refine x_sleep hc hm (fun n' v' hm' => z1 (h1 (by rw [dsB, if_pos e400]) _ _ _ _ _ ?_))
      rw [dsS, if_pos e400]
      exact hm'
    · have eB : dsB c m t = false := by rw [dsB, if_neg e400, if_neg (by omega), if_neg (by omega), dtB, if_neg (by omega), if_neg (by omega), if_neg (by omega), Bool.and_false]
      exact ⟨fun na => h0 eB _ _ _ _ _, fun ea => ⟨fun nb => h0 eB _ _ _ _ _, fun eb => absurd (by omega) e400⟩⟩
  · have eB : dsB c m t = (decide (t / 10 % 10 = 0) && (decide (t % 10 < cnp c) && !bt (mD m) (t % 10))) := by rw [dsB, if_neg (by omega), if_neg (by omega), if_neg (by omega), dtB, if_neg n1, if_neg n2, if_pos e5]
    refine ⟨fun na => h0 (by rw [eB, decide_eq_false na]; rfl) _ _ _ _ _, fun ea => ?_⟩
    rw [decide_eq_true ea, Bool.true_and] at eB
    refine x_hasPlayer (by omega) (fun k hk ek => z1 ?_) (fun hno => z0 (h0 (by rw [eB, decide_eq_false (fun hlt => hno _ hlt rfl)]; rfl) _ _ _ _ _))
    have : t % 10 = k := nI_inj (by omega) (by omega) ek
    subst this
    rw [decide_eq_true hk, Bool.true_and, ← hD] at eB
    refine x_isDead (by omega) (fun z => y0 (h1 (by rw [eB, z]; rfl) _ _ _ _ _ ?_)) (fun z => y1 (h0 (by rw [eB, z]; rfl) _ _ _ _ _))
    rw [dsS, if_neg (by omega), if_neg (by omega), if_neg (by omega), if_pos ea, dtS, if_neg n1, if_neg n2]
    exact hm
  · have eB : dsB c m t = (decide (t / 10 % 10 < cnp c) && decide (t % 10 ≤ ldM c m (t / 10 % 10) allT)) := by rw [dsB, if_neg (by omega), if_neg (by omega), if_pos e6]
    refine x_hasPlayer (by omega) (fun k hk ek => z1 ?_) (fun hno => z0 (h0 (by rw [eB, decide_eq_false (fun hlt => hno _ hlt rfl)]; rfl) _ _ _ _ _))
    have : t / 10 % 10 = k := nI_inj (by omega) (by omega) ek
    subst this
    rw [decide_eq_true hk, Bool.true_and] at eB
    refine s_everyHand hnh ?_
    refine x_loud hc hm.1 hm.2.1 hk _ ?_
    have hL : ldM c m (t / 10 % 10) allT ≤ cnh c := ctB_le _ _
    rw [ldM_congr (every_T hnh), nI_ltI (by omega) (by omega)]
    refine ⟨fun z => h0 (by rw [eB, decide_eq_false (by omega)]) _ _ _ _ _, fun z => h1 (by rw [eB, decide_eq_true (by omega)]) _ _ _ _ _ ?_⟩
    rw [dsS, if_neg (by omega), if_neg (by omega), if_pos e6]
    exact hm
  · refine h0 ?_ _ _ _ _ _
    rw [dsB, if_neg (by omega), if_neg n3, if_neg n6, dtB, if_neg n1, if_neg n2, if_neg n5, Bool.and_false]
/-! the row's figures -/
def rowT (R nn k : Nat) : Nat := R / 1000 ^ (nn - 1 - k) % 1000
theorem p1000 : ∀ j, j < 5 → 1 ≤ 1000 ^ j ∧ 1000 ^ j ≤ 1000000000000 := by decide +kernel
theorem m_longPower {j : Nat} (hj : j ≤ 4) {post : Int64 → Prop} (h : post (lN (1000 ^ j))) : wp_X9_longPower 1000 (nI j) post := by
  refine lpD (fun r i s => L_X9_longPower_5 1000 (nI j) (K_X9_longPower_5 post) r s (nI i)) (fun i => lN (1000 ^ i)) 0 j (Nat.zero_le _) rfl ?_ ?_
  · intro r; exact ⟨fun _ => h, fun z => absurd (nI_rf _) z⟩
  · intro r i _ hi ih
    refine ⟨fun z => absurd z (nI_ge hi (by omega)), fun _ => ?_⟩
    rw [nI_1, show lN (1000 ^ i) * 1000 = lN (1000 ^ (i + 1)) from lN_mul (1000 ^ i) 1000]
    exact ih
theorem fig {R U : Nat} (hR : R < 2 ^ 62) (hU : 1 ≤ U) (hU2 : U < 2 ^ 62) : ((lN R / lN U) - (lN R / lN U) / (1000 : Int64) * (1000 : Int64)).toInt32 = nI (R / U % 1000) := by
  rw [pk_lDiv (by omega) (by omega) (by omega)]
  have hq : R / U < 2 ^ 63 := Nat.lt_of_le_of_lt (Nat.div_le_self R U) (by omega)
  rw [show lN (R / U) - lN (R / U) / (1000 : Int64) * (1000 : Int64) = lN (R / U % 1000) from pk_lRem (b := 1000) hq (by omega) (by omega)]
  exact lN_i _
theorem x_firstNotSo (hc : okC c fn ff fe fk) (hm : momX c m fs fv fc d n) {R nn : Nat} (hn1 : 1 ≤ nn) (hn4 : nn ≤ 4) (hR : R < 1000000000000) {gs gv gc : Nat → Int32} {post : Int32 → Int32 → Int32 → (Nat → Int32) → (Nat → Int32) → (Nat → Int32) → Prop} (h2 : ∀ d' n' fs' fv' fc', post (judL c (rowT R nn) nn 0 m) d' n' fs' fv' fc') : wp_X5_firstNotSo d n fs gs fv gv fc gc (nI (cnp c)) (nI (cnh c)) fk ff fe fn (nI nn) (lN (1000 ^ (nn - 1))) (lN R) post := by
  refine x_copyFrom hc hm ?_
  intro d' n' fs' fv' fc' hm'
  obtain ⟨k, hk⟩ := pk_loop (fun k i (z : Int32 × Int32 × (Nat → Int32) × (Nat → Int32) × (Nat → Int32)) => L_X5_firstNotSo_14 (nI (cnp c)) (nI (cnh c)) fk ff fe fn (nI nn) (lN R) post (K_X5_firstNotSo_14 post) k (lN (if i < nn then 1000 ^ (nn - 1 - i) else 0)) (nI i) z.1 z.2.1 z.2.2.1 z.2.2.2.1 z.2.2.2.2) (fun i z => ∃ mi, momX c mi z.2.2.1 z.2.2.2.1 z.2.2.2.2 z.1 z.2.1 ∧ judL c (rowT R nn) nn 0 m = judL c (rowT R nn) (nn - i) i mi) nn 0 (d', n', fs', fv', fc') (Nat.zero_le _) ⟨m, hm', rfl⟩
    (by
      rintro k ⟨w1, w2, w3, w4, w5⟩ ⟨mi, h3, h4⟩
      refine ⟨fun _ => ?_, fun z => absurd (nI_rf _) z⟩
      rw [Nat.sub_self] at h4
      have := h2 w1 w2 w3 w4 w5
      rw [h4] at this
      exact this)
    (by
      rintro k i ⟨w1, w2, w3, w4, w5⟩ hi ⟨mi, h3, h4⟩ ih
      have hU := p1000 (nn - 1 - i) (by omega)
      refine ⟨fun z => absurd z (nI_ge hi (by omega)), fun _ => ?_⟩
      rw [if_pos hi]
      have hpos : ¬ lN (1000 ^ (nn - 1 - i)) ≤ 0 := fun z => by
        have := (pk_lLE (a := 1000 ^ (nn - 1 - i)) (b := 0) (by omega) (by omega)).mp z
        omega
      refine ⟨fun z => absurd ((lg_cmp_le _ _).mp z) hpos, fun _ => ⟨fun z => hpos (by rw [z]; exact Int64.le_refl _), ?_⟩⟩
      have hT : rowT R nn i < 1000 := Nat.mod_lt _ (by omega)
      rw [fig (by omega) hU.1 (by omega)]
      show wp_X5_isSo (nI (cnp c)) (nI (cnh c)) w1 w2 fk w4 w3 ff fe fn w5 (nI (rowT R nn i) / 100) (nI (rowT R nn i) / 10 - nI (rowT R nn i) / 10 / 10 * 10) (nI (rowT R nn i) - nI (rowT R nn i) / 10 * 10) _
      rw [r10 hT, d100 hT, d10 hT, r10 (show rowT R nn i / 10 < 1000 by omega)]
      rw [show nn - i = (nn - (i + 1)) + 1 by omega, judL] at h4
      refine x_isSo hc h3 hT (fun e d2 n2 v2 s2 c2 => y0 ?_) (fun e d2 n2 v2 s2 c2 hm2 => y1 ?_)
      · rw [e] at h4
        have := h2 d2 n2 s2 v2 c2
        rw [h4] at this
        exact this
      · rw [e] at h4
        have e3 : lN (1000 ^ (nn - 1 - i)) / 1000 = lN (if i + 1 < nn then 1000 ^ (nn - 1 - (i + 1)) else 0) := by
          rw [show lN (1000 ^ (nn - 1 - i)) / 1000 = lN (1000 ^ (nn - 1 - i) / 1000) from pk_lDiv (b := 1000) (by omega) (by omega) (by omega)]
          congr 1
          by_cases w : i + 1 < nn
          · rw [if_pos w, show nn - 1 - i = (nn - 1 - (i + 1)) + 1 by omega, Nat.pow_succ, Nat.mul_div_cancel _ (by omega)]
          · rw [if_neg w, show nn - 1 - i = 0 by omega]
        rw [e3, nI_1]
        exact ih (d2, n2, s2, v2, c2) ⟨_, hm2, h4⟩)
  rw [if_pos (by omega)] at hk
  exact ⟨k, hk⟩
theorem m_judge44 (hc : okC c fn ff fe fk) (hm : momM c m q) {R nn : Nat} (hn1 : 1 ≤ nn) (hn4 : nn ≤ 4) (hR : R < 1000000000000) {post : Int32 → Int32 → (Nat → Int32) → Prop} (h2 : ∀ g', post (judL c (rowT R nn) nn 0 m) 0 g') : ∃ k, L_X9_judge_44 (nI (cnp c)) (nI (cnh c)) fe fk ff fn (nI nn) (lN R) post (K_X9_judge_44 post) k 0 q := by
  refine pk_loop (fun k i z => L_X9_judge_44 (nI (cnp c)) (nI (cnh c)) fe fk ff fn (nI nn) (lN R) post (K_X9_judge_44 post) k (nI i) z) (fun i z => ∃ mi, momM c mi z ∧ judL c (rowT R nn) nn 0 m = judL c (rowT R nn) (nn - i) i mi) nn 0 q (Nat.zero_le _) ⟨m, hm, rfl⟩ ?_ ?_
  · rintro k z ⟨mi, h3, h4⟩
    refine ⟨fun _ => ?_, fun z => absurd (nI_rf _) z⟩
    rw [Nat.sub_self] at h4
    have := h2 z
    rw [h4] at this
    exact this
  · rintro k i z hi ⟨mi, h3, h4⟩ ih
    have hU := p1000 (nn - 1 - i) (by omega)
    refine ⟨fun z => absurd z (nI_ge hi (by omega)), fun _ => ?_⟩
    rw [show nI nn - 1 - nI i = nI (nn - 1 - i) by rw [show nI nn - 1 = nI (nn - 1) from pk_sub (b := 1) hn1, pk_sub (by omega)]]
    refine m_longPower (by omega) ⟨fun z => ?_, ?_⟩
    · have := (pk_lEQ (a := 1000 ^ (nn - 1 - i)) (b := 0) (by omega) (by omega)).mp z
      omega
    · rw [fig (by omega) hU.1 (by omega)]
      have hT : rowT R nn i < 1000 := Nat.mod_lt _ (by omega)
      rw [show nn - i = (nn - (i + 1)) + 1 by omega, judL] at h4
      refine m_does hc h3 (t := rowT R nn i) hT (fun q' hq' => ?_)
      cases e : dsB c mi (rowT R nn i) with
      | true =>
        rw [e] at h4
        refine y1 ?_
        rw [nI_1]
        exact ih q' ⟨_, hq', h4⟩
      | false =>
        rw [e] at h4
        refine y0 ?_
        have := h2 q'
        rw [h4] at this
        exact this
end JUDGE
