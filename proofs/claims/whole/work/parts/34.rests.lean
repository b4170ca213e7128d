/-! ===== the first of those of which something is so ===== -/
def foB (p : Nat → Bool) : Nat → Option Nat
  | 0 => none
  | k + 1 => match foB p k with
    | some b => some b
    | none => if p k then some k else none
theorem foB_none {p : Nat → Bool} : ∀ {n : Nat}, foB p n = none ↔ ctB p n = 0
  | 0 => by simp [foB, ctB]
  | n + 1 => by
    have ih := foB_none (p := p) (n := n)
    rw [foB, ctB]
    cases e : foB p n with
    | some b => rw [e] at ih; simp at ih; simp; omega
    | none => rw [e] at ih; have := ih.mp rfl; cases p n <;> simp [this]
theorem foB_stay {p : Nat → Bool} {n b : Nat} (h : foB p n = some b) : ∀ {k : Nat}, n ≤ k → foB p k = some b := by
  intro k hk
  induction k with
  | zero => have : n = 0 := by omega
            subst this; exact h
  | succ k ih =>
    by_cases e : n = k + 1
    · subst e; exact h
    · rw [foB, ih (by omega)]
theorem foB_found {p : Nat → Bool} {n : Nat} (h : foB p n = none) (hp : p n = true) : foB p (n + 1) = some n := by rw [foB, h, hp]; rfl
theorem foB_not {p : Nat → Bool} {n : Nat} (h : foB p n = none) (hp : p n = false) : foB p (n + 1) = none := by rw [foB, h, hp]; rfl
/-! ===== rests ===== -/
def TT (a b k : Nat) (h : Nat) : Bool := if h = a then tb k 1 else if h = b then tb k 0 else true
def gainM (c : Ca) (m : Mo) (h pl : Nat) (T : Nat → Bool) : Int32 := (if cnd c pl ≤ ldM c m pl T then (3 : Int32) else 0) - (if clM c m pl T h then (1 : Int32) else 0)
def resB (c : Ca) (m : Mo) (a b k : Nat) : Bool := !decide (gainM c m a (cfo c a) (TT a b k) < gainM c m a (cfo c a) (TT a b (k ^^^ 2))) && !decide (gainM c m b (cfo c a) (TT a b k) < gainM c m b (cfo c a) (TT a b (k ^^^ 1)))
def pairI (o : Option Nat) : Int32 := match o with
  | none => -9
  | some k => nI (10 * (k / 2) + k % 2)
def resA (c : Ca) (m : Mo) (a b : Nat) (what : Int32) : Int32 := if what = 0 then nI (ctB (resB c m a b) 4) else pairI (foB (resB c m a b) 4)
theorem gainM_congr {c : Ca} {m : Mo} {h pl : Nat} {T T' : Nat → Bool} (hT : ∀ i, i < cnh c → T i = T' i) (hh : h < cnh c) : gainM c m h pl T = gainM c m h pl T' := by
  rw [gainM, gainM, ldM_congr hT, clM, clM, clapB_congr hT hh]
theorem kb4 : ∀ k, k < 4 → (nI k >>> ((1 : Int32) &&& 31) = (if tb k 1 then (1 : Int32) else 0)) ∧ (nI k &&& 1 = (if tb k 0 then (1 : Int32) else 0)) ∧ (nI k / 2 = (if tb k 1 then (1 : Int32) else 0)) ∧ (nI k - nI k / 2 * 2 = (if tb k 0 then (1 : Int32) else 0)) := by decide +kernel
theorem kx4 : ∀ k, k < 4 → (tb (k ^^^ 2) 1 = !tb k 1) ∧ (tb (k ^^^ 2) 0 = tb k 0) ∧ (tb (k ^^^ 1) 1 = tb k 1) ∧ (tb (k ^^^ 1) 0 = !tb k 0) ∧ k ^^^ 2 < 4 ∧ k ^^^ 1 < 4 ∧ nI k ^^^ 2 = nI (k ^^^ 2) ∧ nI k ^^^ 1 = nI (k ^^^ 1) := by decide +kernel
theorem kp4 : ∀ k, k < 4 → ((10 : Int32) * (nI k >>> ((1 : Int32) &&& 31)) + (nI k &&& 1) = nI (10 * (k / 2) + k % 2)) ∧ ((10 : Int32) * (nI k / 2) + (nI k - nI k / 2 * 2) = nI (10 * (k / 2) + k % 2)) := by decide +kernel
theorem TT_a {a b k : Nat} (hk : k < 4) (hab : a ≠ b) (h : Nat) : TT a b (k ^^^ 2) h = (TT a b k h ^^ decide (h = a)) := by
  have e := kx4 k hk
  rw [TT, TT]
  by_cases h1 : h = a
  · rw [if_pos h1, if_pos h1, e.1, decide_eq_true h1]; simp
  · rw [if_neg h1, if_neg h1, e.2.1, decide_eq_false h1]; simp
theorem TT_b {a b k : Nat} (hk : k < 4) (hab : a ≠ b) (h : Nat) : TT a b (k ^^^ 1) h = (TT a b k h ^^ decide (h = b)) := by
  have e := kx4 k hk
  rw [TT, TT]
  by_cases h1 : h = a
  · rw [if_pos h1, if_pos h1, e.2.2.1, decide_eq_false (by omega)]; simp
  · rw [if_neg h1, if_neg h1]
    by_cases h2 : h = b
    · rw [if_pos h2, if_pos h2, e.2.2.2.1, decide_eq_true h2]; simp
    · rw [if_neg h2, if_neg h2, decide_eq_false h2]; simp
/-- the bits of a pair -/
theorem TT_bits {x : Int32} {a b k nh h : Nat} (hx : bt x h = true) (ha : a < 7) (hb : b < 7) (hab : a ≠ b) (hh : h < 7) : bt (((x &&& ((((1 : Int32) <<< (nI a &&& 31)) ||| ((1 : Int32) <<< (nI b &&& 31))) ^^^ (-1 : Int32))) ||| ((if tb k 1 then (1 : Int32) else 0) <<< (nI a &&& 31))) ||| ((if tb k 0 then (1 : Int32) else 0) <<< (nI b &&& 31))) h = TT a b k h := by
  rw [b_or, b_or, b_and, b_not _ (by omega), b_or, b_1s (by omega) (by omega), b_1s (by omega) (by omega), b_cs _ (by omega) (by omega), b_cs _ (by omega) (by omega), hx, TT]
  by_cases h1 : h = a
  · rw [if_pos h1, decide_eq_true h1, decide_eq_false (show ¬ h = b by omega)]; simp
  · rw [if_neg h1, decide_eq_false h1]
    by_cases h2 : h = b
    · rw [if_pos h2, decide_eq_true h2]; simp
    · rw [if_neg h2, decide_eq_false h2]; simp
section RESTS
variable {c : Ca} {m : Mo} {fn ff fe fk fs fv q : Nat → Int32}
theorem bit_h {P : Nat → Bool} {nh h : Nat} (hh : h < nh) (hn : nh ≤ 7) : (setI nh P >>> (nI h &&& 31)) &&& 1 = if P h then (1 : Int32) else 0 := by
  rw [b_get _ (by omega), b_setlt P hh (by omega)]
theorem x_gain (hc : okC c fn ff fe fk) (hs : relB (cnh c) fs (mS m) 9) (hv : relB (cnh c) fv (mV m) 9) {h : Nat} (hh : h < cnh c) (v : Int32) {post : Int32 → Prop} (hp : post (gainM c m h (cfo c h) (bt v))) : wp_X2_gain (nI (cnh c)) ff fk fv fs fn (nI h) v post := by
  have hnp := hc.1
  have hnh := hc.2.1
  have hF := hc.2.2.2.1 h hh
  have hFp := hc.2.2.2.2.2.2.1 h hh
  have hN := hc.2.2.1 (cfo c h) hFp
  unfold wp_X2_gain
  rw [nI_clamp (show h < 2 ^ 31 by omega), hF.1]
  refine ⟨vp_in_nI (by omega) (by omega), ?_⟩
  refine x_clapping hc hs hv hFp v ?_
  refine s_bitCountS hnh _ ⟨vp_in_nI (by omega) (by omega), ?_⟩
  have hL : ldM c m (cfo c h) (bt v) ≤ cnh c := ctB_le _ _
  rw [nI_clamp (show cfo c h < 2 ^ 31 by omega), hN.1, bit_h hh hnh]
  show (nI (ldM c m (cfo c h) (bt v)) < nI (cnd c (cfo c h)) → _) ∧ (¬ nI (ldM c m (cfo c h) (bt v)) < nI (cnd c (cfo c h)) → _)
  rw [nI_ltI (by omega) (by omega)]
  rw [gainM] at hp
  refine ⟨fun e => ?_, fun e => ?_⟩
  · rw [if_neg (by omega)] at hp; exact hp
  · rw [if_pos (by omega)] at hp; exact hp
theorem x_isRest (hc : okC c fn ff fe fk) (hs : relB (cnh c) fs (mS m) 9) (hv : relB (cnh c) fv (mV m) 9) {a b k : Nat} (ha : a < cnh c) (hb : b < cnh c) (hab : a ≠ b) (hfo : cfo c a = cfo c b) (hk : k < 4) {post : Int32 → Prop} (hf : resB c m a b k = false → post 0) (ht : resB c m a b k = true → post 1) : wp_X2_isRest (nI (cnh c)) ff fk fv fs fn (nI a) (nI b) (nI k) post := by
  have hnh := hc.2.1
  refine s_everyHand hnh ?_
  intro v ev
  rw [(kb4 k hk).1, (kb4 k hk).2.1] at ev
  have T0 : ∀ i, i < cnh c → bt v i = TT a b k i := fun i hi => by
    rw [ev]
    exact TT_bits (nh := cnh c) (every_T hnh i hi) (by omega) (by omega) hab (by omega)
  have Ta : ∀ i, i < cnh c → bt (v ^^^ ((1 : Int32) <<< (nI a &&& 31))) i = TT a b (k ^^^ 2) i := fun i hi => by
    rw [b_xor, T0 i hi, b_1s (by omega) (by omega), TT_a hk hab]
  have Tb : ∀ i, i < cnh c → bt (v ^^^ ((1 : Int32) <<< (nI b &&& 31))) i = TT a b (k ^^^ 1) i := fun i hi => by
    rw [b_xor, T0 i hi, b_1s (by omega) (by omega), TT_b hk hab]
  refine x_gain hc hs hv ha _ ?_
  refine x_gain hc hs hv ha _ ?_
  rw [gainM_congr T0 ha, gainM_congr Ta ha]
  refine ⟨fun e => hf (by rw [resB, decide_eq_true e]; rfl), fun e => ?_⟩
  refine x_gain hc hs hv hb _ ?_
  refine x_gain hc hs hv hb _ ?_
  rw [gainM_congr T0 hb, gainM_congr Tb hb, ← hfo]
  refine ⟨fun e2 => hf (by rw [resB, decide_eq_true e2]; simp), fun e2 => ht (by rw [resB, decide_eq_false e, decide_eq_false e2]; rfl)⟩
theorem x_countRests (hc : okC c fn ff fe fk) (hs : relB (cnh c) fs (mS m) 9) (hv : relB (cnh c) fv (mV m) 9) {a b : Nat} (ha : a < cnh c) (hb : b < cnh c) (hab : a ≠ b) (hfo : cfo c a = cfo c b) {post : Int32 → Prop} (hp : post (nI (ctB (resB c m a b) 4))) : wp_X2_countRests (nI (cnh c)) ff fk fv fs fn (nI a) (nI b) post := by
  refine lpD (fun r i s => L_X2_countRests_6 (nI (cnh c)) ff fk fv fs fn (nI a) (nI b) (K_X2_countRests_6 post) r s (nI i)) (fun i => nI (ctB (resB c m a b) i)) 0 4 (by omega) rfl ?_ ?_
  · intro r; exact ⟨fun _ => hp, fun w => absurd (nI_rf 4) w⟩
  · intro r i _ hi ih
    refine ⟨fun w => absurd w (nI_ge (b := 4) hi (by omega)), fun _ => ?_⟩
    rw [nI_1, nI_1]
    rw [ctB] at ih
    refine x_isRest hc hs hv ha hb hab hfo hi (fun e => z0 ?_) (fun e => z1 ?_)
    · rw [e] at ih; exact ih
    · rw [e] at ih; exact ih
theorem x_firstRest (hc : okC c fn ff fe fk) (hs : relB (cnh c) fs (mS m) 9) (hv : relB (cnh c) fv (mV m) 9) {a b : Nat} (ha : a < cnh c) (hb : b < cnh c) (hab : a ≠ b) (hfo : cfo c a = cfo c b) {post : Int32 → Prop} (hp : post (pairI (foB (resB c m a b) 4))) : wp_X2_firstRest (nI (cnh c)) ff fk fv fs fn (nI a) (nI b) post := by
  obtain ⟨r, hr⟩ := pk_loop (fun r i (_ : Unit) => L_X2_firstRest_3 (nI (cnh c)) ff fk fv fs fn (nI a) (nI b) post (K_X2_firstRest_3 post) r (nI i)) (fun i _ => foB (resB c m a b) i = none) 4 0 () (by omega) rfl
    (by
      intro r _ h3
      rw [h3] at hp
      exact ⟨fun _ => hp, fun w => absurd (nI_rf 4) w⟩)
    (by
      intro r i _ hi h3 ih
      refine ⟨fun w => absurd w (nI_ge (b := 4) hi (by omega)), fun _ => ?_⟩
      rw [nI_1, (kp4 i hi).1]
      refine x_isRest hc hs hv ha hb hab hfo hi (fun e => z0 ?_) (fun e => z1 ?_)
      · exact ih () (foB_not h3 e)
      · have := foB_stay (foB_found h3 e) (show i + 1 ≤ 4 by omega)
        rw [this] at hp
        exact hp)
  exact ⟨r, hr⟩
/-- the reference's row of gains -/
def gaF (c : Ca) (m : Mo) (a b : Nat) (j : Nat) : Int32 := if j % 2 = 0 then gainM c m a (cfo c a) (TT a b (j / 2)) else gainM c m b (cfo c a) (TT a b (j / 2))
theorem m_rests62 (hc : okC c fn ff fe fk) (hm : momM c m q) {a b : Nat} (ha : a < cnh c) (hb : b < cnh c) (hab : a ≠ b) {what : Int32} {g : Nat → Int32} {post : Int32 → Int32 → Int32 → Int32 → (Nat → Int32) → Prop} (h2 : ∀ x y g', post (resA c m a b what) 0 x y g') : ∃ k, L_X9_rests_62 (nI (cnh c)) ff fk q fn (nI a) (nI b) (K_X9_rests_62 what post) k 0 g := by
  have hnp := hc.1
  have hnh := hc.2.1
  have hF := hc.2.2.2.1 a ha
  have hFp := hc.2.2.2.2.2.2.1 a ha
  have hN := hc.2.2.1 (cfo c a) hFp
  refine lpD (fun r i s => L_X9_rests_62 (nI (cnh c)) ff fk q fn (nI a) (nI b) (K_X9_rests_62 what post) r (nI i) s) (fun i => fp g (gaF c m a b) 0 (2 * i)) 0 4 (by omega) (fp_0 _ _ _) ?_ ?_
  · intro r
    refine ⟨fun _ => ?_, fun w => absurd (nI_rf 4) w⟩
    obtain ⟨r2, hr2⟩ := lpD (fun r i (s : Int32 × Int32) => L_X9_rests_198 (fp g (gaF c m a b) 0 (2 * 4)) (K_X9_rests_198 what post (fp g (gaF c m a b) 0 (2 * 4))) r (nI i) s.1 s.2) (fun i => (nI (ctB (resB c m a b) i), pairI (foB (resB c m a b) i))) 0 4 (by omega) rfl
      (by
        intro r
        refine ⟨fun _ => ⟨fun e => ?_, fun e => ?_⟩, fun w => absurd (nI_rf 4) w⟩
        · have := h2 (nI (ctB (resB c m a b) 4)) (pairI (foB (resB c m a b) 4)) (fp g (gaF c m a b) 0 (2 * 4))
          rw [resA, if_neg e] at this
          exact this
        · have := h2 (nI (ctB (resB c m a b) 4)) (pairI (foB (resB c m a b) 4)) (fp g (gaF c m a b) 0 (2 * 4))
          rw [resA, if_pos e] at this
          exact this)
      (by
        intro r i _ hi ih
        have hx := kx4 i hi
        refine ⟨fun w => absurd w (nI_ge (b := 4) hi (by omega)), fun _ => ?_⟩
        rw [hx.2.2.2.2.2.2.1, hx.2.2.2.2.2.2.2]
        rw [show (2 : Int32) * nI (i ^^^ 2) = nI (2 * (i ^^^ 2)) from pk_mul 2 _, show (2 : Int32) * nI i = nI (2 * i) from pk_mul 2 _, show (2 : Int32) * nI (i ^^^ 1) = nI (2 * (i ^^^ 1)) from pk_mul 2 _, nI_1 (2 * i), nI_1 (2 * (i ^^^ 1)), nI_1 i]
        have h22 := hx.2.2.2.2.1
        have h11 := hx.2.2.2.2.2.1
        rw [nI_clamp (show 2 * i < 2 ^ 31 by omega), nI_clamp (show 2 * (i ^^^ 2) < 2 ^ 31 by omega), nI_clamp (show 2 * i + 1 < 2 ^ 31 by omega), nI_clamp (show 2 * (i ^^^ 1) + 1 < 2 ^ 31 by omega)]
        rw [fp_in0 (show 2 * i < 2 * 4 by omega), fp_in0 (show 2 * (i ^^^ 2) < 2 * 4 by omega), fp_in0 (show 2 * i + 1 < 2 * 4 by omega), fp_in0 (show 2 * (i ^^^ 1) + 1 < 2 * 4 by omega)]
        have g1 : ∀ j, gaF c m a b (2 * j) = gainM c m a (cfo c a) (TT a b j) := fun j => by rw [gaF, if_pos (by omega), show 2 * j / 2 = j by omega]
        have g2 : ∀ j, gaF c m a b (2 * j + 1) = gainM c m b (cfo c a) (TT a b j) := fun j => by rw [gaF, if_neg (by omega), show (2 * j + 1) / 2 = j by omega]
        rw [g1, g1, g2, g2, i_0]
        have ih : L_X9_rests_198 (fp g (gaF c m a b) 0 (2 * 4)) (K_X9_rests_198 what post (fp g (gaF c m a b) 0 (2 * 4))) r (nI (i + 1)) (nI (ctB (resB c m a b) (i + 1))) (pairI (foB (resB c m a b) (i + 1))) := ih
        have no : resB c m a b i = false → L_X9_rests_198 (fp g (gaF c m a b) 0 (2 * 4)) (K_X9_rests_198 what post (fp g (gaF c m a b) 0 (2 * 4))) r (nI (i + 1)) (nI (ctB (resB c m a b) i)) (pairI (foB (resB c m a b) i)) := fun e => by
          rw [ctB, e, foB, e] at ih
          cases z : foB (resB c m a b) i with
          | none => rw [z] at ih; exact ih
          | some y => rw [z] at ih; exact ih
        refine ⟨vp_in_nI (by omega) (by omega), vp_in_nI (by omega) (by omega), fun e => no (by rw [resB, decide_eq_true e]; rfl), fun e => ⟨vp_in_nI (by omega) (by omega), vp_in_nI (by omega) (by omega), fun e2 => no (by rw [resB, decide_eq_true e2]; simp), fun e2 => ?_⟩⟩
        have er : resB c m a b i = true := by rw [resB, decide_eq_false e, decide_eq_false e2]; rfl
        have hct : ctB (resB c m a b) i ≤ i := ctB_le _ _
        rw [nI_1, (kp4 i hi).2]
        rw [ctB, er, foB, er] at ih
        refine ⟨fun e3 => ?_, fun e3 => ?_⟩
        · cases z : foB (resB c m a b) i with
          | none => exact absurd (by show nI (ctB (resB c m a b) i) = 0; rw [foB_none.mp z]; rfl) e3
          | some y => rw [z] at ih; exact ih
        · have : ctB (resB c m a b) i = 0 := nI_inj (b := 0) (by omega) (by omega) e3
          rw [foB_none.mpr this] at ih
          exact ih)
    exact ⟨r2, hr2⟩
  · intro r i _ hi ih
    refine ⟨fun w => absurd w (nI_ge (b := 4) hi (by omega)), fun _ => ?_⟩
    intro v ev
    rw [(kb4 i hi).2.2.2, (kb4 i hi).2.2.1] at ev
    have T0 : ∀ j, j < cnh c → bt v j = TT a b i j := fun j hj => by
      rw [ev]
      exact TT_bits (nh := cnh c) (bt_127 j (by omega)) (by omega) (by omega) hab (by omega)
    rw [nI_clamp (show a < 2 ^ 31 by omega), hF.1, nI_clamp (show cfo c a < 2 ^ 31 by omega), hN.1, show (2 : Int32) * nI i = nI (2 * i) from pk_mul 2 _, nI_1 (2 * i), nI_1 i, nI_clamp (show 2 * i < 2 ^ 31 by omega), nI_clamp (show 2 * i + 1 < 2 ^ 31 by omega)]
    refine ⟨vp_in_nI (by omega) (by omega), ?_⟩
    refine m_clapsOf hc hm.1 hm.2.1 hFp v ?_
    refine s_many _ ⟨vp_in_nI (by omega) (by omega), vp_in_nI (by omega) (by omega), ?_⟩
    rw [ct_bt hnh, bit_h ha hnh, bit_h hb hnh]
    have hL : ldM c m (cfo c a) (bt v) ≤ cnh c := ctB_le _ _
    show (nI (ldM c m (cfo c a) (bt v)) < nI (cnd c (cfo c a)) → _) ∧ (¬ nI (ldM c m (cfo c a) (bt v)) < nI (cnd c (cfo c a)) → _)
    rw [nI_ltI (by omega) (by omega)]
    have step : ∀ x y : Int32, x = gaF c m a b (2 * i) → y = gaF c m a b (2 * i + 1) → L_X9_rests_62 (nI (cnh c)) ff fk q fn (nI a) (nI b) (K_X9_rests_62 what post) r (nI (i + 1)) (upd (upd (fp g (gaF c m a b) 0 (2 * i)) (2 * i) x) (2 * i + 1) y) := fun x y hx hy => by
      have e1 := fp_succ g (gaF c m a b) 0 (2 * i) hx
      have e2 := fp_succ g (gaF c m a b) 0 (2 * i + 1) hy
      rw [Nat.zero_add] at e1 e2
      rw [e1, e2]
      exact ih
    have g1 : gaF c m a b (2 * i) = gainM c m a (cfo c a) (bt v) := by rw [gaF, if_pos (by omega), show 2 * i / 2 = i by omega, gainM_congr T0 ha]
    have g2 : gaF c m a b (2 * i + 1) = gainM c m b (cfo c a) (bt v) := by rw [gaF, if_neg (by omega), show (2 * i + 1) / 2 = i by omega, gainM_congr T0 hb]
    refine ⟨fun e => ⟨vp_in_nI (by omega) (by omega), vp_in_nI (by omega) (by omega), step _ _ ?_ ?_⟩, fun e => ⟨vp_in_nI (by omega) (by omega), vp_in_nI (by omega) (by omega), step _ _ ?_ ?_⟩⟩
    · rw [g1, gainM, if_neg (show ¬ cnd c (cfo c a) ≤ ldM c m (cfo c a) (bt v) by omega)]
    · rw [g2, gainM, if_neg (show ¬ cnd c (cfo c a) ≤ ldM c m (cfo c a) (bt v) by omega)]
    · rw [g1, gainM, if_pos (show cnd c (cfo c a) ≤ ldM c m (cfo c a) (bt v) by omega)]
    · rw [g2, gainM, if_pos (show cnd c (cfo c a) ≤ ldM c m (cfo c a) (bt v) by omega)]
end RESTS
/-! ===== whose hand it was ===== -/
def alB (k : Nat) (v : Int32) (o : Bool) : Bool := if k = 0 then !decide (v < 3) else if k = 2 then !o && !decide (v < 1) else false
def hdB (T O C : Nat → Int32) (k f i : Nat) : Bool := alB k (nI f - T i) (decide (O i = 1)) == decide (C i = 1)
def fitB (n : Nat) (T O C : Nat → Int32) (k f : Nat) : Bool := !exB n (fun i => !hdB T O C k f i)
def fiI (n : Nat) (T O C : Nat → Int32) (j : Nat) : Bool := fitB n T O C (j / 9) (j % 9 + 1)
def whoI (o : Option Nat) : Int32 := match o with
  | none => -9
  | some j => nI (10 * (j / 9) + (j % 9 + 1))
def whA (n : Nat) (T O C : Nat → Int32) (what : Int32) : Int32 := if what = 0 then nI (ctB (fiI n T O C) 36) else whoI (foB (fiI n T O C) 36)
def heaR (n : Nat) (T O C ft fo fc : Nat → Int32) : Prop := n ≤ 6 ∧ ∀ i, i < n → ft i = T i ∧ fo i = O i ∧ fc i = C i ∧ (O i = 0 ∨ O i = 1)
section WHOSE
variable {n : Nat} {T O C ft fo fc : Nat → Int32}
theorem x_clapsAt {k : Nat} (hk : k < 4) (v : Int32) (o : Bool) {post : Int32 → Prop} (hp : post (if alB k v o then 1 else 0)) : wp_X3_clapsAt (nI k) v (if o then 1 else 0) post := by
  unfold wp_X3_clapsAt
  rw [show nI k = (0 : Int32) ↔ k = 0 from nI_eq (b := 0) (by omega) (by omega), show nI k = (2 : Int32) ↔ k = 2 from nI_eq (b := 2) (by omega) (by omega)]
  rw [alB] at hp
  refine ⟨fun n0 => ⟨fun n2 => ?_, fun e2 => ?_⟩, fun e0 => ⟨fun e => ?_, fun e => ?_⟩⟩
  · rw [if_neg n0, if_neg n2] at hp; exact hp
  · rw [if_neg n0, if_pos e2] at hp
    cases o
    · refine y0 ⟨fun e => ?_, fun e => ?_⟩
      · rw [decide_eq_true e] at hp; exact hp
      · rw [decide_eq_false e] at hp; exact hp
    · exact y1 hp
  · rw [if_pos e0, decide_eq_true e] at hp; exact hp
  · rw [if_pos e0, decide_eq_false e] at hp; exact hp
theorem m_clapsAlone {k : Nat} (hk : k < 4) (f t o : Int32) (ho : o = 0 ∨ o = 1) {post : Int32 → Prop} (hp : post (if alB k (f - t) (decide (o = 1)) then 1 else 0)) : wp_X9_clapsAlone (nI k) f t o post := by
  unfold wp_X9_clapsAlone
  rw [show nI k = (0 : Int32) ↔ k = 0 from nI_eq (b := 0) (by omega) (by omega), show nI k = (2 : Int32) ↔ k = 2 from nI_eq (b := 2) (by omega) (by omega)]
  rw [alB] at hp
  refine ⟨fun n0 => ⟨fun n2 => ?_, fun e2 => ?_⟩, fun e0 => ⟨fun e => ?_, fun e => ?_⟩⟩
  · rw [if_neg n0, if_neg n2] at hp; exact hp
  · rw [if_neg n0, if_pos e2] at hp
    rcases ho with rfl | rfl
    · refine y0 ⟨fun e => ?_, fun e => ?_⟩
      · rw [decide_eq_true e] at hp; exact hp
      · rw [decide_eq_false e] at hp; exact hp
    · exact y1 hp
  · rw [if_pos e0, decide_eq_true e] at hp; exact hp
  · rw [if_pos e0, decide_eq_false e] at hp; exact hp
/-- does what was heard agree -/
theorem agree {r : Bool} {y : Int32} {A B : Prop} (ht : (r == decide (y = 1)) = true → A) (hf : (r == decide (y = 1)) = false → B) : (¬ y = 1 → (((if r then (1 : Int32) else 0) = 0 → A) ∧ (¬ (if r then (1 : Int32) else 0) = 0 → B))) ∧ (y = 1 → (((if r then (1 : Int32) else 0) = 1 → A) ∧ (¬ (if r then (1 : Int32) else 0) = 1 → B))) := by
  refine ⟨fun e => ?_, fun e => ?_⟩
  · rw [decide_eq_false e] at ht hf
    cases r
    · exact ⟨fun _ => ht rfl, fun w => absurd rfl w⟩
    · exact ⟨fun w => absurd w (by decide), fun _ => hf rfl⟩
  · rw [decide_eq_true e] at ht hf
    cases r
    · exact ⟨fun w => absurd w (by decide), fun _ => hf rfl⟩
    · exact ⟨fun _ => ht rfl, fun w => absurd rfl w⟩
theorem x_fitsAll (hr : heaR n T O C ft fo fc) {k f : Nat} (hk : k < 4) {post : Int32 → Prop} (hf : fitB n T O C k f = false → post 0) (ht : fitB n T O C k f = true → post 1) : wp_X3_fitsAll (nI n) ft fo fc (nI k) (nI f) post := by
  obtain ⟨hn, hr⟩ := hr
  obtain ⟨r, hr2⟩ := pk_loop (fun r i (_ : Unit) => L_X3_fitsAll_2 (nI n) ft fo fc (nI k) (nI f) post (K_X3_fitsAll_2 post) r (nI i)) (fun i _ => exB i (fun i => !hdB T O C k f i) = false) n 0 () (Nat.zero_le _) rfl
    (by
      intro r _ h3
      exact ⟨fun _ => ht (by rw [fitB, h3]; rfl), fun w => absurd (nI_rf _) w⟩)
    (by
      intro r i _ hi h3 ih
      obtain ⟨e1, e2, e3, e4⟩ := hr i hi
      refine ⟨fun w => absurd w (nI_ge hi (by omega)), fun _ => ⟨vp_in_nI (by omega) (by omega), vp_in_nI (by omega) (by omega), ?_⟩⟩
      rw [nI_clamp (show i < 2 ^ 31 by omega), nI_1, e1, e2, e3]
      have gt : (alB k (nI f - T i) (decide (O i = 1)) == decide (C i = 1)) = true → L_X3_fitsAll_2 (nI n) ft fo fc (nI k) (nI f) post (K_X3_fitsAll_2 post) r (nI (i + 1)) := fun e => ih () (by
        rw [exB, h3, Bool.false_or, hdB, e]; rfl)
      have gf : (alB k (nI f - T i) (decide (O i = 1)) == decide (C i = 1)) = false → post 0 := fun e => hf (by
        rw [fitB, exB_iff.mpr ⟨i, hi, by rw [hdB, e]; rfl⟩]; rfl)
      refine ⟨fun eo => ?_, fun eo => ?_⟩
      · rw [decide_eq_false eo] at gt gf
        exact x_clapsAt (o := false) hk _ ⟨vp_in_nI (by omega) (by omega), agree gt gf⟩
      · rw [decide_eq_true eo] at gt gf
        exact x_clapsAt (o := true) hk _ ⟨vp_in_nI (by omega) (by omega), agree gt gf⟩)
  exact ⟨r, hr2⟩
theorem x_countFitting (hr : heaR n T O C ft fo fc) {post : Int32 → Prop} (hp : post (nI (ctB (fiI n T O C) 36))) : wp_X3_countFitting (nI n) ft fo fc post := by
  refine lpD (fun r k s => L_X3_countFitting_4 (nI n) ft fo fc (K_X3_countFitting_4 post) r s (nI k)) (fun k => nI (ctB (fiI n T O C) (9 * k))) 0 4 (by omega) rfl ?_ ?_
  · intro r; exact ⟨fun _ => hp, fun w => absurd (show (3 : Int32) < nI 4 from nI_lt (a := 3) (by omega) (by omega)) w⟩
  · intro r k _ hk ih
    refine ⟨fun w => absurd w (nI_nlt (a := 3) (by omega) (by omega)), fun _ => ?_⟩
    obtain ⟨r2, hr2⟩ := lpD (fun r2 f s => L_X3_countFitting_11 (nI n) ft fo fc (nI k) (K_X3_countFitting_11 (nI k) (L_X3_countFitting_4 (nI n) ft fo fc (K_X3_countFitting_4 post) r)) r2 s (nI f)) (fun f => nI (ctB (fiI n T O C) (9 * k + (f - 1)))) 1 10 (by omega) rfl
      (by
        intro r2
        refine ⟨fun _ => ?_, fun w => absurd (show (9 : Int32) < nI 10 from nI_lt (a := 9) (by omega) (by omega)) w⟩
        show L_X3_countFitting_4 (nI n) ft fo fc (K_X3_countFitting_4 post) r _ (nI k + 1)
        rw [nI_1]
        exact ih)
      (by
        intro r2 f hf1 hf ih2
        refine ⟨fun w => absurd w (nI_nlt (a := 9) (by omega) (by omega)), fun _ => ?_⟩
        rw [nI_1, nI_1]
        rw [show 9 * k + (f + 1 - 1) = (9 * k + (f - 1)) + 1 by omega, ctB] at ih2
        have e : fiI n T O C (9 * k + (f - 1)) = fitB n T O C k f := by rw [fiI, show (9 * k + (f - 1)) / 9 = k by omega, show (9 * k + (f - 1)) % 9 + 1 = f by omega]
        rw [e] at ih2
        refine x_fitsAll hr hk (fun z => z0 ?_) (fun z => z1 ?_)
        · rw [z] at ih2; exact ih2
        · rw [z] at ih2; exact ih2)
    exact ⟨r2, hr2⟩
theorem x_firstFitting (hr : heaR n T O C ft fo fc) {post : Int32 → Prop} (hp : post (whoI (foB (fiI n T O C) 36))) : wp_X3_firstFitting (nI n) ft fo fc post := by
  obtain ⟨r, hr0⟩ := pk_loop (fun r k (_ : Unit) => L_X3_firstFitting_2 (nI n) ft fo fc post (K_X3_firstFitting_2 post) r (nI k)) (fun k _ => foB (fiI n T O C) (9 * k) = none) 4 0 () (by omega) rfl
    (by
      intro r _ h3
      rw [h3] at hp
      exact ⟨fun _ => hp, fun w => absurd (show (3 : Int32) < nI 4 from nI_lt (a := 3) (by omega) (by omega)) w⟩)
    (by
      intro r k _ hk h3 ih
      refine ⟨fun w => absurd w (nI_nlt (a := 3) (by omega) (by omega)), fun _ => ?_⟩
      obtain ⟨r2, hr2⟩ := pk_loop (fun r2 f (_ : Unit) => L_X3_firstFitting_9 (nI n) ft fo fc post (nI k) (K_X3_firstFitting_9 (nI k) (L_X3_firstFitting_2 (nI n) ft fo fc post (K_X3_firstFitting_2 post) r)) r2 (nI f)) (fun f _ => 1 ≤ f ∧ foB (fiI n T O C) (9 * k + (f - 1)) = none) 10 1 () (by omega) ⟨Nat.le_refl 1, h3⟩
        (by
          rintro r2 _ ⟨_, h4⟩
          refine ⟨fun _ => ?_, fun w => absurd (show (9 : Int32) < nI 10 from nI_lt (a := 9) (by omega) (by omega)) w⟩
          show L_X3_firstFitting_2 (nI n) ft fo fc post (K_X3_firstFitting_2 post) r (nI k + 1)
          rw [nI_1]
          exact ih () h4)
        (by
          rintro r2 f _ hf ⟨hf1, h4⟩ ih2
          refine ⟨fun w => absurd w (nI_nlt (a := 9) (by omega) (by omega)), fun _ => ?_⟩
          rw [nI_1, show (10 : Int32) * nI k + nI f = nI (10 * k + f) by rw [show (10 : Int32) * nI k = nI (10 * k) from pk_mul 10 k, nI_add]]
          have e : fiI n T O C (9 * k + (f - 1)) = fitB n T O C k f := by rw [fiI, show (9 * k + (f - 1)) / 9 = k by omega, show (9 * k + (f - 1)) % 9 + 1 = f by omega]
          refine x_fitsAll hr hk (fun z => z0 ?_) (fun z => z1 ?_)
          · exact ih2 () ⟨by omega, by rw [show 9 * k + (f + 1 - 1) = (9 * k + (f - 1)) + 1 by omega]; exact foB_not h4 (by rw [e]; exact z)⟩
          · have := foB_stay (foB_found h4 (by rw [e]; exact z)) (show 9 * k + (f - 1) + 1 ≤ 36 by omega)
            rw [this] at hp
            have e2 : whoI (some (9 * k + (f - 1))) = nI (10 * k + f) := by
              show nI (10 * ((9 * k + (f - 1)) / 9) + ((9 * k + (f - 1)) % 9 + 1)) = _
              congr 1
              omega
            rw [e2] at hp
            exact hp)
      exact ⟨r2, hr2⟩)
  exact ⟨r, hr0⟩
theorem m_whose31 (hr : heaR n T O C ft fo fc) {what : Int32} {post : Int32 → Int32 → Int32 → Int32 → Prop} (h2 : ∀ x y, post (whA n T O C what) 0 x y) : ∃ k, L_X9_whose_31 (nI n) ft fo fc (K_X9_whose_31 what post) k 0 0 (-9) := by
  obtain ⟨hn, hr⟩ := hr
  obtain ⟨r, hr0⟩ := lpD (fun r k (s : Int32 × Int32) => L_X9_whose_31 (nI n) ft fo fc (K_X9_whose_31 what post) r (nI k) s.1 s.2) (fun k => (nI (ctB (fiI n T O C) (9 * k)), whoI (foB (fiI n T O C) (9 * k)))) 0 4 (by omega) rfl
    (by
      intro r
      refine ⟨fun _ => ⟨fun e => ?_, fun e => ?_⟩, fun w => absurd (nI_rf 4) w⟩
      · have := h2 (nI (ctB (fiI n T O C) 36)) (whoI (foB (fiI n T O C) 36))
        rw [whA, if_neg e] at this
        exact this
      · have := h2 (nI (ctB (fiI n T O C) 36)) (whoI (foB (fiI n T O C) 36))
        rw [whA, if_pos e] at this
        exact this)
    (by
      intro r k _ hk ih
      refine ⟨fun w => absurd w (nI_ge (b := 4) hk (by omega)), fun _ => ?_⟩
      obtain ⟨r2, hr2⟩ := lpD (fun r2 f (s : Int32 × Int32) => L_X9_whose_38 (nI n) ft fo fc (nI k) (K_X9_whose_38 (nI k) (L_X9_whose_31 (nI n) ft fo fc (K_X9_whose_31 what post) r)) r2 (nI f) s.1 s.2) (fun f => (nI (ctB (fiI n T O C) (9 * k + (f - 1))), whoI (foB (fiI n T O C) (9 * k + (f - 1))))) 1 10 (by omega) rfl
        (by
          intro r2
          refine ⟨fun _ => ?_, fun w => absurd (show (9 : Int32) < nI 10 from nI_lt (a := 9) (by omega) (by omega)) w⟩
          show L_X9_whose_31 (nI n) ft fo fc (K_X9_whose_31 what post) r (nI k + 1) _ _
          rw [nI_1]
          exact ih)
        (by
          intro r2 f hf1 hf ih2
          refine ⟨fun w => absurd w (nI_nlt (a := 9) (by omega) (by omega)), fun _ => ?_⟩
          have e : fiI n T O C (9 * k + (f - 1)) = fitB n T O C k f := by rw [fiI, show (9 * k + (f - 1)) / 9 = k by omega, show (9 * k + (f - 1)) % 9 + 1 = f by omega]
          have ih2 : L_X9_whose_38 (nI n) ft fo fc (nI k) (K_X9_whose_38 (nI k) (L_X9_whose_31 (nI n) ft fo fc (K_X9_whose_31 what post) r)) r2 (nI (f + 1)) (nI (ctB (fiI n T O C) (9 * k + (f + 1 - 1)))) (whoI (foB (fiI n T O C) (9 * k + (f + 1 - 1)))) := ih2
          rw [show 9 * k + (f + 1 - 1) = (9 * k + (f - 1)) + 1 by omega, ctB, foB, e] at ih2
          obtain ⟨r3, hr3⟩ := lpD (fun r3 i s => L_X9_whose_50 (nI n) ft fo fc (nI k) (nI f) (K_X9_whose_50 (nI k) (nI f) (nI (ctB (fiI n T O C) (9 * k + (f - 1)))) (whoI (foB (fiI n T O C) (9 * k + (f - 1)))) (L_X9_whose_38 (nI n) ft fo fc (nI k) (K_X9_whose_38 (nI k) (L_X9_whose_31 (nI n) ft fo fc (K_X9_whose_31 what post) r)) r2)) r3 s (nI i)) (fun i => if exB i (fun i => !hdB T O C k f i) then (0 : Int32) else 1) 0 n (Nat.zero_le _) rfl
            (by
              intro r3
              refine ⟨fun _ => ?_, fun w => absurd (nI_rf _) w⟩
              have hct : ctB (fiI n T O C) (9 * k + (f - 1)) ≤ 9 * k + (f - 1) := ctB_le _ _
              cases z : exB n (fun i => !hdB T O C k f i) with
              | true =>
                have ez : fitB n T O C k f = false := by rw [fitB, z]; rfl
                rw [ez] at ih2
                refine z0 (z0 ?_)
                rw [nI_1, i_0]
                cases w : foB (fiI n T O C) (9 * k + (f - 1)) with
                | none => rw [w] at ih2; exact ih2
                | some y => rw [w] at ih2; exact ih2
              | false =>
                have ez : fitB n T O C k f = true := by rw [fitB, z]; rfl
                rw [ez] at ih2
                refine z1 ⟨fun e3 => z1 ?_, fun e3 => z1 ?_⟩
                · rw [nI_1, nI_1]
                  cases w : foB (fiI n T O C) (9 * k + (f - 1)) with
                  | none => exact absurd (by rw [foB_none.mp w]; rfl) e3
                  | some y => rw [w] at ih2; exact ih2
                · have : ctB (fiI n T O C) (9 * k + (f - 1)) = 0 := nI_inj (b := 0) (by omega) (by omega) e3
                  rw [foB_none.mpr this] at ih2
                  rw [nI_1, nI_1, show (10 : Int32) * nI k + nI f = nI (10 * k + f) by rw [show (10 : Int32) * nI k = nI (10 * k) from pk_mul 10 k, nI_add]]
                  have e2 : whoI (some (9 * k + (f - 1))) = nI (10 * k + f) := by
                    show nI (10 * ((9 * k + (f - 1)) / 9) + ((9 * k + (f - 1)) % 9 + 1)) = _
                    congr 1
                    omega
                  rw [← e2]
                  exact ih2)
            (by
              intro r3 i _ hi ih3
              obtain ⟨e1, e2, e3, e4⟩ := hr i hi
              refine ⟨fun w => absurd w (nI_ge hi (by omega)), fun _ => ?_⟩
              rw [nI_1, nI_clamp (show i < 2 ^ 31 by omega), e1, e2, e3]
              rw [exB] at ih3
              cases z : exB i (fun i => !hdB T O C k f i) with
              | true => rw [z, Bool.true_or] at ih3; exact z0 ih3
              | false =>
                rw [z, Bool.false_or] at ih3
                refine z1 ⟨vp_in_nI (by omega) (by omega), vp_in_nI (by omega) (by omega), ?_⟩
                refine m_clapsAlone hk _ _ _ e4 ⟨vp_in_nI (by omega) (by omega), ?_⟩
                have gg := agree (r := alB k (nI f - T i) (decide (O i = 1))) (y := C i) (A := L_X9_whose_50 (nI n) ft fo fc (nI k) (nI f) (K_X9_whose_50 (nI k) (nI f) (nI (ctB (fiI n T O C) (9 * k + (f - 1)))) (whoI (foB (fiI n T O C) (9 * k + (f - 1)))) (L_X9_whose_38 (nI n) ft fo fc (nI k) (K_X9_whose_38 (nI k) (L_X9_whose_31 (nI n) ft fo fc (K_X9_whose_31 what post) r)) r2)) r3 1 (nI (i + 1))) (B := L_X9_whose_50 (nI n) ft fo fc (nI k) (nI f) (K_X9_whose_50 (nI k) (nI f) (nI (ctB (fiI n T O C) (9 * k + (f - 1)))) (whoI (foB (fiI n T O C) (9 * k + (f - 1)))) (L_X9_whose_38 (nI n) ft fo fc (nI k) (K_X9_whose_38 (nI k) (L_X9_whose_31 (nI n) ft fo fc (K_X9_whose_31 what post) r)) r2)) r3 0 (nI (i + 1))) (fun q => by rw [hdB, q] at ih3; exact ih3) (fun q => by rw [hdB, q] at ih3; exact ih3)
                exact ⟨fun y => ⟨(gg.1 y).2, (gg.1 y).1⟩, fun y => ⟨(gg.2 y).2, (gg.2 y).1⟩⟩)
          exact ⟨r3, hr3⟩)
      exact ⟨r2, hr2⟩)
  exact ⟨r, hr0⟩
end WHOSE
